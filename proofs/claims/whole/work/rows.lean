section
-- ===== PART A: goes FIRST, ahead of the names: the tables' words, and 'selects' of the private methods out of them =====
/-- a private method of a class that the tables say can be made, by its rows of tables_1 -/
def lw_okq (q : MethodName × Nat) : Prop := (q.1.cls ≠ "java/lang/invoke/MethodHandle" ∧ q.1.cls ≠ "java/lang/invoke/VarHandle") ∧ Cond.instantiable q.1.cls q.2 ∈ tables_1 ∧ Cond.privateMethod q.1 ∈ tables_1 ∧ Cond.instanceMethod q.1 ∈ tables_1
theorem lw_p0 : lw_okq (⟨"TaskKernel", "isTask", "(I)Z"⟩, 10) := ⟨⟨by decide +kernel, by decide +kernel⟩, List.mem_of_getElem? (i := 16) (by decide +kernel), List.mem_of_getElem? (i := 87) (by decide +kernel), List.mem_of_getElem? (i := 88) (by decide +kernel)⟩
theorem lw_p1 : lw_okq (⟨"TaskKernel", "beginJob", "(LTaskKernel$Task;)V"⟩, 10) := ⟨⟨by decide +kernel, by decide +kernel⟩, List.mem_of_getElem? (i := 16) (by decide +kernel), List.mem_of_getElem? (i := 98) (by decide +kernel), List.mem_of_getElem? (i := 99) (by decide +kernel)⟩
theorem lw_p2 : lw_okq (⟨"TaskKernel", "note", "(ILTaskKernel$Task;)V"⟩, 10) := ⟨⟨by decide +kernel, by decide +kernel⟩, List.mem_of_getElem? (i := 16) (by decide +kernel), List.mem_of_getElem? (i := 102) (by decide +kernel), List.mem_of_getElem? (i := 103) (by decide +kernel)⟩
theorem lw_p3 : lw_okq (⟨"TaskKernel", "nextChange", "()I"⟩, 10) := ⟨⟨by decide +kernel, by decide +kernel⟩, List.mem_of_getElem? (i := 16) (by decide +kernel), List.mem_of_getElem? (i := 110) (by decide +kernel), List.mem_of_getElem? (i := 111) (by decide +kernel)⟩
theorem lw_p4 : lw_okq (⟨"TaskKernel", "urgencyOf", "(LTaskKernel$Task;)I"⟩, 10) := ⟨⟨by decide +kernel, by decide +kernel⟩, List.mem_of_getElem? (i := 16) (by decide +kernel), List.mem_of_getElem? (i := 122) (by decide +kernel), List.mem_of_getElem? (i := 123) (by decide +kernel)⟩
theorem lw_p5 : lw_okq (⟨"TaskKernel", "rankTasks", "()V"⟩, 10) := ⟨⟨by decide +kernel, by decide +kernel⟩, List.mem_of_getElem? (i := 16) (by decide +kernel), List.mem_of_getElem? (i := 126) (by decide +kernel), List.mem_of_getElem? (i := 127) (by decide +kernel)⟩
theorem lw_p6 : lw_okq (⟨"TaskKernel", "liftToCeilings", "()V"⟩, 10) := ⟨⟨by decide +kernel, by decide +kernel⟩, List.mem_of_getElem? (i := 16) (by decide +kernel), List.mem_of_getElem? (i := 130) (by decide +kernel), List.mem_of_getElem? (i := 131) (by decide +kernel)⟩
theorem lw_p7 : lw_okq (⟨"TaskKernel", "lendOnce", "()Z"⟩, 10) := ⟨⟨by decide +kernel, by decide +kernel⟩, List.mem_of_getElem? (i := 16) (by decide +kernel), List.mem_of_getElem? (i := 134) (by decide +kernel), List.mem_of_getElem? (i := 135) (by decide +kernel)⟩
theorem lw_p8 : lw_okq (⟨"TaskKernel", "isMutex", "(I)Z"⟩, 10) := ⟨⟨by decide +kernel, by decide +kernel⟩, List.mem_of_getElem? (i := 16) (by decide +kernel), List.mem_of_getElem? (i := 142) (by decide +kernel), List.mem_of_getElem? (i := 143) (by decide +kernel)⟩
theorem lw_p9 : lw_okq (⟨"TaskKernel", "countBlockedAt", "(LTaskKernel$Mutex;)I"⟩, 10) := ⟨⟨by decide +kernel, by decide +kernel⟩, List.mem_of_getElem? (i := 16) (by decide +kernel), List.mem_of_getElem? (i := 146) (by decide +kernel), List.mem_of_getElem? (i := 147) (by decide +kernel)⟩
theorem lw_p10 : lw_okq (⟨"TaskKernel", "ceilOf", "(I)I"⟩, 10) := ⟨⟨by decide +kernel, by decide +kernel⟩, List.mem_of_getElem? (i := 16) (by decide +kernel), List.mem_of_getElem? (i := 150) (by decide +kernel), List.mem_of_getElem? (i := 151) (by decide +kernel)⟩
theorem lw_p11 : lw_okq (⟨"java/lang/Throwable", "fillInStackTrace", "(I)Ljava/lang/Throwable;"⟩, 6) := ⟨⟨by decide +kernel, by decide +kernel⟩, List.mem_of_getElem? (i := 233) (by decide +kernel), List.mem_of_getElem? (i := 231) (by decide +kernel), List.mem_of_getElem? (i := 232) (by decide +kernel)⟩
theorem lw_p12 : lw_okq (⟨"TaskKernel", "isStep", "(II)Z"⟩, 10) := ⟨⟨by decide +kernel, by decide +kernel⟩, List.mem_of_getElem? (i := 16) (by decide +kernel), List.mem_of_getElem? (i := 452) (by decide +kernel), List.mem_of_getElem? (i := 453) (by decide +kernel)⟩
theorem lw_p13 : lw_okq (⟨"TaskKernel", "noteMisses", "()V"⟩, 10) := ⟨⟨by decide +kernel, by decide +kernel⟩, List.mem_of_getElem? (i := 16) (by decide +kernel), List.mem_of_getElem? (i := 479) (by decide +kernel), List.mem_of_getElem? (i := 480) (by decide +kernel)⟩
theorem lw_p14 : lw_okq (⟨"TaskKernel", "endJob", "(LTaskKernel$Task;I)V"⟩, 10) := ⟨⟨by decide +kernel, by decide +kernel⟩, List.mem_of_getElem? (i := 16) (by decide +kernel), List.mem_of_getElem? (i := 483) (by decide +kernel), List.mem_of_getElem? (i := 484) (by decide +kernel)⟩
theorem lw_p15 : lw_okq (⟨"TaskKernel", "giveAway", "(LTaskKernel$Mutex;)V"⟩, 10) := ⟨⟨by decide +kernel, by decide +kernel⟩, List.mem_of_getElem? (i := 16) (by decide +kernel), List.mem_of_getElem? (i := 491) (by decide +kernel), List.mem_of_getElem? (i := 492) (by decide +kernel)⟩
def lw_privs_1 : List (MethodName × Nat) := [(⟨"TaskKernel", "isTask", "(I)Z"⟩, 10), (⟨"TaskKernel", "beginJob", "(LTaskKernel$Task;)V"⟩, 10), (⟨"TaskKernel", "note", "(ILTaskKernel$Task;)V"⟩, 10), (⟨"TaskKernel", "nextChange", "()I"⟩, 10), (⟨"TaskKernel", "urgencyOf", "(LTaskKernel$Task;)I"⟩, 10), (⟨"TaskKernel", "rankTasks", "()V"⟩, 10), (⟨"TaskKernel", "liftToCeilings", "()V"⟩, 10), (⟨"TaskKernel", "lendOnce", "()Z"⟩, 10), (⟨"TaskKernel", "isMutex", "(I)Z"⟩, 10), (⟨"TaskKernel", "countBlockedAt", "(LTaskKernel$Mutex;)I"⟩, 10), (⟨"TaskKernel", "ceilOf", "(I)I"⟩, 10), (⟨"java/lang/Throwable", "fillInStackTrace", "(I)Ljava/lang/Throwable;"⟩, 6), (⟨"TaskKernel", "isStep", "(II)Z"⟩, 10), (⟨"TaskKernel", "noteMisses", "()V"⟩, 10), (⟨"TaskKernel", "endJob", "(LTaskKernel$Task;I)V"⟩, 10), (⟨"TaskKernel", "giveAway", "(LTaskKernel$Mutex;)V"⟩, 10)]
theorem lw_r1 : ∀ q ∈ lw_privs_1, lw_okq q := List.forall_mem_cons.mpr ⟨lw_p0, List.forall_mem_cons.mpr ⟨lw_p1, List.forall_mem_cons.mpr ⟨lw_p2, List.forall_mem_cons.mpr ⟨lw_p3, List.forall_mem_cons.mpr ⟨lw_p4, List.forall_mem_cons.mpr ⟨lw_p5, List.forall_mem_cons.mpr ⟨lw_p6, List.forall_mem_cons.mpr ⟨lw_p7, List.forall_mem_cons.mpr ⟨lw_p8, List.forall_mem_cons.mpr ⟨lw_p9, List.forall_mem_cons.mpr ⟨lw_p10, List.forall_mem_cons.mpr ⟨lw_p11, List.forall_mem_cons.mpr ⟨lw_p12, List.forall_mem_cons.mpr ⟨lw_p13, List.forall_mem_cons.mpr ⟨lw_p14, List.forall_mem_cons.mpr ⟨lw_p15, fun _ h => absurd h List.not_mem_nil⟩⟩⟩⟩⟩⟩⟩⟩⟩⟩⟩⟩⟩⟩⟩⟩
theorem lw_p16 : lw_okq (⟨"TaskKernel", "heirOf", "(LTaskKernel$Mutex;)LTaskKernel$Task;"⟩, 10) := ⟨⟨by decide +kernel, by decide +kernel⟩, List.mem_of_getElem? (i := 16) (by decide +kernel), List.mem_of_getElem? (i := 495) (by decide +kernel), List.mem_of_getElem? (i := 496) (by decide +kernel)⟩
theorem lw_p17 : lw_okq (⟨"TaskKernel", "releasePeriodic", "()V"⟩, 10) := ⟨⟨by decide +kernel, by decide +kernel⟩, List.mem_of_getElem? (i := 16) (by decide +kernel), List.mem_of_getElem? (i := 511) (by decide +kernel), List.mem_of_getElem? (i := 512) (by decide +kernel)⟩
theorem lw_p18 : lw_okq (⟨"TaskKernel", "settle", "()LTaskKernel$Task;"⟩, 10) := ⟨⟨by decide +kernel, by decide +kernel⟩, List.mem_of_getElem? (i := 16) (by decide +kernel), List.mem_of_getElem? (i := 519) (by decide +kernel), List.mem_of_getElem? (i := 520) (by decide +kernel)⟩
theorem lw_p19 : lw_okq (⟨"TaskKernel", "mostUrgentReady", "()LTaskKernel$Task;"⟩, 10) := ⟨⟨by decide +kernel, by decide +kernel⟩, List.mem_of_getElem? (i := 16) (by decide +kernel), List.mem_of_getElem? (i := 523) (by decide +kernel), List.mem_of_getElem? (i := 524) (by decide +kernel)⟩
theorem lw_p20 : lw_okq (⟨"TaskKernel", "goesAhead", "(LTaskKernel$Task;LTaskKernel$Task;)Z"⟩, 10) := ⟨⟨by decide +kernel, by decide +kernel⟩, List.mem_of_getElem? (i := 16) (by decide +kernel), List.mem_of_getElem? (i := 527) (by decide +kernel), List.mem_of_getElem? (i := 528) (by decide +kernel)⟩
theorem lw_p21 : lw_okq (⟨"TaskKernel", "goOn", "(LTaskKernel$Task;I)V"⟩, 10) := ⟨⟨by decide +kernel, by decide +kernel⟩, List.mem_of_getElem? (i := 16) (by decide +kernel), List.mem_of_getElem? (i := 535) (by decide +kernel), List.mem_of_getElem? (i := 536) (by decide +kernel)⟩
theorem lw_p22 : lw_okq (⟨"TaskKernel", "stepFails", "(LTaskKernel$Task;ILTaskKernel$Mutex;)Z"⟩, 10) := ⟨⟨by decide +kernel, by decide +kernel⟩, List.mem_of_getElem? (i := 16) (by decide +kernel), List.mem_of_getElem? (i := 539) (by decide +kernel), List.mem_of_getElem? (i := 540) (by decide +kernel)⟩
theorem lw_p23 : lw_okq (⟨"TaskKernel", "workOneUnit", "(LTaskKernel$Task;)V"⟩, 10) := ⟨⟨by decide +kernel, by decide +kernel⟩, List.mem_of_getElem? (i := 16) (by decide +kernel), List.mem_of_getElem? (i := 553) (by decide +kernel), List.mem_of_getElem? (i := 554) (by decide +kernel)⟩
theorem lw_p24 : lw_okq (⟨"TaskKernel", "blockingOf", "(LTaskKernel$Task;)I"⟩, 10) := ⟨⟨by decide +kernel, by decide +kernel⟩, List.mem_of_getElem? (i := 16) (by decide +kernel), List.mem_of_getElem? (i := 565) (by decide +kernel), List.mem_of_getElem? (i := 566) (by decide +kernel)⟩
theorem lw_p25 : lw_okq (⟨"TaskKernel", "greatestSectionBelow", "(II)I"⟩, 10) := ⟨⟨by decide +kernel, by decide +kernel⟩, List.mem_of_getElem? (i := 16) (by decide +kernel), List.mem_of_getElem? (i := 569) (by decide +kernel), List.mem_of_getElem? (i := 570) (by decide +kernel)⟩
theorem lw_p26 : lw_okq (⟨"TaskKernel$Body", "sectionFrom", "(II)I"⟩, 3) := ⟨⟨by decide +kernel, by decide +kernel⟩, List.mem_of_getElem? (i := 284) (by decide +kernel), List.mem_of_getElem? (i := 577) (by decide +kernel), List.mem_of_getElem? (i := 578) (by decide +kernel)⟩
theorem lw_p27 : lw_okq (⟨"TaskKernel", "interferenceWith", "(LTaskKernel$Task;I)I"⟩, 10) := ⟨⟨by decide +kernel, by decide +kernel⟩, List.mem_of_getElem? (i := 16) (by decide +kernel), List.mem_of_getElem? (i := 582) (by decide +kernel), List.mem_of_getElem? (i := 583) (by decide +kernel)⟩
theorem lw_p28 : lw_okq (⟨"TaskKernelModel", "isTask", "(I)Z"⟩, 39) := ⟨⟨by decide +kernel, by decide +kernel⟩, List.mem_of_getElem? (i := 586) (by decide +kernel), List.mem_of_getElem? (i := 726) (by decide +kernel), List.mem_of_getElem? (i := 727) (by decide +kernel)⟩
theorem lw_p29 : lw_okq (⟨"TaskKernelModel", "begin", "(I)V"⟩, 39) := ⟨⟨by decide +kernel, by decide +kernel⟩, List.mem_of_getElem? (i := 586) (by decide +kernel), List.mem_of_getElem? (i := 746) (by decide +kernel), List.mem_of_getElem? (i := 747) (by decide +kernel)⟩
theorem lw_p30 : lw_okq (⟨"TaskKernelModel", "note", "(II)V"⟩, 39) := ⟨⟨by decide +kernel, by decide +kernel⟩, List.mem_of_getElem? (i := 586) (by decide +kernel), List.mem_of_getElem? (i := 750) (by decide +kernel), List.mem_of_getElem? (i := 751) (by decide +kernel)⟩
theorem lw_p31 : lw_okq (⟨"TaskKernelModel", "ready", "(I)V"⟩, 39) := ⟨⟨by decide +kernel, by decide +kernel⟩, List.mem_of_getElem? (i := 586) (by decide +kernel), List.mem_of_getElem? (i := 754) (by decide +kernel), List.mem_of_getElem? (i := 755) (by decide +kernel)⟩
def lw_privs_2 : List (MethodName × Nat) := [(⟨"TaskKernel", "heirOf", "(LTaskKernel$Mutex;)LTaskKernel$Task;"⟩, 10), (⟨"TaskKernel", "releasePeriodic", "()V"⟩, 10), (⟨"TaskKernel", "settle", "()LTaskKernel$Task;"⟩, 10), (⟨"TaskKernel", "mostUrgentReady", "()LTaskKernel$Task;"⟩, 10), (⟨"TaskKernel", "goesAhead", "(LTaskKernel$Task;LTaskKernel$Task;)Z"⟩, 10), (⟨"TaskKernel", "goOn", "(LTaskKernel$Task;I)V"⟩, 10), (⟨"TaskKernel", "stepFails", "(LTaskKernel$Task;ILTaskKernel$Mutex;)Z"⟩, 10), (⟨"TaskKernel", "workOneUnit", "(LTaskKernel$Task;)V"⟩, 10), (⟨"TaskKernel", "blockingOf", "(LTaskKernel$Task;)I"⟩, 10), (⟨"TaskKernel", "greatestSectionBelow", "(II)I"⟩, 10), (⟨"TaskKernel$Body", "sectionFrom", "(II)I"⟩, 3), (⟨"TaskKernel", "interferenceWith", "(LTaskKernel$Task;I)I"⟩, 10), (⟨"TaskKernelModel", "isTask", "(I)Z"⟩, 39), (⟨"TaskKernelModel", "begin", "(I)V"⟩, 39), (⟨"TaskKernelModel", "note", "(II)V"⟩, 39), (⟨"TaskKernelModel", "ready", "(I)V"⟩, 39)]
theorem lw_r2 : ∀ q ∈ lw_privs_2, lw_okq q := List.forall_mem_cons.mpr ⟨lw_p16, List.forall_mem_cons.mpr ⟨lw_p17, List.forall_mem_cons.mpr ⟨lw_p18, List.forall_mem_cons.mpr ⟨lw_p19, List.forall_mem_cons.mpr ⟨lw_p20, List.forall_mem_cons.mpr ⟨lw_p21, List.forall_mem_cons.mpr ⟨lw_p22, List.forall_mem_cons.mpr ⟨lw_p23, List.forall_mem_cons.mpr ⟨lw_p24, List.forall_mem_cons.mpr ⟨lw_p25, List.forall_mem_cons.mpr ⟨lw_p26, List.forall_mem_cons.mpr ⟨lw_p27, List.forall_mem_cons.mpr ⟨lw_p28, List.forall_mem_cons.mpr ⟨lw_p29, List.forall_mem_cons.mpr ⟨lw_p30, List.forall_mem_cons.mpr ⟨lw_p31, fun _ h => absurd h List.not_mem_nil⟩⟩⟩⟩⟩⟩⟩⟩⟩⟩⟩⟩⟩⟩⟩⟩
theorem lw_p32 : lw_okq (⟨"TaskKernelModel", "pass", "()Z"⟩, 39) := ⟨⟨by decide +kernel, by decide +kernel⟩, List.mem_of_getElem? (i := 586) (by decide +kernel), List.mem_of_getElem? (i := 762) (by decide +kernel), List.mem_of_getElem? (i := 763) (by decide +kernel)⟩
theorem lw_p33 : lw_okq (⟨"TaskKernelModel", "arrivals", "()V"⟩, 39) := ⟨⟨by decide +kernel, by decide +kernel⟩, List.mem_of_getElem? (i := 586) (by decide +kernel), List.mem_of_getElem? (i := 766) (by decide +kernel), List.mem_of_getElem? (i := 767) (by decide +kernel)⟩
theorem lw_p34 : lw_okq (⟨"TaskKernelModel", "over", "(IZI)V"⟩, 39) := ⟨⟨by decide +kernel, by decide +kernel⟩, List.mem_of_getElem? (i := 586) (by decide +kernel), List.mem_of_getElem? (i := 770) (by decide +kernel), List.mem_of_getElem? (i := 771) (by decide +kernel)⟩
theorem lw_p35 : lw_okq (⟨"TaskKernelModel", "give", "(I)V"⟩, 39) := ⟨⟨by decide +kernel, by decide +kernel⟩, List.mem_of_getElem? (i := 586) (by decide +kernel), List.mem_of_getElem? (i := 774) (by decide +kernel), List.mem_of_getElem? (i := 775) (by decide +kernel)⟩
theorem lw_p36 : lw_okq (⟨"TaskKernelModel", "weigh", "()V"⟩, 39) := ⟨⟨by decide +kernel, by decide +kernel⟩, List.mem_of_getElem? (i := 586) (by decide +kernel), List.mem_of_getElem? (i := 778) (by decide +kernel), List.mem_of_getElem? (i := 779) (by decide +kernel)⟩
theorem lw_p37 : lw_okq (⟨"TaskKernelModel", "better", "(II)Z"⟩, 39) := ⟨⟨by decide +kernel, by decide +kernel⟩, List.mem_of_getElem? (i := 586) (by decide +kernel), List.mem_of_getElem? (i := 782) (by decide +kernel), List.mem_of_getElem? (i := 783) (by decide +kernel)⟩
theorem lw_p38 : lw_okq (⟨"TaskKernelModel", "first", "()I"⟩, 39) := ⟨⟨by decide +kernel, by decide +kernel⟩, List.mem_of_getElem? (i := 586) (by decide +kernel), List.mem_of_getElem? (i := 786) (by decide +kernel), List.mem_of_getElem? (i := 787) (by decide +kernel)⟩
theorem lw_p39 : lw_okq (⟨"TaskKernelModel", "atWork", "(I)Z"⟩, 39) := ⟨⟨by decide +kernel, by decide +kernel⟩, List.mem_of_getElem? (i := 586) (by decide +kernel), List.mem_of_getElem? (i := 790) (by decide +kernel), List.mem_of_getElem? (i := 791) (by decide +kernel)⟩
theorem lw_p40 : lw_okq (⟨"TaskKernelModel", "goOn", "(II)V"⟩, 39) := ⟨⟨by decide +kernel, by decide +kernel⟩, List.mem_of_getElem? (i := 586) (by decide +kernel), List.mem_of_getElem? (i := 794) (by decide +kernel), List.mem_of_getElem? (i := 795) (by decide +kernel)⟩
theorem lw_p41 : lw_okq (⟨"TaskKernelModel", "lock", "(III)V"⟩, 39) := ⟨⟨by decide +kernel, by decide +kernel⟩, List.mem_of_getElem? (i := 586) (by decide +kernel), List.mem_of_getElem? (i := 798) (by decide +kernel), List.mem_of_getElem? (i := 799) (by decide +kernel)⟩
theorem lw_p42 : lw_okq (⟨"TaskKernelModel", "work", "(I)V"⟩, 39) := ⟨⟨by decide +kernel, by decide +kernel⟩, List.mem_of_getElem? (i := 586) (by decide +kernel), List.mem_of_getElem? (i := 802) (by decide +kernel), List.mem_of_getElem? (i := 803) (by decide +kernel)⟩
theorem lw_p43 : lw_okq (⟨"TaskKernelModel", "ceil", "(I)I"⟩, 39) := ⟨⟨by decide +kernel, by decide +kernel⟩, List.mem_of_getElem? (i := 586) (by decide +kernel), List.mem_of_getElem? (i := 814) (by decide +kernel), List.mem_of_getElem? (i := 815) (by decide +kernel)⟩
theorem lw_p44 : lw_okq (⟨"TaskKernelModel", "cost", "(I)I"⟩, 39) := ⟨⟨by decide +kernel, by decide +kernel⟩, List.mem_of_getElem? (i := 586) (by decide +kernel), List.mem_of_getElem? (i := 826) (by decide +kernel), List.mem_of_getElem? (i := 827) (by decide +kernel)⟩
theorem lw_p45 : lw_okq (⟨"TaskKernelModel", "blocking", "(I)I"⟩, 39) := ⟨⟨by decide +kernel, by decide +kernel⟩, List.mem_of_getElem? (i := 586) (by decide +kernel), List.mem_of_getElem? (i := 830) (by decide +kernel), List.mem_of_getElem? (i := 831) (by decide +kernel)⟩
theorem lw_p46 : lw_okq (⟨"TaskKernelModel", "section", "(II)I"⟩, 39) := ⟨⟨by decide +kernel, by decide +kernel⟩, List.mem_of_getElem? (i := 586) (by decide +kernel), List.mem_of_getElem? (i := 834) (by decide +kernel), List.mem_of_getElem? (i := 835) (by decide +kernel)⟩
def lw_privs_3 : List (MethodName × Nat) := [(⟨"TaskKernelModel", "pass", "()Z"⟩, 39), (⟨"TaskKernelModel", "arrivals", "()V"⟩, 39), (⟨"TaskKernelModel", "over", "(IZI)V"⟩, 39), (⟨"TaskKernelModel", "give", "(I)V"⟩, 39), (⟨"TaskKernelModel", "weigh", "()V"⟩, 39), (⟨"TaskKernelModel", "better", "(II)Z"⟩, 39), (⟨"TaskKernelModel", "first", "()I"⟩, 39), (⟨"TaskKernelModel", "atWork", "(I)Z"⟩, 39), (⟨"TaskKernelModel", "goOn", "(II)V"⟩, 39), (⟨"TaskKernelModel", "lock", "(III)V"⟩, 39), (⟨"TaskKernelModel", "work", "(I)V"⟩, 39), (⟨"TaskKernelModel", "ceil", "(I)I"⟩, 39), (⟨"TaskKernelModel", "cost", "(I)I"⟩, 39), (⟨"TaskKernelModel", "blocking", "(I)I"⟩, 39), (⟨"TaskKernelModel", "section", "(II)I"⟩, 39)]
theorem lw_r3 : ∀ q ∈ lw_privs_3, lw_okq q := List.forall_mem_cons.mpr ⟨lw_p32, List.forall_mem_cons.mpr ⟨lw_p33, List.forall_mem_cons.mpr ⟨lw_p34, List.forall_mem_cons.mpr ⟨lw_p35, List.forall_mem_cons.mpr ⟨lw_p36, List.forall_mem_cons.mpr ⟨lw_p37, List.forall_mem_cons.mpr ⟨lw_p38, List.forall_mem_cons.mpr ⟨lw_p39, List.forall_mem_cons.mpr ⟨lw_p40, List.forall_mem_cons.mpr ⟨lw_p41, List.forall_mem_cons.mpr ⟨lw_p42, List.forall_mem_cons.mpr ⟨lw_p43, List.forall_mem_cons.mpr ⟨lw_p44, List.forall_mem_cons.mpr ⟨lw_p45, List.forall_mem_cons.mpr ⟨lw_p46, fun _ h => absurd h List.not_mem_nil⟩⟩⟩⟩⟩⟩⟩⟩⟩⟩⟩⟩⟩⟩⟩
def lw_privs : List (MethodName × Nat) := lw_privs_1 ++ (lw_privs_2 ++ (lw_privs_3))
def lw_tbl : List Cond := k2_sels lw_privs ++ tables_1
theorem lw_privs_ok : ∀ q ∈ lw_privs, lw_okq q := by
  show ∀ q ∈ lw_privs_1 ++ (lw_privs_2 ++ (lw_privs_3)), lw_okq q
  exact List.forall_mem_append.mpr ⟨lw_r1, List.forall_mem_append.mpr ⟨lw_r2, lw_r3⟩⟩
-- ===== end of PART A; then your names; then what follows =====
end
section
/-! ===== BEGIN words of one list among another's, by their places ===== -/
theorem goodIn_r {big : List Cond} (ws : List Cond) (ps : List Nat) (hp : ws = ps.filterMap (fun i => big[i]?)) (h : ws.all goodWord = true) : GoodIn big ws := by
  intro w hw
  have h1 := List.all_eq_true.mp h w hw
  rw [hp] at hw
  obtain ⟨i, -, hi⟩ := List.mem_filterMap.mp hw
  have hm : w ∈ big := by first | exact List.mem_of_getElem? hi | exact List.getElem?_mem hi
  exact ⟨hm, good_of_word h1⟩
theorem goodIn_app {big a b : List Cond} (ha : GoodIn big a) (hb : GoodIn big b) : GoodIn big (a ++ b) := fun w h => (List.mem_append.mp h).elim (ha w) (hb w)
theorem goodIn_ca {big a b : List Cond} {c : Cond} (ha : GoodIn big (c :: a)) (hb : GoodIn big b) : GoodIn big (c :: (a ++ b)) := fun w h => (List.mem_cons.mp h).elim (fun e => ha w (List.mem_cons.mpr (Or.inl e))) (fun h => (List.mem_append.mp h).elim (fun h => ha w (List.mem_cons.mpr (Or.inr h))) (hb w))
theorem goodIn_sub {big ws : List Cond} (hm : ∀ w ∈ ws, w ∈ big) (h : ws.all goodWord = true) : GoodIn big ws := fun w hw => ⟨hm w hw, good_of_word (List.all_eq_true.mp h w hw)⟩
/-! ===== END ===== -/

/-! ===== BEGIN exceptions that leave a method, and their catching by the caller (launches without stack traces) ===== -/
section VXA
/-! The laws vx_back, vx_callV, vx_callS, vx_callSW, vx_throw0, vx_throwS follow proofs of the library, with one case more: JvmDerived/Free/Laws.lean (Back.of_free), Shelf42/LK1.lean (callV, callS), Shelf/KitTraced.lean (throwNew0V, throwNewS). -/
/-- where a method has thrown q: the class by its name, the cell, what was written, the world -/
def vx_T (XC : String → State → State → Prop) (st : State) (q : Addr) (t : State) (mc ms : Nat) (free : Addr → Prop) : Prop :=
  ∃ (E : String) (ce : Cell) (L : List Loc), XC E st t ∧ t.heap[q]? = some ce ∧ ce.vm = .none ∧ st.vm.findClass E = some ce.cls ∧ st.WarmedH t.vm ∧ st.sameButNew ({ t with vm := st.vm } : State) L mc ms ∧ ∀ z ∈ L, free z.base
def vx_Q (Qc : Array Value → State → Outcome → State → Prop) (XC : String → State → State → Prop) (mc ms : Nat) (free : Addr → Prop) : Array Value → State → Outcome → State → Prop := fun a st o t =>
  (Qc a st o t ∧ ∃ L, FrameEnd st o t L mc ms ∧ ∀ q ∈ L, free q.base) ∨ ∃ q, o = .threw q ∧ vx_T XC st q t mc ms free
/-- a callee that returns or throws -/
def vx_Met (l : Launch) (y : MethodName) (ws : List Cond) (rm : Room) (Pc : Array Value → State → Prop) (Qc : Array Value → State → Outcome → State → Prop) (XC : String → State → State → Prop) (mc ms : Nat) (free : Addr → Prop) : Prop :=
  MetFree l y (headSpec ws rm) Pc (fun _ _ _ _ _ => True) (vx_Q Qc XC mc ms free)
def vx_Post (XC : String → State → State → Prop) (mc ms : Nat) (free : Addr → Prop) : Pt → Array Value → Addr → Pt → Prop := fun A a q B =>
  ∃ (g : JFrame) (mk : MethodId) (t : State) (L : List Loc) (E : String) (ce : Cell), B.U.heap = t.heap ∧ B.U.vm = t.vm ∧ XC E (A.U.calling g mk a) t ∧ t.heap[q]? = some ce ∧ ce.vm = .none ∧ A.U.vm.findClass E = some ce.cls ∧ B.locs = A.locs ++ L ∧ (∀ z ∈ L, free z.base) ∧ B.cells = A.cells + mc ∧ B.slots = A.slots + ms
def vx_Back (l : Launch) (R : Room) (p : Program) (e : Env) (below : List Frame) (s : State) (sargs : Array Value) (y : MethodName) (len W9 : Nat)
    (Pre : Pt → Array Value → Prop) (Post : Pt → Array Value → Option Value → Pt → Prop) (PostX : Pt → Array Value → Addr → Pt → Prop) : Prop :=
  ∀ (m : MethodId) (meth : Method) (c : Code) (A : Pt) (g : JFrame) (ig : Instr) (mk : MethodId) (a : Array Value),
    Stand p l e R s m sargs below meth c A.U A.locs A.cells A.slots → g.method = m → g.locals.size = c.maxLocals → decode c.code g.pc = .ok (ig, len) →
    2 * g.monitorRoom + (g.stack.map fun v => v.category).sum ≤ W9 → A.U.methodNamed? y = some mk → Pre A a →
    (∃ (v : Option Value) (B : Pt), Stand p l e R s m sargs below meth c B.U B.locs B.cells B.slots ∧ Post A a v B ∧
      Steps p.tables e below (doInvoke e (A.U.setTop g) [] mk a).1 (B.U.setTop { g with pc := g.pc + len, stack := v.toList ++ g.stack })) ∨
    (∃ (q : Addr) (B : Pt), Stand p l e R s m sargs below meth c B.U B.locs B.cells B.slots ∧ PostX A a q B ∧
      Steps p.tables e below (doInvoke e (A.U.setTop g) [] mk a).1 ((B.U.setTop g).pushFrame (.throwing q)))
section Payer
variable {l : Launch} {R : Room} {p : Program} {e : Env} {below : List Frame} {s : State} {sargs : Array Value} {y : MethodName} {len W9 : Nat}
theorem vx_back {ws : List Cond} {rm : Room} {Pc : Array Value → State → Prop} {Qc : Array Value → State → Outcome → State → Prop} {XC : String → State → State → Prop} {mc ms : Nat} {free : Addr → Prop} {bytes : ByteArray} {maxL : Nat} {ret : Option FieldType}
    (hM : vx_Met l y ws rm Pc Qc XC mc ms free) (hblind : FrameBlind Pc) (hrc : rm.cells = mc) (hrs : rm.slots = ms)
    (hframes : rm.frames + 1 ≤ R.frames) (hlocals : W9 + (maxL + 11) + rm.locals ≤ R.locals)
    (hws : ∀ w ∈ ws, ∀ a' U, s.WarmedH U.vm → w.before a' U = true) (hcode : Cond.code y bytes maxL ret ∈ ws) (hinit : ∀ a' U, s.WarmedH U.vm → (Cond.initialized y.cls).before a' U = true) :
    vx_Back l R p e below s sargs y len W9 (PreOf R mc ms Pc) (PostOf Qc mc ms free) (vx_Post XC mc ms free) := by
  intro m meth c A g ig mk a X hg hsize hdg hW hn hp
  have h1 : (headSpec ws rm).pre.before a A.U = true := atoms_intro fun w hw => hws w hw _ _ X.warmed
  have h2 : (Cond.code y bytes maxL ret).before a A.U = true := hws _ hcode _ _ X.warmed
  have h3 : (Cond.initialized y.cls).before a A.U = true := hinit _ _ X.warmed
  have h4 : A.cells + (headSpec ws rm).room.cells ≤ R.cells := by rw [show (headSpec ws rm).room.cells = mc from hrc]; exact hp.1
  have h5 : A.slots + (headSpec ws rm).room.slots ≤ R.slots := by rw [show (headSpec ws rm).room.slots = ms from hrs]; exact hp.2.1
  have hPc : Pc a (A.U.calling g mk a) := hblind _ _ _ _ hp.2.2
  obtain ⟨U, Ls, c0, s0⟩ := A
  dsimp only [Pt.U, Pt.locs, Pt.cells, Pt.slots] at h1 h2 h3 h4 h5 X hn hPc ⊢
  obtain ⟨methY, cY, hmY, hcY, -, hlY, -, -, -, -⟩ := Cond.code_spec hn h2
  obtain ⟨kY, hkY, -⟩ := className_of_methodNamed hn
  have hinitY : kY.init = .initialized := Cond.initialized_spec (findClass_of_methodNamed hn) hkY h3
  have h : At U g.method c below := by rw [hg]; exact X.here
  have hlocals9 : W9 + (maxL + 11) + (headSpec ws rm).room.locals ≤ R.locals := hlocals
  have happ : (headSpec ws rm).appliesLoose y e.platform (U.calling g mk a) = true :=
    Spec.appliesLoose_calling (g := g) h hdg hn hkY hinitY
      (X.room_calling (g := g) (R' := (headSpec ws rm).room) hsize hmY hcY hframes (by rw [hlY]; omega) h4 h5) h1
  obtain ⟨mid, hmid⟩ := h.above
  have hfr : (U.setTop g).frames = (.java g :: mid) ++ below := by rw [State.frames_setTop' g h.top, hmid]; rfl
  obtain ⟨o, s₂, hsteps, -, hend, hq⟩ := Steps.callFree hM p X.admits X.cas X.clock (acts := []) hfr happ hPc trivial
  have hq' : vx_Q Qc XC mc ms free a (U.calling g mk a) o s₂ := hq
  rw [State.frames_setTop' g h.top] at hend
  obtain ⟨g₀, hg0⟩ := Option.isSome_iff_exists.mp h.top
  obtain ⟨r, hr⟩ := State.topJava?_eq_some.mp hg0
  have hr' : (({ U with heap := s₂.heap, slotsUsed := s₂.slotsUsed } : State).setVm s₂.vm).frames = .java g₀ :: r := hr
  rcases hq' with ⟨hqc, L, hfe, hL⟩ | ⟨q, rfl, E, ce, L, hx, hce, hcv, hcl, hW₂, hsm, hL⟩
  · obtain ⟨⟨v, rfl⟩, hW₂, e2, q2, q3, q4, q5, q6⟩ := id hfe
    have e3 : s₂ = ({ (U.calling g mk a).setFrames s₂.frames with heap := s₂.heap, slotsUsed := s₂.slotsUsed } : State).setVm s₂.vm := by
      have : s₂ = ({ s₂ with vm := (U.calling g mk a).vm } : State).setVm s₂.vm := rfl
      rw [e2] at this
      exact this
    obtain ⟨c₂, i₂, len₂, hc₂, hd₂, hf₂⟩ := hend
    have hW' : U.WarmedH s₂.vm := hW₂
    have hcc : c₂ = c := by
      have h1 : s₂.code? g.method = U.code? g.method := by
        rw [State.code?_eq, State.code?_eq, hW'.alike.method?]
      exact Option.some.inj (hc₂.symm.trans (h1.trans h.code))
    subst hcc
    have hlen : len₂ = len := by rw [hdg] at hd₂; cases hd₂; rfl
    subst hlen
    have hs₂ : s₂ = (({ U with heap := s₂.heap, slotsUsed := s₂.slotsUsed } : State).setVm s₂.vm).setTop { g with pc := g.pc + len₂, stack := v.toList ++ g.stack } := by
      refine e3.trans ?_
      rw [hf₂, State.calling_eq h.top, State.setFrames_setFrames, State.setTop_of_frames _ hr', hr]
      rfl
    have hsame : U.sameButNew ({ U with heap := s₂.heap, slotsUsed := s₂.slotsUsed } : State) L mc ms := by
      refine ⟨?_, q2, q3, q4, q5, q6⟩
      obtain ⟨t, ht, -⟩ := State.frames_cons hr
      show ({ U with heap := s₂.heap, slotsUsed := s₂.slotsUsed } : State) = { U.setFrames U.frames with heap := s₂.heap, slotsUsed := s₂.slotsUsed }
      rw [State.setFrames_self ht]
    subst hg
    refine Or.inl ⟨v, ⟨(({ U with heap := s₂.heap, slotsUsed := s₂.slotsUsed } : State).setVm s₂.vm), Ls ++ L, c0 + mc, s0 + ms⟩,
      ⟨X.admits, X.cas, X.clock, X.frames, X.room, X.hears, X.method, X.code, (X.here.setHeapUsed s₂.heap s₂.slotsUsed).setVm hW'.alike, X.tail, State.WarmedH.trans X.warmed hW', X.limits, X.bytes, X.same.trans (hsame.setVm s.vm)⟩,
      ⟨g, mk, s₂, L, rfl, rfl, hqc, rfl, hL, rfl, rfl⟩, ?_⟩
    show Steps p.tables e below _ ((({ U with heap := s₂.heap, slotsUsed := s₂.slotsUsed } : State).setVm s₂.vm).setTop { g with pc := g.pc + len₂, stack := v.toList ++ g.stack })
    rw [← hs₂]
    exact hsteps
  · obtain ⟨e2, q2, q3, q4, q5, q6⟩ := id hsm
    have e3 : s₂ = ({ (U.calling g mk a).setFrames s₂.frames with heap := s₂.heap, slotsUsed := s₂.slotsUsed } : State).setVm s₂.vm := by
      have : s₂ = ({ s₂ with vm := (U.calling g mk a).vm } : State).setVm s₂.vm := rfl
      rw [e2] at this
      exact this
    have hf₂ : s₂.frames = .throwing q :: .java g :: U.frames.tail := hend
    have hW' : U.WarmedH s₂.vm := hW₂
    have hs₂ : s₂ = ((({ U with heap := s₂.heap, slotsUsed := s₂.slotsUsed } : State).setVm s₂.vm).setTop g).pushFrame (.throwing q) := by
      refine e3.trans ?_
      rw [hf₂, State.calling_eq h.top, State.setFrames_setFrames, State.pushFrame, State.frames_setTop _ hr', State.setTop_of_frames _ hr', State.setFrames_setFrames, hr]
      rfl
    have hsame : U.sameButNew ({ U with heap := s₂.heap, slotsUsed := s₂.slotsUsed } : State) L mc ms := by
      refine ⟨?_, q2, q3, q4, q5, q6⟩
      obtain ⟨t, ht, -⟩ := State.frames_cons hr
      show ({ U with heap := s₂.heap, slotsUsed := s₂.slotsUsed } : State) = { U.setFrames U.frames with heap := s₂.heap, slotsUsed := s₂.slotsUsed }
      rw [State.setFrames_self ht]
    subst hg
    refine Or.inr ⟨q, ⟨(({ U with heap := s₂.heap, slotsUsed := s₂.slotsUsed } : State).setVm s₂.vm), Ls ++ L, c0 + mc, s0 + ms⟩,
      ⟨X.admits, X.cas, X.clock, X.frames, X.room, X.hears, X.method, X.code, (X.here.setHeapUsed s₂.heap s₂.slotsUsed).setVm hW'.alike, X.tail, State.WarmedH.trans X.warmed hW', X.limits, X.bytes, X.same.trans (hsame.setVm s.vm)⟩,
      ⟨g, mk, s₂, L, E, ce, rfl, rfl, hx, hce, hcv, hcl, rfl, hL, rfl, rfl⟩, ?_⟩
    show Steps p.tables e below _ (((({ U with heap := s₂.heap, slotsUsed := s₂.slotsUsed } : State).setVm s₂.vm).setTop g).pushFrame (.throwing q))
    rw [← hs₂]
    exact hsteps
end Payer
section Calls
variable {p : Program} {l : Launch} {e : Env} {R : Room} {s : State} {m : MethodId} {args : Array Value} {below : List Frame} {meth : Method} {c : Code} {T : State} {locs : List Loc} {cells slots : Nat}
theorem vx_callV (X : Stand p l e R s m args below meth c T locs cells slots) (hexec : p.tables.exec = Jvm.exec) {own C : String} {index : Nat} {y : MethodName} {bytes : ByteArray} {maxL : Nat} {ret : Option FieldType}
    (hown : s.vm.findClass own = some m.cls) (hlink : (Cond.methodLink own index y).before args s = true) (hinst : (Cond.instanceMethod y).before args s = true) (hsel : (Cond.selects C y y).before args s = true)
    (hcode : (Cond.code y bytes maxL ret).before args s = true) (hy : y.cls ≠ "java/lang/invoke/MethodHandle" ∧ y.cls ≠ "java/lang/invoke/VarHandle")
    {W9 : Nat} {Pre : Pt → Array Value → Prop} {Post : Pt → Array Value → Option Value → Pt → Prop} {PostX : Pt → Array Value → Addr → Pt → Prop} (hK : vx_Back l R p e below s args y 3 W9 Pre Post PostX)
    {b : Addr} {cellB : Cell} (hcell : T.heap[b]? = some cellB) (hobj : cellB.vm.isStatics = false) (hcls : s.vm.findClass C = some cellB.cls)
    {g : JFrame} (hg : g.method = m) (hsize : g.locals.size = c.maxLocals) {argsL rest : List Value} (hlen : ∀ sig, parseMethodDescriptor y.desc = some sig → argsL.length = sig.parameters.length)
    (hstack : g.stack = argsL.reverse ++ .ref b :: rest) (hW : 2 * g.monitorRoom + (rest.map fun v => v.category).sum ≤ W9) (hdg : decode c.code g.pc = .ok (.invokevirtual index, 3))
    (hpre : ∀ vm₁, s.WarmedH vm₁ → Pre ⟨T.setVm vm₁, locs, cells, slots⟩ (Value.ref b :: argsL).toArray) :
    (∃ (v : Option Value) (vm₁ : Vm) (B : Pt), s.WarmedH vm₁ ∧ Stand p l e R s m args below meth c B.U B.locs B.cells B.slots ∧ Post ⟨T.setVm vm₁, locs, cells, slots⟩ (Value.ref b :: argsL).toArray v B ∧
      ∀ target, Steps p.tables e below (B.U.setTop { g with pc := g.pc + 3, stack := v.toList ++ rest }) target → Steps p.tables e below (T.setTop g) target) ∨
    (∃ (q : Addr) (vm₁ : Vm) (B : Pt), s.WarmedH vm₁ ∧ Stand p l e R s m args below meth c B.U B.locs B.cells B.slots ∧ PostX ⟨T.setVm vm₁, locs, cells, slots⟩ (Value.ref b :: argsL).toArray q B ∧
      Steps p.tables e below (T.setTop g) ((B.U.setTop { g with stack := rest }).pushFrame (.throwing q))) := by
  obtain ⟨mk, methM, hnamed, hmethM, hstM, habM⟩ := Cond.instanceMethod_spec hinst
  obtain ⟨methM', cM, hmethM', -, -, -, -, -, -, hsigM⟩ := Cond.code_spec hnamed hcode
  cases hmethM.symm.trans hmethM'
  obtain ⟨c2, r2, m2, q1, q2, q3, q4, kP, hkP, hkPi⟩ := Cond.selects_spec hsel
  cases hcls.symm.trans q1
  cases (State.methodFound?_of_named hnamed hy).symm.trans q2
  cases hnamed.symm.trans q3
  have hselP : selectMethod e.platform s.vm cellB.cls mk = .method mk := by rw [Launch.admits_selectMethod X.admits]; exact q4
  obtain ⟨vm₁, X₁, hstep₁⟩ := X.invokevirtual hexec hown hlink hnamed hmethM hstM hkP hkPi hy (a := b) (cell := cellB) hcell
    (fun z h => by rw [h] at hobj; cases hobj) hselP hmethM habM hkP hkPi (g := g) hg (argsL := argsL) (rest := rest) (hlen _ hsigM) hstack hdg
  rcases hK m meth c ⟨T.setVm vm₁, locs, cells, slots⟩ { g with stack := rest } (.invokevirtual index) mk (Value.ref b :: argsL).toArray X₁ hg hsize hdg hW (X₁.named hnamed) (hpre vm₁ X₁.warmed) with ⟨v, B, X', hpost, hsteps⟩ | ⟨q, B, X', hpost, hsteps⟩
  · exact Or.inl ⟨v, vm₁, B, X₁.warmed, X', hpost, fun target h => hstep₁ _ fun acts => by rw [doInvoke_state]; exact hsteps.trans h⟩
  · exact Or.inr ⟨q, vm₁, B, X₁.warmed, X', hpost, hstep₁ _ fun acts => by rw [doInvoke_state]; exact hsteps⟩
theorem vx_callS (X : Stand p l e R s m args below meth c T locs cells slots) (hexec : p.tables.exec = Jvm.exec) {own : String} {index : Nat} {y : MethodName} {bytes : ByteArray} {maxL : Nat} {ret : Option FieldType}
    (hown : s.vm.findClass own = some m.cls) (hlink : (Cond.methodLink own index y).before args s = true) (hstat : (Cond.static y).before args s = true) (hinit : (Cond.initialized y.cls).before args s = true)
    (hcode : (Cond.code y bytes maxL ret).before args s = true) (hy : y.cls ≠ "java/lang/invoke/MethodHandle" ∧ y.cls ≠ "java/lang/invoke/VarHandle")
    {W9 : Nat} {Pre : Pt → Array Value → Prop} {Post : Pt → Array Value → Option Value → Pt → Prop} {PostX : Pt → Array Value → Addr → Pt → Prop} (hK : vx_Back l R p e below s args y 3 W9 Pre Post PostX)
    {g : JFrame} (hg : g.method = m) (hsize : g.locals.size = c.maxLocals) {argsL rest : List Value} (hlen : ∀ sig, parseMethodDescriptor y.desc = some sig → argsL.length = sig.parameters.length)
    (hstack : g.stack = argsL.reverse ++ rest) (hW : 2 * g.monitorRoom + (rest.map fun v => v.category).sum ≤ W9) (hdg : decode c.code g.pc = .ok (.invokestatic index, 3))
    (hpre : ∀ vm₁, s.WarmedH vm₁ → Pre ⟨T.setVm vm₁, locs, cells, slots⟩ argsL.toArray) :
    (∃ (v : Option Value) (vm₁ : Vm) (B : Pt), s.WarmedH vm₁ ∧ Stand p l e R s m args below meth c B.U B.locs B.cells B.slots ∧ Post ⟨T.setVm vm₁, locs, cells, slots⟩ argsL.toArray v B ∧
      ∀ target, Steps p.tables e below (B.U.setTop { g with pc := g.pc + 3, stack := v.toList ++ rest }) target → Steps p.tables e below (T.setTop g) target) ∨
    (∃ (q : Addr) (vm₁ : Vm) (B : Pt), s.WarmedH vm₁ ∧ Stand p l e R s m args below meth c B.U B.locs B.cells B.slots ∧ PostX ⟨T.setVm vm₁, locs, cells, slots⟩ argsL.toArray q B ∧
      Steps p.tables e below (T.setTop g) ((B.U.setTop { g with stack := rest }).pushFrame (.throwing q))) := by
  obtain ⟨mk, hnamed⟩ := Cond.code_named hcode
  obtain ⟨methM, cM, hmethM, -, -, -, -, -, -, hsigM⟩ := Cond.code_spec hnamed hcode
  have hstatic : methM.isStatic = true := Cond.static_spec hnamed hmethM hstat
  obtain ⟨kP, hkP, -⟩ := className_of_methodNamed hnamed
  have hinitP : kP.init = .initialized := Cond.initialized_spec (findClass_of_methodNamed hnamed) hkP hinit
  obtain ⟨vm₁, X₁, hstep₁⟩ := X.invokestatic hexec hown hlink hnamed hmethM hstatic hkP hinitP hy (g := g) hg (argsL := argsL) (rest := rest) (hlen _ hsigM) hstack hdg
  rcases hK m meth c ⟨T.setVm vm₁, locs, cells, slots⟩ { g with stack := rest } (.invokestatic index) mk argsL.toArray X₁ hg hsize hdg hW (X₁.named hnamed) (hpre vm₁ X₁.warmed) with ⟨v, B, X', hpost, hsteps⟩ | ⟨q, B, X', hpost, hsteps⟩
  · exact Or.inl ⟨v, vm₁, B, X₁.warmed, X', hpost, fun target h => hstep₁ _ fun acts => by rw [doInvoke_state]; exact hsteps.trans h⟩
  · exact Or.inr ⟨q, vm₁, B, X₁.warmed, X', hpost, hstep₁ _ fun acts => by rw [doInvoke_state]; exact hsteps⟩
end Calls
theorem vx_cls {s : State} {T : State} {vm₁ : Vm} {E : String} {k : ClassId} (hW : s.WarmedH vm₁) (h : (T.setVm vm₁).vm.findClass E = some k) : s.vm.findClass E = some k := by
  have h1 : vm₁.findClass E = some k := h
  rw [hW.alike.findClass] at h1
  exact h1
/-- the method's frame g, with q thrown over it -/
def vx_W (p : Program) (l : Launch) (e : Env) (R : Room) (s : State) (m : MethodId) (args : Array Value) (below : List Frame) (meth : Method) (c : Code) (H : Heap) (locs : List Loc) (cells slots : Nat) (Q : State → Prop) (g : JFrame) (q : Addr) : Prop :=
  ∀ T : State, T.heap = H → Stand p l e R s m args below meth c T locs cells slots → ∃ t, Steps p.tables e below ((T.setTop g).pushFrame (.throwing q)) t ∧ Q t
def vx_Run (p : Program) (l : Launch) (e : Env) (R : Room) (s : State) (m : MethodId) (args : Array Value) (below : List Frame) (meth : Method) (c : Code) (H : Heap) (locs : List Loc) (cells slots mc ms : Nat) (g : JFrame) (rest : List Value) (Qa : State → Outcome → State → Prop) (XC : String → State → State → Prop) (free : Addr → Prop) : Prop :=
  ∀ T : State, T.heap = H → Stand p l e R s m args below meth c T locs cells slots →
    (∃ (v : Option Value) (st₀ t T' : State) (L : List Loc), st₀.heap = H ∧ Stand p l e R s m args below meth c T' (locs ++ L) (cells + mc) (slots + ms) ∧ (∀ q ∈ L, free q.base) ∧ T'.heap = t.heap ∧ T'.vm = t.vm ∧ Qa st₀ (.returned v) t ∧
      Goes p e below T g T' { g with pc := g.pc + 3, stack := v.toList ++ rest }) ∨
    (∃ (q : Addr) (st₀ t T' : State) (L : List Loc) (E : String) (ce : Cell), st₀.heap = H ∧ Stand p l e R s m args below meth c T' (locs ++ L) (cells + mc) (slots + ms) ∧ (∀ z ∈ L, free z.base) ∧ T'.heap = t.heap ∧ T'.vm = t.vm ∧ XC E st₀ t ∧ t.heap[q]? = some ce ∧ ce.vm = .none ∧ s.vm.findClass E = some ce.cls ∧
      Steps p.tables e below (T.setTop g) ((T'.setTop { g with stack := rest }).pushFrame (.throwing q)))
def vx_X {S : Type} (px : S → Prop) (B : String → S → State → Prop) (A : Nat → Prop) : String → State → State → Prop := fun E st t => ∃ u : S, px u ∧ B E u t ∧ va_F A st t
section Runs
variable {p : Program} {l : Launch} {e : Env} {R : Room} {s : State} {m : MethodId} {args : Array Value} {below : List Frame} {meth : Method} {c : Code} {H : Heap} {locs : List Loc} {cells slots : Nat}
variable {y : MethodName} {bytes cc : ByteArray} {maxL nL mc ms n index : Nat} {ret : Option FieldType} {ws : List Cond} {rm : Room} {Pc : Array Value → State → Prop} {Qc : Array Value → State → Outcome → State → Prop} {XC : String → State → State → Prop} {free : Addr → Prop} {Ts : List Cond} {own C : String} {b : Addr} {As rest : List Value} {g : JFrame}
theorem vx_callBack (cb : CallB R s args own index y bytes maxL ret ws rm mc ms n) (hM : vx_Met l y ws rm Pc Qc XC mc ms free) (hbl : FrameBlind Pc) : vx_Back l R p e below s args y 3 8 (PreOf R mc ms Pc) (PostOf Qc mc ms free) (vx_Post XC mc ms free) := by
  obtain ⟨hrc, hrs, hfr, hlo, hws, hcw, -, hini, -⟩ := cb
  exact vx_back (bytes := bytes) (maxL := maxL) (ret := ret) hM hbl hrc hrs hfr hlo hws hcw (fun a' U hW => word_at hW (Or.inl (by first | rfl | simp [Cond.onTables, Cond.keeps, Cond.steady])) hini)
theorem vx_runV (S : CallFix p m c cc nL s args Ts own) (hM : vx_Met l y ws rm Pc Qc XC mc ms free) (cw : CallW R s args own C index y bytes maxL ret ws rm mc ms n) (hp : PreV s H C b Pc As)
    (hg : g.method = m) (hn : As.length = n) (hsize : g.locals.size = nL) (hstack : g.stack = As.reverse ++ .ref b :: rest) (hW : 2 * g.monitorRoom + (rest.map fun v => v.category).sum ≤ 8) (hdg : decode cc g.pc = .ok (.invokevirtual index, 3)) (hf : cells + mc ≤ R.cells ∧ slots + ms ≤ R.slots) :
    vx_Run p l e R s m args below meth c H locs cells slots mc ms g rest (Qc (Value.ref b :: As).toArray) XC free := by
  have hK : vx_Back l R p e below s args y 3 8 (PreOf R mc ms Pc) (PostOf Qc mc ms free) (vx_Post XC mc ms free) := vx_callBack cw.1 hM hp.1
  obtain ⟨⟨-, -, -, -, -, -, hcode, -, hy, hlen, hl⟩, hin, hse⟩ := cw
  obtain ⟨hx, hb, hml, ho, -⟩ := S
  obtain ⟨-, ⟨cellB, hcB, hoB, hclB⟩, hPc⟩ := hp
  intro T hT X
  rcases vx_callV X hx (C := C) (bytes := bytes) (maxL := maxL) (ret := ret) ho hl hin hse hcode hy hK (by rw [hT]; exact hcB) hoB hclB hg (hsize.trans hml.symm) (argsL := As) (rest := rest) (fun sig h => hn.trans (hlen sig h)) hstack hW (by rw [hb]; exact hdg)
    (fun vm₁ hW₁ => ⟨hf.1, hf.2, hPc (T.setVm vm₁) hT hW₁⟩) with ⟨v, vm₁, ⟨U', l2, c2, s2⟩, hW₁, X', ⟨g', mk, t, L, e1, e2, hq, h1, hL, h2, h3⟩, st⟩ | ⟨q, vm₁, ⟨U', l2, c2, s2⟩, hW₁, X', ⟨g', mk, t, L, E, ce, e1, e2, hq, hce, hcv, hcl, h1, hL, h2, h3⟩, st⟩
  · dsimp only [Pt.U, Pt.locs, Pt.cells, Pt.slots] at X' e1 e2 h1 h2 h3 st
    subst h1; subst h2; subst h3
    exact Or.inl ⟨v, (T.setVm vm₁).calling g' mk (Value.ref b :: As).toArray, t, U', L, hT, X', hL, e1, e2, hq, st⟩
  · dsimp only [Pt.U, Pt.locs, Pt.cells, Pt.slots] at X' e1 e2 h1 h2 h3 st hcl
    subst h1; subst h2; subst h3
    exact Or.inr ⟨q, (T.setVm vm₁).calling g' mk (Value.ref b :: As).toArray, t, U', L, E, ce, hT, X', hL, e1, e2, hq, hce, hcv, vx_cls hW₁ hcl, st⟩
theorem vx_runS (S : CallFix p m c cc nL s args Ts own) (hM : vx_Met l y ws rm Pc Qc XC mc ms free) (cw : CallB R s args own index y bytes maxL ret ws rm mc ms n ∧ (Cond.static y).before args s = true) (hp : PreS s H Pc As)
    (hg : g.method = m) (hn : As.length = n) (hsize : g.locals.size = nL) (hstack : g.stack = As.reverse ++ rest) (hW : 2 * g.monitorRoom + (rest.map fun v => v.category).sum ≤ 8) (hdg : decode cc g.pc = .ok (.invokestatic index, 3)) (hf : cells + mc ≤ R.cells ∧ slots + ms ≤ R.slots) :
    vx_Run p l e R s m args below meth c H locs cells slots mc ms g rest (Qc As.toArray) XC free := by
  have hK : vx_Back l R p e below s args y 3 8 (PreOf R mc ms Pc) (PostOf Qc mc ms free) (vx_Post XC mc ms free) := vx_callBack cw.1 hM hp.1
  obtain ⟨⟨-, -, -, -, -, -, hcode, hini, hy, hlen, hl⟩, hstt⟩ := cw
  obtain ⟨hx, hb, hml, ho, -⟩ := S
  intro T hT X
  rcases vx_callS X hx (bytes := bytes) (maxL := maxL) (ret := ret) ho hl hstt hini hcode hy hK hg (hsize.trans hml.symm) (argsL := As) (rest := rest) (fun sig h => hn.trans (hlen sig h)) hstack hW (by rw [hb]; exact hdg)
    (fun vm₁ hW₁ => ⟨hf.1, hf.2, hp.2 (T.setVm vm₁) hT hW₁⟩) with ⟨v, vm₁, ⟨U', l2, c2, s2⟩, hW₁, X', ⟨g', mk, t, L, e1, e2, hq, h1, hL, h2, h3⟩, st⟩ | ⟨q, vm₁, ⟨U', l2, c2, s2⟩, hW₁, X', ⟨g', mk, t, L, E, ce, e1, e2, hq, hce, hcv, hcl, h1, hL, h2, h3⟩, st⟩
  · dsimp only [Pt.U, Pt.locs, Pt.cells, Pt.slots] at X' e1 e2 h1 h2 h3 st
    subst h1; subst h2; subst h3
    exact Or.inl ⟨v, (T.setVm vm₁).calling g' mk As.toArray, t, U', L, hT, X', hL, e1, e2, hq, st⟩
  · dsimp only [Pt.U, Pt.locs, Pt.cells, Pt.slots] at X' e1 e2 h1 h2 h3 st hcl
    subst h1; subst h2; subst h3
    exact Or.inr ⟨q, (T.setVm vm₁).calling g' mk As.toArray, t, U', L, E, ce, hT, X', hL, e1, e2, hq, hce, hcv, vx_cls hW₁ hcl, st⟩
end Runs
section Rows
variable {p : Program} {l : Launch} {e : Env} {R : Room} {s : State} {m : MethodId} {args : Array Value} {below : List Frame} {meth : Method} {c : Code} {H : Heap} {locs : List Loc} {cells slots : Nat} {Q : State → Prop}
variable {mc ms : Nat} {free : Addr → Prop} {A0 A1 : Nat → Prop} {H0 : Heap} {a : Array Value} {pc : Nat} {ls : Array Slot} {st0 rest : List Value}
theorem vx_keep {st₀ t T' : State} {L : List Loc} (h0 : st₀.heap = H) (e1 : T'.heap = t.heap) (hS : va_S A0 H0 H locs) (hA : ∀ q, q < H.size → A1 q → A0 q) (hf : ∀ q, free q → A0 q) (hL : ∀ q ∈ L, free q.base) (hF : va_F A1 st₀ t) :
    H.size ≤ T'.heap.size ∧ (∀ q : Nat, q < H.size → ¬ A1 q → T'.heap[q]? = H[q]?) ∧ va_S A0 H0 T'.heap (locs ++ L) := by
  obtain ⟨hz, hk⟩ := hF
  rw [h0] at hz hk
  exact ⟨by rw [e1]; exact hz, fun q h1 h2 => by rw [e1]; exact hk q h1 h2,
    ⟨Nat.le_trans hS.1 (by rw [e1]; exact hz), fun q h1 h2 => by rw [e1, hk q (Nat.lt_of_lt_of_le h1 hS.1) (fun z => h2 (hA q (Nat.lt_of_lt_of_le h1 hS.1) z))]; exact hS.2.1 q h1 h2, fun q hq => by
      rcases List.mem_append.mp hq with h | h
      · exact hS.2.2 q h
      · exact hf _ (hL q h)⟩⟩
theorem vx_calli {S SX : Type} {post : Int32 → S → Prop} {px : SX → Prop} {B : S → State → Prop} {BX : String → SX → State → Prop} {AX : Nat → Prop} (hr : vx_Run p l e R s m args below meth c H locs cells slots mc ms (F0 m pc ls st0) rest (va_Qi post B A1 a) (vx_X px BX AX) free) (hS : va_S A0 H0 H locs) (hA : ∀ q, q < H.size → A1 q → A0 q) (hf : ∀ q, free q → A0 q) (hAX : ∀ q, q < H.size → AX q → A0 q)
    (kx : ∀ (E : String) (ce : Cell) (q9 : Addr) (u : SX) (t : State) (H1 : Heap) (locs1 : List Loc), t.heap = H1 → s.vm.Alike t.vm → px u → BX E u t → H.size ≤ H1.size → (∀ q : Nat, q < H.size → ¬ AX q → H1[q]? = H[q]?) → va_S A0 H0 H1 locs1 → H1[q9]? = some ce → ce.vm = .none → s.vm.findClass E = some ce.cls → vx_W p l e R s m args below meth c H1 locs1 (cells + mc) (slots + ms) Q (F0 m pc ls rest) q9)
    (kk : ∀ (r : Int32) (u : S) (t : State) (H1 : Heap) (locs1 : List Loc), t.heap = H1 → s.vm.Alike t.vm → post r u → B u t → H.size ≤ H1.size → (∀ q : Nat, q < H.size → ¬ A1 q → H1[q]? = H[q]?) → va_S A0 H0 H1 locs1 → W p l e R s m args below meth c H1 locs1 (cells + mc) (slots + ms) Q (F0 m (pc + 3) ls (.int r :: rest))) : W p l e R s m args below meth c H locs cells slots Q (F0 m pc ls st0) := by
  intro T hT X
  rcases hr T hT X with ⟨v, st₀, t, T', L, h0, X', hL, e1, e2, ⟨⟨r, u, hv, hp, hb⟩, hF⟩, st⟩ | ⟨q, st₀, t, T', L, E, ce, h0, X', hL, e1, e2, ⟨u, hp, hb, hF⟩, hce, hcv, hcl, st⟩
  · cases hv
    obtain ⟨k1, k2, k3⟩ := vx_keep h0 e1 hS hA hf hL hF
    obtain ⟨t2, a1, b1⟩ := kk r u t T'.heap (locs ++ L) e1.symm (by rw [← e2]; exact X'.warmed.alike) hp hb k1 k2 k3 T' rfl X'
    exact ⟨t2, st t2 a1, b1⟩
  · obtain ⟨k1, k2, k3⟩ := vx_keep h0 e1 hS hAX hf hL hF
    obtain ⟨t2, a1, b1⟩ := kx E ce q u t T'.heap (locs ++ L) e1.symm (by rw [← e2]; exact X'.warmed.alike) hp hb k1 k2 k3 (by rw [e1]; exact hce) hcv hcl T' rfl X'
    exact ⟨t2, st.trans a1, b1⟩
theorem vx_calll {S SX : Type} {post : Int64 → S → Prop} {px : SX → Prop} {B : S → State → Prop} {BX : String → SX → State → Prop} {AX : Nat → Prop} (hr : vx_Run p l e R s m args below meth c H locs cells slots mc ms (F0 m pc ls st0) rest (va_Ql post B A1 a) (vx_X px BX AX) free) (hS : va_S A0 H0 H locs) (hA : ∀ q, q < H.size → A1 q → A0 q) (hf : ∀ q, free q → A0 q) (hAX : ∀ q, q < H.size → AX q → A0 q)
    (kx : ∀ (E : String) (ce : Cell) (q9 : Addr) (u : SX) (t : State) (H1 : Heap) (locs1 : List Loc), t.heap = H1 → s.vm.Alike t.vm → px u → BX E u t → H.size ≤ H1.size → (∀ q : Nat, q < H.size → ¬ AX q → H1[q]? = H[q]?) → va_S A0 H0 H1 locs1 → H1[q9]? = some ce → ce.vm = .none → s.vm.findClass E = some ce.cls → vx_W p l e R s m args below meth c H1 locs1 (cells + mc) (slots + ms) Q (F0 m pc ls rest) q9)
    (kk : ∀ (r : Int64) (u : S) (t : State) (H1 : Heap) (locs1 : List Loc), t.heap = H1 → s.vm.Alike t.vm → post r u → B u t → H.size ≤ H1.size → (∀ q : Nat, q < H.size → ¬ A1 q → H1[q]? = H[q]?) → va_S A0 H0 H1 locs1 → W p l e R s m args below meth c H1 locs1 (cells + mc) (slots + ms) Q (F0 m (pc + 3) ls (.long r :: rest))) : W p l e R s m args below meth c H locs cells slots Q (F0 m pc ls st0) := by
  intro T hT X
  rcases hr T hT X with ⟨v, st₀, t, T', L, h0, X', hL, e1, e2, ⟨⟨r, u, hv, hp, hb⟩, hF⟩, st⟩ | ⟨q, st₀, t, T', L, E, ce, h0, X', hL, e1, e2, ⟨u, hp, hb, hF⟩, hce, hcv, hcl, st⟩
  · cases hv
    obtain ⟨k1, k2, k3⟩ := vx_keep h0 e1 hS hA hf hL hF
    obtain ⟨t2, a1, b1⟩ := kk r u t T'.heap (locs ++ L) e1.symm (by rw [← e2]; exact X'.warmed.alike) hp hb k1 k2 k3 T' rfl X'
    exact ⟨t2, st t2 a1, b1⟩
  · obtain ⟨k1, k2, k3⟩ := vx_keep h0 e1 hS hAX hf hL hF
    obtain ⟨t2, a1, b1⟩ := kx E ce q u t T'.heap (locs ++ L) e1.symm (by rw [← e2]; exact X'.warmed.alike) hp hb k1 k2 k3 (by rw [e1]; exact hce) hcv hcl T' rfl X'
    exact ⟨t2, st.trans a1, b1⟩
theorem vx_callf {S SX : Type} {post : UInt32 → S → Prop} {px : SX → Prop} {B : S → State → Prop} {BX : String → SX → State → Prop} {AX : Nat → Prop} (hr : vx_Run p l e R s m args below meth c H locs cells slots mc ms (F0 m pc ls st0) rest (va_Qf post B A1 a) (vx_X px BX AX) free) (hS : va_S A0 H0 H locs) (hA : ∀ q, q < H.size → A1 q → A0 q) (hf : ∀ q, free q → A0 q) (hAX : ∀ q, q < H.size → AX q → A0 q)
    (kx : ∀ (E : String) (ce : Cell) (q9 : Addr) (u : SX) (t : State) (H1 : Heap) (locs1 : List Loc), t.heap = H1 → s.vm.Alike t.vm → px u → BX E u t → H.size ≤ H1.size → (∀ q : Nat, q < H.size → ¬ AX q → H1[q]? = H[q]?) → va_S A0 H0 H1 locs1 → H1[q9]? = some ce → ce.vm = .none → s.vm.findClass E = some ce.cls → vx_W p l e R s m args below meth c H1 locs1 (cells + mc) (slots + ms) Q (F0 m pc ls rest) q9)
    (kk : ∀ (r : UInt32) (u : S) (t : State) (H1 : Heap) (locs1 : List Loc), t.heap = H1 → s.vm.Alike t.vm → post r u → B u t → H.size ≤ H1.size → (∀ q : Nat, q < H.size → ¬ A1 q → H1[q]? = H[q]?) → va_S A0 H0 H1 locs1 → W p l e R s m args below meth c H1 locs1 (cells + mc) (slots + ms) Q (F0 m (pc + 3) ls (.float r :: rest))) : W p l e R s m args below meth c H locs cells slots Q (F0 m pc ls st0) := by
  intro T hT X
  rcases hr T hT X with ⟨v, st₀, t, T', L, h0, X', hL, e1, e2, ⟨⟨r, u, hv, hp, hb⟩, hF⟩, st⟩ | ⟨q, st₀, t, T', L, E, ce, h0, X', hL, e1, e2, ⟨u, hp, hb, hF⟩, hce, hcv, hcl, st⟩
  · cases hv
    obtain ⟨k1, k2, k3⟩ := vx_keep h0 e1 hS hA hf hL hF
    obtain ⟨t2, a1, b1⟩ := kk r u t T'.heap (locs ++ L) e1.symm (by rw [← e2]; exact X'.warmed.alike) hp hb k1 k2 k3 T' rfl X'
    exact ⟨t2, st t2 a1, b1⟩
  · obtain ⟨k1, k2, k3⟩ := vx_keep h0 e1 hS hAX hf hL hF
    obtain ⟨t2, a1, b1⟩ := kx E ce q u t T'.heap (locs ++ L) e1.symm (by rw [← e2]; exact X'.warmed.alike) hp hb k1 k2 k3 (by rw [e1]; exact hce) hcv hcl T' rfl X'
    exact ⟨t2, st.trans a1, b1⟩
theorem vx_calld {S SX : Type} {post : UInt64 → S → Prop} {px : SX → Prop} {B : S → State → Prop} {BX : String → SX → State → Prop} {AX : Nat → Prop} (hr : vx_Run p l e R s m args below meth c H locs cells slots mc ms (F0 m pc ls st0) rest (va_Qd post B A1 a) (vx_X px BX AX) free) (hS : va_S A0 H0 H locs) (hA : ∀ q, q < H.size → A1 q → A0 q) (hf : ∀ q, free q → A0 q) (hAX : ∀ q, q < H.size → AX q → A0 q)
    (kx : ∀ (E : String) (ce : Cell) (q9 : Addr) (u : SX) (t : State) (H1 : Heap) (locs1 : List Loc), t.heap = H1 → s.vm.Alike t.vm → px u → BX E u t → H.size ≤ H1.size → (∀ q : Nat, q < H.size → ¬ AX q → H1[q]? = H[q]?) → va_S A0 H0 H1 locs1 → H1[q9]? = some ce → ce.vm = .none → s.vm.findClass E = some ce.cls → vx_W p l e R s m args below meth c H1 locs1 (cells + mc) (slots + ms) Q (F0 m pc ls rest) q9)
    (kk : ∀ (r : UInt64) (u : S) (t : State) (H1 : Heap) (locs1 : List Loc), t.heap = H1 → s.vm.Alike t.vm → post r u → B u t → H.size ≤ H1.size → (∀ q : Nat, q < H.size → ¬ A1 q → H1[q]? = H[q]?) → va_S A0 H0 H1 locs1 → W p l e R s m args below meth c H1 locs1 (cells + mc) (slots + ms) Q (F0 m (pc + 3) ls (.double r :: rest))) : W p l e R s m args below meth c H locs cells slots Q (F0 m pc ls st0) := by
  intro T hT X
  rcases hr T hT X with ⟨v, st₀, t, T', L, h0, X', hL, e1, e2, ⟨⟨r, u, hv, hp, hb⟩, hF⟩, st⟩ | ⟨q, st₀, t, T', L, E, ce, h0, X', hL, e1, e2, ⟨u, hp, hb, hF⟩, hce, hcv, hcl, st⟩
  · cases hv
    obtain ⟨k1, k2, k3⟩ := vx_keep h0 e1 hS hA hf hL hF
    obtain ⟨t2, a1, b1⟩ := kk r u t T'.heap (locs ++ L) e1.symm (by rw [← e2]; exact X'.warmed.alike) hp hb k1 k2 k3 T' rfl X'
    exact ⟨t2, st t2 a1, b1⟩
  · obtain ⟨k1, k2, k3⟩ := vx_keep h0 e1 hS hAX hf hL hF
    obtain ⟨t2, a1, b1⟩ := kx E ce q u t T'.heap (locs ++ L) e1.symm (by rw [← e2]; exact X'.warmed.alike) hp hb k1 k2 k3 (by rw [e1]; exact hce) hcv hcl T' rfl X'
    exact ⟨t2, st.trans a1, b1⟩
theorem vx_callv {S SX : Type} {post : S → Prop} {px : SX → Prop} {B : S → State → Prop} {BX : String → SX → State → Prop} {AX : Nat → Prop} (hr : vx_Run p l e R s m args below meth c H locs cells slots mc ms (F0 m pc ls st0) rest (va_Qv post B A1 a) (vx_X px BX AX) free) (hS : va_S A0 H0 H locs) (hA : ∀ q, q < H.size → A1 q → A0 q) (hf : ∀ q, free q → A0 q) (hAX : ∀ q, q < H.size → AX q → A0 q)
    (kx : ∀ (E : String) (ce : Cell) (q9 : Addr) (u : SX) (t : State) (H1 : Heap) (locs1 : List Loc), t.heap = H1 → s.vm.Alike t.vm → px u → BX E u t → H.size ≤ H1.size → (∀ q : Nat, q < H.size → ¬ AX q → H1[q]? = H[q]?) → va_S A0 H0 H1 locs1 → H1[q9]? = some ce → ce.vm = .none → s.vm.findClass E = some ce.cls → vx_W p l e R s m args below meth c H1 locs1 (cells + mc) (slots + ms) Q (F0 m pc ls rest) q9)
    (kk : ∀ (u : S) (t : State) (H1 : Heap) (locs1 : List Loc), t.heap = H1 → s.vm.Alike t.vm → post u → B u t → H.size ≤ H1.size → (∀ q : Nat, q < H.size → ¬ A1 q → H1[q]? = H[q]?) → va_S A0 H0 H1 locs1 → W p l e R s m args below meth c H1 locs1 (cells + mc) (slots + ms) Q (F0 m (pc + 3) ls (rest))) : W p l e R s m args below meth c H locs cells slots Q (F0 m pc ls st0) := by
  intro T hT X
  rcases hr T hT X with ⟨v, st₀, t, T', L, h0, X', hL, e1, e2, ⟨⟨u, hv, hp, hb⟩, hF⟩, st⟩ | ⟨q, st₀, t, T', L, E, ce, h0, X', hL, e1, e2, ⟨u, hp, hb, hF⟩, hce, hcv, hcl, st⟩
  · cases hv
    obtain ⟨k1, k2, k3⟩ := vx_keep h0 e1 hS hA hf hL hF
    obtain ⟨t2, a1, b1⟩ := kk u t T'.heap (locs ++ L) e1.symm (by rw [← e2]; exact X'.warmed.alike) hp hb k1 k2 k3 T' rfl X'
    exact ⟨t2, st t2 a1, b1⟩
  · obtain ⟨k1, k2, k3⟩ := vx_keep h0 e1 hS hAX hf hL hF
    obtain ⟨t2, a1, b1⟩ := kx E ce q u t T'.heap (locs ++ L) e1.symm (by rw [← e2]; exact X'.warmed.alike) hp hb k1 k2 k3 (by rw [e1]; exact hce) hcv hcl T' rfl X'
    exact ⟨t2, st.trans a1, b1⟩
end Rows
section Ends
variable {p : Program} {l : Launch} {e : Env} {R : Room} {s : State} {m : MethodId} {args : Array Value} {below : List Frame} {meth : Method} {c : Code} {H : Heap} {locs : List Loc} {cells slots : Nat} {Q : State → Prop}
variable {mc ms : Nat} {free : Addr → Prop} {A0 A1 : Nat → Prop} {H0 : Heap} {a : Array Value} {ls : Array Slot} {st0 rest : List Value}
variable {Qc : Array Value → State → Outcome → State → Prop} {XC : String → State → State → Prop}
/-- what a body that may throw owes at its end -/
def vx_MQ (below : List Frame) (Qc : Array Value → State → Outcome → State → Prop) (XC : String → State → State → Prop) (a : Array Value) (s : State) (mc ms : Nat) (free : Addr → Prop) : State → Prop := fun t =>
  ∃ o, t.status = .running ∧ Ended t below o ∧ vx_Q Qc XC mc ms free a s o t
theorem vx_ret {g : JFrame} {mc ms : Nat} (k : W p l e R s m args below meth c H locs cells slots (MQ below Qc args s mc ms free) g) : W p l e R s m args below meth c H locs cells slots (vx_MQ below Qc XC args s mc ms free) g := by
  intro T hT X
  obtain ⟨t, a1, o, b1, b2, b3, b4⟩ := k T hT X
  exact ⟨t, a1, o, b1, b2, Or.inl ⟨b3, b4⟩⟩
/-- not caught here: it goes on to the caller -/
theorem vx_widen {g : JFrame} {q : Addr} {k n : Nat} (h1 : cells ≤ k) (h2 : slots ≤ n) (kk : vx_W p l e R s m args below meth c H locs k n Q g q) : vx_W p l e R s m args below meth c H locs cells slots Q g q := fun T hT X => kk T hT (stand_widen X h1 h2)
theorem vx_out {pc : Nat} {E : String} {ce : Cell} {q : Addr} {mc ms : Nat} (hout : ∀ x ∈ c.exceptionTable.toList, covers x pc = false) (hlocks : meth.locks = false) (hcell : H[q]? = some ce) (hv : ce.vm = .none) (hcl : s.vm.findClass E = some ce.cls)
    (hx : ∀ t : State, t.heap = H → s.vm.Alike t.vm → XC E s t) (hf : ∀ z ∈ locs, free z.base) (hc : cells ≤ mc) (hs : slots ≤ ms) :
    vx_W p l e R s m args below meth c H locs cells slots (vx_MQ below Qc XC args s mc ms free) (F0 m pc ls rest) q := by
  intro T hT X
  obtain ⟨st1, hrun, hend, hW, hsm⟩ := X.leaveThrown q (g := F0 m pc ls rest) rfl rfl rfl hout hlocks
  have hcell9 : (T.setFrames (.throwing q :: below)).heap[q]? = some ce := by
    show T.heap[q]? = some ce
    rw [hT]; exact hcell
  exact ⟨_, st1, .threw q, hrun, hend, Or.inr ⟨q, rfl, E, ce, locs, hx _ hT hW.alike, hcell9, hv, hcl, hW, hsm.mono hc hs, hf⟩⟩
theorem vx_frame {U : State} {k n : Nat} (h : s.sameButNew ({ U with vm := s.vm } : State) locs k n) : s.heap.size ≤ U.heap.size ∧ ∀ q : Nat, q < s.heap.size → (∀ z ∈ locs, z.base ≠ q) → U.heap[q]? = s.heap[q]? := by
  obtain ⟨-, h2, -, -, -, h6⟩ := h
  refine ⟨h2, fun q hq hz => ?_⟩
  obtain ⟨c9, e1, e2, e3, e4⟩ := h6 q _ (Array.getElem?_eq_getElem hq)
  have hs : c9.slots = (s.heap[q]).slots := Array.ext_getElem? fun i => e4 i fun hm => hz _ hm rfl
  have h9 : c9 = s.heap[q] := by
    rw [hs] at e2
    exact e2
  have e5 : U.heap[q]? = some c9 := e1
  rw [e5, h9, Array.getElem?_eq_getElem hq]
/-- the words of a throw but the four that speak of the heap -/
def vx_no (w : Cond) : Bool := decide (w ≠ .isRef (.static Bundle.tN "UNASSIGNED_STACK" Bundle.steD)) && decide (w ≠ .isRef (.static Bundle.tN "SUPPRESSED_SENTINEL" Bundle.listD)) && decide (w ≠ .laysStatic Bundle.tN "UNASSIGNED_STACK" Bundle.steD) && decide (w ≠ .laysStatic Bundle.tN "SUPPRESSED_SENTINEL" Bundle.listD)
def vx_at0 (own : String) (ic : Nat) (X : String) (names : List String) : List Cond := (Bundle.ownAtoms0 own ic X names).filter vx_no
def vx_atS (own : String) (ic : Nat) (X : String) (names : List String) : List Cond := (Bundle.ownAtoms own ic X names).filter vx_no
/-- a word that the tables alone decide, or a good one -/
def vx_ot (w : Cond) : Bool := w.onTables || goodWord w
theorem vx_ot_at {args a' : Array Value} {s U : State} {w : Cond} (hW : s.WarmedH U.vm) (hvm : s.vm = U.vm) (hg : vx_ot w = true) (h : w.before args s = true) : w.before a' U = true := by
  simp only [vx_ot, Bool.or_eq_true] at hg
  rcases hg with hg | hg
  · exact va_tabs hg hvm h
  · exact word_at hW (good_of_word hg) h
/-- a list's words: the good ones out of the method's own list, the others by premises of their own -/
theorem vx_hat {args : Array Value} {s : State} {L B : List Cond} (h1 : ∀ w ∈ L.filter goodWord, w.before args s = true) (h2 : ∀ w ∈ L.filter (fun w => !goodWord w), w ∈ B) (h3 : ∀ w ∈ B, w.before args s = true) : ∀ w ∈ L, w.before args s = true := by
  intro w hw
  by_cases g : goodWord w = true
  · exact h1 w (List.mem_filter.mpr ⟨hw, g⟩)
  · refine h3 w (h2 w (List.mem_filter.mpr ⟨hw, ?_⟩))
    show (!goodWord w) = true
    cases hgw : goodWord w
    · rfl
    · exact absurd hgw g
theorem vx_c {args : Array Value} {s : State} {w : Cond} {B : List Cond} (h : w.before args s = true) (t : ∀ w ∈ B, w.before args s = true) : ∀ w' ∈ w :: B, w'.before args s = true := fun w' h' => (List.mem_cons.mp h').elim (fun e => by rw [e]; exact h) (t w')
theorem vx_n {args : Array Value} {s : State} : ∀ w ∈ ([] : List Cond), w.before args s = true := fun _ h => nomatch h
theorem vx_own {args : Array Value} {s : State} {L : List Cond} (h1 : ∀ w ∈ L.filter vx_no, w.before args s = true)
    (hU : (Cond.isRef (.static Bundle.tN "UNASSIGNED_STACK" Bundle.steD)).before args s = true) (hN : (Cond.isRef (.static Bundle.tN "SUPPRESSED_SENTINEL" Bundle.listD)).before args s = true)
    (lU : (Cond.laysStatic Bundle.tN "UNASSIGNED_STACK" Bundle.steD).before args s = true) (lN : (Cond.laysStatic Bundle.tN "SUPPRESSED_SENTINEL" Bundle.listD).before args s = true) : ∀ w ∈ L, w.before args s = true := by
  intro w hw
  by_cases e1 : w = .isRef (.static Bundle.tN "UNASSIGNED_STACK" Bundle.steD)
  · rw [e1]; exact hU
  · by_cases e2 : w = .isRef (.static Bundle.tN "SUPPRESSED_SENTINEL" Bundle.listD)
    · rw [e2]; exact hN
    · by_cases e3 : w = .laysStatic Bundle.tN "UNASSIGNED_STACK" Bundle.steD
      · rw [e3]; exact lU
      · by_cases e4 : w = .laysStatic Bundle.tN "SUPPRESSED_SENTINEL" Bundle.listD
        · rw [e4]; exact lN
        · exact h1 w (List.mem_filter.mpr ⟨hw, by unfold vx_no; rw [decide_eq_true e1, decide_eq_true e2, decide_eq_true e3, decide_eq_true e4]; rfl⟩)
/-- where a static field lies, its class's statics cell in H -/
def vx_L (C n d : String) (A : Nat → Prop) (U : State) (H : Heap) : Prop := ∃ (c : ClassId) (k : Class) (i : Nat) (f : Field) (a : Nat) (cell : Cell), U.vm.findClass C = some c ∧ U.fieldFound? C n d = some (c, k, i, f) ∧ f.isStatic = true ∧ k.statics = some a ∧ H[a]? = some cell ∧ cell.vm.isStatics = true ∧ cell.cls = c ∧ f.slot < cell.slots.size ∧ k.staticTypes[f.slot]? = some f.type ∧ ¬ A a
theorem vx_L.moved {C n d : String} {A : Nat → Prop} {u U : State} {H : Heap} (hvm : u.vm.Alike U.vm) (h : vx_L C n d A u H) : vx_L C n d A U H := by
  obtain ⟨c, k, i, f, a, cell, h1, h2, h3, h4, h5, h6, h7, h8, h9, h10⟩ := h
  obtain ⟨k', hi', he⟩ := State.fieldFound?_setVm hvm h2
  exact ⟨c, k', i, f, a, cell, by rw [hvm.findClass]; exact h1, hi', h3, by rw [he]; exact h4, h5, h6, h7, h8, by rw [he]; exact h9, h10⟩
theorem vx_L.kept {C n d : String} {A : Nat → Prop} {U : State} {H H1 : Heap} (h : vx_L C n d A U H) (hq : ∀ a : Nat, a < H.size → ¬ A a → H1[a]? = H[a]?) : vx_L C n d A U H1 := by
  obtain ⟨c, k, i, f, a, cell, h1, h2, h3, h4, h5, h6, h7, h8, h9, h10⟩ := h
  exact ⟨c, k, i, f, a, cell, h1, h2, h3, h4, by rw [hq a (Array.getElem?_eq_some_iff.mp h5).1 h10]; exact h5, h6, h7, h8, h9, h10⟩
theorem vx_L.narrow {C n d : String} {A B : Nat → Prop} {U : State} {H : Heap} (h : vx_L C n d A U H) (hAB : ∀ q, B q → A q) : vx_L C n d B U H := by
  obtain ⟨c, k, i, f, a, cell, h1, h2, h3, h4, h5, h6, h7, h8, h9, h10⟩ := h
  exact ⟨c, k, i, f, a, cell, h1, h2, h3, h4, h5, h6, h7, h8, h9, fun z => h10 (hAB _ z)⟩
theorem vx_L.word {C n d : String} {A : Nat → Prop} {s : State} {args : Array Value} (h : vx_L C n d A s s.heap) : (Cond.laysStatic C n d).before args s = true := by
  obtain ⟨c, k, i, f, a, cell, h1, h2, h3, h4, h5, h6, h7, h8, h9, -⟩ := h
  show (Cond.laysStatic C n d).holds args s none s [] = true
  exact Cond.laysStatic_of h1 h2 h3 h4 h5 h6 h7 h8 h9
/-- .. and what it holds: null or some reference -/
def vx_Zq (C n d : String) (A : Nat → Prop) (U : State) (H : Heap) : Prop := va_Zq C n d A U H ∧ vx_L C n d A U H
theorem vx_Zq.moved {C n d : String} {A : Nat → Prop} {u U : State} {H : Heap} (hvm : u.vm.Alike U.vm) (h : vx_Zq C n d A u H) : vx_Zq C n d A U H := ⟨va_Zq.moved hvm h.1, vx_L.moved hvm h.2⟩
theorem vx_Zq.kept {C n d : String} {A : Nat → Prop} {U : State} {H H1 : Heap} (h : vx_Zq C n d A U H) (hq : ∀ a : Nat, a < H.size → ¬ A a → H1[a]? = H[a]?) : vx_Zq C n d A U H1 := ⟨va_Zq.kept h.1 hq, vx_L.kept h.2 hq⟩
theorem vx_Zq.narrow {C n d : String} {A B : Nat → Prop} {U : State} {H : Heap} (h : vx_Zq C n d A U H) (hAB : ∀ q, B q → A q) : vx_Zq C n d B U H := ⟨va_Zq.narrow h.1 hAB, vx_L.narrow h.2 hAB⟩
theorem vx_Zqof {args : Array Value} {s : State} {C n d : String} {A : Nat → Prop} (hl : (Cond.laysStatic C n d).before args s = true) (hini : (Cond.initialized C).before args s = true) (h : (Cond.isRef (.static C n d)).before args s = true) (hA : ∀ a : Nat, a < s.heap.size → ¬ A a) : vx_Zq C n d A s s.heap := by
  refine ⟨va_Zqof hl hini h hA, ?_⟩
  obtain ⟨c, k, i, f, a, cell, h1, h2, h3, h4, h5, h6, h7, h8, h9⟩ := Cond.laysStatic_spec hl
  exact ⟨c, k, i, f, a, cell, h1, h2, h3, h4, h5, h6, h7, h8, h9, hA a (Array.getElem?_eq_some_iff.mp h5).1⟩
theorem vx_isRef {C n d : String} {v : Value} {A : Nat → Prop} {s : State} {args : Array Value} (h : va_Z C n d v A s s.heap) (hv : v.isRef = true) : (Cond.isRef (.static C n d)).before args s = true := by
  obtain ⟨cf, kf, fi, f, a, cell, h1, h2, h3, h4, h5, h6, h7, -⟩ := h
  have he : (Term.static C n d).eval args s none [] s = some v := by
    simp [Term.eval, State.fieldNamed?, h1, h2, h4, h5, h6, h7]
  simp only [Cond.before, Cond.holds, Cond.value, he]
  cases v <;> simp_all [Value.isRef]
theorem vx_isRefq {C n d : String} {A : Nat → Prop} {s : State} {args : Array Value} (h : va_Zq C n d A s s.heap) : (Cond.isRef (.static C n d)).before args s = true := by
  rcases h with h | ⟨t, h⟩
  · exact vx_isRef h rfl
  · exact vx_isRef h rfl
/-- the same frame, seen from here: as if the method were called anew in this heap -/
theorem vx_rebase {T : State} (X : Stand p l e R s m args below meth c T locs cells slots) {R' : Room} (hf : R'.frames ≤ R.frames) (hl : R'.locals ≤ R.locals) (hc : cells + R'.cells ≤ R.cells) (hs : slots + R'.slots ≤ R.slots) :
    Stand p l e R' ((T.setVm s.vm).setFrames (.invoking m args :: below)) m args below meth c T [] 0 0 := by
  have htop : (T.setVm s.vm).topJava?.isSome := X.here.top
  have hF : ((T.setVm s.vm).setFrames (.invoking m args :: below)).frames = .invoking m args :: below := State.frames_setFrames _ (State.cur_lt_of_top htop)
  obtain ⟨g₀, hg0⟩ := Option.isSome_iff_exists.mp htop
  obtain ⟨r, hr⟩ := State.topJava?_eq_some.mp hg0
  have hl9 : e.platform.stackLimits (T.setVm s.vm).me = e.platform.stackLimits s.me := X.limits
  have hb9 : (T.setVm s.vm).me.stackBytes = s.me.stackBytes := X.bytes
  refine ⟨X.admits, X.cas, X.clock, hF, ?_, X.hears, X.method, X.code, X.here, X.tail, X.warmed, ?_, ?_, ?_⟩
  · have h := X.room
    have hU : ((T.setVm s.vm).setFrames (.invoking m args :: below)).localsInUse = s.localsInUse := by
      rw [State.localsInUse_invoking hF (meth := meth) (c := c) X.method X.code, State.localsInUse_invoking X.frames X.method X.code]
    simp only [State.hasRoom, Bool.and_eq_true, decide_eq_true_eq] at h ⊢
    obtain ⟨⟨⟨⟨h1, h2, h3, h4, h5, h6⟩, h7⟩, h8⟩, h9⟩ := h
    rw [X.frames, List.length_cons] at h2 h3
    have q1 := X.heapSize
    have q2 := X.used
    simp only [hF, hU, List.length_cons, State.stackLimits_setFrames, State.stackBytes_setFrames, hl9, hb9]
    refine ⟨⟨⟨⟨by omega, by omega, by omega, by omega, by omega, h6⟩, ?_⟩, ?_⟩, X.book⟩
    · show T.heap.size + R'.cells ≤ e.platform.maxCells
      omega
    · show T.slotsUsed + R'.slots ≤ e.platform.maxSlots
      omega
  · rw [State.stackLimits_setFrames]; rfl
  · rw [State.stackBytes_setFrames]; rfl
  · refine ⟨?_, Nat.le_refl _, Nat.le_refl _, ?_, ?_, fun a c9 h9 => ⟨c9, h9, rfl, rfl, fun _ _ => rfl⟩⟩
    · obtain ⟨t, ht, -⟩ := State.frames_cons hr
      show T.setVm s.vm = { ((T.setVm s.vm).setFrames (.invoking m args :: below)).setFrames (T.setVm s.vm).frames with heap := T.heap, slotsUsed := T.slotsUsed }
      rw [State.setFrames_setFrames, State.setFrames_self ht]
      rfl
    · show T.slotsUsed = T.slotsUsed + ((T.heap.toList.drop T.heap.size).map (·.slots.size)).sum
      rw [List.drop_eq_nil_of_le (Nat.le_of_eq Array.length_toList)]
      rfl
    · show ((T.heap.toList.drop T.heap.size).map (·.slots.size)).sum ≤ 0
      rw [List.drop_eq_nil_of_le (Nat.le_of_eq Array.length_toList)]
      exact Nat.le_refl _
/-- 'throw new E()': new; dup; invokespecial; athrow -/
theorem vx_throw0 {cc : ByteArray} {pc : Nat} (hexec : p.tables.exec = Jvm.exec) (hb : c.code = cc) (hl : l.stackTraces = false) {own cls : String} {names : List String} {ik ic mc ms : Nat} {A : Nat → Prop}
    (hown : s.vm.findClass own = some m.cls) (hcls : Bundle.fit cls = true) (hnames : ∀ n ∈ names, Bundle.fit n = true)
    (hk : (Cond.classLink own ik cls).before args s = true) (hini : (Cond.initialized cls).before args s = true) (hat : ∀ w ∈ vx_at0 own ic cls names, w.before args s = true)
    (hgood : ∀ w ∈ Cond.classLink own ik cls :: Cond.initialized cls :: vx_at0 own ic cls names, vx_ot w = true)
    (hU : vx_Zq Bundle.tN "UNASSIGNED_STACK" Bundle.steD A s s.heap) (hN : vx_Zq Bundle.tN "SUPPRESSED_SENTINEL" Bundle.listD A s s.heap) (hS : va_S A s.heap H locs) (hsize : ls.size = c.maxLocals)
    (d0 : decode cc pc = .ok (.new ik, 3)) (d3 : decode cc (pc + 3) = .ok (.dup, 1)) (d4 : decode cc (pc + 4) = .ok (.invokespecial ic, 3)) (d7 : decode cc (pc + 7) = .ok (.athrow, 1))
    (hout : ∀ x ∈ c.exceptionTable.toList, covers x (pc + 7) = false)
    (hRframes : names.length + 3 < R.frames) (hRlocals : (rest.map fun v => v.category).sum + (13 * (names.length + 1) + 42) ≤ R.locals) (hRcells : cells + 1 ≤ R.cells) (hRslots : slots + 6 ≤ R.slots) (hlocks : meth.locks = false)
    (hx : ∀ t : State, s.vm.Alike t.vm → H.size ≤ t.heap.size → (∀ q : Nat, q < H.size → t.heap[q]? = H[q]?) → XC cls s t)
    (hf : ∀ z ∈ locs, free z.base) (hc : cells + 1 ≤ mc) (hs : slots + 6 ≤ ms) :
    W p l e R s m args below meth c H locs cells slots (vx_MQ below Qc XC args s mc ms free) (F0 m pc ls rest) := by
  intro T hT X
  have htr : e.platform.stackTraces = false := (show e.platform.stackTraces = l.stackTraces by rw [X.admits.platform]).trans hl
  have Y := vx_rebase X (R' := { frames := R.frames, locals := R.locals, cells := 1, slots := 6 }) (Nat.le_refl _) (Nat.le_refl _) hRcells hRslots
  obtain ⟨s', hA⟩ : ∃ z, z = (T.setVm s.vm).setFrames (.invoking m args :: below) := ⟨_, rfl⟩
  rw [← hA] at Y
  have hvm : s'.vm = s.vm := by rw [hA]; rfl
  have hhp : s'.heap = H := by rw [hA]; exact hT
  have hW0 : s.WarmedH s'.vm := by rw [hvm]; exact State.WarmedH.refl s
  have hat' : ∀ w ∈ vx_at0 own ic cls names, w.before args s' = true := fun w hw => vx_ot_at hW0 hvm.symm (hgood w (List.mem_cons_of_mem _ (List.mem_cons_of_mem _ hw))) (hat w hw)
  have hk' : (Cond.classLink own ik cls).before args s' = true := vx_ot_at hW0 hvm.symm (hgood _ List.mem_cons_self) hk
  have hini' : (Cond.initialized cls).before args s' = true := vx_ot_at hW0 hvm.symm (hgood _ (List.mem_cons_of_mem _ List.mem_cons_self)) hini
  have hU' : vx_Zq Bundle.tN "UNASSIGNED_STACK" Bundle.steD A s' s'.heap := by rw [hhp]; exact vx_Zq.moved hW0.alike (hU.kept hS.2.1)
  have hN' : vx_Zq Bundle.tN "SUPPRESSED_SENTINEL" Bundle.listD A s' s'.heap := by rw [hhp]; exact vx_Zq.moved hW0.alike (hN.kept hS.2.1)
  have h : ∀ w ∈ Bundle.ownAtoms0 own ic cls names, w.before args s' = true := vx_own hat' (vx_isRefq hU'.1) (vx_isRefq hN'.1) hU'.2.word hN'.2.word
  have hown' : s'.vm.findClass own = some m.cls := by rw [hvm]; exact hown
  have hins : (Cond.instantiable cls 6).before args s' = true := h _ (by simp [Bundle.ownAtoms0])
  obtain ⟨vm₁, cX, kX, hfX, hkX, -, -, X₁, st1⟩ := Y.newCold hexec (own := own) (C := cls) (index := ik) (n := 6) hown' hk' hins hini'
    (g := F0 m pc ls rest) rfl (by rw [hb]; exact d0) (Nat.le_refl _) (Nat.le_refl _)
  generalize hT1 : (T.setVm vm₁).pushCell { cls := cX, slots := kX.instanceTypes.map defaultValue, vm := .none } = T1 at X₁ st1
  have hcat : (Value.ref T.heap.size).category = 1 := rfl
  have hcellA : T1.heap[T.heap.size]? = some (freshCell cX kX) := by rw [← hT1]; exact State.heap_pushCell_size _ _
  have d3' : decode c.code (pc + 3) = .ok (.dup, 1) := by rw [hb]; exact d3
  obtain ⟨U, hsteps, hrun, hend, hW, hsame, ce, hce, hO⟩ := X₁.ctorThrow0 hexec htr (own := own) (cls := cls) (names := names) (ic := ic) hown' hcls hnames h (fun x hx => nomatch hx) hfX hkX hcellA (by rw [hhp, hT]; exact Nat.le_refl _)
    (g := { method := m, pc := pc + 4, locals := ls, stack := .ref T.heap.size :: .ref T.heap.size :: rest, locked := none }) rfl hsize rfl rfl (rest := rest) rfl
    (by rw [hb]; exact d4) (by rw [hb]; exact d7) hout hRframes (by simp only [List.map_cons, List.sum_cons, hcat]; omega) hlocks
  obtain ⟨f1, f2⟩ := vx_frame hsame
  rw [hhp] at f1 f2
  have hWs : s.WarmedH U.vm := State.WarmedH.trans hW0 hW
  have hcl : s.vm.findClass cls = some ce.cls := by
    have h9 := hO.cls
    rw [hvm] at h9
    exact h9
  have hall : s.sameButNew ({ U with vm := s.vm } : State) locs mc ms := by
    subst hA
    obtain ⟨e1, e2⟩ := hsame
    rw [State.setFrames_setFrames] at e1
    have h2 : (T.setVm s.vm).sameButNew ({ U with vm := s.vm } : State) [] (0 + 1) (0 + 6) := ⟨e1, e2⟩
    have h3 := X.same.trans h2
    rw [List.append_nil] at h3
    exact h3.mono hc hs
  refine ⟨U, ?_, .threw T.heap.size, hrun, hend, Or.inr ⟨T.heap.size, rfl, cls, ce, locs, hx U hWs.alike f1 (fun q hq => f2 q hq (fun z hz => nomatch hz)), hce, hO.vm, hcl, hWs, hall, hf⟩⟩
  refine st1 _ ?_
  show Steps p.tables e below (T1.setTop { method := m, pc := pc + 3, locals := ls, stack := .ref T.heap.size :: rest, locked := none }) _
  jvm_step X₁.here [X₁.here.top, hexec, d3', Value.category]
  exact hsteps
/-- 'throw new E("text")': new; dup; ldc; invokespecial; athrow -/
theorem vx_throwS {cc : ByteArray} {pc : Nat} (hexec : p.tables.exec = Jvm.exec) (hb : c.code = cc) (hl : l.stackTraces = false) {own cls text : String} {names : List String} {ik is ic mc ms sa : Nat} {A : Nat → Prop}
    (hown : s.vm.findClass own = some m.cls) (hcls : Bundle.fit cls = true) (hnames : ∀ n ∈ names, Bundle.fit n = true)
    (hk : (Cond.classLink own ik cls).before args s = true) (hini : (Cond.initialized cls).before args s = true) (hstr : vk_R own is text sa s) (hat : ∀ w ∈ vx_atS own ic cls names, w.before args s = true)
    (hgood : ∀ w ∈ Cond.classLink own ik cls :: Cond.initialized cls :: vx_atS own ic cls names, vx_ot w = true)
    (hU : vx_Zq Bundle.tN "UNASSIGNED_STACK" Bundle.steD A s s.heap) (hN : vx_Zq Bundle.tN "SUPPRESSED_SENTINEL" Bundle.listD A s s.heap) (hS : va_S A s.heap H locs) (hsize : ls.size = c.maxLocals)
    (d0 : decode cc pc = .ok (.new ik, 3)) (d3 : decode cc (pc + 3) = .ok (.dup, 1)) (d4 : decode cc (pc + 4) = .ok (.ldc is, 2)) (d6 : decode cc (pc + 6) = .ok (.invokespecial ic, 3)) (d9 : decode cc (pc + 9) = .ok (.athrow, 1))
    (hout : ∀ x ∈ c.exceptionTable.toList, covers x (pc + 9) = false)
    (hRframes : names.length + 3 < R.frames) (hRlocals : (rest.map fun v => v.category).sum + (13 * (names.length + 1) + 43) ≤ R.locals) (hRcells : cells + 1 ≤ R.cells) (hRslots : slots + 6 ≤ R.slots) (hlocks : meth.locks = false)
    (hx : ∀ t : State, s.vm.Alike t.vm → H.size ≤ t.heap.size → (∀ q : Nat, q < H.size → t.heap[q]? = H[q]?) → XC cls s t)
    (hf : ∀ z ∈ locs, free z.base) (hc : cells + 1 ≤ mc) (hs : slots + 6 ≤ ms) :
    W p l e R s m args below meth c H locs cells slots (vx_MQ below Qc XC args s mc ms free) (F0 m pc ls rest) := by
  intro T hT X
  have htr : e.platform.stackTraces = false := (show e.platform.stackTraces = l.stackTraces by rw [X.admits.platform]).trans hl
  have Y := vx_rebase X (R' := { frames := R.frames, locals := R.locals, cells := 1, slots := 6 }) (Nat.le_refl _) (Nat.le_refl _) hRcells hRslots
  obtain ⟨s', hA⟩ : ∃ z, z = (T.setVm s.vm).setFrames (.invoking m args :: below) := ⟨_, rfl⟩
  rw [← hA] at Y
  have hvm : s'.vm = s.vm := by rw [hA]; rfl
  have hhp : s'.heap = H := by rw [hA]; exact hT
  have hW0 : s.WarmedH s'.vm := by rw [hvm]; exact State.WarmedH.refl s
  have hat' : ∀ w ∈ vx_atS own ic cls names, w.before args s' = true := fun w hw => vx_ot_at hW0 hvm.symm (hgood w (List.mem_cons_of_mem _ (List.mem_cons_of_mem _ hw))) (hat w hw)
  have hk' : (Cond.classLink own ik cls).before args s' = true := vx_ot_at hW0 hvm.symm (hgood _ List.mem_cons_self) hk
  have hini' : (Cond.initialized cls).before args s' = true := vx_ot_at hW0 hvm.symm (hgood _ (List.mem_cons_of_mem _ List.mem_cons_self)) hini
  have hU' : vx_Zq Bundle.tN "UNASSIGNED_STACK" Bundle.steD A s' s'.heap := by rw [hhp]; exact vx_Zq.moved hW0.alike (hU.kept hS.2.1)
  have hN' : vx_Zq Bundle.tN "SUPPRESSED_SENTINEL" Bundle.listD A s' s'.heap := by rw [hhp]; exact vx_Zq.moved hW0.alike (hN.kept hS.2.1)
  have h : ∀ w ∈ Bundle.ownAtoms own ic cls names, w.before args s' = true := vx_own hat' (vx_isRefq hU'.1) (vx_isRefq hN'.1) hU'.2.word hN'.2.word
  have hown' : s'.vm.findClass own = some m.cls := by rw [hvm]; exact hown
  have hins : (Cond.instantiable cls 6).before args s' = true := h _ (by simp [Bundle.ownAtoms])
  obtain ⟨vm₁, cX, kX, hfX, hkX, -, -, X₁, st1⟩ := Y.newCold hexec (own := own) (C := cls) (index := ik) (n := 6) hown' hk' hins hini'
    (g := F0 m pc ls rest) rfl (by rw [hb]; exact d0) (Nat.le_refl _) (Nat.le_refl _)
  generalize hT1 : (T.setVm vm₁).pushCell { cls := cX, slots := kX.instanceTypes.map defaultValue, vm := .none } = T1 at X₁ st1
  have hcat : (Value.ref T.heap.size).category = 1 := rfl
  have hcellA : T1.heap[T.heap.size]? = some (freshCell cX kX) := by rw [← hT1]; exact State.heap_pushCell_size _ _
  have d3' : decode c.code (pc + 3) = .ok (.dup, 1) := by rw [hb]; exact d3
  have d4' : decode c.code (pc + 4) = .ok (.ldc is, 2) := by rw [hb]; exact d4
  have hstr' : vk_R own is text sa s' := vk_R.warm hW0 hstr
  obtain ⟨U, hsteps, hrun, hend, hW, hsame, ce, hce, hO⟩ := X₁.ctorThrowS hexec htr (own := own) (cls := cls) (names := names) (ic := ic) hown' hcls hnames h (fun x hx => nomatch hx) hfX hkX hcellA (by rw [hhp, hT]; exact Nat.le_refl _) (msg := .ref sa) rfl
    (g := { method := m, pc := pc + 6, locals := ls, stack := .ref sa :: .ref T.heap.size :: .ref T.heap.size :: rest, locked := none }) rfl hsize rfl rfl (rest := rest) rfl
    (by rw [hb]; exact d6) (by rw [hb]; exact d9) hout hRframes (by simp only [List.map_cons, List.sum_cons, hcat]; omega) hlocks
  obtain ⟨f1, f2⟩ := vx_frame hsame
  rw [hhp] at f1 f2
  have hWs : s.WarmedH U.vm := State.WarmedH.trans hW0 hW
  have hcl : s.vm.findClass cls = some ce.cls := by
    have h9 := hO.cls
    rw [hvm] at h9
    exact h9
  have hall : s.sameButNew ({ U with vm := s.vm } : State) locs mc ms := by
    subst hA
    obtain ⟨e1, e2⟩ := hsame
    rw [State.setFrames_setFrames] at e1
    have h2 : (T.setVm s.vm).sameButNew ({ U with vm := s.vm } : State) [] (0 + 1) (0 + 6) := ⟨e1, e2⟩
    have h3 := X.same.trans h2
    rw [List.append_nil] at h3
    exact h3.mono hc hs
  refine ⟨U, ?_, .threw T.heap.size, hrun, hend, Or.inr ⟨T.heap.size, rfl, cls, ce, locs, hx U hWs.alike f1 (fun q hq => f2 q hq (fun z hz => nomatch hz)), hce, hO.vm, hcl, hWs, hall, hf⟩⟩
  refine st1 _ ?_
  show Steps p.tables e below (T1.setTop { method := m, pc := pc + 3, locals := ls, stack := .ref T.heap.size :: rest, locked := none }) _
  jvm_step X₁.here [X₁.here.top, hexec, d3', Value.category]
  exact X₁.ldcString hexec (own := own) (text := text) (index := is) (a := sa) hown' hstr'.1 hstr'.2
    (g := { method := m, pc := pc + 4, locals := ls, stack := .ref T.heap.size :: .ref T.heap.size :: rest, locked := none }) rfl d4' _ hsteps
/-- 'throw new E("text")', the text by a wide index -/
theorem vx_throwSW {cc : ByteArray} {pc : Nat} (hexec : p.tables.exec = Jvm.exec) (hb : c.code = cc) (hl : l.stackTraces = false) {own cls text : String} {names : List String} {ik is ic mc ms sa : Nat} {A : Nat → Prop}
    (hown : s.vm.findClass own = some m.cls) (hcls : Bundle.fit cls = true) (hnames : ∀ n ∈ names, Bundle.fit n = true)
    (hk : (Cond.classLink own ik cls).before args s = true) (hini : (Cond.initialized cls).before args s = true) (hstr : vk_R own is text sa s) (hat : ∀ w ∈ vx_atS own ic cls names, w.before args s = true)
    (hgood : ∀ w ∈ Cond.classLink own ik cls :: Cond.initialized cls :: vx_atS own ic cls names, vx_ot w = true)
    (hU : vx_Zq Bundle.tN "UNASSIGNED_STACK" Bundle.steD A s s.heap) (hN : vx_Zq Bundle.tN "SUPPRESSED_SENTINEL" Bundle.listD A s s.heap) (hS : va_S A s.heap H locs) (hsize : ls.size = c.maxLocals)
    (d0 : decode cc pc = .ok (.new ik, 3)) (d3 : decode cc (pc + 3) = .ok (.dup, 1)) (d4 : decode cc (pc + 4) = .ok (.ldc_w is, 3)) (d7 : decode cc (pc + 7) = .ok (.invokespecial ic, 3)) (d10 : decode cc (pc + 10) = .ok (.athrow, 1))
    (hout : ∀ x ∈ c.exceptionTable.toList, covers x (pc + 10) = false)
    (hRframes : names.length + 3 < R.frames) (hRlocals : (rest.map fun v => v.category).sum + (13 * (names.length + 1) + 43) ≤ R.locals) (hRcells : cells + 1 ≤ R.cells) (hRslots : slots + 6 ≤ R.slots) (hlocks : meth.locks = false)
    (hx : ∀ t : State, s.vm.Alike t.vm → H.size ≤ t.heap.size → (∀ q : Nat, q < H.size → t.heap[q]? = H[q]?) → XC cls s t)
    (hf : ∀ z ∈ locs, free z.base) (hc : cells + 1 ≤ mc) (hs : slots + 6 ≤ ms) :
    W p l e R s m args below meth c H locs cells slots (vx_MQ below Qc XC args s mc ms free) (F0 m pc ls rest) := by
  intro T hT X
  have htr : e.platform.stackTraces = false := (show e.platform.stackTraces = l.stackTraces by rw [X.admits.platform]).trans hl
  have Y := vx_rebase X (R' := { frames := R.frames, locals := R.locals, cells := 1, slots := 6 }) (Nat.le_refl _) (Nat.le_refl _) hRcells hRslots
  obtain ⟨s', hA⟩ : ∃ z, z = (T.setVm s.vm).setFrames (.invoking m args :: below) := ⟨_, rfl⟩
  rw [← hA] at Y
  have hvm : s'.vm = s.vm := by rw [hA]; rfl
  have hhp : s'.heap = H := by rw [hA]; exact hT
  have hW0 : s.WarmedH s'.vm := by rw [hvm]; exact State.WarmedH.refl s
  have hat' : ∀ w ∈ vx_atS own ic cls names, w.before args s' = true := fun w hw => vx_ot_at hW0 hvm.symm (hgood w (List.mem_cons_of_mem _ (List.mem_cons_of_mem _ hw))) (hat w hw)
  have hk' : (Cond.classLink own ik cls).before args s' = true := vx_ot_at hW0 hvm.symm (hgood _ List.mem_cons_self) hk
  have hini' : (Cond.initialized cls).before args s' = true := vx_ot_at hW0 hvm.symm (hgood _ (List.mem_cons_of_mem _ List.mem_cons_self)) hini
  have hU' : vx_Zq Bundle.tN "UNASSIGNED_STACK" Bundle.steD A s' s'.heap := by rw [hhp]; exact vx_Zq.moved hW0.alike (hU.kept hS.2.1)
  have hN' : vx_Zq Bundle.tN "SUPPRESSED_SENTINEL" Bundle.listD A s' s'.heap := by rw [hhp]; exact vx_Zq.moved hW0.alike (hN.kept hS.2.1)
  have h : ∀ w ∈ Bundle.ownAtoms own ic cls names, w.before args s' = true := vx_own hat' (vx_isRefq hU'.1) (vx_isRefq hN'.1) hU'.2.word hN'.2.word
  have hown' : s'.vm.findClass own = some m.cls := by rw [hvm]; exact hown
  have hins : (Cond.instantiable cls 6).before args s' = true := h _ (by simp [Bundle.ownAtoms])
  obtain ⟨vm₁, cX, kX, hfX, hkX, -, -, X₁, st1⟩ := Y.newCold hexec (own := own) (C := cls) (index := ik) (n := 6) hown' hk' hins hini'
    (g := F0 m pc ls rest) rfl (by rw [hb]; exact d0) (Nat.le_refl _) (Nat.le_refl _)
  generalize hT1 : (T.setVm vm₁).pushCell { cls := cX, slots := kX.instanceTypes.map defaultValue, vm := .none } = T1 at X₁ st1
  have hcat : (Value.ref T.heap.size).category = 1 := rfl
  have hcellA : T1.heap[T.heap.size]? = some (freshCell cX kX) := by rw [← hT1]; exact State.heap_pushCell_size _ _
  have d3' : decode c.code (pc + 3) = .ok (.dup, 1) := by rw [hb]; exact d3
  have d4' : decode c.code (pc + 4) = .ok (.ldc_w is, 3) := by rw [hb]; exact d4
  have hstr' : vk_R own is text sa s' := vk_R.warm hW0 hstr
  obtain ⟨U, hsteps, hrun, hend, hW, hsame, ce, hce, hO⟩ := X₁.ctorThrowS hexec htr (own := own) (cls := cls) (names := names) (ic := ic) hown' hcls hnames h (fun x hx => nomatch hx) hfX hkX hcellA (by rw [hhp, hT]; exact Nat.le_refl _) (msg := .ref sa) rfl
    (g := { method := m, pc := pc + 7, locals := ls, stack := .ref sa :: .ref T.heap.size :: .ref T.heap.size :: rest, locked := none }) rfl hsize rfl rfl (rest := rest) rfl
    (by rw [hb]; exact d7) (by rw [hb]; exact d10) hout hRframes (by simp only [List.map_cons, List.sum_cons, hcat]; omega) hlocks
  obtain ⟨f1, f2⟩ := vx_frame hsame
  rw [hhp] at f1 f2
  have hWs : s.WarmedH U.vm := State.WarmedH.trans hW0 hW
  have hcl : s.vm.findClass cls = some ce.cls := by
    have h9 := hO.cls
    rw [hvm] at h9
    exact h9
  have hall : s.sameButNew ({ U with vm := s.vm } : State) locs mc ms := by
    subst hA
    obtain ⟨e1, e2⟩ := hsame
    rw [State.setFrames_setFrames] at e1
    have h2 : (T.setVm s.vm).sameButNew ({ U with vm := s.vm } : State) [] (0 + 1) (0 + 6) := ⟨e1, e2⟩
    have h3 := X.same.trans h2
    rw [List.append_nil] at h3
    exact h3.mono hc hs
  refine ⟨U, ?_, .threw T.heap.size, hrun, hend, Or.inr ⟨T.heap.size, rfl, cls, ce, locs, hx U hWs.alike f1 (fun q hq => f2 q hq (fun z hz => nomatch hz)), hce, hO.vm, hcl, hWs, hall, hf⟩⟩
  refine st1 _ ?_
  show Steps p.tables e below (T1.setTop { method := m, pc := pc + 3, locals := ls, stack := .ref T.heap.size :: rest, locked := none }) _
  jvm_step X₁.here [X₁.here.top, hexec, d3', Value.category]
  exact X₁.ldcStringW hexec (own := own) (text := text) (index := is) (a := sa) hown' hstr'.1 hstr'.2
    (g := { method := m, pc := pc + 4, locals := ls, stack := .ref T.heap.size :: .ref T.heap.size :: rest, locked := none }) rfl d4' _ hsteps
end Ends
section Bodies
variable {l : Launch}
theorem vx_ofW {y : MethodName} {ws ws' : List Cond} {rm : Room} {Pc : Array Value → State → Prop} {Qc : Array Value → State → Outcome → State → Prop} {XC : String → State → State → Prop} {mc ms : Nat} {free : Addr → Prop} {cc : ByteArray} {maxL : Nat} {ret : Option FieldType}
    (hy : plainName y.cls = true) (hw : ws = Cond.code y cc maxL ret :: ws')
    (body : ∀ p e s m args below meth c s₁, BodyLoose p l y (headSpec ws rm) cc maxL ret e s m args below meth c s₁ → c.maxLocals = maxL → (∀ x ∈ c.exceptionTable.toList, False) → Pc args s →
      W p l e (headSpec ws rm).room s m args below meth c s.heap [] 0 0 (vx_MQ below Qc XC args s mc ms free) (entryFrame m args maxL)) : vx_Met l y ws rm Pc Qc XC mc ms free := by
  refine MetFree.of_bodyS (code := cc) (maxLocals := maxL) (ret := ret) hy ?_ ?_
  · intro args s m h hn
    obtain ⟨meth, c, h1, h2, h3, h4, h5, h6, -, -⟩ := Cond.code_spec hn (atoms_spec (ws := ws) h _ (by rw [hw]; exact List.mem_cons_self))
    exact ⟨meth, c, h1, h2, h3, h4, h5, h6⟩
  · intro p e s m args below meth c s₁ B hml hP _
    have hh0 : s₁.heap = s.heap := by rw [B.state]; rfl
    have ht : ∀ x ∈ c.exceptionTable.toList, False := by
      obtain ⟨meth9, c9, h1, h2, -, -, -, -, h7, -⟩ := Cond.code_spec B.named (atoms_spec (ws := ws) B.pre _ (by rw [hw]; exact List.mem_cons_self))
      cases Option.some.inj (h1.symm.trans B.method)
      cases Option.some.inj (h2.symm.trans (Stand.of_body B).code)
      intro x hx
      rw [Array.isEmpty_iff.mp h7] at hx
      cases hx
    obtain ⟨t, a1, o, b1, b2, b3⟩ := body p e s m args below meth c s₁ B hml ht hP s₁ hh0 (Stand.of_body B)
    exact ⟨t, o, a1, b1, b2, b3⟩
/-- the table of a body with handlers -/
theorem vx_table {p : Program} {x y : MethodName} {S : Spec} {cc bytes : ByteArray} {maxL maxL' : Nat} {ret ret' : Option FieldType} {e : Env} {s s₁ : State} {m : MethodId} {args : Array Value} {below : List Frame} {meth : Method} {c : Code} {hh : List (Nat × Nat × Nat × Nat)}
    (B : BodyLoose p l y S cc maxL ret e s m args below meth c s₁) (h : (Cond.codeWith y bytes maxL' ret' hh).before args s = true) : c.exceptionTable.toList = tableOf hh := by
  obtain ⟨m9, meth9, c9, hn9, h1, h2, -, -, h6, -⟩ := Cond.codeWith_spec h
  cases Option.some.inj (hn9.symm.trans B.named)
  cases Option.some.inj (h1.symm.trans B.method)
  cases Option.some.inj (h2.symm.trans (Stand.of_body B).code)
  rw [← h6, table_eq]
end Bodies
end VXA
/-! ===== END ===== -/
/-! ===== BEGIN a static call of a method with an exception table ===== -/
section VXS
variable {p : Program} {l : Launch} {e : Env} {R : Room} {s : State} {m : MethodId} {args : Array Value} {below : List Frame} {meth : Method} {c : Code} {T : State} {H : Heap} {locs : List Loc} {cells slots : Nat}
abbrev vx_CSW (R : Room) (s : State) (args : Array Value) (own : String) (index : Nat) (y : MethodName) (bytes : ByteArray) (maxL : Nat) (ret : Option FieldType) (hh : List (Nat × Nat × Nat × Nat)) (ws : List Cond) (rm : Room) (mc ms n : Nat) : Prop :=
  (rm.cells = mc ∧ rm.slots = ms ∧ rm.frames + 1 ≤ R.frames ∧ 8 + (maxL + 11) + rm.locals ≤ R.locals ∧ (∀ w ∈ ws, ∀ (a' : Array Value) (U : State), s.WarmedH U.vm → w.before a' U = true) ∧ Cond.codeWith y bytes maxL ret hh ∈ ws) ∧
  (Cond.codeWith y bytes maxL ret hh).before args s = true ∧ (Cond.initialized y.cls).before args s = true ∧ (y.cls ≠ "java/lang/invoke/MethodHandle" ∧ y.cls ≠ "java/lang/invoke/VarHandle") ∧
  (∀ sig, parseMethodDescriptor y.desc = some sig → n = sig.parameters.length) ∧ (Cond.methodLink own index y).before args s = true ∧ (Cond.static y).before args s = true
theorem vx_cwSW {own : String} {index maxL mc ms : Nat} {y : MethodName} {bytes : ByteArray} {ret : Option FieldType} {hh : List (Nat × Nat × Nat × Nat)} {Ts ws ws' : List Cond} {rm : Room} (n : Nat) (ht : ∀ w ∈ Ts, w.before args s = true) (hT : GoodIn Ts (va_wsS own index y ws)) (hw : ws = Cond.codeWith y bytes maxL ret hh :: ws') (hrc : rm.cells = mc) (hrs : rm.slots = ms)
    (hd : y.cls ≠ "java/lang/invoke/MethodHandle" ∧ y.cls ≠ "java/lang/invoke/VarHandle" ∧ (parseMethodDescriptor y.desc).map (fun d => d.parameters.length) = some n) (hR : rm.frames + 1 ≤ R.frames ∧ 8 + (maxL + 11) + rm.locals ≤ R.locals) :
    vx_CSW R s args own index y bytes maxL ret hh ws rm mc ms n := by
  have ok : ∀ w ∈ va_wsS own index y ws, w.before args s = true := fun w h => ht w (hT w h).1
  have hG : GoodIn Ts ws := fun w h => hT w (by unfold va_wsS; exact List.mem_append_right _ h)
  have hc : Cond.codeWith y bytes maxL ret hh ∈ ws := by rw [hw]; exact List.mem_cons_self
  refine ⟨⟨hrc, hrs, hR.1, hR.2, pay_in ht hG, hc⟩, ht _ (hG _ hc).1, ok _ (by simp [va_wsS]), ⟨hd.1, hd.2.1⟩, fun sig h => ?_, ok _ (by simp [va_wsS]), ok _ (by simp [va_wsS])⟩
  have h2 := hd.2.2
  rw [h] at h2
  exact (Option.some.inj h2).symm
theorem vx_callSW (X : Stand p l e R s m args below meth c T locs cells slots) (hexec : p.tables.exec = Jvm.exec) {own : String} {index : Nat} {y : MethodName} {bytes : ByteArray} {maxL : Nat} {ret : Option FieldType} {hh : List (Nat × Nat × Nat × Nat)}
    (hown : s.vm.findClass own = some m.cls) (hlink : (Cond.methodLink own index y).before args s = true) (hstat : (Cond.static y).before args s = true) (hinit : (Cond.initialized y.cls).before args s = true)
    (hcode : (Cond.codeWith y bytes maxL ret hh).before args s = true) (hy : y.cls ≠ "java/lang/invoke/MethodHandle" ∧ y.cls ≠ "java/lang/invoke/VarHandle")
    {W9 : Nat} {Pre : Pt → Array Value → Prop} {Post : Pt → Array Value → Option Value → Pt → Prop} (hK : Back l R p e below s args y 3 W9 Pre Post)
    {g : JFrame} (hg : g.method = m) (hsize : g.locals.size = c.maxLocals) {argsL rest : List Value} (hlen : ∀ sig, parseMethodDescriptor y.desc = some sig → argsL.length = sig.parameters.length)
    (hstack : g.stack = argsL.reverse ++ rest) (hW : 2 * g.monitorRoom + (rest.map fun v => v.category).sum ≤ W9) (hdg : decode c.code g.pc = .ok (.invokestatic index, 3))
    (hpre : ∀ vm₁, s.WarmedH vm₁ → Pre ⟨T.setVm vm₁, locs, cells, slots⟩ argsL.toArray) :
    ∃ (v : Option Value) (vm₁ : Vm) (B : Pt), s.WarmedH vm₁ ∧ Stand p l e R s m args below meth c B.U B.locs B.cells B.slots ∧ Post ⟨T.setVm vm₁, locs, cells, slots⟩ argsL.toArray v B ∧
      ∀ target, Steps p.tables e below (B.U.setTop { g with pc := g.pc + 3, stack := v.toList ++ rest }) target → Steps p.tables e below (T.setTop g) target := by
  obtain ⟨mk, methM, cM, hnamed, hmethM, -, -, -, -, -, -, hsigM⟩ := Cond.codeWith_spec hcode
  have hstatic : methM.isStatic = true := Cond.static_spec hnamed hmethM hstat
  obtain ⟨kP, hkP, -⟩ := className_of_methodNamed hnamed
  have hinitP : kP.init = .initialized := Cond.initialized_spec (findClass_of_methodNamed hnamed) hkP hinit
  obtain ⟨vm₁, X₁, hstep₁⟩ := X.invokestatic hexec hown hlink hnamed hmethM hstatic hkP hinitP hy (g := g) hg (argsL := argsL) (rest := rest) (hlen _ hsigM) hstack hdg
  obtain ⟨v, B, X', hpost, hsteps⟩ := hK m meth c ⟨T.setVm vm₁, locs, cells, slots⟩ { g with stack := rest } (.invokestatic index) mk argsL.toArray X₁ hg hsize hdg hW (X₁.named hnamed) (hpre vm₁ X₁.warmed)
  exact ⟨v, vm₁, B, X₁.warmed, X', hpost, fun target h => hstep₁ _ fun acts => by rw [doInvoke_state]; exact hsteps.trans h⟩
theorem vx_runSW {y : MethodName} {bytes cc : ByteArray} {maxL nL mc ms n index : Nat} {ret : Option FieldType} {hh : List (Nat × Nat × Nat × Nat)} {ws : List Cond} {rm : Room} {Pc : Array Value → State → Prop} {Qc : Array Value → State → Outcome → State → Prop} {free : Addr → Prop} {Ts : List Cond} {own : String} {As rest : List Value} {g : JFrame}
    (S : CallFix p m c cc nL s args Ts own) (hM : Met l y ws rm Pc Qc mc ms free) (cw : vx_CSW R s args own index y bytes maxL ret hh ws rm mc ms n) (hp : PreS s H Pc As)
    (hg : g.method = m) (hn : As.length = n) (hsize : g.locals.size = nL) (hstack : g.stack = As.reverse ++ rest) (hW : 2 * g.monitorRoom + (rest.map fun v => v.category).sum ≤ 8) (hdg : decode cc g.pc = .ok (.invokestatic index, 3)) (hf : cells + mc ≤ R.cells ∧ slots + ms ≤ R.slots) :
    va_Run p l e R s m args below meth c H locs cells slots mc ms g rest (Qc As.toArray) (free) := by
  obtain ⟨⟨hrc, hrs, hfr, hlo, hws, hcw⟩, hcode, hini, hy, hlen, hl, hstt⟩ := cw
  have hK : Back l R p e below s args y 3 8 (PreOf R mc ms Pc) (PostOf Qc mc ms free) := va_backW (hh := hh) (bytes := bytes) (maxL := maxL) (ret := ret) hM hp.1 hrc hrs hfr hlo hws hcw (fun a' U hW => word_at hW (Or.inl (by first | rfl | simp [Cond.onTables, Cond.keeps, Cond.steady])) hini)
  obtain ⟨hx, hb, hml, ho, -⟩ := S
  intro T hT X
  obtain ⟨v, vm₁, ⟨U', l2, c2, s2⟩, hW₁, X', ⟨g', mk, t, L, e1, e2, hq, h1, hL, h2, h3⟩, st⟩ := vx_callSW X hx (hh := hh) (bytes := bytes) (maxL := maxL) (ret := ret) ho hl hstt hini hcode hy hK hg (hsize.trans hml.symm) (argsL := As) (rest := rest) (fun sig h => hn.trans (hlen sig h)) hstack hW (by rw [hb]; exact hdg)
    (fun vm₁ hW₁ => ⟨hf.1, hf.2, hp.2 (T.setVm vm₁) hT hW₁⟩)
  dsimp only [Pt.U, Pt.locs, Pt.cells, Pt.slots] at X' e1 e2 h1 h2 h3 st
  subst h1; subst h2; subst h3
  exact ⟨v, (T.setVm vm₁).calling g' mk As.toArray, t, U', L, hT, X', hL, e1, e2, hq, st⟩
/-- a thing of a world lies in the heap -/
theorem vx_lt {D : va_G} {cl : List vw_C} {ws : va_W} {H1 : Heap} (h : va_P D cl ws H1) {k : Nat} {q : Nat × va_E} (hk : ws[k]? = some q) : q.1 < H1.size := (h k q hk).lt
end VXS
/-! ===== END ===== -/
/-! ===== BEGIN methods with a table of their own: called by a name, returning or throwing ===== -/
section VXH
/-! vx_backW, vx_callVX, vx_callSX, vx_callVW, vx_runVW, vx_runVX, vx_runSX, vx_ofWH follow the same proofs as their sisters above (Free/Laws.lean, Shelf42/LK1.lean); vx_outP calls Shelf42/NT130.lean (outThrough). -/
section
variable {l : Launch} {R : Room} {p : Program} {e : Env} {below : List Frame} {s : State} {sargs : Array Value} {y : MethodName} {len W9 : Nat}
theorem vx_backW {ws : List Cond} {rm : Room} {Pc : Array Value → State → Prop} {Qc : Array Value → State → Outcome → State → Prop} {XC : String → State → State → Prop} {mc ms : Nat} {free : Addr → Prop} {bytes : ByteArray} {maxL : Nat} {ret : Option FieldType} {hh : List (Nat × Nat × Nat × Nat)}
    (hM : vx_Met l y ws rm Pc Qc XC mc ms free) (hblind : FrameBlind Pc) (hrc : rm.cells = mc) (hrs : rm.slots = ms)
    (hframes : rm.frames + 1 ≤ R.frames) (hlocals : W9 + (maxL + 11) + rm.locals ≤ R.locals)
    (hws : ∀ w ∈ ws, ∀ a' U, s.WarmedH U.vm → w.before a' U = true) (hcode : Cond.codeWith y bytes maxL ret hh ∈ ws) (hinit : ∀ a' U, s.WarmedH U.vm → (Cond.initialized y.cls).before a' U = true) :
    vx_Back l R p e below s sargs y len W9 (PreOf R mc ms Pc) (PostOf Qc mc ms free) (vx_Post XC mc ms free) := by
  intro m meth c A g ig mk a X hg hsize hdg hW hn hp
  have h1 : (headSpec ws rm).pre.before a A.U = true := atoms_intro fun w hw => hws w hw _ _ X.warmed
  have h2 : (Cond.codeWith y bytes maxL ret hh).before a A.U = true := hws _ hcode _ _ X.warmed
  have h3 : (Cond.initialized y.cls).before a A.U = true := hinit _ _ X.warmed
  have h4 : A.cells + (headSpec ws rm).room.cells ≤ R.cells := by rw [show (headSpec ws rm).room.cells = mc from hrc]; exact hp.1
  have h5 : A.slots + (headSpec ws rm).room.slots ≤ R.slots := by rw [show (headSpec ws rm).room.slots = ms from hrs]; exact hp.2.1
  have hPc : Pc a (A.U.calling g mk a) := hblind _ _ _ _ hp.2.2
  obtain ⟨U, Ls, c0, s0⟩ := A
  dsimp only [Pt.U, Pt.locs, Pt.cells, Pt.slots] at h1 h2 h3 h4 h5 X hn hPc ⊢
  obtain ⟨m9, methY, cY, hn9, hmY, hcY, -, hlY, -⟩ := Cond.codeWith_spec h2
  cases Option.some.inj (hn9.symm.trans hn)
  obtain ⟨kY, hkY, -⟩ := className_of_methodNamed hn
  have hinitY : kY.init = .initialized := Cond.initialized_spec (findClass_of_methodNamed hn) hkY h3
  have h : At U g.method c below := by rw [hg]; exact X.here
  have hlocals9 : W9 + (maxL + 11) + (headSpec ws rm).room.locals ≤ R.locals := hlocals
  have happ : (headSpec ws rm).appliesLoose y e.platform (U.calling g mk a) = true :=
    Spec.appliesLoose_calling (g := g) h hdg hn hkY hinitY
      (X.room_calling (g := g) (R' := (headSpec ws rm).room) hsize hmY hcY hframes (by rw [hlY]; omega) h4 h5) h1
  obtain ⟨mid, hmid⟩ := h.above
  have hfr : (U.setTop g).frames = (.java g :: mid) ++ below := by rw [State.frames_setTop' g h.top, hmid]; rfl
  obtain ⟨o, s₂, hsteps, -, hend, hq⟩ := Steps.callFree hM p X.admits X.cas X.clock (acts := []) hfr happ hPc trivial
  have hq' : vx_Q Qc XC mc ms free a (U.calling g mk a) o s₂ := hq
  rw [State.frames_setTop' g h.top] at hend
  obtain ⟨g₀, hg0⟩ := Option.isSome_iff_exists.mp h.top
  obtain ⟨r, hr⟩ := State.topJava?_eq_some.mp hg0
  have hr' : (({ U with heap := s₂.heap, slotsUsed := s₂.slotsUsed } : State).setVm s₂.vm).frames = .java g₀ :: r := hr
  rcases hq' with ⟨hqc, L, hfe, hL⟩ | ⟨q, rfl, E, ce, L, hx, hce, hcv, hcl, hW₂, hsm, hL⟩
  · obtain ⟨⟨v, rfl⟩, hW₂, e2, q2, q3, q4, q5, q6⟩ := id hfe
    have e3 : s₂ = ({ (U.calling g mk a).setFrames s₂.frames with heap := s₂.heap, slotsUsed := s₂.slotsUsed } : State).setVm s₂.vm := by
      have : s₂ = ({ s₂ with vm := (U.calling g mk a).vm } : State).setVm s₂.vm := rfl
      rw [e2] at this
      exact this
    obtain ⟨c₂, i₂, len₂, hc₂, hd₂, hf₂⟩ := hend
    have hW' : U.WarmedH s₂.vm := hW₂
    have hcc : c₂ = c := by
      have h1 : s₂.code? g.method = U.code? g.method := by
        rw [State.code?_eq, State.code?_eq, hW'.alike.method?]
      exact Option.some.inj (hc₂.symm.trans (h1.trans h.code))
    subst hcc
    have hlen : len₂ = len := by rw [hdg] at hd₂; cases hd₂; rfl
    subst hlen
    have hs₂ : s₂ = (({ U with heap := s₂.heap, slotsUsed := s₂.slotsUsed } : State).setVm s₂.vm).setTop { g with pc := g.pc + len₂, stack := v.toList ++ g.stack } := by
      refine e3.trans ?_
      rw [hf₂, State.calling_eq h.top, State.setFrames_setFrames, State.setTop_of_frames _ hr', hr]
      rfl
    have hsame : U.sameButNew ({ U with heap := s₂.heap, slotsUsed := s₂.slotsUsed } : State) L mc ms := by
      refine ⟨?_, q2, q3, q4, q5, q6⟩
      obtain ⟨t, ht, -⟩ := State.frames_cons hr
      show ({ U with heap := s₂.heap, slotsUsed := s₂.slotsUsed } : State) = { U.setFrames U.frames with heap := s₂.heap, slotsUsed := s₂.slotsUsed }
      rw [State.setFrames_self ht]
    subst hg
    refine Or.inl ⟨v, ⟨(({ U with heap := s₂.heap, slotsUsed := s₂.slotsUsed } : State).setVm s₂.vm), Ls ++ L, c0 + mc, s0 + ms⟩,
      ⟨X.admits, X.cas, X.clock, X.frames, X.room, X.hears, X.method, X.code, (X.here.setHeapUsed s₂.heap s₂.slotsUsed).setVm hW'.alike, X.tail, State.WarmedH.trans X.warmed hW', X.limits, X.bytes, X.same.trans (hsame.setVm s.vm)⟩,
      ⟨g, mk, s₂, L, rfl, rfl, hqc, rfl, hL, rfl, rfl⟩, ?_⟩
    show Steps p.tables e below _ ((({ U with heap := s₂.heap, slotsUsed := s₂.slotsUsed } : State).setVm s₂.vm).setTop { g with pc := g.pc + len₂, stack := v.toList ++ g.stack })
    rw [← hs₂]
    exact hsteps
  · obtain ⟨e2, q2, q3, q4, q5, q6⟩ := id hsm
    have e3 : s₂ = ({ (U.calling g mk a).setFrames s₂.frames with heap := s₂.heap, slotsUsed := s₂.slotsUsed } : State).setVm s₂.vm := by
      have : s₂ = ({ s₂ with vm := (U.calling g mk a).vm } : State).setVm s₂.vm := rfl
      rw [e2] at this
      exact this
    have hf₂ : s₂.frames = .throwing q :: .java g :: U.frames.tail := hend
    have hW' : U.WarmedH s₂.vm := hW₂
    have hs₂ : s₂ = ((({ U with heap := s₂.heap, slotsUsed := s₂.slotsUsed } : State).setVm s₂.vm).setTop g).pushFrame (.throwing q) := by
      refine e3.trans ?_
      rw [hf₂, State.calling_eq h.top, State.setFrames_setFrames, State.pushFrame, State.frames_setTop _ hr', State.setTop_of_frames _ hr', State.setFrames_setFrames, hr]
      rfl
    have hsame : U.sameButNew ({ U with heap := s₂.heap, slotsUsed := s₂.slotsUsed } : State) L mc ms := by
      refine ⟨?_, q2, q3, q4, q5, q6⟩
      obtain ⟨t, ht, -⟩ := State.frames_cons hr
      show ({ U with heap := s₂.heap, slotsUsed := s₂.slotsUsed } : State) = { U.setFrames U.frames with heap := s₂.heap, slotsUsed := s₂.slotsUsed }
      rw [State.setFrames_self ht]
    subst hg
    refine Or.inr ⟨q, ⟨(({ U with heap := s₂.heap, slotsUsed := s₂.slotsUsed } : State).setVm s₂.vm), Ls ++ L, c0 + mc, s0 + ms⟩,
      ⟨X.admits, X.cas, X.clock, X.frames, X.room, X.hears, X.method, X.code, (X.here.setHeapUsed s₂.heap s₂.slotsUsed).setVm hW'.alike, X.tail, State.WarmedH.trans X.warmed hW', X.limits, X.bytes, X.same.trans (hsame.setVm s.vm)⟩,
      ⟨g, mk, s₂, L, E, ce, rfl, rfl, hx, hce, hcv, hcl, rfl, hL, rfl, rfl⟩, ?_⟩
    show Steps p.tables e below _ (((({ U with heap := s₂.heap, slotsUsed := s₂.slotsUsed } : State).setVm s₂.vm).setTop g).pushFrame (.throwing q))
    rw [← hs₂]
    exact hsteps
end
variable {p : Program} {l : Launch} {e : Env} {R : Room} {s : State} {m : MethodId} {args : Array Value} {below : List Frame} {meth : Method} {c : Code} {T : State} {H : Heap} {locs : List Loc} {cells slots : Nat}
theorem vx_callVX (X : Stand p l e R s m args below meth c T locs cells slots) (hexec : p.tables.exec = Jvm.exec) {own C : String} {index : Nat} {y : MethodName} {bytes : ByteArray} {maxL : Nat} {ret : Option FieldType} {hh : List (Nat × Nat × Nat × Nat)}
    (hown : s.vm.findClass own = some m.cls) (hlink : (Cond.methodLink own index y).before args s = true) (hinst : (Cond.instanceMethod y).before args s = true) (hsel : (Cond.selects C y y).before args s = true)
    (hcode : (Cond.codeWith y bytes maxL ret hh).before args s = true) (hy : y.cls ≠ "java/lang/invoke/MethodHandle" ∧ y.cls ≠ "java/lang/invoke/VarHandle")
    {W9 : Nat} {Pre : Pt → Array Value → Prop} {Post : Pt → Array Value → Option Value → Pt → Prop} {PostX : Pt → Array Value → Addr → Pt → Prop} (hK : vx_Back l R p e below s args y 3 W9 Pre Post PostX)
    {b : Addr} {cellB : Cell} (hcell : T.heap[b]? = some cellB) (hobj : cellB.vm.isStatics = false) (hcls : s.vm.findClass C = some cellB.cls)
    {g : JFrame} (hg : g.method = m) (hsize : g.locals.size = c.maxLocals) {argsL rest : List Value} (hlen : ∀ sig, parseMethodDescriptor y.desc = some sig → argsL.length = sig.parameters.length)
    (hstack : g.stack = argsL.reverse ++ .ref b :: rest) (hW : 2 * g.monitorRoom + (rest.map fun v => v.category).sum ≤ W9) (hdg : decode c.code g.pc = .ok (.invokevirtual index, 3))
    (hpre : ∀ vm₁, s.WarmedH vm₁ → Pre ⟨T.setVm vm₁, locs, cells, slots⟩ (Value.ref b :: argsL).toArray) :
    (∃ (v : Option Value) (vm₁ : Vm) (B : Pt), s.WarmedH vm₁ ∧ Stand p l e R s m args below meth c B.U B.locs B.cells B.slots ∧ Post ⟨T.setVm vm₁, locs, cells, slots⟩ (Value.ref b :: argsL).toArray v B ∧
      ∀ target, Steps p.tables e below (B.U.setTop { g with pc := g.pc + 3, stack := v.toList ++ rest }) target → Steps p.tables e below (T.setTop g) target) ∨
    (∃ (q : Addr) (vm₁ : Vm) (B : Pt), s.WarmedH vm₁ ∧ Stand p l e R s m args below meth c B.U B.locs B.cells B.slots ∧ PostX ⟨T.setVm vm₁, locs, cells, slots⟩ (Value.ref b :: argsL).toArray q B ∧
      Steps p.tables e below (T.setTop g) ((B.U.setTop { g with stack := rest }).pushFrame (.throwing q))) := by
  obtain ⟨mk, methM, hnamed, hmethM, hstM, habM⟩ := Cond.instanceMethod_spec hinst
  obtain ⟨m8, methM', cM, hn8, hmethM', -, -, -, -, -, -, hsigM⟩ := Cond.codeWith_spec hcode
  cases Option.some.inj (hn8.symm.trans hnamed)
  cases hmethM.symm.trans hmethM'
  obtain ⟨c2, r2, m2, q1, q2, q3, q4, kP, hkP, hkPi⟩ := Cond.selects_spec hsel
  cases hcls.symm.trans q1
  cases (State.methodFound?_of_named hnamed hy).symm.trans q2
  cases hnamed.symm.trans q3
  have hselP : selectMethod e.platform s.vm cellB.cls mk = .method mk := by rw [Launch.admits_selectMethod X.admits]; exact q4
  obtain ⟨vm₁, X₁, hstep₁⟩ := X.invokevirtual hexec hown hlink hnamed hmethM hstM hkP hkPi hy (a := b) (cell := cellB) hcell
    (fun z h => by rw [h] at hobj; cases hobj) hselP hmethM habM hkP hkPi (g := g) hg (argsL := argsL) (rest := rest) (hlen _ hsigM) hstack hdg
  rcases hK m meth c ⟨T.setVm vm₁, locs, cells, slots⟩ { g with stack := rest } (.invokevirtual index) mk (Value.ref b :: argsL).toArray X₁ hg hsize hdg hW (X₁.named hnamed) (hpre vm₁ X₁.warmed) with ⟨v, B, X', hpost, hsteps⟩ | ⟨q, B, X', hpost, hsteps⟩
  · exact Or.inl ⟨v, vm₁, B, X₁.warmed, X', hpost, fun target h => hstep₁ _ fun acts => by rw [doInvoke_state]; exact hsteps.trans h⟩
  · exact Or.inr ⟨q, vm₁, B, X₁.warmed, X', hpost, hstep₁ _ fun acts => by rw [doInvoke_state]; exact hsteps⟩
theorem vx_callSX (X : Stand p l e R s m args below meth c T locs cells slots) (hexec : p.tables.exec = Jvm.exec) {own : String} {index : Nat} {y : MethodName} {bytes : ByteArray} {maxL : Nat} {ret : Option FieldType} {hh : List (Nat × Nat × Nat × Nat)}
    (hown : s.vm.findClass own = some m.cls) (hlink : (Cond.methodLink own index y).before args s = true) (hstat : (Cond.static y).before args s = true) (hinit : (Cond.initialized y.cls).before args s = true)
    (hcode : (Cond.codeWith y bytes maxL ret hh).before args s = true) (hy : y.cls ≠ "java/lang/invoke/MethodHandle" ∧ y.cls ≠ "java/lang/invoke/VarHandle")
    {W9 : Nat} {Pre : Pt → Array Value → Prop} {Post : Pt → Array Value → Option Value → Pt → Prop} {PostX : Pt → Array Value → Addr → Pt → Prop} (hK : vx_Back l R p e below s args y 3 W9 Pre Post PostX)
    {g : JFrame} (hg : g.method = m) (hsize : g.locals.size = c.maxLocals) {argsL rest : List Value} (hlen : ∀ sig, parseMethodDescriptor y.desc = some sig → argsL.length = sig.parameters.length)
    (hstack : g.stack = argsL.reverse ++ rest) (hW : 2 * g.monitorRoom + (rest.map fun v => v.category).sum ≤ W9) (hdg : decode c.code g.pc = .ok (.invokestatic index, 3))
    (hpre : ∀ vm₁, s.WarmedH vm₁ → Pre ⟨T.setVm vm₁, locs, cells, slots⟩ argsL.toArray) :
    (∃ (v : Option Value) (vm₁ : Vm) (B : Pt), s.WarmedH vm₁ ∧ Stand p l e R s m args below meth c B.U B.locs B.cells B.slots ∧ Post ⟨T.setVm vm₁, locs, cells, slots⟩ argsL.toArray v B ∧
      ∀ target, Steps p.tables e below (B.U.setTop { g with pc := g.pc + 3, stack := v.toList ++ rest }) target → Steps p.tables e below (T.setTop g) target) ∨
    (∃ (q : Addr) (vm₁ : Vm) (B : Pt), s.WarmedH vm₁ ∧ Stand p l e R s m args below meth c B.U B.locs B.cells B.slots ∧ PostX ⟨T.setVm vm₁, locs, cells, slots⟩ argsL.toArray q B ∧
      Steps p.tables e below (T.setTop g) ((B.U.setTop { g with stack := rest }).pushFrame (.throwing q))) := by
  obtain ⟨mk, methM, cM, hnamed, hmethM, -, -, -, -, -, -, hsigM⟩ := Cond.codeWith_spec hcode
  have hstatic : methM.isStatic = true := Cond.static_spec hnamed hmethM hstat
  obtain ⟨kP, hkP, -⟩ := className_of_methodNamed hnamed
  have hinitP : kP.init = .initialized := Cond.initialized_spec (findClass_of_methodNamed hnamed) hkP hinit
  obtain ⟨vm₁, X₁, hstep₁⟩ := X.invokestatic hexec hown hlink hnamed hmethM hstatic hkP hinitP hy (g := g) hg (argsL := argsL) (rest := rest) (hlen _ hsigM) hstack hdg
  rcases hK m meth c ⟨T.setVm vm₁, locs, cells, slots⟩ { g with stack := rest } (.invokestatic index) mk argsL.toArray X₁ hg hsize hdg hW (X₁.named hnamed) (hpre vm₁ X₁.warmed) with ⟨v, B, X', hpost, hsteps⟩ | ⟨q, B, X', hpost, hsteps⟩
  · exact Or.inl ⟨v, vm₁, B, X₁.warmed, X', hpost, fun target h => hstep₁ _ fun acts => by rw [doInvoke_state]; exact hsteps.trans h⟩
  · exact Or.inr ⟨q, vm₁, B, X₁.warmed, X', hpost, hstep₁ _ fun acts => by rw [doInvoke_state]; exact hsteps⟩
theorem vx_callVW (X : Stand p l e R s m args below meth c T locs cells slots) (hexec : p.tables.exec = Jvm.exec) {own C : String} {index : Nat} {y : MethodName} {bytes : ByteArray} {maxL : Nat} {ret : Option FieldType} {hh : List (Nat × Nat × Nat × Nat)}
    (hown : s.vm.findClass own = some m.cls) (hlink : (Cond.methodLink own index y).before args s = true) (hinst : (Cond.instanceMethod y).before args s = true) (hsel : (Cond.selects C y y).before args s = true)
    (hcode : (Cond.codeWith y bytes maxL ret hh).before args s = true) (hy : y.cls ≠ "java/lang/invoke/MethodHandle" ∧ y.cls ≠ "java/lang/invoke/VarHandle")
    {W9 : Nat} {Pre : Pt → Array Value → Prop} {Post : Pt → Array Value → Option Value → Pt → Prop} (hK : Back l R p e below s args y 3 W9 Pre Post)
    {b : Addr} {cellB : Cell} (hcell : T.heap[b]? = some cellB) (hobj : cellB.vm.isStatics = false) (hcls : s.vm.findClass C = some cellB.cls)
    {g : JFrame} (hg : g.method = m) (hsize : g.locals.size = c.maxLocals) {argsL rest : List Value} (hlen : ∀ sig, parseMethodDescriptor y.desc = some sig → argsL.length = sig.parameters.length)
    (hstack : g.stack = argsL.reverse ++ .ref b :: rest) (hW : 2 * g.monitorRoom + (rest.map fun v => v.category).sum ≤ W9) (hdg : decode c.code g.pc = .ok (.invokevirtual index, 3))
    (hpre : ∀ vm₁, s.WarmedH vm₁ → Pre ⟨T.setVm vm₁, locs, cells, slots⟩ (Value.ref b :: argsL).toArray) :
    ∃ (v : Option Value) (vm₁ : Vm) (B : Pt), s.WarmedH vm₁ ∧ Stand p l e R s m args below meth c B.U B.locs B.cells B.slots ∧ Post ⟨T.setVm vm₁, locs, cells, slots⟩ (Value.ref b :: argsL).toArray v B ∧
      ∀ target, Steps p.tables e below (B.U.setTop { g with pc := g.pc + 3, stack := v.toList ++ rest }) target → Steps p.tables e below (T.setTop g) target := by
  obtain ⟨mk, methM, hnamed, hmethM, hstM, habM⟩ := Cond.instanceMethod_spec hinst
  obtain ⟨m8, methM', cM, hn8, hmethM', -, -, -, -, -, -, hsigM⟩ := Cond.codeWith_spec hcode
  cases Option.some.inj (hn8.symm.trans hnamed)
  cases hmethM.symm.trans hmethM'
  obtain ⟨c2, r2, m2, q1, q2, q3, q4, kP, hkP, hkPi⟩ := Cond.selects_spec hsel
  cases hcls.symm.trans q1
  cases (State.methodFound?_of_named hnamed hy).symm.trans q2
  cases hnamed.symm.trans q3
  have hselP : selectMethod e.platform s.vm cellB.cls mk = .method mk := by rw [Launch.admits_selectMethod X.admits]; exact q4
  obtain ⟨vm₁, X₁, hstep₁⟩ := X.invokevirtual hexec hown hlink hnamed hmethM hstM hkP hkPi hy (a := b) (cell := cellB) hcell
    (fun z h => by rw [h] at hobj; cases hobj) hselP hmethM habM hkP hkPi (g := g) hg (argsL := argsL) (rest := rest) (hlen _ hsigM) hstack hdg
  obtain ⟨v, B, X', hpost, hsteps⟩ := hK m meth c ⟨T.setVm vm₁, locs, cells, slots⟩ { g with stack := rest } (.invokevirtual index) mk (Value.ref b :: argsL).toArray X₁ hg hsize hdg hW (X₁.named hnamed) (hpre vm₁ X₁.warmed)
  exact ⟨v, vm₁, B, X₁.warmed, X', hpost, fun target h => hstep₁ _ fun acts => by rw [doInvoke_state]; exact hsteps.trans h⟩
abbrev vx_CVW (R : Room) (s : State) (args : Array Value) (own C : String) (index : Nat) (y : MethodName) (bytes : ByteArray) (maxL : Nat) (ret : Option FieldType) (hh : List (Nat × Nat × Nat × Nat)) (ws : List Cond) (rm : Room) (mc ms n : Nat) : Prop :=
  (rm.cells = mc ∧ rm.slots = ms ∧ rm.frames + 1 ≤ R.frames ∧ 8 + (maxL + 11) + rm.locals ≤ R.locals ∧ (∀ w ∈ ws, ∀ (a' : Array Value) (U : State), s.WarmedH U.vm → w.before a' U = true) ∧ Cond.codeWith y bytes maxL ret hh ∈ ws) ∧
  (Cond.codeWith y bytes maxL ret hh).before args s = true ∧ (Cond.initialized y.cls).before args s = true ∧ (y.cls ≠ "java/lang/invoke/MethodHandle" ∧ y.cls ≠ "java/lang/invoke/VarHandle") ∧
  (∀ sig, parseMethodDescriptor y.desc = some sig → n = sig.parameters.length) ∧ (Cond.methodLink own index y).before args s = true ∧ (Cond.instanceMethod y).before args s = true ∧ (Cond.selects C y y).before args s = true
theorem vx_cwVW {own C : String} {index maxL mc ms : Nat} {y : MethodName} {bytes : ByteArray} {ret : Option FieldType} {hh : List (Nat × Nat × Nat × Nat)} {Ts ws ws' : List Cond} {rm : Room} (n : Nat) (ht : ∀ w ∈ Ts, w.before args s = true) (hT : GoodIn Ts (wsV own index C y ws)) (hw : ws = Cond.codeWith y bytes maxL ret hh :: ws') (hrc : rm.cells = mc) (hrs : rm.slots = ms)
    (hd : y.cls = C ∧ y.cls ≠ "java/lang/invoke/MethodHandle" ∧ y.cls ≠ "java/lang/invoke/VarHandle" ∧ (parseMethodDescriptor y.desc).map (fun d => d.parameters.length) = some n) (hR : rm.frames + 1 ≤ R.frames ∧ 8 + (maxL + 11) + rm.locals ≤ R.locals) :
    vx_CVW R s args own C index y bytes maxL ret hh ws rm mc ms n := by
  obtain ⟨hC, hd⟩ := hd
  subst hC
  have ok : ∀ w ∈ wsV own index y.cls y ws, w.before args s = true := fun w h => ht w (hT w h).1
  have hG : GoodIn Ts ws := fun w h => hT w (by unfold wsV; exact List.mem_append_right _ h)
  have hc : Cond.codeWith y bytes maxL ret hh ∈ ws := by rw [hw]; exact List.mem_cons_self
  refine ⟨⟨hrc, hrs, hR.1, hR.2, pay_in ht hG, hc⟩, ht _ (hG _ hc).1, ok _ (by simp [wsV]), ⟨hd.1, hd.2.1⟩, fun sig h => ?_, ok _ (by simp [wsV]), ok _ (by simp [wsV]), ok _ (by simp [wsV])⟩
  have h2 := hd.2.2
  rw [h] at h2
  exact (Option.some.inj h2).symm
theorem vx_runVW {y : MethodName} {bytes cc : ByteArray} {maxL nL mc ms n index : Nat} {ret : Option FieldType} {hh : List (Nat × Nat × Nat × Nat)} {ws : List Cond} {rm : Room} {Pc : Array Value → State → Prop} {Qc : Array Value → State → Outcome → State → Prop} {free : Addr → Prop} {Ts : List Cond} {own C : String} {b : Addr} {As rest : List Value} {g : JFrame}
    (S : CallFix p m c cc nL s args Ts own) (hM : Met l y ws rm Pc Qc mc ms free) (cw : vx_CVW R s args own C index y bytes maxL ret hh ws rm mc ms n) (hp : PreV s H C b Pc As)
    (hg : g.method = m) (hn : As.length = n) (hsize : g.locals.size = nL) (hstack : g.stack = As.reverse ++ .ref b :: rest) (hW : 2 * g.monitorRoom + (rest.map fun v => v.category).sum ≤ 8) (hdg : decode cc g.pc = .ok (.invokevirtual index, 3)) (hf : cells + mc ≤ R.cells ∧ slots + ms ≤ R.slots) :
    va_Run p l e R s m args below meth c H locs cells slots mc ms g rest (Qc (Value.ref b :: As).toArray) free := by
  obtain ⟨⟨hrc, hrs, hfr, hlo, hws, hcw⟩, hcode, hini, hy, hlen, hl, hin, hse⟩ := cw
  have hK : Back l R p e below s args y 3 8 (PreOf R mc ms Pc) (PostOf Qc mc ms free) := va_backW (hh := hh) (bytes := bytes) (maxL := maxL) (ret := ret) hM hp.1 hrc hrs hfr hlo hws hcw (fun a' U hW => word_at hW (Or.inl (by first | rfl | simp [Cond.onTables, Cond.keeps, Cond.steady])) hini)
  obtain ⟨hx, hb, hml, ho, -⟩ := S
  obtain ⟨-, ⟨cellB, hcB, hoB, hclB⟩, hPc⟩ := hp
  intro T hT X
  obtain ⟨v, vm₁, ⟨U', l2, c2, s2⟩, hW₁, X', ⟨g', mk, t, L, e1, e2, hq, h1, hL, h2, h3⟩, st⟩ := vx_callVW X hx (C := C) (hh := hh) (bytes := bytes) (maxL := maxL) (ret := ret) ho hl hin hse hcode hy hK (by rw [hT]; exact hcB) hoB hclB hg (hsize.trans hml.symm) (argsL := As) (rest := rest) (fun sig h => hn.trans (hlen sig h)) hstack hW (by rw [hb]; exact hdg)
    (fun vm₁ hW₁ => ⟨hf.1, hf.2, hPc (T.setVm vm₁) hT hW₁⟩)
  dsimp only [Pt.U, Pt.locs, Pt.cells, Pt.slots] at X' e1 e2 h1 h2 h3 st
  subst h1; subst h2; subst h3
  exact ⟨v, (T.setVm vm₁).calling g' mk (Value.ref b :: As).toArray, t, U', L, hT, X', hL, e1, e2, hq, st⟩
section
variable {y : MethodName} {bytes cc : ByteArray} {maxL nL mc ms n index : Nat} {ret : Option FieldType} {ws : List Cond} {rm : Room} {Pc : Array Value → State → Prop} {Qc : Array Value → State → Outcome → State → Prop} {XC : String → State → State → Prop} {free : Addr → Prop} {Ts : List Cond} {own C : String} {b : Addr} {As rest : List Value} {g : JFrame}
theorem vx_runVX {hh : List (Nat × Nat × Nat × Nat)} (S : CallFix p m c cc nL s args Ts own) (hM : vx_Met l y ws rm Pc Qc XC mc ms free) (cw : vx_CVW R s args own C index y bytes maxL ret hh ws rm mc ms n) (hp : PreV s H C b Pc As)
    (hg : g.method = m) (hn : As.length = n) (hsize : g.locals.size = nL) (hstack : g.stack = As.reverse ++ .ref b :: rest) (hW : 2 * g.monitorRoom + (rest.map fun v => v.category).sum ≤ 8) (hdg : decode cc g.pc = .ok (.invokevirtual index, 3)) (hf : cells + mc ≤ R.cells ∧ slots + ms ≤ R.slots) :
    vx_Run p l e R s m args below meth c H locs cells slots mc ms g rest (Qc (Value.ref b :: As).toArray) XC free := by
  obtain ⟨⟨hrc, hrs, hfr, hlo, hws, hcw⟩, hcode, hini, hy, hlen, hl, hin, hse⟩ := cw
  have hK : vx_Back l R p e below s args y 3 8 (PreOf R mc ms Pc) (PostOf Qc mc ms free) (vx_Post XC mc ms free) := vx_backW (hh := hh) (bytes := bytes) (maxL := maxL) (ret := ret) hM hp.1 hrc hrs hfr hlo hws hcw (fun a' U hW => word_at hW (Or.inl (by first | rfl | simp [Cond.onTables, Cond.keeps, Cond.steady])) hini)
  obtain ⟨hx, hb, hml, ho, -⟩ := S
  obtain ⟨-, ⟨cellB, hcB, hoB, hclB⟩, hPc⟩ := hp
  intro T hT X
  rcases vx_callVX X hx (C := C) (hh := hh) (bytes := bytes) (maxL := maxL) (ret := ret) ho hl hin hse hcode hy hK (by rw [hT]; exact hcB) hoB hclB hg (hsize.trans hml.symm) (argsL := As) (rest := rest) (fun sig h => hn.trans (hlen sig h)) hstack hW (by rw [hb]; exact hdg)
    (fun vm₁ hW₁ => ⟨hf.1, hf.2, hPc (T.setVm vm₁) hT hW₁⟩) with ⟨v, vm₁, ⟨U', l2, c2, s2⟩, hW₁, X', ⟨g', mk, t, L, e1, e2, hq, h1, hL, h2, h3⟩, st⟩ | ⟨q, vm₁, ⟨U', l2, c2, s2⟩, hW₁, X', ⟨g', mk, t, L, E, ce, e1, e2, hq, hce, hcv, hcl, h1, hL, h2, h3⟩, st⟩
  · dsimp only [Pt.U, Pt.locs, Pt.cells, Pt.slots] at X' e1 e2 h1 h2 h3 st
    subst h1; subst h2; subst h3
    exact Or.inl ⟨v, (T.setVm vm₁).calling g' mk (Value.ref b :: As).toArray, t, U', L, hT, X', hL, e1, e2, hq, st⟩
  · dsimp only [Pt.U, Pt.locs, Pt.cells, Pt.slots] at X' e1 e2 h1 h2 h3 st hcl
    subst h1; subst h2; subst h3
    exact Or.inr ⟨q, (T.setVm vm₁).calling g' mk (Value.ref b :: As).toArray, t, U', L, E, ce, hT, X', hL, e1, e2, hq, hce, hcv, vx_cls hW₁ hcl, st⟩
theorem vx_runSX {hh : List (Nat × Nat × Nat × Nat)} (S : CallFix p m c cc nL s args Ts own) (hM : vx_Met l y ws rm Pc Qc XC mc ms free) (cw : vx_CSW R s args own index y bytes maxL ret hh ws rm mc ms n) (hp : PreS s H Pc As)
    (hg : g.method = m) (hn : As.length = n) (hsize : g.locals.size = nL) (hstack : g.stack = As.reverse ++ rest) (hW : 2 * g.monitorRoom + (rest.map fun v => v.category).sum ≤ 8) (hdg : decode cc g.pc = .ok (.invokestatic index, 3)) (hf : cells + mc ≤ R.cells ∧ slots + ms ≤ R.slots) :
    vx_Run p l e R s m args below meth c H locs cells slots mc ms g rest (Qc As.toArray) XC free := by
  obtain ⟨⟨hrc, hrs, hfr, hlo, hws, hcw⟩, hcode, hini, hy, hlen, hl, hstt⟩ := cw
  have hK : vx_Back l R p e below s args y 3 8 (PreOf R mc ms Pc) (PostOf Qc mc ms free) (vx_Post XC mc ms free) := vx_backW (hh := hh) (bytes := bytes) (maxL := maxL) (ret := ret) hM hp.1 hrc hrs hfr hlo hws hcw (fun a' U hW => word_at hW (Or.inl (by first | rfl | simp [Cond.onTables, Cond.keeps, Cond.steady])) hini)
  obtain ⟨hx, hb, hml, ho, -⟩ := S
  intro T hT X
  rcases vx_callSX X hx (hh := hh) (bytes := bytes) (maxL := maxL) (ret := ret) ho hl hstt hini hcode hy hK hg (hsize.trans hml.symm) (argsL := As) (rest := rest) (fun sig h => hn.trans (hlen sig h)) hstack hW (by rw [hb]; exact hdg)
    (fun vm₁ hW₁ => ⟨hf.1, hf.2, hp.2 (T.setVm vm₁) hT hW₁⟩) with ⟨v, vm₁, ⟨U', l2, c2, s2⟩, hW₁, X', ⟨g', mk, t, L, e1, e2, hq, h1, hL, h2, h3⟩, st⟩ | ⟨q, vm₁, ⟨U', l2, c2, s2⟩, hW₁, X', ⟨g', mk, t, L, E, ce, e1, e2, hq, hce, hcv, hcl, h1, hL, h2, h3⟩, st⟩
  · dsimp only [Pt.U, Pt.locs, Pt.cells, Pt.slots] at X' e1 e2 h1 h2 h3 st
    subst h1; subst h2; subst h3
    exact Or.inl ⟨v, (T.setVm vm₁).calling g' mk As.toArray, t, U', L, hT, X', hL, e1, e2, hq, st⟩
  · dsimp only [Pt.U, Pt.locs, Pt.cells, Pt.slots] at X' e1 e2 h1 h2 h3 st hcl
    subst h1; subst h2; subst h3
    exact Or.inr ⟨q, (T.setVm vm₁).calling g' mk As.toArray, t, U', L, E, ce, hT, X', hL, e1, e2, hq, hce, hcv, vx_cls hW₁ hcl, st⟩
end
end VXH
end
section
def RX0 : String := "TaskKernel$Body"
def TX0 : u_T := fun k => match k with
  | 0 => ("TaskKernel$Body", "kinds", "[I", true)
  | 1 => ("TaskKernel$Body", "amounts", "[I", true)
  | _ => ("TaskKernel$Body", "size", "I", false)
def tyX0 : Nat → FieldType := fun k => match k with
  | 0 => .array .int
  | 1 => .array .int
  | _ => .int
abbrev wsX00 : List Cond := u_ws RX0 TX0 3
theorem nmX0 : ∀ a, a < 3 → ∀ b, b < 3 → a ≠ b → (TX0 a).2.1 ≠ (TX0 b).2.1 := by decide +kernel
theorem tyX0_ok : ∀ k, k < 3 → parseFieldDescriptor (TX0 k).2.2.1 = some (tyX0 k) := by decide +kernel
abbrev cX0_init : ByteArray := prog_2_method_1_code
def yX0_init : MethodName := ⟨RX0, "<init>", "()V"⟩
abbrev cX0_append : ByteArray := prog_2_method_2_code
def yX0_append : MethodName := ⟨RX0, "append", "(II)V"⟩
abbrev cX0_cost : ByteArray := prog_2_method_3_code
def yX0_cost : MethodName := ⟨RX0, "cost", "()I"⟩
abbrev cX0_hasLockOf : ByteArray := prog_2_method_4_code
def yX0_hasLockOf : MethodName := ⟨RX0, "hasLockOf", "(I)Z"⟩
abbrev cX0_greatestSection : ByteArray := prog_2_method_5_code
def yX0_greatestSection : MethodName := ⟨RX0, "greatestSection", "(I)I"⟩
abbrev cX0_sectionFrom : ByteArray := prog_2_method_6_code
def yX0_sectionFrom : MethodName := ⟨RX0, "sectionFrom", "(II)I"⟩
def RX1 : String := "TaskKernel$Job"
def TX1 : u_T := fun k => match k with
  | 0 => ("TaskKernel$Job", "state", "I", false)
  | 1 => ("TaskKernel$Job", "at", "I", false)
  | 2 => ("TaskKernel$Job", "workedAtStep", "I", false)
  | 3 => ("TaskKernel$Job", "worked", "I", false)
  | 4 => ("TaskKernel$Job", "releasedAt", "I", false)
  | 5 => ("TaskKernel$Job", "due", "I", false)
  | 6 => ("TaskKernel$Job", "since", "I", false)
  | 7 => ("TaskKernel$Job", "blockedAt", "LTaskKernel$Mutex;", false)
  | _ => ("TaskKernel$Job", "rank", "I", false)
def tyX1 : Nat → FieldType := fun k => match k with
  | 0 => .int
  | 1 => .int
  | 2 => .int
  | 3 => .int
  | 4 => .int
  | 5 => .int
  | 6 => .int
  | 7 => .object "TaskKernel$Mutex"
  | _ => .int
abbrev wsX10 : List Cond := u_ws RX1 TX1 9
theorem nmX1 : ∀ a, a < 9 → ∀ b, b < 9 → a ≠ b → (TX1 a).2.1 ≠ (TX1 b).2.1 := by decide +kernel
theorem tyX1_ok : ∀ k, k < 9 → parseFieldDescriptor (TX1 k).2.2.1 = some (tyX1 k) := by decide +kernel
abbrev cX1_init : ByteArray := prog_3_method_1_code
def yX1_init : MethodName := ⟨RX1, "<init>", "()V"⟩
abbrev cX1_begin : ByteArray := prog_3_method_2_code
def yX1_begin : MethodName := ⟨RX1, "begin", "(III)V"⟩
abbrev cX1_passStep : ByteArray := prog_3_method_3_code
def yX1_passStep : MethodName := ⟨RX1, "passStep", "()V"⟩
abbrev cX1_blockAt : ByteArray := prog_3_method_4_code
def yX1_blockAt : MethodName := ⟨RX1, "blockAt", "(LTaskKernel$Mutex;I)V"⟩
abbrev cX1_resume : ByteArray := prog_3_method_5_code
def yX1_resume : MethodName := ⟨RX1, "resume", "(I)V"⟩
abbrev cX1_end : ByteArray := prog_3_method_6_code
def yX1_end : MethodName := ⟨RX1, "end", "()V"⟩
abbrev cX1_inheritsAhead : ByteArray := prog_3_method_7_code
def yX1_inheritsAhead : MethodName := ⟨RX1, "inheritsAhead", "(LTaskKernel$Job;)Z"⟩
def RX2 : String := "TaskKernel$Journal"
def TX2 : u_T := fun k => match k with
  | 0 => ("TaskKernel$Journal", "kinds", "[I", true)
  | 1 => ("TaskKernel$Journal", "times", "[I", true)
  | 2 => ("TaskKernel$Journal", "numbers", "[I", true)
  | 3 => ("TaskKernel$Journal", "total", "I", false)
  | _ => ("TaskKernel$Journal", "next", "I", false)
def tyX2 : Nat → FieldType := fun k => match k with
  | 0 => .array .int
  | 1 => .array .int
  | 2 => .array .int
  | 3 => .int
  | _ => .int
abbrev wsX20 : List Cond := u_ws RX2 TX2 5
theorem nmX2 : ∀ a, a < 5 → ∀ b, b < 5 → a ≠ b → (TX2 a).2.1 ≠ (TX2 b).2.1 := by decide +kernel
theorem tyX2_ok : ∀ k, k < 5 → parseFieldDescriptor (TX2 k).2.2.1 = some (tyX2 k) := by decide +kernel
abbrev cX2_init : ByteArray := prog_4_method_1_code
def yX2_init : MethodName := ⟨RX2, "<init>", "()V"⟩
abbrev cX2_add : ByteArray := prog_4_method_2_code
def yX2_add : MethodName := ⟨RX2, "add", "(III)V"⟩
abbrev cX2_answer : ByteArray := prog_4_method_3_code
def yX2_answer : MethodName := ⟨RX2, "answer", "(II)I"⟩
def RX3 : String := "TaskKernel$Mutex"
def TX3 : u_T := fun k => match k with
  | 0 => ("TaskKernel$Mutex", "number", "I", true)
  | 1 => ("TaskKernel$Mutex", "protocol", "I", true)
  | 2 => ("TaskKernel$Mutex", "ceiling", "I", true)
  | _ => ("TaskKernel$Mutex", "owner", "LTaskKernel$Task;", false)
def tyX3 : Nat → FieldType := fun k => match k with
  | 0 => .int
  | 1 => .int
  | 2 => .int
  | _ => .object "TaskKernel$Task"
abbrev wsX30 : List Cond := u_ws RX3 TX3 4
theorem nmX3 : ∀ a, a < 4 → ∀ b, b < 4 → a ≠ b → (TX3 a).2.1 ≠ (TX3 b).2.1 := by decide +kernel
theorem tyX3_ok : ∀ k, k < 4 → parseFieldDescriptor (TX3 k).2.2.1 = some (tyX3 k) := by decide +kernel
abbrev cX3_init : ByteArray := prog_5_method_1_code
def yX3_init : MethodName := ⟨RX3, "<init>", "(III)V"⟩
def RX4 : String := "TaskKernel$Tally"
def TX4 : u_T := fun k => match k with
  | 0 => ("TaskKernel$Tally", "done", "I", false)
  | 1 => ("TaskKernel$Tally", "failed", "I", false)
  | 2 => ("TaskKernel$Tally", "misses", "I", false)
  | 3 => ("TaskKernel$Tally", "lost", "I", false)
  | 4 => ("TaskKernel$Tally", "worked", "I", false)
  | _ => ("TaskKernel$Tally", "longest", "I", false)
def tyX4 : Nat → FieldType := fun k => match k with
  | 0 => .int
  | 1 => .int
  | 2 => .int
  | 3 => .int
  | 4 => .int
  | _ => .int
abbrev wsX40 : List Cond := u_ws RX4 TX4 6
theorem nmX4 : ∀ a, a < 6 → ∀ b, b < 6 → a ≠ b → (TX4 a).2.1 ≠ (TX4 b).2.1 := by decide +kernel
theorem tyX4_ok : ∀ k, k < 6 → parseFieldDescriptor (TX4 k).2.2.1 = some (tyX4 k) := by decide +kernel
abbrev cX4_init : ByteArray := prog_6_method_1_code
def yX4_init : MethodName := ⟨RX4, "<init>", "()V"⟩
abbrev cX4_addDone : ByteArray := prog_6_method_2_code
def yX4_addDone : MethodName := ⟨RX4, "addDone", "(I)V"⟩
def RX5 : String := "TaskKernel$Task"
def TX5 : u_T := fun k => match k with
  | 0 => ("TaskKernel$Task", "number", "I", true)
  | 1 => ("TaskKernel$Task", "priority", "I", true)
  | 2 => ("TaskKernel$Task", "period", "I", true)
  | 3 => ("TaskKernel$Task", "offset", "I", true)
  | 4 => ("TaskKernel$Task", "deadline", "I", true)
  | 5 => ("TaskKernel$Task", "budget", "I", true)
  | 6 => ("TaskKernel$Task", "body", "LTaskKernel$Body;", true)
  | 7 => ("TaskKernel$Task", "job", "LTaskKernel$Job;", true)
  | 8 => ("TaskKernel$Task", "tally", "LTaskKernel$Tally;", true)
  | _ => ("TaskKernel$Task", "isStrict", "Z", false)
def tyX5 : Nat → FieldType := fun k => match k with
  | 0 => .int
  | 1 => .int
  | 2 => .int
  | 3 => .int
  | 4 => .int
  | 5 => .int
  | 6 => .object "TaskKernel$Body"
  | 7 => .object "TaskKernel$Job"
  | 8 => .object "TaskKernel$Tally"
  | _ => .boolean
abbrev wsX50 : List Cond := u_ws RX5 TX5 10
theorem nmX5 : ∀ a, a < 10 → ∀ b, b < 10 → a ≠ b → (TX5 a).2.1 ≠ (TX5 b).2.1 := by decide +kernel
theorem tyX5_ok : ∀ k, k < 10 → parseFieldDescriptor (TX5 k).2.2.1 = some (tyX5 k) := by decide +kernel
abbrev cX5_init : ByteArray := prog_7_method_1_code
def yX5_init : MethodName := ⟨RX5, "<init>", "(IIIIII)V"⟩
abbrev cX5_isPeriodicAt : ByteArray := prog_7_method_2_code
def yX5_isPeriodicAt : MethodName := ⟨RX5, "isPeriodicAt", "(I)Z"⟩
abbrev cX5_isAtWork : ByteArray := prog_7_method_3_code
def yX5_isAtWork : MethodName := ⟨RX5, "isAtWork", "()Z"⟩
def RX6 : String := "TaskKernel"
def TX6 : u_T := fun k => match k with
  | 0 => ("TaskKernel", "byDeadline", "Z", true)
  | 1 => ("TaskKernel", "tasks", "[LTaskKernel$Task;", true)
  | 2 => ("TaskKernel", "mutexes", "[LTaskKernel$Mutex;", true)
  | 3 => ("TaskKernel", "journal", "LTaskKernel$Journal;", true)
  | 4 => ("TaskKernel", "taskCount", "I", false)
  | 5 => ("TaskKernel", "mutexCount", "I", false)
  | 6 => ("TaskKernel", "started", "Z", false)
  | 7 => ("TaskKernel", "time", "I", false)
  | 8 => ("TaskKernel", "workedLast", "LTaskKernel$Task;", false)
  | _ => ("TaskKernel", "changes", "I", false)
def tyX6 : Nat → FieldType := fun k => match k with
  | 0 => .boolean
  | 1 => .array (.object "TaskKernel$Task")
  | 2 => .array (.object "TaskKernel$Mutex")
  | 3 => .object "TaskKernel$Journal"
  | 4 => .int
  | 5 => .int
  | 6 => .boolean
  | 7 => .int
  | 8 => .object "TaskKernel$Task"
  | _ => .int
abbrev wsX60 : List Cond := u_ws RX6 TX6 10
theorem nmX6 : ∀ a, a < 10 → ∀ b, b < 10 → a ≠ b → (TX6 a).2.1 ≠ (TX6 b).2.1 := by decide +kernel
theorem tyX6_ok : ∀ k, k < 10 → parseFieldDescriptor (TX6 k).2.2.1 = some (tyX6 k) := by decide +kernel
abbrev cX6_init : ByteArray := prog_1_method_1_code
def yX6_init : MethodName := ⟨RX6, "<init>", "(I)V"⟩
abbrev cX6_task : ByteArray := prog_1_method_2_code
def yX6_task : MethodName := ⟨RX6, "task", "(IIIII)I"⟩
abbrev cX6_strict : ByteArray := prog_1_method_3_code
def yX6_strict : MethodName := ⟨RX6, "strict", "(IZ)Z"⟩
abbrev cX6_mutex : ByteArray := prog_1_method_4_code
def yX6_mutex : MethodName := ⟨RX6, "mutex", "(II)I"⟩
abbrev cX6_step : ByteArray := prog_1_method_5_code
def yX6_step : MethodName := ⟨RX6, "step", "(III)I"⟩
abbrev cX6_start : ByteArray := prog_1_method_6_code
def yX6_start : MethodName := ⟨RX6, "start", "()V"⟩
abbrev cX6_isTask : ByteArray := prog_1_method_7_code
def yX6_isTask : MethodName := ⟨RX6, "isTask", "(I)Z"⟩
abbrev cX6_isMutex : ByteArray := prog_1_method_8_code
def yX6_isMutex : MethodName := ⟨RX6, "isMutex", "(I)Z"⟩
abbrev cX6_isStep : ByteArray := prog_1_method_9_code
def yX6_isStep : MethodName := ⟨RX6, "isStep", "(II)Z"⟩
abbrev cX6_within : ByteArray := prog_1_method_10_code
def yX6_within : MethodName := ⟨RX6, "within", "(III)Z"⟩
abbrev cX6_release : ByteArray := prog_1_method_11_code
def yX6_release : MethodName := ⟨RX6, "release", "(I)Z"⟩
abbrev cX6_tick : ByteArray := prog_1_method_12_code
def yX6_tick : MethodName := ⟨RX6, "tick", "(I)I"⟩
abbrev cX6_noteMisses : ByteArray := prog_1_method_13_code
def yX6_noteMisses : MethodName := ⟨RX6, "noteMisses", "()V"⟩
abbrev cX6_releasePeriodic : ByteArray := prog_1_method_14_code
def yX6_releasePeriodic : MethodName := ⟨RX6, "releasePeriodic", "()V"⟩
abbrev cX6_beginJob : ByteArray := prog_1_method_15_code
def yX6_beginJob : MethodName := ⟨RX6, "beginJob", "(LTaskKernel$Task;)V"⟩
abbrev cX6_settle : ByteArray := prog_1_method_16_code
def yX6_settle : MethodName := ⟨RX6, "settle", "()LTaskKernel$Task;"⟩
abbrev cX6_workOneUnit : ByteArray := prog_1_method_17_code
def yX6_workOneUnit : MethodName := ⟨RX6, "workOneUnit", "(LTaskKernel$Task;)V"⟩
abbrev cX6_goOn : ByteArray := prog_1_method_18_code
def yX6_goOn : MethodName := ⟨RX6, "goOn", "(LTaskKernel$Task;I)V"⟩
abbrev cX6_stepFails : ByteArray := prog_1_method_19_code
def yX6_stepFails : MethodName := ⟨RX6, "stepFails", "(LTaskKernel$Task;ILTaskKernel$Mutex;)Z"⟩
abbrev cX6_endJob : ByteArray := prog_1_method_20_code
def yX6_endJob : MethodName := ⟨RX6, "endJob", "(LTaskKernel$Task;I)V"⟩
abbrev cX6_giveAway : ByteArray := prog_1_method_21_code
def yX6_giveAway : MethodName := ⟨RX6, "giveAway", "(LTaskKernel$Mutex;)V"⟩
abbrev cX6_heirOf : ByteArray := prog_1_method_22_code
def yX6_heirOf : MethodName := ⟨RX6, "heirOf", "(LTaskKernel$Mutex;)LTaskKernel$Task;"⟩
abbrev cX6_nextChange : ByteArray := prog_1_method_23_code
def yX6_nextChange : MethodName := ⟨RX6, "nextChange", "()I"⟩
abbrev cX6_note : ByteArray := prog_1_method_24_code
def yX6_note : MethodName := ⟨RX6, "note", "(ILTaskKernel$Task;)V"⟩
abbrev cX6_mostUrgentReady : ByteArray := prog_1_method_25_code
def yX6_mostUrgentReady : MethodName := ⟨RX6, "mostUrgentReady", "()LTaskKernel$Task;"⟩
abbrev cX6_goesAhead : ByteArray := prog_1_method_26_code
def yX6_goesAhead : MethodName := ⟨RX6, "goesAhead", "(LTaskKernel$Task;LTaskKernel$Task;)Z"⟩
abbrev cX6_rankTasks : ByteArray := prog_1_method_27_code
def yX6_rankTasks : MethodName := ⟨RX6, "rankTasks", "()V"⟩
abbrev cX6_liftToCeilings : ByteArray := prog_1_method_28_code
def yX6_liftToCeilings : MethodName := ⟨RX6, "liftToCeilings", "()V"⟩
abbrev cX6_lendOnce : ByteArray := prog_1_method_29_code
def yX6_lendOnce : MethodName := ⟨RX6, "lendOnce", "()Z"⟩
abbrev cX6_urgencyOf : ByteArray := prog_1_method_30_code
def yX6_urgencyOf : MethodName := ⟨RX6, "urgencyOf", "(LTaskKernel$Task;)I"⟩
abbrev cX6_seen : ByteArray := prog_1_method_31_code
def yX6_seen : MethodName := ⟨RX6, "seen", "(II)I"⟩
abbrev cX6_held : ByteArray := prog_1_method_32_code
def yX6_held : MethodName := ⟨RX6, "held", "(II)I"⟩
abbrev cX6_event : ByteArray := prog_1_method_33_code
def yX6_event : MethodName := ⟨RX6, "event", "(II)I"⟩
abbrev cX6_look : ByteArray := prog_1_method_34_code
def yX6_look : MethodName := ⟨RX6, "look", "(I)I"⟩
abbrev cX6_countBlockedAt : ByteArray := prog_1_method_35_code
def yX6_countBlockedAt : MethodName := ⟨RX6, "countBlockedAt", "(LTaskKernel$Mutex;)I"⟩
abbrev cX6_response : ByteArray := prog_1_method_36_code
def yX6_response : MethodName := ⟨RX6, "response", "(I)I"⟩
abbrev cX6_load : ByteArray := prog_1_method_37_code
def yX6_load : MethodName := ⟨RX6, "load", "()D"⟩
abbrev cX6_blockingOf : ByteArray := prog_1_method_38_code
def yX6_blockingOf : MethodName := ⟨RX6, "blockingOf", "(LTaskKernel$Task;)I"⟩
abbrev cX6_greatestSectionBelow : ByteArray := prog_1_method_39_code
def yX6_greatestSectionBelow : MethodName := ⟨RX6, "greatestSectionBelow", "(II)I"⟩
abbrev cX6_interferenceWith : ByteArray := prog_1_method_40_code
def yX6_interferenceWith : MethodName := ⟨RX6, "interferenceWith", "(LTaskKernel$Task;I)I"⟩
abbrev cX6_ceilOf : ByteArray := prog_1_method_41_code
def yX6_ceilOf : MethodName := ⟨RX6, "ceilOf", "(I)I"⟩
def RX7 : String := "TaskKernelModel"
def TX7 : u_T := fun k => match k with
  | 0 => ("TaskKernelModel", "thrown", "I", false)
  | 1 => ("TaskKernelModel", "deadlines", "Z", true)
  | 2 => ("TaskKernelModel", "started", "Z", false)
  | 3 => ("TaskKernelModel", "time", "I", false)
  | 4 => ("TaskKernelModel", "last", "I", false)
  | 5 => ("TaskKernelModel", "stamp", "I", false)
  | 6 => ("TaskKernelModel", "tasks", "I", false)
  | 7 => ("TaskKernelModel", "priority", "[I", true)
  | 8 => ("TaskKernelModel", "period", "[I", true)
  | 9 => ("TaskKernelModel", "offset", "[I", true)
  | 10 => ("TaskKernelModel", "deadline", "[I", true)
  | 11 => ("TaskKernelModel", "budget", "[I", true)
  | 12 => ("TaskKernelModel", "strict", "[Z", true)
  | 13 => ("TaskKernelModel", "steps", "[I", true)
  | 14 => ("TaskKernelModel", "kind", "[I", true)
  | 15 => ("TaskKernelModel", "number", "[I", true)
  | 16 => ("TaskKernelModel", "state", "[I", true)
  | 17 => ("TaskKernelModel", "at", "[I", true)
  | 18 => ("TaskKernelModel", "left", "[I", true)
  | 19 => ("TaskKernelModel", "due", "[I", true)
  | 20 => ("TaskKernelModel", "begun", "[I", true)
  | 21 => ("TaskKernelModel", "since", "[I", true)
  | 22 => ("TaskKernelModel", "waits", "[I", true)
  | 23 => ("TaskKernelModel", "used", "[I", true)
  | 24 => ("TaskKernelModel", "urgent", "[I", true)
  | 25 => ("TaskKernelModel", "done", "[I", true)
  | 26 => ("TaskKernelModel", "failed", "[I", true)
  | 27 => ("TaskKernelModel", "missed", "[I", true)
  | 28 => ("TaskKernelModel", "lost", "[I", true)
  | 29 => ("TaskKernelModel", "units", "[I", true)
  | 30 => ("TaskKernelModel", "longest", "[I", true)
  | 31 => ("TaskKernelModel", "mutexes", "I", false)
  | 32 => ("TaskKernelModel", "protocol", "[I", true)
  | 33 => ("TaskKernelModel", "ceiling", "[I", true)
  | 34 => ("TaskKernelModel", "owner", "[I", true)
  | 35 => ("TaskKernelModel", "events", "I", false)
  | 36 => ("TaskKernelModel", "event", "[I", true)
  | 37 => ("TaskKernelModel", "eventTime", "[I", true)
  | _ => ("TaskKernelModel", "eventTask", "[I", true)
def tyX7 : Nat → FieldType := fun k => match k with
  | 0 => .int
  | 1 => .boolean
  | 2 => .boolean
  | 3 => .int
  | 4 => .int
  | 5 => .int
  | 6 => .int
  | 7 => .array .int
  | 8 => .array .int
  | 9 => .array .int
  | 10 => .array .int
  | 11 => .array .int
  | 12 => .array .boolean
  | 13 => .array .int
  | 14 => .array .int
  | 15 => .array .int
  | 16 => .array .int
  | 17 => .array .int
  | 18 => .array .int
  | 19 => .array .int
  | 20 => .array .int
  | 21 => .array .int
  | 22 => .array .int
  | 23 => .array .int
  | 24 => .array .int
  | 25 => .array .int
  | 26 => .array .int
  | 27 => .array .int
  | 28 => .array .int
  | 29 => .array .int
  | 30 => .array .int
  | 31 => .int
  | 32 => .array .int
  | 33 => .array .int
  | 34 => .array .int
  | 35 => .int
  | 36 => .array .int
  | 37 => .array .int
  | _ => .array .int
abbrev wsX70 : List Cond := u_ws RX7 TX7 39
theorem nmX7 : ∀ a, a < 39 → ∀ b, b < 39 → a ≠ b → (TX7 a).2.1 ≠ (TX7 b).2.1 := by decide +kernel
theorem tyX7_ok : ∀ k, k < 39 → parseFieldDescriptor (TX7 k).2.2.1 = some (tyX7 k) := by decide +kernel
abbrev cX7_init : ByteArray := prog_9_method_1_code
def yX7_init : MethodName := ⟨RX7, "<init>", "(I)V"⟩
abbrev cX7_thrown : ByteArray := prog_9_method_2_code
def yX7_thrown : MethodName := ⟨RX7, "thrown", "()I"⟩
abbrev cX7_in : ByteArray := prog_9_method_3_code
def yX7_in : MethodName := ⟨RX7, "in", "(III)Z"⟩
abbrev cX7_isTask : ByteArray := prog_9_method_4_code
def yX7_isTask : MethodName := ⟨RX7, "isTask", "(I)Z"⟩
abbrev cX7_task : ByteArray := prog_9_method_5_code
def yX7_task : MethodName := ⟨RX7, "task", "(IIIII)I"⟩
abbrev cX7_strict : ByteArray := prog_9_method_6_code
def yX7_strict : MethodName := ⟨RX7, "strict", "(IZ)Z"⟩
abbrev cX7_mutex : ByteArray := prog_9_method_7_code
def yX7_mutex : MethodName := ⟨RX7, "mutex", "(II)I"⟩
abbrev cX7_step : ByteArray := prog_9_method_8_code
def yX7_step : MethodName := ⟨RX7, "step", "(III)I"⟩
abbrev cX7_start : ByteArray := prog_9_method_9_code
def yX7_start : MethodName := ⟨RX7, "start", "()V"⟩
abbrev cX7_better : ByteArray := prog_9_method_10_code
def yX7_better : MethodName := ⟨RX7, "better", "(II)Z"⟩
abbrev cX7_weigh : ByteArray := prog_9_method_11_code
def yX7_weigh : MethodName := ⟨RX7, "weigh", "()V"⟩
abbrev cX7_first : ByteArray := prog_9_method_12_code
def yX7_first : MethodName := ⟨RX7, "first", "()I"⟩
abbrev cX7_note : ByteArray := prog_9_method_13_code
def yX7_note : MethodName := ⟨RX7, "note", "(II)V"⟩
abbrev cX7_ready : ByteArray := prog_9_method_14_code
def yX7_ready : MethodName := ⟨RX7, "ready", "(I)V"⟩
abbrev cX7_begin : ByteArray := prog_9_method_15_code
def yX7_begin : MethodName := ⟨RX7, "begin", "(I)V"⟩
abbrev cX7_give : ByteArray := prog_9_method_16_code
def yX7_give : MethodName := ⟨RX7, "give", "(I)V"⟩
abbrev cX7_over : ByteArray := prog_9_method_17_code
def yX7_over : MethodName := ⟨RX7, "over", "(IZI)V"⟩
abbrev cX7_atWork : ByteArray := prog_9_method_18_code
def yX7_atWork : MethodName := ⟨RX7, "atWork", "(I)Z"⟩
abbrev cX7_goOn : ByteArray := prog_9_method_19_code
def yX7_goOn : MethodName := ⟨RX7, "goOn", "(II)V"⟩
abbrev cX7_lock : ByteArray := prog_9_method_20_code
def yX7_lock : MethodName := ⟨RX7, "lock", "(III)V"⟩
abbrev cX7_release : ByteArray := prog_9_method_21_code
def yX7_release : MethodName := ⟨RX7, "release", "(I)Z"⟩
abbrev cX7_arrivals : ByteArray := prog_9_method_22_code
def yX7_arrivals : MethodName := ⟨RX7, "arrivals", "()V"⟩
abbrev cX7_work : ByteArray := prog_9_method_23_code
def yX7_work : MethodName := ⟨RX7, "work", "(I)V"⟩
abbrev cX7_pass : ByteArray := prog_9_method_24_code
def yX7_pass : MethodName := ⟨RX7, "pass", "()Z"⟩
abbrev cX7_tick : ByteArray := prog_9_method_25_code
def yX7_tick : MethodName := ⟨RX7, "tick", "(I)I"⟩
abbrev cX7_seen : ByteArray := prog_9_method_26_code
def yX7_seen : MethodName := ⟨RX7, "seen", "(II)I"⟩
abbrev cX7_ceil : ByteArray := prog_9_method_27_code
def yX7_ceil : MethodName := ⟨RX7, "ceil", "(I)I"⟩
abbrev cX7_held : ByteArray := prog_9_method_28_code
def yX7_held : MethodName := ⟨RX7, "held", "(II)I"⟩
abbrev cX7_event : ByteArray := prog_9_method_29_code
def yX7_event : MethodName := ⟨RX7, "event", "(II)I"⟩
abbrev cX7_cost : ByteArray := prog_9_method_30_code
def yX7_cost : MethodName := ⟨RX7, "cost", "(I)I"⟩
abbrev cX7_section : ByteArray := prog_9_method_31_code
def yX7_section : MethodName := ⟨RX7, "section", "(II)I"⟩
abbrev cX7_blocking : ByteArray := prog_9_method_32_code
def yX7_blocking : MethodName := ⟨RX7, "blocking", "(I)I"⟩
abbrev cX7_response : ByteArray := prog_9_method_33_code
def yX7_response : MethodName := ⟨RX7, "response", "(I)I"⟩
abbrev cX7_load : ByteArray := prog_9_method_34_code
def yX7_load : MethodName := ⟨RX7, "load", "()D"⟩
abbrev cX7_look : ByteArray := prog_9_method_35_code
def yX7_look : MethodName := ⟨RX7, "look", "(I)I"⟩
def RL : String := "TaskKernelLaw"
abbrev cL_cell : ByteArray := method_2_code
def yL_cell : MethodName := ⟨RL, "cell", "([II)I"⟩
abbrev cL_task : ByteArray := method_3_code
def yL_task : MethodName := ⟨RL, "task", "(LTaskKernel;IIIII[J)I"⟩
abbrev cL_mutex : ByteArray := method_4_code
def yL_mutex : MethodName := ⟨RL, "mutex", "(LTaskKernel;II[J)I"⟩
abbrev cL_step : ByteArray := method_5_code
def yL_step : MethodName := ⟨RL, "step", "(LTaskKernel;III[J)I"⟩
abbrev cL_start : ByteArray := method_6_code
def yL_start : MethodName := ⟨RL, "start", "(LTaskKernel;)I"⟩
abbrev cL_tick : ByteArray := method_7_code
def yL_tick : MethodName := ⟨RL, "tick", "(LTaskKernel;I[J)I"⟩
abbrev cL_response : ByteArray := method_8_code
def yL_response : MethodName := ⟨RL, "response", "(LTaskKernel;I[J)I"⟩
abbrev cL_law : ByteArray := code
def yL_law : MethodName := ⟨RL, "law", "([I)Z"⟩
def wsL_law0_r1 : List Cond := [Cond.classLink RL 8 RX6, Cond.instantiable RX6 10, Cond.initialized RX6, Cond.classLink RL 44 RX7, Cond.instantiable RX7 39, Cond.initialized RX7, Cond.arrayClass .long, Cond.methodLink RL 35 yL_cell, Cond.static yL_cell, Cond.initialized RL, Cond.code yL_cell cL_cell 2 (some .int), Cond.methodLink RL 41 yX6_init, Cond.instanceMethod yX6_init, Cond.code yX6_init cX6_init 2 none, Cond.methodLink RX6 1 objectInit, Cond.instanceMethod objectInit, Cond.code objectInit ⟨#[0xb1]⟩ 1 none, Cond.classLink RX6 9 RX5, Cond.fieldLink RX6 11 "TaskKernel" "tasks" "[LTaskKernel$Task;", Cond.classLink RX6 15 RX3, Cond.fieldLink RX6 17 "TaskKernel" "mutexes" "[LTaskKernel$Mutex;", Cond.classLink RX6 21 RX2, Cond.instantiable RX2 5, Cond.initialized RX2]
def wsL_law0_r2 : List Cond := [Cond.fieldLink RX6 24 "TaskKernel" "journal" "LTaskKernel$Journal;", Cond.fieldLink RX6 28 "TaskKernel" "byDeadline" "Z", Cond.instanceMethod yX2_init, Cond.code yX2_init cX2_init 1 none, Cond.methodLink RX2 3 objectInit, Cond.arrayClass .int, Cond.fieldLink RX2 9 "TaskKernel$Journal" "kinds" "[I", Cond.fieldLink RX2 15 "TaskKernel$Journal" "times" "[I", Cond.fieldLink RX2 18 "TaskKernel$Journal" "numbers" "[I", Cond.methodLink RL 46 yX7_init, Cond.instanceMethod yX7_init, Cond.code yX7_init cX7_init 2 none, Cond.methodLink RX7 1 objectInit, Cond.fieldLink RX7 7 "TaskKernelModel" "last" "I", Cond.fieldLink RX7 13 "TaskKernelModel" "priority" "[I", Cond.fieldLink RX7 17 "TaskKernelModel" "period" "[I", Cond.fieldLink RX7 20 "TaskKernelModel" "offset" "[I", Cond.fieldLink RX7 23 "TaskKernelModel" "deadline" "[I", Cond.fieldLink RX7 26 "TaskKernelModel" "budget" "[I", Cond.arrayClass .boolean, Cond.fieldLink RX7 29 "TaskKernelModel" "strict" "[Z", Cond.fieldLink RX7 33 "TaskKernelModel" "steps" "[I", Cond.fieldLink RX7 36 "TaskKernelModel" "kind" "[I", Cond.fieldLink RX7 39 "TaskKernelModel" "number" "[I"]
def wsL_law0_r3 : List Cond := [Cond.fieldLink RX7 42 "TaskKernelModel" "state" "[I", Cond.fieldLink RX7 45 "TaskKernelModel" "at" "[I", Cond.fieldLink RX7 48 "TaskKernelModel" "left" "[I", Cond.fieldLink RX7 51 "TaskKernelModel" "due" "[I", Cond.fieldLink RX7 54 "TaskKernelModel" "begun" "[I", Cond.fieldLink RX7 57 "TaskKernelModel" "since" "[I", Cond.fieldLink RX7 60 "TaskKernelModel" "waits" "[I", Cond.fieldLink RX7 63 "TaskKernelModel" "used" "[I", Cond.fieldLink RX7 66 "TaskKernelModel" "urgent" "[I", Cond.fieldLink RX7 69 "TaskKernelModel" "done" "[I", Cond.fieldLink RX7 72 "TaskKernelModel" "failed" "[I", Cond.fieldLink RX7 75 "TaskKernelModel" "missed" "[I", Cond.fieldLink RX7 78 "TaskKernelModel" "lost" "[I", Cond.fieldLink RX7 81 "TaskKernelModel" "units" "[I", Cond.fieldLink RX7 84 "TaskKernelModel" "longest" "[I", Cond.fieldLink RX7 87 "TaskKernelModel" "protocol" "[I", Cond.fieldLink RX7 90 "TaskKernelModel" "ceiling" "[I", Cond.fieldLink RX7 93 "TaskKernelModel" "owner" "[I", Cond.fieldLink RX7 96 "TaskKernelModel" "event" "[I", Cond.fieldLink RX7 99 "TaskKernelModel" "eventTime" "[I", Cond.fieldLink RX7 102 "TaskKernelModel" "eventTask" "[I", Cond.fieldLink RX7 105 "TaskKernelModel" "deadlines" "Z", Cond.methodLink RL 47 yL_task, Cond.static yL_task]
def wsL_law0_r4 : List Cond := [Cond.codeWith yL_task cL_task 8 (some .int) [(0, 16, 19, 13), (0, 16, 23, 15)], Cond.classLink RL 13 "java/lang/IllegalArgumentException", Cond.classLink RL 15 "java/lang/IllegalStateException", Cond.methodLink RL 7 yX6_task, Cond.instanceMethod yX6_task, Cond.selects RX6 yX6_task yX6_task, Cond.code yX6_task cX6_task 8 (some .int), Cond.classLink RX6 36 "java/lang/IllegalArgumentException", Cond.initialized "java/lang/IllegalArgumentException", Cond.classLink RX6 50 "java/lang/IllegalStateException", Cond.initialized "java/lang/IllegalStateException", Cond.fieldLink RX6 43 "TaskKernel" "started" "Z", Cond.fieldLink RX6 46 "TaskKernel" "taskCount" "I", Cond.instantiable RX5 10, Cond.initialized RX5, Cond.methodLink RX6 32 yX6_within, Cond.static yX6_within, Cond.code yX6_within cX6_within 3 (some .boolean), Cond.methodLink RX6 55 yX5_init, Cond.instanceMethod yX5_init, Cond.code yX5_init cX5_init 7 none, Cond.methodLink RX5 3 objectInit, Cond.classLink RX5 9 RX0, Cond.instantiable RX0 3]
def wsL_law0_r5 : List Cond := [Cond.initialized RX0, Cond.fieldLink RX5 12 "TaskKernel$Task" "body" "LTaskKernel$Body;", Cond.classLink RX5 18 RX1, Cond.instantiable RX1 9, Cond.initialized RX1, Cond.fieldLink RX5 21 "TaskKernel$Task" "job" "LTaskKernel$Job;", Cond.classLink RX5 25 RX4, Cond.instantiable RX4 6, Cond.initialized RX4, Cond.fieldLink RX5 28 "TaskKernel$Task" "tally" "LTaskKernel$Tally;", Cond.fieldLink RX5 32 "TaskKernel$Task" "number" "I", Cond.fieldLink RX5 36 "TaskKernel$Task" "priority" "I", Cond.fieldLink RX5 39 "TaskKernel$Task" "period" "I", Cond.fieldLink RX5 42 "TaskKernel$Task" "offset" "I", Cond.fieldLink RX5 45 "TaskKernel$Task" "deadline" "I", Cond.fieldLink RX5 48 "TaskKernel$Task" "budget" "I", Cond.instanceMethod yX0_init, Cond.code yX0_init cX0_init 1 none, Cond.methodLink RX0 3 objectInit, Cond.fieldLink RX0 9 "TaskKernel$Body" "kinds" "[I", Cond.fieldLink RX0 15 "TaskKernel$Body" "amounts" "[I", Cond.instanceMethod yX1_init, Cond.code yX1_init cX1_init 1 none, Cond.methodLink RX1 3 objectInit]
def wsL_law0_r6 : List Cond := [Cond.fieldLink RX1 9 "TaskKernel$Job" "state" "I", Cond.instanceMethod yX4_init, Cond.code yX4_init cX4_init 1 none, Cond.methodLink RX4 1 objectInit, Cond.methodLink RL 50 yX7_task, Cond.instanceMethod yX7_task, Cond.selects RX7 yX7_task yX7_task, Cond.code yX7_task cX7_task 7 (some .int), Cond.fieldLink RX7 119 "TaskKernelModel" "started" "Z", Cond.fieldLink RX7 112 "TaskKernelModel" "tasks" "I", Cond.fieldLink RX7 109 "TaskKernelModel" "thrown" "I", Cond.methodLink RX7 115 yX7_in, Cond.static yX7_in, Cond.code yX7_in cX7_in 3 (some .boolean), Cond.methodLink RL 51 yX7_thrown, Cond.instanceMethod yX7_thrown, Cond.selects RX7 yX7_thrown yX7_thrown, Cond.code yX7_thrown cX7_thrown 1 (some .int), Cond.methodLink RL 55 yX6_strict, Cond.instanceMethod yX6_strict, Cond.selects RX6 yX6_strict yX6_strict, Cond.code yX6_strict cX6_strict 3 (some .boolean), Cond.fieldLink RX6 62 "TaskKernel$Task" "isStrict" "Z", Cond.methodLink RX6 58 yX6_isTask]
def wsL_law0_r7 : List Cond := [Cond.instanceMethod yX6_isTask, Cond.selects RX6 yX6_isTask yX6_isTask, Cond.code yX6_isTask cX6_isTask 2 (some .boolean), Cond.methodLink RL 59 yX7_strict, Cond.instanceMethod yX7_strict, Cond.selects RX7 yX7_strict yX7_strict, Cond.code yX7_strict cX7_strict 3 (some .boolean), Cond.methodLink RX7 122 yX7_isTask, Cond.instanceMethod yX7_isTask, Cond.selects RX7 yX7_isTask yX7_isTask, Cond.code yX7_isTask cX7_isTask 2 (some .boolean), Cond.methodLink RL 60 yL_mutex, Cond.static yL_mutex, Cond.codeWith yL_mutex cL_mutex 5 (some .int) [(0, 10, 13, 13), (0, 10, 17, 15)], Cond.methodLink RL 17 yX6_mutex, Cond.instanceMethod yX6_mutex, Cond.selects RX6 yX6_mutex yX6_mutex, Cond.code yX6_mutex cX6_mutex 5 (some .int), Cond.fieldLink RX6 67 "TaskKernel" "mutexCount" "I", Cond.instantiable RX3 4, Cond.initialized RX3, Cond.methodLink RX6 72 yX3_init, Cond.instanceMethod yX3_init, Cond.code yX3_init cX3_init 4 none]
def wsL_law0_r8 : List Cond := [Cond.methodLink RX3 1 objectInit, Cond.fieldLink RX3 7 "TaskKernel$Mutex" "number" "I", Cond.fieldLink RX3 13 "TaskKernel$Mutex" "protocol" "I", Cond.fieldLink RX3 16 "TaskKernel$Mutex" "ceiling" "I", Cond.methodLink RL 63 yX7_mutex, Cond.instanceMethod yX7_mutex, Cond.selects RX7 yX7_mutex yX7_mutex, Cond.code yX7_mutex cX7_mutex 4 (some .int), Cond.fieldLink RX7 126 "TaskKernelModel" "mutexes" "I", Cond.methodLink RL 64 yL_step, Cond.static yL_step, Cond.codeWith yL_step cL_step 6 (some .int) [(0, 12, 15, 13), (0, 12, 19, 15)], Cond.methodLink RL 21 yX6_step, Cond.instanceMethod yX6_step, Cond.selects RX6 yX6_step yX6_step, Cond.code yX6_step cX6_step 5 (some .int), Cond.fieldLink RX6 81 "TaskKernel$Task" "body" "LTaskKernel$Body;", Cond.fieldLink RX6 85 "TaskKernel$Body" "size" "I", Cond.methodLink RX6 75 yX6_isStep, Cond.instanceMethod yX6_isStep, Cond.selects RX6 yX6_isStep yX6_isStep, Cond.code yX6_isStep cX6_isStep 3 (some .boolean), Cond.methodLink RX6 98 yX6_isMutex, Cond.instanceMethod yX6_isMutex]
def wsL_law0_r9 : List Cond := [Cond.selects RX6 yX6_isMutex yX6_isMutex, Cond.code yX6_isMutex cX6_isMutex 2 (some .boolean), Cond.methodLink RX6 92 yX0_append, Cond.instanceMethod yX0_append, Cond.selects RX0 yX0_append yX0_append, Cond.code yX0_append cX0_append 3 none, Cond.fieldLink RX0 18 "TaskKernel$Body" "size" "I", Cond.methodLink RL 67 yX7_step, Cond.instanceMethod yX7_step, Cond.selects RX7 yX7_step yX7_step, Cond.code yX7_step cX7_step 5 (some .int), Cond.methodLink RL 68 yL_start, Cond.static yL_start, Cond.codeWith yL_start cL_start 2 (some .int) [(0, 4, 7, 15)], Cond.methodLink RL 25 yX6_start, Cond.instanceMethod yX6_start, Cond.selects RX6 yX6_start yX6_start, Cond.code yX6_start cX6_start 1 none, Cond.methodLink RL 71 yX7_start, Cond.instanceMethod yX7_start, Cond.selects RX7 yX7_start yX7_start, Cond.code yX7_start cX7_start 1 none, Cond.methodLink RL 72 yX6_release, Cond.instanceMethod yX6_release]
def wsL_law0_r10 : List Cond := [Cond.selects RX6 yX6_release yX6_release, Cond.code yX6_release cX6_release 2 (some .boolean), Cond.fieldLink RX6 101 "TaskKernel$Task" "period" "I", Cond.methodLink RX6 104 yX6_beginJob, Cond.instanceMethod yX6_beginJob, Cond.selects RX6 yX6_beginJob yX6_beginJob, Cond.code yX6_beginJob cX6_beginJob 2 none, Cond.fieldLink RX6 128 "TaskKernel$Task" "job" "LTaskKernel$Job;", Cond.fieldLink RX6 132 "TaskKernel$Job" "state" "I", Cond.fieldLink RX6 140 "TaskKernel$Task" "tally" "LTaskKernel$Tally;", Cond.fieldLink RX6 163 "TaskKernel$Tally" "lost" "I", Cond.fieldLink RX6 125 "TaskKernel" "time" "I", Cond.fieldLink RX6 166 "TaskKernel$Task" "deadline" "I", Cond.methodLink RX6 149 yX6_note, Cond.instanceMethod yX6_note, Cond.selects RX6 yX6_note yX6_note, Cond.code yX6_note cX6_note 3 none, Cond.fieldLink RX6 268 "TaskKernel$Task" "number" "I", Cond.methodLink RX6 271 yX2_add, Cond.instanceMethod yX2_add, Cond.selects RX2 yX2_add yX2_add, Cond.code yX2_add cX2_add 4 none, Cond.fieldLink RX2 21 "TaskKernel$Journal" "next" "I", Cond.fieldLink RX2 25 "TaskKernel$Journal" "total" "I"]
def wsL_law0_r11 : List Cond := [Cond.methodLink RX6 169 yX6_nextChange, Cond.instanceMethod yX6_nextChange, Cond.selects RX6 yX6_nextChange yX6_nextChange, Cond.code yX6_nextChange cX6_nextChange 1 (some .int), Cond.fieldLink RX6 265 "TaskKernel" "changes" "I", Cond.methodLink RX6 173 yX1_begin, Cond.instanceMethod yX1_begin, Cond.selects RX1 yX1_begin yX1_begin, Cond.code yX1_begin cX1_begin 4 none, Cond.fieldLink RX1 15 "TaskKernel$Job" "at" "I", Cond.fieldLink RX1 18 "TaskKernel$Job" "workedAtStep" "I", Cond.fieldLink RX1 21 "TaskKernel$Job" "worked" "I", Cond.fieldLink RX1 24 "TaskKernel$Job" "releasedAt" "I", Cond.fieldLink RX1 27 "TaskKernel$Job" "due" "I", Cond.fieldLink RX1 30 "TaskKernel$Job" "since" "I", Cond.methodLink RL 76 yX7_release, Cond.instanceMethod yX7_release, Cond.selects RX7 yX7_release yX7_release, Cond.code yX7_release cX7_release 2 (some .boolean), Cond.methodLink RX7 167 yX7_begin, Cond.instanceMethod yX7_begin, Cond.selects RX7 yX7_begin yX7_begin, Cond.code yX7_begin cX7_begin 2 none, Cond.fieldLink RX7 139 "TaskKernelModel" "time" "I"]
def wsL_law0_r12 : List Cond := [Cond.methodLink RX7 145 yX7_note, Cond.instanceMethod yX7_note, Cond.selects RX7 yX7_note yX7_note, Cond.code yX7_note cX7_note 3 none, Cond.fieldLink RX7 136 "TaskKernelModel" "events" "I", Cond.methodLink RX7 149 yX7_ready, Cond.instanceMethod yX7_ready, Cond.selects RX7 yX7_ready yX7_ready, Cond.code yX7_ready cX7_ready 2 none, Cond.fieldLink RX7 142 "TaskKernelModel" "stamp" "I", Cond.methodLink RL 77 yL_tick, Cond.static yL_tick, Cond.codeWith yL_tick cL_tick 4 (some .int) [(0, 9, 12, 13), (0, 9, 15, 15)], Cond.methodLink RL 28 yX6_tick, Cond.instanceMethod yX6_tick, Cond.selects RX6 yX6_tick yX6_tick, Cond.code yX6_tick cX6_tick 5 (some .int), Cond.methodLink RX6 112 yX6_noteMisses, Cond.instanceMethod yX6_noteMisses, Cond.selects RX6 yX6_noteMisses yX6_noteMisses, Cond.code yX6_noteMisses cX6_noteMisses 3 none, Cond.fieldLink RX6 137 "TaskKernel$Job" "due" "I", Cond.fieldLink RX6 144 "TaskKernel$Tally" "misses" "I", Cond.fieldLink RX6 153 "TaskKernel$Tally" "failed" "I"]
def wsL_law0_r13 : List Cond := [Cond.methodLink RX6 156 yX6_endJob, Cond.instanceMethod yX6_endJob, Cond.selects RX6 yX6_endJob yX6_endJob, Cond.code yX6_endJob cX6_endJob 4 none, Cond.fieldLink RX6 221 "TaskKernel$Mutex" "owner" "LTaskKernel$Task;", Cond.methodLink RX6 244 yX1_end, Cond.instanceMethod yX1_end, Cond.selects RX1 yX1_end yX1_end, Cond.code yX1_end cX1_end 1 none, Cond.fieldLink RX1 33 "TaskKernel$Job" "blockedAt" "LTaskKernel$Mutex;", Cond.methodLink RX6 217 yX6_giveAway, Cond.instanceMethod yX6_giveAway, Cond.selects RX6 yX6_giveAway yX6_giveAway, Cond.code yX6_giveAway cX6_giveAway 3 none, Cond.methodLink RX6 247 yX6_rankTasks, Cond.instanceMethod yX6_rankTasks, Cond.selects RX6 yX6_rankTasks yX6_rankTasks, Cond.code yX6_rankTasks cX6_rankTasks 3 none, Cond.fieldLink RX6 238 "TaskKernel$Task" "priority" "I", Cond.fieldLink RX6 278 "TaskKernel$Job" "rank" "I", Cond.methodLink RX6 284 yX6_liftToCeilings, Cond.instanceMethod yX6_liftToCeilings, Cond.selects RX6 yX6_liftToCeilings yX6_liftToCeilings, Cond.code yX6_liftToCeilings cX6_liftToCeilings 3 none]
def wsL_law0_r14 : List Cond := [Cond.fieldLink RX6 235 "TaskKernel$Mutex" "protocol" "I", Cond.fieldLink RX6 241 "TaskKernel$Mutex" "ceiling" "I", Cond.methodLink RX6 287 yX6_lendOnce, Cond.instanceMethod yX6_lendOnce, Cond.selects RX6 yX6_lendOnce yX6_lendOnce, Cond.code yX6_lendOnce cX6_lendOnce 5 (some .boolean), Cond.fieldLink RX6 257 "TaskKernel$Job" "blockedAt" "LTaskKernel$Mutex;", Cond.methodLink RX6 250 yX6_heirOf, Cond.instanceMethod yX6_heirOf, Cond.selects RX6 yX6_heirOf yX6_heirOf, Cond.code yX6_heirOf cX6_heirOf 5 (some (.object "TaskKernel$Task")), Cond.methodLink RX6 261 yX1_inheritsAhead, Cond.instanceMethod yX1_inheritsAhead, Cond.selects RX1 yX1_inheritsAhead yX1_inheritsAhead, Cond.code yX1_inheritsAhead cX1_inheritsAhead 2 (some .boolean), Cond.fieldLink RX1 40 "TaskKernel$Job" "rank" "I", Cond.methodLink RX6 254 yX1_resume, Cond.instanceMethod yX1_resume, Cond.selects RX1 yX1_resume yX1_resume, Cond.code yX1_resume cX1_resume 2 none, Cond.methodLink RX1 37 yX1_passStep, Cond.instanceMethod yX1_passStep, Cond.selects RX1 yX1_passStep yX1_passStep, Cond.code yX1_passStep cX1_passStep 1 none]
def wsL_law0_r15 : List Cond := [Cond.methodLink RX6 115 yX6_releasePeriodic, Cond.instanceMethod yX6_releasePeriodic, Cond.selects RX6 yX6_releasePeriodic yX6_releasePeriodic, Cond.code yX6_releasePeriodic cX6_releasePeriodic 2 none, Cond.methodLink RX6 160 yX5_isPeriodicAt, Cond.instanceMethod yX5_isPeriodicAt, Cond.selects RX5 yX5_isPeriodicAt yX5_isPeriodicAt, Cond.code yX5_isPeriodicAt cX5_isPeriodicAt 2 (some .boolean), Cond.methodLink RX6 118 yX6_settle, Cond.instanceMethod yX6_settle, Cond.selects RX6 yX6_settle yX6_settle, Cond.code yX6_settle cX6_settle 3 (some (.object "TaskKernel$Task")), Cond.methodLink RX6 176 yX6_mostUrgentReady, Cond.instanceMethod yX6_mostUrgentReady, Cond.selects RX6 yX6_mostUrgentReady yX6_mostUrgentReady, Cond.code yX6_mostUrgentReady cX6_mostUrgentReady 4 (some (.object "TaskKernel$Task")), Cond.methodLink RX6 274 yX6_goesAhead, Cond.instanceMethod yX6_goesAhead, Cond.selects RX6 yX6_goesAhead yX6_goesAhead, Cond.code yX6_goesAhead cX6_goesAhead 3 (some .boolean), Cond.fieldLink RX6 186 "TaskKernel" "workedLast" "LTaskKernel$Task;", Cond.fieldLink RX6 281 "TaskKernel$Job" "since" "I", Cond.methodLink RX6 179 yX5_isAtWork, Cond.instanceMethod yX5_isAtWork]
def wsL_law0_r16 : List Cond := [Cond.selects RX5 yX5_isAtWork yX5_isAtWork, Cond.code yX5_isAtWork cX5_isAtWork 1 (some .boolean), Cond.fieldLink RX5 51 "TaskKernel$Job" "at" "I", Cond.fieldLink RX5 54 "TaskKernel$Body" "size" "I", Cond.fieldLink RX5 57 "TaskKernel$Body" "kinds" "[I", Cond.methodLink RX6 183 yX6_goOn, Cond.instanceMethod yX6_goOn, Cond.selects RX6 yX6_goOn yX6_goOn, Cond.code yX6_goOn cX6_goOn 8 none, Cond.fieldLink RX6 204 "TaskKernel$Job" "at" "I", Cond.fieldLink RX6 210 "TaskKernel$Body" "kinds" "[I", Cond.fieldLink RX6 200 "TaskKernel$Body" "amounts" "[I", Cond.fieldLink RX6 228 "TaskKernel$Job" "releasedAt" "I", Cond.methodLink RX6 213 yX6_stepFails, Cond.instanceMethod yX6_stepFails, Cond.selects RX6 yX6_stepFails yX6_stepFails, Cond.code yX6_stepFails cX6_stepFails 5 (some .boolean), Cond.methodLink RX6 224 yX1_blockAt, Cond.instanceMethod yX1_blockAt, Cond.selects RX1 yX1_blockAt yX1_blockAt, Cond.code yX1_blockAt cX1_blockAt 3 none, Cond.methodLink RX6 207 yX1_passStep, Cond.methodLink RX6 231 yX4_addDone, Cond.instanceMethod yX4_addDone]
def wsL_law0_r17 : List Cond := [Cond.selects RX4 yX4_addDone yX4_addDone, Cond.code yX4_addDone cX4_addDone 2 none, Cond.fieldLink RX4 7 "TaskKernel$Tally" "done" "I", Cond.fieldLink RX4 13 "TaskKernel$Tally" "longest" "I", Cond.methodLink RX4 16 Lib.Math.max.name, Cond.static Lib.Math.max.name, Cond.initialized "java/lang/Math", Cond.code Lib.Math.max.name Lib.Math.max.code 2 (some .int), Cond.methodLink RX6 122 yX6_workOneUnit, Cond.instanceMethod yX6_workOneUnit, Cond.selects RX6 yX6_workOneUnit yX6_workOneUnit, Cond.code yX6_workOneUnit cX6_workOneUnit 3 none, Cond.fieldLink RX6 190 "TaskKernel$Job" "worked" "I", Cond.fieldLink RX6 193 "TaskKernel$Job" "workedAtStep" "I", Cond.fieldLink RX6 196 "TaskKernel$Tally" "worked" "I", Cond.fieldLink RX6 197 "TaskKernel$Task" "budget" "I", Cond.methodLink RL 80 yX7_tick, Cond.instanceMethod yX7_tick, Cond.selects RX7 yX7_tick yX7_tick, Cond.code yX7_tick cX7_tick 4 (some .int), Cond.methodLink RX7 183 yX7_pass, Cond.instanceMethod yX7_pass, Cond.selects RX7 yX7_pass yX7_pass, Cond.code yX7_pass cX7_pass 2 (some .boolean)]
def wsL_law0_r18 : List Cond := [Cond.methodLink RX7 173 yX7_arrivals, Cond.instanceMethod yX7_arrivals, Cond.selects RX7 yX7_arrivals yX7_arrivals, Cond.code yX7_arrivals cX7_arrivals 2 none, Cond.methodLink RX7 159 yX7_over, Cond.instanceMethod yX7_over, Cond.selects RX7 yX7_over yX7_over, Cond.code yX7_over cX7_over 5 none, Cond.methodLink RX7 153 yX7_give, Cond.instanceMethod yX7_give, Cond.selects RX7 yX7_give yX7_give, Cond.code yX7_give cX7_give 5 none, Cond.methodLink RX7 133 yX7_weigh, Cond.instanceMethod yX7_weigh, Cond.selects RX7 yX7_weigh yX7_weigh, Cond.code yX7_weigh cX7_weigh 5 none, Cond.methodLink RX7 129 yX7_better, Cond.instanceMethod yX7_better, Cond.selects RX7 yX7_better yX7_better, Cond.code yX7_better cX7_better 3 (some .boolean), Cond.methodLink RX7 176 yX7_first, Cond.instanceMethod yX7_first, Cond.selects RX7 yX7_first yX7_first, Cond.code yX7_first cX7_first 4 (some .int)]
def wsL_law0_r19 : List Cond := [Cond.methodLink RX7 156 yX7_atWork, Cond.instanceMethod yX7_atWork, Cond.selects RX7 yX7_atWork yX7_atWork, Cond.code yX7_atWork cX7_atWork 2 (some .boolean), Cond.methodLink RX7 170 yX7_goOn, Cond.instanceMethod yX7_goOn, Cond.selects RX7 yX7_goOn yX7_goOn, Cond.code yX7_goOn cX7_goOn 4 none, Cond.methodLink RX7 163 yX7_lock, Cond.instanceMethod yX7_lock, Cond.selects RX7 yX7_lock yX7_lock, Cond.code yX7_lock cX7_lock 4 none, Cond.methodLink RX7 180 yX7_work, Cond.instanceMethod yX7_work, Cond.selects RX7 yX7_work yX7_work, Cond.code yX7_work cX7_work 3 none, Cond.methodLink RL 81 yX6_seen, Cond.instanceMethod yX6_seen, Cond.selects RX6 yX6_seen yX6_seen, Cond.code yX6_seen cX6_seen 4 (some .int), Cond.fieldLink RX6 294 "TaskKernel$Tally" "done" "I", Cond.fieldLink RX6 297 "TaskKernel$Tally" "longest" "I", Cond.fieldLink RX6 300 "TaskKernel$Mutex" "number" "I", Cond.methodLink RX6 290 yX6_urgencyOf]
def wsL_law0_r20 : List Cond := [Cond.instanceMethod yX6_urgencyOf, Cond.selects RX6 yX6_urgencyOf yX6_urgencyOf, Cond.code yX6_urgencyOf cX6_urgencyOf 2 (some .int), Cond.methodLink RL 84 yX7_seen, Cond.instanceMethod yX7_seen, Cond.selects RX7 yX7_seen yX7_seen, Cond.code yX7_seen cX7_seen 3 (some .int), Cond.methodLink RL 85 yX6_held, Cond.instanceMethod yX6_held, Cond.selects RX6 yX6_held yX6_held, Cond.code yX6_held cX6_held 4 (some .int), Cond.methodLink RX6 301 yX6_countBlockedAt, Cond.instanceMethod yX6_countBlockedAt, Cond.selects RX6 yX6_countBlockedAt yX6_countBlockedAt, Cond.code yX6_countBlockedAt cX6_countBlockedAt 4 (some .int), Cond.methodLink RX6 305 yX6_ceilOf, Cond.instanceMethod yX6_ceilOf, Cond.selects RX6 yX6_ceilOf yX6_ceilOf, Cond.code yX6_ceilOf cX6_ceilOf 4 (some .int), Cond.methodLink RX6 331 Lib.Math.max.name, Cond.methodLink RX6 339 yX0_hasLockOf, Cond.instanceMethod yX0_hasLockOf, Cond.selects RX0 yX0_hasLockOf yX0_hasLockOf, Cond.code yX0_hasLockOf cX0_hasLockOf 3 (some .boolean)]
def wsL_law0_r21 : List Cond := [Cond.methodLink RL 88 yX7_held, Cond.instanceMethod yX7_held, Cond.selects RX7 yX7_held yX7_held, Cond.code yX7_held cX7_held 5 (some .int), Cond.methodLink RX7 187 yX7_ceil, Cond.instanceMethod yX7_ceil, Cond.selects RX7 yX7_ceil yX7_ceil, Cond.code yX7_ceil cX7_ceil 6 (some .int), Cond.methodLink RL 89 yX6_event, Cond.instanceMethod yX6_event, Cond.selects RX6 yX6_event yX6_event, Cond.code yX6_event cX6_event 3 (some .int), Cond.methodLink RX6 309 yX2_answer, Cond.instanceMethod yX2_answer, Cond.selects RX2 yX2_answer yX2_answer, Cond.code yX2_answer cX2_answer 4 (some .int), Cond.methodLink RX2 28 Lib.Math.min.name, Cond.static Lib.Math.min.name, Cond.code Lib.Math.min.name Lib.Math.min.code 2 (some .int), Cond.methodLink RL 92 yX7_event, Cond.instanceMethod yX7_event, Cond.selects RX7 yX7_event yX7_event, Cond.code yX7_event cX7_event 4 (some .int), Cond.methodLink RL 93 yL_response]
def wsL_law0_r22 : List Cond := [Cond.static yL_response, Cond.codeWith yL_response cL_response 4 (some .int) [(0, 9, 12, 13)], Cond.methodLink RL 32 yX6_response, Cond.instanceMethod yX6_response, Cond.selects RX6 yX6_response yX6_response, Cond.code yX6_response cX6_response 7 (some .int), Cond.methodLink RX6 318 yX0_cost, Cond.instanceMethod yX0_cost, Cond.selects RX0 yX0_cost yX0_cost, Cond.code yX0_cost cX0_cost 3 (some .int), Cond.methodLink RX6 321 yX6_blockingOf, Cond.instanceMethod yX6_blockingOf, Cond.selects RX6 yX6_blockingOf yX6_blockingOf, Cond.code yX6_blockingOf cX6_blockingOf 4 (some .int), Cond.methodLink RX6 328 yX6_greatestSectionBelow, Cond.instanceMethod yX6_greatestSectionBelow, Cond.selects RX6 yX6_greatestSectionBelow yX6_greatestSectionBelow, Cond.code yX6_greatestSectionBelow cX6_greatestSectionBelow 5 (some .int), Cond.methodLink RX6 336 yX0_greatestSection, Cond.instanceMethod yX0_greatestSection, Cond.selects RX0 yX0_greatestSection yX0_greatestSection, Cond.code yX0_greatestSection cX0_greatestSection 4 (some .int), Cond.methodLink RX0 26 Lib.Math.max.name, Cond.methodLink RX0 22 yX0_sectionFrom]
def wsL_law0_r23 : List Cond := [Cond.instanceMethod yX0_sectionFrom, Cond.selects RX0 yX0_sectionFrom yX0_sectionFrom, Cond.code yX0_sectionFrom cX0_sectionFrom 5 (some .int), Cond.methodLink RX6 324 yX6_interferenceWith, Cond.instanceMethod yX6_interferenceWith, Cond.selects RX6 yX6_interferenceWith yX6_interferenceWith, Cond.code yX6_interferenceWith cX6_interferenceWith 6 (some .int), Cond.methodLink RL 95 yX7_response, Cond.instanceMethod yX7_response, Cond.selects RX7 yX7_response yX7_response, Cond.code yX7_response cX7_response 7 (some .int), Cond.methodLink RX7 195 yX7_cost, Cond.instanceMethod yX7_cost, Cond.selects RX7 yX7_cost yX7_cost, Cond.code yX7_cost cX7_cost 4 (some .int), Cond.methodLink RX7 198 yX7_blocking, Cond.instanceMethod yX7_blocking, Cond.selects RX7 yX7_blocking yX7_blocking, Cond.code yX7_blocking cX7_blocking 6 (some .int), Cond.methodLink RX7 191 yX7_section, Cond.instanceMethod yX7_section, Cond.selects RX7 yX7_section yX7_section, Cond.code yX7_section cX7_section 7 (some .int), Cond.methodLink RL 96 yX6_load]
def wsL_law0_r24 : List Cond := [Cond.instanceMethod yX6_load, Cond.selects RX6 yX6_load yX6_load, Cond.code yX6_load cX6_load 5 (some .double), Cond.methodLink RL 100 yX7_load, Cond.instanceMethod yX7_load, Cond.selects RX7 yX7_load yX7_load, Cond.code yX7_load cX7_load 4 (some .double), Cond.methodLink RL 101 yX6_look, Cond.instanceMethod yX6_look, Cond.selects RX6 yX6_look yX6_look, Cond.code yX6_look cX6_look 2 (some .int), Cond.fieldLink RX6 313 "TaskKernel$Journal" "total" "I", Cond.methodLink RL 104 yX7_look, Cond.instanceMethod yX7_look, Cond.selects RX7 yX7_look yX7_look, Cond.code yX7_look cX7_look 2 (some .int)]
def wsL_law0 : List Cond := (wsL_law0_r1 ++ (wsL_law0_r2 ++ (wsL_law0_r3 ++ (wsL_law0_r4 ++ (wsL_law0_r5 ++ (wsL_law0_r6 ++ (wsL_law0_r7 ++ (wsL_law0_r8 ++ (wsL_law0_r9 ++ (wsL_law0_r10 ++ (wsL_law0_r11 ++ (wsL_law0_r12 ++ (wsL_law0_r13 ++ (wsL_law0_r14 ++ (wsL_law0_r15 ++ (wsL_law0_r16 ++ (wsL_law0_r17 ++ (wsL_law0_r18 ++ (wsL_law0_r19 ++ (wsL_law0_r20 ++ (wsL_law0_r21 ++ (wsL_law0_r22 ++ (wsL_law0_r23 ++ wsL_law0_r24))))))))))))))))))))))) ++ wsX60 ++ wsX70 ++ wsX20 ++ wsX50 ++ wsX00 ++ wsX10 ++ wsX40 ++ wsX30 ++ ([] : List Cond)
def wsL_law : List Cond := wsL_law0 ++ (vx_atS RX6 40 "java/lang/IllegalArgumentException" ["java/lang/RuntimeException", "java/lang/Exception"]).filter goodWord ++ (vx_atS RX6 54 "java/lang/IllegalStateException" ["java/lang/RuntimeException", "java/lang/Exception"]).filter goodWord
abbrev vwCl : List vw_C := [(RX0, TX0, 3), (RX1, TX1, 9), (RX2, TX2, 5), (RX3, TX3, 4), (RX4, TX4, 6), (RX5, TX5, 10), (RX6, TX6, 10), (RX7, TX7, 39)]
end
section
theorem dX0_init_0 : decode cX0_init 0 = .ok (.aload_n 0, 1) := by decide +kernel
theorem dX0_init_1 : decode cX0_init 1 = .ok (.invokespecial 3, 3) := by decide +kernel
theorem dX0_init_4 : decode cX0_init 4 = .ok (.aload_n 0, 1) := by decide +kernel
theorem dX0_init_5 : decode cX0_init 5 = .ok (.bipush 10, 2) := by decide +kernel
theorem dX0_init_7 : decode cX0_init 7 = .ok (.newarray .int, 2) := by decide +kernel
theorem dX0_init_9 : decode cX0_init 9 = .ok (.putfield 9, 3) := by decide +kernel
theorem dX0_init_12 : decode cX0_init 12 = .ok (.aload_n 0, 1) := by decide +kernel
theorem dX0_init_13 : decode cX0_init 13 = .ok (.bipush 10, 2) := by decide +kernel
theorem dX0_init_15 : decode cX0_init 15 = .ok (.newarray .int, 2) := by decide +kernel
theorem dX0_init_17 : decode cX0_init 17 = .ok (.putfield 15, 3) := by decide +kernel
theorem dX0_init_20 : decode cX0_init 20 = .ok (.return_, 1) := by decide +kernel
theorem dX0_append_0 : decode cX0_append 0 = .ok (.aload_n 0, 1) := by decide +kernel
theorem dX0_append_1 : decode cX0_append 1 = .ok (.getfield 9, 3) := by decide +kernel
theorem dX0_append_4 : decode cX0_append 4 = .ok (.aload_n 0, 1) := by decide +kernel
theorem dX0_append_5 : decode cX0_append 5 = .ok (.getfield 18, 3) := by decide +kernel
theorem dX0_append_8 : decode cX0_append 8 = .ok (.iload_n 1, 1) := by decide +kernel
theorem dX0_append_9 : decode cX0_append 9 = .ok (.iastore, 1) := by decide +kernel
theorem dX0_append_10 : decode cX0_append 10 = .ok (.aload_n 0, 1) := by decide +kernel
theorem dX0_append_11 : decode cX0_append 11 = .ok (.getfield 15, 3) := by decide +kernel
theorem dX0_append_14 : decode cX0_append 14 = .ok (.aload_n 0, 1) := by decide +kernel
theorem dX0_append_15 : decode cX0_append 15 = .ok (.getfield 18, 3) := by decide +kernel
theorem dX0_append_18 : decode cX0_append 18 = .ok (.iload_n 2, 1) := by decide +kernel
theorem dX0_append_19 : decode cX0_append 19 = .ok (.iastore, 1) := by decide +kernel
theorem dX0_append_20 : decode cX0_append 20 = .ok (.aload_n 0, 1) := by decide +kernel
theorem dX0_append_21 : decode cX0_append 21 = .ok (.dup, 1) := by decide +kernel
theorem dX0_append_22 : decode cX0_append 22 = .ok (.getfield 18, 3) := by decide +kernel
theorem dX0_append_25 : decode cX0_append 25 = .ok (.iconst 1, 1) := by decide +kernel
theorem dX0_append_26 : decode cX0_append 26 = .ok (.iadd, 1) := by decide +kernel
theorem dX0_append_27 : decode cX0_append 27 = .ok (.putfield 18, 3) := by decide +kernel
theorem dX0_append_30 : decode cX0_append 30 = .ok (.return_, 1) := by decide +kernel
theorem dX0_cost_0 : decode cX0_cost 0 = .ok (.iconst 0, 1) := by decide +kernel
theorem dX0_cost_1 : decode cX0_cost 1 = .ok (.istore_n 1, 1) := by decide +kernel
theorem dX0_cost_2 : decode cX0_cost 2 = .ok (.iconst 0, 1) := by decide +kernel
theorem dX0_cost_3 : decode cX0_cost 3 = .ok (.istore_n 2, 1) := by decide +kernel
theorem dX0_cost_4 : decode cX0_cost 4 = .ok (.iload_n 2, 1) := by decide +kernel
theorem dX0_cost_5 : decode cX0_cost 5 = .ok (.aload_n 0, 1) := by decide +kernel
theorem dX0_cost_6 : decode cX0_cost 6 = .ok (.getfield 18, 3) := by decide +kernel
theorem dX0_cost_9 : decode cX0_cost 9 = .ok (.if_icmp .ge 27, 3) := by decide +kernel
theorem dX0_cost_12 : decode cX0_cost 12 = .ok (.aload_n 0, 1) := by decide +kernel
theorem dX0_cost_13 : decode cX0_cost 13 = .ok (.getfield 9, 3) := by decide +kernel
theorem dX0_cost_16 : decode cX0_cost 16 = .ok (.iload_n 2, 1) := by decide +kernel
theorem dX0_cost_17 : decode cX0_cost 17 = .ok (.iaload, 1) := by decide +kernel
theorem dX0_cost_18 : decode cX0_cost 18 = .ok (.ifCond .ne 12, 3) := by decide +kernel
theorem dX0_cost_21 : decode cX0_cost 21 = .ok (.iload_n 1, 1) := by decide +kernel
theorem dX0_cost_22 : decode cX0_cost 22 = .ok (.aload_n 0, 1) := by decide +kernel
theorem dX0_cost_23 : decode cX0_cost 23 = .ok (.getfield 15, 3) := by decide +kernel
theorem dX0_cost_26 : decode cX0_cost 26 = .ok (.iload_n 2, 1) := by decide +kernel
theorem dX0_cost_27 : decode cX0_cost 27 = .ok (.iaload, 1) := by decide +kernel
theorem dX0_cost_28 : decode cX0_cost 28 = .ok (.iadd, 1) := by decide +kernel
theorem dX0_cost_29 : decode cX0_cost 29 = .ok (.istore_n 1, 1) := by decide +kernel
theorem dX0_cost_30 : decode cX0_cost 30 = .ok (.iinc 2 1, 3) := by decide +kernel
theorem dX0_cost_33 : decode cX0_cost 33 = .ok (.goto (-29), 3) := by decide +kernel
theorem dX0_cost_36 : decode cX0_cost 36 = .ok (.iload_n 1, 1) := by decide +kernel
theorem dX0_cost_37 : decode cX0_cost 37 = .ok (.ireturn, 1) := by decide +kernel
theorem dX0_hasLockOf_0 : decode cX0_hasLockOf 0 = .ok (.iconst 0, 1) := by decide +kernel
theorem dX0_hasLockOf_1 : decode cX0_hasLockOf 1 = .ok (.istore_n 2, 1) := by decide +kernel
theorem dX0_hasLockOf_2 : decode cX0_hasLockOf 2 = .ok (.iload_n 2, 1) := by decide +kernel
theorem dX0_hasLockOf_3 : decode cX0_hasLockOf 3 = .ok (.aload_n 0, 1) := by decide +kernel
theorem dX0_hasLockOf_4 : decode cX0_hasLockOf 4 = .ok (.getfield 18, 3) := by decide +kernel
theorem dX0_hasLockOf_7 : decode cX0_hasLockOf 7 = .ok (.if_icmp .ge 31, 3) := by decide +kernel
theorem dX0_hasLockOf_10 : decode cX0_hasLockOf 10 = .ok (.aload_n 0, 1) := by decide +kernel
theorem dX0_hasLockOf_11 : decode cX0_hasLockOf 11 = .ok (.getfield 9, 3) := by decide +kernel
theorem dX0_hasLockOf_14 : decode cX0_hasLockOf 14 = .ok (.iload_n 2, 1) := by decide +kernel
theorem dX0_hasLockOf_15 : decode cX0_hasLockOf 15 = .ok (.iaload, 1) := by decide +kernel
theorem dX0_hasLockOf_16 : decode cX0_hasLockOf 16 = .ok (.iconst 1, 1) := by decide +kernel
theorem dX0_hasLockOf_17 : decode cX0_hasLockOf 17 = .ok (.if_icmp .ne 15, 3) := by decide +kernel
theorem dX0_hasLockOf_20 : decode cX0_hasLockOf 20 = .ok (.aload_n 0, 1) := by decide +kernel
theorem dX0_hasLockOf_21 : decode cX0_hasLockOf 21 = .ok (.getfield 15, 3) := by decide +kernel
theorem dX0_hasLockOf_24 : decode cX0_hasLockOf 24 = .ok (.iload_n 2, 1) := by decide +kernel
theorem dX0_hasLockOf_25 : decode cX0_hasLockOf 25 = .ok (.iaload, 1) := by decide +kernel
theorem dX0_hasLockOf_26 : decode cX0_hasLockOf 26 = .ok (.iload_n 1, 1) := by decide +kernel
theorem dX0_hasLockOf_27 : decode cX0_hasLockOf 27 = .ok (.if_icmp .ne 5, 3) := by decide +kernel
theorem dX0_hasLockOf_30 : decode cX0_hasLockOf 30 = .ok (.iconst 1, 1) := by decide +kernel
theorem dX0_hasLockOf_31 : decode cX0_hasLockOf 31 = .ok (.ireturn, 1) := by decide +kernel
theorem dX0_hasLockOf_32 : decode cX0_hasLockOf 32 = .ok (.iinc 2 1, 3) := by decide +kernel
theorem dX0_hasLockOf_35 : decode cX0_hasLockOf 35 = .ok (.goto (-33), 3) := by decide +kernel
theorem dX0_hasLockOf_38 : decode cX0_hasLockOf 38 = .ok (.iconst 0, 1) := by decide +kernel
theorem dX0_hasLockOf_39 : decode cX0_hasLockOf 39 = .ok (.ireturn, 1) := by decide +kernel
theorem dX0_greatestSection_0 : decode cX0_greatestSection 0 = .ok (.iconst 0, 1) := by decide +kernel
theorem dX0_greatestSection_1 : decode cX0_greatestSection 1 = .ok (.istore_n 2, 1) := by decide +kernel
theorem dX0_greatestSection_2 : decode cX0_greatestSection 2 = .ok (.iconst 0, 1) := by decide +kernel
theorem dX0_greatestSection_3 : decode cX0_greatestSection 3 = .ok (.istore_n 3, 1) := by decide +kernel
theorem dX0_greatestSection_4 : decode cX0_greatestSection 4 = .ok (.iload_n 3, 1) := by decide +kernel
theorem dX0_greatestSection_5 : decode cX0_greatestSection 5 = .ok (.aload_n 0, 1) := by decide +kernel
theorem dX0_greatestSection_6 : decode cX0_greatestSection 6 = .ok (.getfield 18, 3) := by decide +kernel
theorem dX0_greatestSection_9 : decode cX0_greatestSection 9 = .ok (.if_icmp .ge 42, 3) := by decide +kernel
theorem dX0_greatestSection_12 : decode cX0_greatestSection 12 = .ok (.aload_n 0, 1) := by decide +kernel
theorem dX0_greatestSection_13 : decode cX0_greatestSection 13 = .ok (.getfield 9, 3) := by decide +kernel
theorem dX0_greatestSection_16 : decode cX0_greatestSection 16 = .ok (.iload_n 3, 1) := by decide +kernel
theorem dX0_greatestSection_17 : decode cX0_greatestSection 17 = .ok (.iaload, 1) := by decide +kernel
theorem dX0_greatestSection_18 : decode cX0_greatestSection 18 = .ok (.iconst 1, 1) := by decide +kernel
theorem dX0_greatestSection_19 : decode cX0_greatestSection 19 = .ok (.if_icmp .ne 26, 3) := by decide +kernel
theorem dX0_greatestSection_22 : decode cX0_greatestSection 22 = .ok (.aload_n 0, 1) := by decide +kernel
theorem dX0_greatestSection_23 : decode cX0_greatestSection 23 = .ok (.getfield 15, 3) := by decide +kernel
theorem dX0_greatestSection_26 : decode cX0_greatestSection 26 = .ok (.iload_n 3, 1) := by decide +kernel
theorem dX0_greatestSection_27 : decode cX0_greatestSection 27 = .ok (.iaload, 1) := by decide +kernel
theorem dX0_greatestSection_28 : decode cX0_greatestSection 28 = .ok (.iload_n 1, 1) := by decide +kernel
theorem dX0_greatestSection_29 : decode cX0_greatestSection 29 = .ok (.if_icmp .ne 16, 3) := by decide +kernel
theorem dX0_greatestSection_32 : decode cX0_greatestSection 32 = .ok (.iload_n 2, 1) := by decide +kernel
theorem dX0_greatestSection_33 : decode cX0_greatestSection 33 = .ok (.aload_n 0, 1) := by decide +kernel
theorem dX0_greatestSection_34 : decode cX0_greatestSection 34 = .ok (.iload_n 3, 1) := by decide +kernel
theorem dX0_greatestSection_35 : decode cX0_greatestSection 35 = .ok (.iconst 1, 1) := by decide +kernel
theorem dX0_greatestSection_36 : decode cX0_greatestSection 36 = .ok (.iadd, 1) := by decide +kernel
theorem dX0_greatestSection_37 : decode cX0_greatestSection 37 = .ok (.iload_n 1, 1) := by decide +kernel
theorem dX0_greatestSection_38 : decode cX0_greatestSection 38 = .ok (.invokevirtual 22, 3) := by decide +kernel
theorem dX0_greatestSection_41 : decode cX0_greatestSection 41 = .ok (.invokestatic 26, 3) := by decide +kernel
theorem dX0_greatestSection_44 : decode cX0_greatestSection 44 = .ok (.istore_n 2, 1) := by decide +kernel
theorem dX0_greatestSection_45 : decode cX0_greatestSection 45 = .ok (.iinc 3 1, 3) := by decide +kernel
theorem dX0_greatestSection_48 : decode cX0_greatestSection 48 = .ok (.goto (-44), 3) := by decide +kernel
theorem dX0_greatestSection_51 : decode cX0_greatestSection 51 = .ok (.iload_n 2, 1) := by decide +kernel
theorem dX0_greatestSection_52 : decode cX0_greatestSection 52 = .ok (.ireturn, 1) := by decide +kernel
theorem dX0_sectionFrom_0 : decode cX0_sectionFrom 0 = .ok (.iconst 0, 1) := by decide +kernel
theorem dX0_sectionFrom_1 : decode cX0_sectionFrom 1 = .ok (.istore_n 3, 1) := by decide +kernel
theorem dX0_sectionFrom_2 : decode cX0_sectionFrom 2 = .ok (.iload_n 1, 1) := by decide +kernel
theorem dX0_sectionFrom_3 : decode cX0_sectionFrom 3 = .ok (.istore 4, 2) := by decide +kernel
theorem dX0_sectionFrom_5 : decode cX0_sectionFrom 5 = .ok (.iload 4, 2) := by decide +kernel
theorem dX0_sectionFrom_7 : decode cX0_sectionFrom 7 = .ok (.aload_n 0, 1) := by decide +kernel
theorem dX0_sectionFrom_8 : decode cX0_sectionFrom 8 = .ok (.getfield 18, 3) := by decide +kernel
theorem dX0_sectionFrom_11 : decode cX0_sectionFrom 11 = .ok (.if_icmp .ge 53, 3) := by decide +kernel
theorem dX0_sectionFrom_14 : decode cX0_sectionFrom 14 = .ok (.aload_n 0, 1) := by decide +kernel
theorem dX0_sectionFrom_15 : decode cX0_sectionFrom 15 = .ok (.getfield 9, 3) := by decide +kernel
theorem dX0_sectionFrom_18 : decode cX0_sectionFrom 18 = .ok (.iload 4, 2) := by decide +kernel
theorem dX0_sectionFrom_20 : decode cX0_sectionFrom 20 = .ok (.iaload, 1) := by decide +kernel
theorem dX0_sectionFrom_21 : decode cX0_sectionFrom 21 = .ok (.iconst 2, 1) := by decide +kernel
theorem dX0_sectionFrom_22 : decode cX0_sectionFrom 22 = .ok (.if_icmp .ne 16, 3) := by decide +kernel
theorem dX0_sectionFrom_25 : decode cX0_sectionFrom 25 = .ok (.aload_n 0, 1) := by decide +kernel
theorem dX0_sectionFrom_26 : decode cX0_sectionFrom 26 = .ok (.getfield 15, 3) := by decide +kernel
theorem dX0_sectionFrom_29 : decode cX0_sectionFrom 29 = .ok (.iload 4, 2) := by decide +kernel
theorem dX0_sectionFrom_31 : decode cX0_sectionFrom 31 = .ok (.iaload, 1) := by decide +kernel
theorem dX0_sectionFrom_32 : decode cX0_sectionFrom 32 = .ok (.iload_n 2, 1) := by decide +kernel
theorem dX0_sectionFrom_33 : decode cX0_sectionFrom 33 = .ok (.if_icmp .ne 5, 3) := by decide +kernel
theorem dX0_sectionFrom_36 : decode cX0_sectionFrom 36 = .ok (.iload_n 3, 1) := by decide +kernel
theorem dX0_sectionFrom_37 : decode cX0_sectionFrom 37 = .ok (.ireturn, 1) := by decide +kernel
theorem dX0_sectionFrom_38 : decode cX0_sectionFrom 38 = .ok (.aload_n 0, 1) := by decide +kernel
theorem dX0_sectionFrom_39 : decode cX0_sectionFrom 39 = .ok (.getfield 9, 3) := by decide +kernel
theorem dX0_sectionFrom_42 : decode cX0_sectionFrom 42 = .ok (.iload 4, 2) := by decide +kernel
theorem dX0_sectionFrom_44 : decode cX0_sectionFrom 44 = .ok (.iaload, 1) := by decide +kernel
theorem dX0_sectionFrom_45 : decode cX0_sectionFrom 45 = .ok (.ifCond .ne 13, 3) := by decide +kernel
theorem dX0_sectionFrom_48 : decode cX0_sectionFrom 48 = .ok (.iload_n 3, 1) := by decide +kernel
theorem dX0_sectionFrom_49 : decode cX0_sectionFrom 49 = .ok (.aload_n 0, 1) := by decide +kernel
theorem dX0_sectionFrom_50 : decode cX0_sectionFrom 50 = .ok (.getfield 15, 3) := by decide +kernel
theorem dX0_sectionFrom_53 : decode cX0_sectionFrom 53 = .ok (.iload 4, 2) := by decide +kernel
theorem dX0_sectionFrom_55 : decode cX0_sectionFrom 55 = .ok (.iaload, 1) := by decide +kernel
theorem dX0_sectionFrom_56 : decode cX0_sectionFrom 56 = .ok (.iadd, 1) := by decide +kernel
theorem dX0_sectionFrom_57 : decode cX0_sectionFrom 57 = .ok (.istore_n 3, 1) := by decide +kernel
theorem dX0_sectionFrom_58 : decode cX0_sectionFrom 58 = .ok (.iinc 4 1, 3) := by decide +kernel
theorem dX0_sectionFrom_61 : decode cX0_sectionFrom 61 = .ok (.goto (-56), 3) := by decide +kernel
theorem dX0_sectionFrom_64 : decode cX0_sectionFrom 64 = .ok (.iload_n 3, 1) := by decide +kernel
theorem dX0_sectionFrom_65 : decode cX0_sectionFrom 65 = .ok (.ireturn, 1) := by decide +kernel
theorem dX1_init_0 : decode cX1_init 0 = .ok (.aload_n 0, 1) := by decide +kernel
theorem dX1_init_1 : decode cX1_init 1 = .ok (.invokespecial 3, 3) := by decide +kernel
theorem dX1_init_4 : decode cX1_init 4 = .ok (.aload_n 0, 1) := by decide +kernel
theorem dX1_init_5 : decode cX1_init 5 = .ok (.iconst 0, 1) := by decide +kernel
theorem dX1_init_6 : decode cX1_init 6 = .ok (.putfield 9, 3) := by decide +kernel
theorem dX1_init_9 : decode cX1_init 9 = .ok (.return_, 1) := by decide +kernel
theorem dX1_begin_0 : decode cX1_begin 0 = .ok (.aload_n 0, 1) := by decide +kernel
theorem dX1_begin_1 : decode cX1_begin 1 = .ok (.iconst 1, 1) := by decide +kernel
theorem dX1_begin_2 : decode cX1_begin 2 = .ok (.putfield 9, 3) := by decide +kernel
theorem dX1_begin_5 : decode cX1_begin 5 = .ok (.aload_n 0, 1) := by decide +kernel
theorem dX1_begin_6 : decode cX1_begin 6 = .ok (.iconst 0, 1) := by decide +kernel
theorem dX1_begin_7 : decode cX1_begin 7 = .ok (.putfield 15, 3) := by decide +kernel
theorem dX1_begin_10 : decode cX1_begin 10 = .ok (.aload_n 0, 1) := by decide +kernel
theorem dX1_begin_11 : decode cX1_begin 11 = .ok (.iconst 0, 1) := by decide +kernel
theorem dX1_begin_12 : decode cX1_begin 12 = .ok (.putfield 18, 3) := by decide +kernel
theorem dX1_begin_15 : decode cX1_begin 15 = .ok (.aload_n 0, 1) := by decide +kernel
theorem dX1_begin_16 : decode cX1_begin 16 = .ok (.iconst 0, 1) := by decide +kernel
theorem dX1_begin_17 : decode cX1_begin 17 = .ok (.putfield 21, 3) := by decide +kernel
theorem dX1_begin_20 : decode cX1_begin 20 = .ok (.aload_n 0, 1) := by decide +kernel
theorem dX1_begin_21 : decode cX1_begin 21 = .ok (.iload_n 1, 1) := by decide +kernel
theorem dX1_begin_22 : decode cX1_begin 22 = .ok (.putfield 24, 3) := by decide +kernel
theorem dX1_begin_25 : decode cX1_begin 25 = .ok (.aload_n 0, 1) := by decide +kernel
theorem dX1_begin_26 : decode cX1_begin 26 = .ok (.iload_n 1, 1) := by decide +kernel
theorem dX1_begin_27 : decode cX1_begin 27 = .ok (.iload_n 2, 1) := by decide +kernel
theorem dX1_begin_28 : decode cX1_begin 28 = .ok (.iadd, 1) := by decide +kernel
theorem dX1_begin_29 : decode cX1_begin 29 = .ok (.putfield 27, 3) := by decide +kernel
theorem dX1_begin_32 : decode cX1_begin 32 = .ok (.aload_n 0, 1) := by decide +kernel
theorem dX1_begin_33 : decode cX1_begin 33 = .ok (.iload_n 3, 1) := by decide +kernel
theorem dX1_begin_34 : decode cX1_begin 34 = .ok (.putfield 30, 3) := by decide +kernel
theorem dX1_begin_37 : decode cX1_begin 37 = .ok (.return_, 1) := by decide +kernel
theorem dX1_passStep_0 : decode cX1_passStep 0 = .ok (.aload_n 0, 1) := by decide +kernel
theorem dX1_passStep_1 : decode cX1_passStep 1 = .ok (.dup, 1) := by decide +kernel
theorem dX1_passStep_2 : decode cX1_passStep 2 = .ok (.getfield 15, 3) := by decide +kernel
theorem dX1_passStep_5 : decode cX1_passStep 5 = .ok (.iconst 1, 1) := by decide +kernel
theorem dX1_passStep_6 : decode cX1_passStep 6 = .ok (.iadd, 1) := by decide +kernel
theorem dX1_passStep_7 : decode cX1_passStep 7 = .ok (.putfield 15, 3) := by decide +kernel
theorem dX1_passStep_10 : decode cX1_passStep 10 = .ok (.aload_n 0, 1) := by decide +kernel
theorem dX1_passStep_11 : decode cX1_passStep 11 = .ok (.iconst 0, 1) := by decide +kernel
theorem dX1_passStep_12 : decode cX1_passStep 12 = .ok (.putfield 18, 3) := by decide +kernel
theorem dX1_passStep_15 : decode cX1_passStep 15 = .ok (.return_, 1) := by decide +kernel
theorem dX1_blockAt_0 : decode cX1_blockAt 0 = .ok (.aload_n 0, 1) := by decide +kernel
theorem dX1_blockAt_1 : decode cX1_blockAt 1 = .ok (.iconst 2, 1) := by decide +kernel
theorem dX1_blockAt_2 : decode cX1_blockAt 2 = .ok (.putfield 9, 3) := by decide +kernel
theorem dX1_blockAt_5 : decode cX1_blockAt 5 = .ok (.aload_n 0, 1) := by decide +kernel
theorem dX1_blockAt_6 : decode cX1_blockAt 6 = .ok (.aload_n 1, 1) := by decide +kernel
theorem dX1_blockAt_7 : decode cX1_blockAt 7 = .ok (.putfield 33, 3) := by decide +kernel
theorem dX1_blockAt_10 : decode cX1_blockAt 10 = .ok (.aload_n 0, 1) := by decide +kernel
theorem dX1_blockAt_11 : decode cX1_blockAt 11 = .ok (.iload_n 2, 1) := by decide +kernel
theorem dX1_blockAt_12 : decode cX1_blockAt 12 = .ok (.putfield 30, 3) := by decide +kernel
theorem dX1_blockAt_15 : decode cX1_blockAt 15 = .ok (.return_, 1) := by decide +kernel
theorem dX1_resume_0 : decode cX1_resume 0 = .ok (.aload_n 0, 1) := by decide +kernel
theorem dX1_resume_1 : decode cX1_resume 1 = .ok (.iconst 1, 1) := by decide +kernel
theorem dX1_resume_2 : decode cX1_resume 2 = .ok (.putfield 9, 3) := by decide +kernel
theorem dX1_resume_5 : decode cX1_resume 5 = .ok (.aload_n 0, 1) := by decide +kernel
theorem dX1_resume_6 : decode cX1_resume 6 = .ok (.aconst_null, 1) := by decide +kernel
theorem dX1_resume_7 : decode cX1_resume 7 = .ok (.putfield 33, 3) := by decide +kernel
theorem dX1_resume_10 : decode cX1_resume 10 = .ok (.aload_n 0, 1) := by decide +kernel
theorem dX1_resume_11 : decode cX1_resume 11 = .ok (.iload_n 1, 1) := by decide +kernel
theorem dX1_resume_12 : decode cX1_resume 12 = .ok (.putfield 30, 3) := by decide +kernel
theorem dX1_resume_15 : decode cX1_resume 15 = .ok (.aload_n 0, 1) := by decide +kernel
theorem dX1_resume_16 : decode cX1_resume 16 = .ok (.invokevirtual 37, 3) := by decide +kernel
theorem dX1_resume_19 : decode cX1_resume 19 = .ok (.return_, 1) := by decide +kernel
theorem dX1_end_0 : decode cX1_end 0 = .ok (.aload_n 0, 1) := by decide +kernel
theorem dX1_end_1 : decode cX1_end 1 = .ok (.iconst 0, 1) := by decide +kernel
theorem dX1_end_2 : decode cX1_end 2 = .ok (.putfield 9, 3) := by decide +kernel
theorem dX1_end_5 : decode cX1_end 5 = .ok (.aload_n 0, 1) := by decide +kernel
theorem dX1_end_6 : decode cX1_end 6 = .ok (.aconst_null, 1) := by decide +kernel
theorem dX1_end_7 : decode cX1_end 7 = .ok (.putfield 33, 3) := by decide +kernel
theorem dX1_end_10 : decode cX1_end 10 = .ok (.return_, 1) := by decide +kernel
theorem dX1_inheritsAhead_0 : decode cX1_inheritsAhead 0 = .ok (.aload_n 0, 1) := by decide +kernel
theorem dX1_inheritsAhead_1 : decode cX1_inheritsAhead 1 = .ok (.getfield 40, 3) := by decide +kernel
theorem dX1_inheritsAhead_4 : decode cX1_inheritsAhead 4 = .ok (.aload_n 1, 1) := by decide +kernel
theorem dX1_inheritsAhead_5 : decode cX1_inheritsAhead 5 = .ok (.getfield 40, 3) := by decide +kernel
theorem dX1_inheritsAhead_8 : decode cX1_inheritsAhead 8 = .ok (.if_icmp .eq 22, 3) := by decide +kernel
theorem dX1_inheritsAhead_11 : decode cX1_inheritsAhead 11 = .ok (.aload_n 0, 1) := by decide +kernel
theorem dX1_inheritsAhead_12 : decode cX1_inheritsAhead 12 = .ok (.getfield 40, 3) := by decide +kernel
theorem dX1_inheritsAhead_15 : decode cX1_inheritsAhead 15 = .ok (.aload_n 1, 1) := by decide +kernel
theorem dX1_inheritsAhead_16 : decode cX1_inheritsAhead 16 = .ok (.getfield 40, 3) := by decide +kernel
theorem dX1_inheritsAhead_19 : decode cX1_inheritsAhead 19 = .ok (.if_icmp .le 7, 3) := by decide +kernel
theorem dX1_inheritsAhead_22 : decode cX1_inheritsAhead 22 = .ok (.iconst 1, 1) := by decide +kernel
theorem dX1_inheritsAhead_23 : decode cX1_inheritsAhead 23 = .ok (.goto 23, 3) := by decide +kernel
theorem dX1_inheritsAhead_26 : decode cX1_inheritsAhead 26 = .ok (.iconst 0, 1) := by decide +kernel
theorem dX1_inheritsAhead_27 : decode cX1_inheritsAhead 27 = .ok (.goto 19, 3) := by decide +kernel
theorem dX1_inheritsAhead_30 : decode cX1_inheritsAhead 30 = .ok (.aload_n 0, 1) := by decide +kernel
theorem dX1_inheritsAhead_31 : decode cX1_inheritsAhead 31 = .ok (.getfield 30, 3) := by decide +kernel
theorem dX1_inheritsAhead_34 : decode cX1_inheritsAhead 34 = .ok (.aload_n 1, 1) := by decide +kernel
theorem dX1_inheritsAhead_35 : decode cX1_inheritsAhead 35 = .ok (.getfield 30, 3) := by decide +kernel
theorem dX1_inheritsAhead_38 : decode cX1_inheritsAhead 38 = .ok (.if_icmp .ge 7, 3) := by decide +kernel
theorem dX1_inheritsAhead_41 : decode cX1_inheritsAhead 41 = .ok (.iconst 1, 1) := by decide +kernel
theorem dX1_inheritsAhead_42 : decode cX1_inheritsAhead 42 = .ok (.goto 4, 3) := by decide +kernel
theorem dX1_inheritsAhead_45 : decode cX1_inheritsAhead 45 = .ok (.iconst 0, 1) := by decide +kernel
theorem dX1_inheritsAhead_46 : decode cX1_inheritsAhead 46 = .ok (.ireturn, 1) := by decide +kernel
theorem dX2_init_0 : decode cX2_init 0 = .ok (.aload_n 0, 1) := by decide +kernel
theorem dX2_init_1 : decode cX2_init 1 = .ok (.invokespecial 3, 3) := by decide +kernel
theorem dX2_init_4 : decode cX2_init 4 = .ok (.aload_n 0, 1) := by decide +kernel
theorem dX2_init_5 : decode cX2_init 5 = .ok (.bipush 40, 2) := by decide +kernel
theorem dX2_init_7 : decode cX2_init 7 = .ok (.newarray .int, 2) := by decide +kernel
theorem dX2_init_9 : decode cX2_init 9 = .ok (.putfield 9, 3) := by decide +kernel
theorem dX2_init_12 : decode cX2_init 12 = .ok (.aload_n 0, 1) := by decide +kernel
theorem dX2_init_13 : decode cX2_init 13 = .ok (.bipush 40, 2) := by decide +kernel
theorem dX2_init_15 : decode cX2_init 15 = .ok (.newarray .int, 2) := by decide +kernel
theorem dX2_init_17 : decode cX2_init 17 = .ok (.putfield 15, 3) := by decide +kernel
theorem dX2_init_20 : decode cX2_init 20 = .ok (.aload_n 0, 1) := by decide +kernel
theorem dX2_init_21 : decode cX2_init 21 = .ok (.bipush 40, 2) := by decide +kernel
theorem dX2_init_23 : decode cX2_init 23 = .ok (.newarray .int, 2) := by decide +kernel
theorem dX2_init_25 : decode cX2_init 25 = .ok (.putfield 18, 3) := by decide +kernel
theorem dX2_init_28 : decode cX2_init 28 = .ok (.return_, 1) := by decide +kernel
theorem dX2_add_0 : decode cX2_add 0 = .ok (.aload_n 0, 1) := by decide +kernel
theorem dX2_add_1 : decode cX2_add 1 = .ok (.getfield 9, 3) := by decide +kernel
theorem dX2_add_4 : decode cX2_add 4 = .ok (.aload_n 0, 1) := by decide +kernel
theorem dX2_add_5 : decode cX2_add 5 = .ok (.getfield 21, 3) := by decide +kernel
theorem dX2_add_8 : decode cX2_add 8 = .ok (.iload_n 1, 1) := by decide +kernel
theorem dX2_add_9 : decode cX2_add 9 = .ok (.iastore, 1) := by decide +kernel
theorem dX2_add_10 : decode cX2_add 10 = .ok (.aload_n 0, 1) := by decide +kernel
theorem dX2_add_11 : decode cX2_add 11 = .ok (.getfield 15, 3) := by decide +kernel
theorem dX2_add_14 : decode cX2_add 14 = .ok (.aload_n 0, 1) := by decide +kernel
theorem dX2_add_15 : decode cX2_add 15 = .ok (.getfield 21, 3) := by decide +kernel
theorem dX2_add_18 : decode cX2_add 18 = .ok (.iload_n 2, 1) := by decide +kernel
theorem dX2_add_19 : decode cX2_add 19 = .ok (.iastore, 1) := by decide +kernel
theorem dX2_add_20 : decode cX2_add 20 = .ok (.aload_n 0, 1) := by decide +kernel
theorem dX2_add_21 : decode cX2_add 21 = .ok (.getfield 18, 3) := by decide +kernel
theorem dX2_add_24 : decode cX2_add 24 = .ok (.aload_n 0, 1) := by decide +kernel
theorem dX2_add_25 : decode cX2_add 25 = .ok (.getfield 21, 3) := by decide +kernel
theorem dX2_add_28 : decode cX2_add 28 = .ok (.iload_n 3, 1) := by decide +kernel
theorem dX2_add_29 : decode cX2_add 29 = .ok (.iastore, 1) := by decide +kernel
theorem dX2_add_30 : decode cX2_add 30 = .ok (.aload_n 0, 1) := by decide +kernel
theorem dX2_add_31 : decode cX2_add 31 = .ok (.aload_n 0, 1) := by decide +kernel
theorem dX2_add_32 : decode cX2_add 32 = .ok (.getfield 21, 3) := by decide +kernel
theorem dX2_add_35 : decode cX2_add 35 = .ok (.iconst 1, 1) := by decide +kernel
theorem dX2_add_36 : decode cX2_add 36 = .ok (.iadd, 1) := by decide +kernel
theorem dX2_add_37 : decode cX2_add 37 = .ok (.bipush 40, 2) := by decide +kernel
theorem dX2_add_39 : decode cX2_add 39 = .ok (.irem, 1) := by decide +kernel
theorem dX2_add_40 : decode cX2_add 40 = .ok (.putfield 21, 3) := by decide +kernel
theorem dX2_add_43 : decode cX2_add 43 = .ok (.aload_n 0, 1) := by decide +kernel
theorem dX2_add_44 : decode cX2_add 44 = .ok (.dup, 1) := by decide +kernel
theorem dX2_add_45 : decode cX2_add 45 = .ok (.getfield 25, 3) := by decide +kernel
theorem dX2_add_48 : decode cX2_add 48 = .ok (.iconst 1, 1) := by decide +kernel
theorem dX2_add_49 : decode cX2_add 49 = .ok (.iadd, 1) := by decide +kernel
theorem dX2_add_50 : decode cX2_add 50 = .ok (.putfield 25, 3) := by decide +kernel
theorem dX2_add_53 : decode cX2_add 53 = .ok (.return_, 1) := by decide +kernel
theorem dX2_answer_0 : decode cX2_answer 0 = .ok (.iload_n 1, 1) := by decide +kernel
theorem dX2_answer_1 : decode cX2_answer 1 = .ok (.ifCond .lt 16, 3) := by decide +kernel
theorem dX2_answer_4 : decode cX2_answer 4 = .ok (.iload_n 1, 1) := by decide +kernel
theorem dX2_answer_5 : decode cX2_answer 5 = .ok (.aload_n 0, 1) := by decide +kernel
theorem dX2_answer_6 : decode cX2_answer 6 = .ok (.getfield 25, 3) := by decide +kernel
theorem dX2_answer_9 : decode cX2_answer 9 = .ok (.bipush 40, 2) := by decide +kernel
theorem dX2_answer_11 : decode cX2_answer 11 = .ok (.invokestatic 28, 3) := by decide +kernel
theorem dX2_answer_14 : decode cX2_answer 14 = .ok (.if_icmp .lt 5, 3) := by decide +kernel
theorem dX2_answer_17 : decode cX2_answer 17 = .ok (.iconst (-1), 1) := by decide +kernel
theorem dX2_answer_18 : decode cX2_answer 18 = .ok (.ireturn, 1) := by decide +kernel
theorem dX2_answer_19 : decode cX2_answer 19 = .ok (.aload_n 0, 1) := by decide +kernel
theorem dX2_answer_20 : decode cX2_answer 20 = .ok (.getfield 21, 3) := by decide +kernel
theorem dX2_answer_23 : decode cX2_answer 23 = .ok (.bipush 40, 2) := by decide +kernel
theorem dX2_answer_25 : decode cX2_answer 25 = .ok (.iadd, 1) := by decide +kernel
theorem dX2_answer_26 : decode cX2_answer 26 = .ok (.iconst 1, 1) := by decide +kernel
theorem dX2_answer_27 : decode cX2_answer 27 = .ok (.isub, 1) := by decide +kernel
theorem dX2_answer_28 : decode cX2_answer 28 = .ok (.iload_n 1, 1) := by decide +kernel
theorem dX2_answer_29 : decode cX2_answer 29 = .ok (.isub, 1) := by decide +kernel
theorem dX2_answer_30 : decode cX2_answer 30 = .ok (.bipush 40, 2) := by decide +kernel
theorem dX2_answer_32 : decode cX2_answer 32 = .ok (.irem, 1) := by decide +kernel
theorem dX2_answer_33 : decode cX2_answer 33 = .ok (.istore_n 3, 1) := by decide +kernel
theorem dX2_answer_34 : decode cX2_answer 34 = .ok (.iload_n 2, 1) := by decide +kernel
theorem dX2_answer_35 : decode cX2_answer 35 = .ok (.tableswitch 46 0 2 #[25, 32, 39], 25) := by decide +kernel
theorem dX2_answer_60 : decode cX2_answer 60 = .ok (.aload_n 0, 1) := by decide +kernel
theorem dX2_answer_61 : decode cX2_answer 61 = .ok (.getfield 9, 3) := by decide +kernel
theorem dX2_answer_64 : decode cX2_answer 64 = .ok (.iload_n 3, 1) := by decide +kernel
theorem dX2_answer_65 : decode cX2_answer 65 = .ok (.iaload, 1) := by decide +kernel
theorem dX2_answer_66 : decode cX2_answer 66 = .ok (.ireturn, 1) := by decide +kernel
theorem dX2_answer_67 : decode cX2_answer 67 = .ok (.aload_n 0, 1) := by decide +kernel
theorem dX2_answer_68 : decode cX2_answer 68 = .ok (.getfield 15, 3) := by decide +kernel
theorem dX2_answer_71 : decode cX2_answer 71 = .ok (.iload_n 3, 1) := by decide +kernel
theorem dX2_answer_72 : decode cX2_answer 72 = .ok (.iaload, 1) := by decide +kernel
theorem dX2_answer_73 : decode cX2_answer 73 = .ok (.ireturn, 1) := by decide +kernel
theorem dX2_answer_74 : decode cX2_answer 74 = .ok (.aload_n 0, 1) := by decide +kernel
theorem dX2_answer_75 : decode cX2_answer 75 = .ok (.getfield 18, 3) := by decide +kernel
theorem dX2_answer_78 : decode cX2_answer 78 = .ok (.iload_n 3, 1) := by decide +kernel
theorem dX2_answer_79 : decode cX2_answer 79 = .ok (.iaload, 1) := by decide +kernel
theorem dX2_answer_80 : decode cX2_answer 80 = .ok (.ireturn, 1) := by decide +kernel
theorem dX2_answer_81 : decode cX2_answer 81 = .ok (.iconst (-1), 1) := by decide +kernel
theorem dX2_answer_82 : decode cX2_answer 82 = .ok (.ireturn, 1) := by decide +kernel
theorem dX3_init_0 : decode cX3_init 0 = .ok (.aload_n 0, 1) := by decide +kernel
theorem dX3_init_1 : decode cX3_init 1 = .ok (.invokespecial 1, 3) := by decide +kernel
theorem dX3_init_4 : decode cX3_init 4 = .ok (.aload_n 0, 1) := by decide +kernel
theorem dX3_init_5 : decode cX3_init 5 = .ok (.iload_n 1, 1) := by decide +kernel
theorem dX3_init_6 : decode cX3_init 6 = .ok (.putfield 7, 3) := by decide +kernel
theorem dX3_init_9 : decode cX3_init 9 = .ok (.aload_n 0, 1) := by decide +kernel
theorem dX3_init_10 : decode cX3_init 10 = .ok (.iload_n 2, 1) := by decide +kernel
theorem dX3_init_11 : decode cX3_init 11 = .ok (.putfield 13, 3) := by decide +kernel
theorem dX3_init_14 : decode cX3_init 14 = .ok (.aload_n 0, 1) := by decide +kernel
theorem dX3_init_15 : decode cX3_init 15 = .ok (.iload_n 3, 1) := by decide +kernel
theorem dX3_init_16 : decode cX3_init 16 = .ok (.putfield 16, 3) := by decide +kernel
theorem dX3_init_19 : decode cX3_init 19 = .ok (.return_, 1) := by decide +kernel
theorem dX4_init_0 : decode cX4_init 0 = .ok (.aload_n 0, 1) := by decide +kernel
theorem dX4_init_1 : decode cX4_init 1 = .ok (.invokespecial 1, 3) := by decide +kernel
theorem dX4_init_4 : decode cX4_init 4 = .ok (.return_, 1) := by decide +kernel
theorem dX4_addDone_0 : decode cX4_addDone 0 = .ok (.aload_n 0, 1) := by decide +kernel
theorem dX4_addDone_1 : decode cX4_addDone 1 = .ok (.dup, 1) := by decide +kernel
theorem dX4_addDone_2 : decode cX4_addDone 2 = .ok (.getfield 7, 3) := by decide +kernel
theorem dX4_addDone_5 : decode cX4_addDone 5 = .ok (.iconst 1, 1) := by decide +kernel
theorem dX4_addDone_6 : decode cX4_addDone 6 = .ok (.iadd, 1) := by decide +kernel
theorem dX4_addDone_7 : decode cX4_addDone 7 = .ok (.putfield 7, 3) := by decide +kernel
theorem dX4_addDone_10 : decode cX4_addDone 10 = .ok (.aload_n 0, 1) := by decide +kernel
theorem dX4_addDone_11 : decode cX4_addDone 11 = .ok (.aload_n 0, 1) := by decide +kernel
theorem dX4_addDone_12 : decode cX4_addDone 12 = .ok (.getfield 13, 3) := by decide +kernel
theorem dX4_addDone_15 : decode cX4_addDone 15 = .ok (.iload_n 1, 1) := by decide +kernel
theorem dX4_addDone_16 : decode cX4_addDone 16 = .ok (.invokestatic 16, 3) := by decide +kernel
theorem dX4_addDone_19 : decode cX4_addDone 19 = .ok (.putfield 13, 3) := by decide +kernel
theorem dX4_addDone_22 : decode cX4_addDone 22 = .ok (.return_, 1) := by decide +kernel
theorem dX5_init_0 : decode cX5_init 0 = .ok (.aload_n 0, 1) := by decide +kernel
theorem dX5_init_1 : decode cX5_init 1 = .ok (.invokespecial 3, 3) := by decide +kernel
theorem dX5_init_4 : decode cX5_init 4 = .ok (.aload_n 0, 1) := by decide +kernel
theorem dX5_init_5 : decode cX5_init 5 = .ok (.new 9, 3) := by decide +kernel
theorem dX5_init_8 : decode cX5_init 8 = .ok (.dup, 1) := by decide +kernel
theorem dX5_init_9 : decode cX5_init 9 = .ok (.invokespecial 11, 3) := by decide +kernel
theorem dX5_init_12 : decode cX5_init 12 = .ok (.putfield 12, 3) := by decide +kernel
theorem dX5_init_15 : decode cX5_init 15 = .ok (.aload_n 0, 1) := by decide +kernel
theorem dX5_init_16 : decode cX5_init 16 = .ok (.new 18, 3) := by decide +kernel
theorem dX5_init_19 : decode cX5_init 19 = .ok (.dup, 1) := by decide +kernel
theorem dX5_init_20 : decode cX5_init 20 = .ok (.invokespecial 20, 3) := by decide +kernel
theorem dX5_init_23 : decode cX5_init 23 = .ok (.putfield 21, 3) := by decide +kernel
theorem dX5_init_26 : decode cX5_init 26 = .ok (.aload_n 0, 1) := by decide +kernel
theorem dX5_init_27 : decode cX5_init 27 = .ok (.new 25, 3) := by decide +kernel
theorem dX5_init_30 : decode cX5_init 30 = .ok (.dup, 1) := by decide +kernel
theorem dX5_init_31 : decode cX5_init 31 = .ok (.invokespecial 27, 3) := by decide +kernel
theorem dX5_init_34 : decode cX5_init 34 = .ok (.putfield 28, 3) := by decide +kernel
theorem dX5_init_37 : decode cX5_init 37 = .ok (.aload_n 0, 1) := by decide +kernel
theorem dX5_init_38 : decode cX5_init 38 = .ok (.iload_n 1, 1) := by decide +kernel
theorem dX5_init_39 : decode cX5_init 39 = .ok (.putfield 32, 3) := by decide +kernel
theorem dX5_init_42 : decode cX5_init 42 = .ok (.aload_n 0, 1) := by decide +kernel
theorem dX5_init_43 : decode cX5_init 43 = .ok (.iload_n 2, 1) := by decide +kernel
theorem dX5_init_44 : decode cX5_init 44 = .ok (.putfield 36, 3) := by decide +kernel
theorem dX5_init_47 : decode cX5_init 47 = .ok (.aload_n 0, 1) := by decide +kernel
theorem dX5_init_48 : decode cX5_init 48 = .ok (.iload_n 3, 1) := by decide +kernel
theorem dX5_init_49 : decode cX5_init 49 = .ok (.putfield 39, 3) := by decide +kernel
theorem dX5_init_52 : decode cX5_init 52 = .ok (.aload_n 0, 1) := by decide +kernel
theorem dX5_init_53 : decode cX5_init 53 = .ok (.iload 4, 2) := by decide +kernel
theorem dX5_init_55 : decode cX5_init 55 = .ok (.putfield 42, 3) := by decide +kernel
theorem dX5_init_58 : decode cX5_init 58 = .ok (.aload_n 0, 1) := by decide +kernel
theorem dX5_init_59 : decode cX5_init 59 = .ok (.iload 5, 2) := by decide +kernel
theorem dX5_init_61 : decode cX5_init 61 = .ok (.putfield 45, 3) := by decide +kernel
theorem dX5_init_64 : decode cX5_init 64 = .ok (.aload_n 0, 1) := by decide +kernel
theorem dX5_init_65 : decode cX5_init 65 = .ok (.iload 6, 2) := by decide +kernel
theorem dX5_init_67 : decode cX5_init 67 = .ok (.putfield 48, 3) := by decide +kernel
theorem dX5_init_70 : decode cX5_init 70 = .ok (.return_, 1) := by decide +kernel
theorem dX5_isPeriodicAt_0 : decode cX5_isPeriodicAt 0 = .ok (.aload_n 0, 1) := by decide +kernel
theorem dX5_isPeriodicAt_1 : decode cX5_isPeriodicAt 1 = .ok (.getfield 39, 3) := by decide +kernel
theorem dX5_isPeriodicAt_4 : decode cX5_isPeriodicAt 4 = .ok (.ifCond .le 29, 3) := by decide +kernel
theorem dX5_isPeriodicAt_7 : decode cX5_isPeriodicAt 7 = .ok (.iload_n 1, 1) := by decide +kernel
theorem dX5_isPeriodicAt_8 : decode cX5_isPeriodicAt 8 = .ok (.aload_n 0, 1) := by decide +kernel
theorem dX5_isPeriodicAt_9 : decode cX5_isPeriodicAt 9 = .ok (.getfield 42, 3) := by decide +kernel
theorem dX5_isPeriodicAt_12 : decode cX5_isPeriodicAt 12 = .ok (.if_icmp .lt 21, 3) := by decide +kernel
theorem dX5_isPeriodicAt_15 : decode cX5_isPeriodicAt 15 = .ok (.iload_n 1, 1) := by decide +kernel
theorem dX5_isPeriodicAt_16 : decode cX5_isPeriodicAt 16 = .ok (.aload_n 0, 1) := by decide +kernel
theorem dX5_isPeriodicAt_17 : decode cX5_isPeriodicAt 17 = .ok (.getfield 42, 3) := by decide +kernel
theorem dX5_isPeriodicAt_20 : decode cX5_isPeriodicAt 20 = .ok (.isub, 1) := by decide +kernel
theorem dX5_isPeriodicAt_21 : decode cX5_isPeriodicAt 21 = .ok (.aload_n 0, 1) := by decide +kernel
theorem dX5_isPeriodicAt_22 : decode cX5_isPeriodicAt 22 = .ok (.getfield 39, 3) := by decide +kernel
theorem dX5_isPeriodicAt_25 : decode cX5_isPeriodicAt 25 = .ok (.irem, 1) := by decide +kernel
theorem dX5_isPeriodicAt_26 : decode cX5_isPeriodicAt 26 = .ok (.ifCond .ne 7, 3) := by decide +kernel
theorem dX5_isPeriodicAt_29 : decode cX5_isPeriodicAt 29 = .ok (.iconst 1, 1) := by decide +kernel
theorem dX5_isPeriodicAt_30 : decode cX5_isPeriodicAt 30 = .ok (.goto 4, 3) := by decide +kernel
theorem dX5_isPeriodicAt_33 : decode cX5_isPeriodicAt 33 = .ok (.iconst 0, 1) := by decide +kernel
theorem dX5_isPeriodicAt_34 : decode cX5_isPeriodicAt 34 = .ok (.ireturn, 1) := by decide +kernel
theorem dX5_isAtWork_0 : decode cX5_isAtWork 0 = .ok (.aload_n 0, 1) := by decide +kernel
theorem dX5_isAtWork_1 : decode cX5_isAtWork 1 = .ok (.getfield 21, 3) := by decide +kernel
theorem dX5_isAtWork_4 : decode cX5_isAtWork 4 = .ok (.getfield 51, 3) := by decide +kernel
theorem dX5_isAtWork_7 : decode cX5_isAtWork 7 = .ok (.aload_n 0, 1) := by decide +kernel
theorem dX5_isAtWork_8 : decode cX5_isAtWork 8 = .ok (.getfield 12, 3) := by decide +kernel
theorem dX5_isAtWork_11 : decode cX5_isAtWork 11 = .ok (.getfield 54, 3) := by decide +kernel
theorem dX5_isAtWork_14 : decode cX5_isAtWork 14 = .ok (.if_icmp .ge 25, 3) := by decide +kernel
theorem dX5_isAtWork_17 : decode cX5_isAtWork 17 = .ok (.aload_n 0, 1) := by decide +kernel
theorem dX5_isAtWork_18 : decode cX5_isAtWork 18 = .ok (.getfield 12, 3) := by decide +kernel
theorem dX5_isAtWork_21 : decode cX5_isAtWork 21 = .ok (.getfield 57, 3) := by decide +kernel
theorem dX5_isAtWork_24 : decode cX5_isAtWork 24 = .ok (.aload_n 0, 1) := by decide +kernel
theorem dX5_isAtWork_25 : decode cX5_isAtWork 25 = .ok (.getfield 21, 3) := by decide +kernel
theorem dX5_isAtWork_28 : decode cX5_isAtWork 28 = .ok (.getfield 51, 3) := by decide +kernel
theorem dX5_isAtWork_31 : decode cX5_isAtWork 31 = .ok (.iaload, 1) := by decide +kernel
theorem dX5_isAtWork_32 : decode cX5_isAtWork 32 = .ok (.ifCond .ne 7, 3) := by decide +kernel
theorem dX5_isAtWork_35 : decode cX5_isAtWork 35 = .ok (.iconst 1, 1) := by decide +kernel
theorem dX5_isAtWork_36 : decode cX5_isAtWork 36 = .ok (.goto 4, 3) := by decide +kernel
theorem dX5_isAtWork_39 : decode cX5_isAtWork 39 = .ok (.iconst 0, 1) := by decide +kernel
theorem dX5_isAtWork_40 : decode cX5_isAtWork 40 = .ok (.ireturn, 1) := by decide +kernel
theorem dL_cell_0 : decode cL_cell 0 = .ok (.iload_n 1, 1) := by decide +kernel
theorem dL_cell_1 : decode cL_cell 1 = .ok (.aload_n 0, 1) := by decide +kernel
theorem dL_cell_2 : decode cL_cell 2 = .ok (.arraylength, 1) := by decide +kernel
theorem dL_cell_3 : decode cL_cell 3 = .ok (.if_icmp .ge 9, 3) := by decide +kernel
theorem dL_cell_6 : decode cL_cell 6 = .ok (.aload_n 0, 1) := by decide +kernel
theorem dL_cell_7 : decode cL_cell 7 = .ok (.iload_n 1, 1) := by decide +kernel
theorem dL_cell_8 : decode cL_cell 8 = .ok (.iaload, 1) := by decide +kernel
theorem dL_cell_9 : decode cL_cell 9 = .ok (.goto 4, 3) := by decide +kernel
theorem dL_cell_12 : decode cL_cell 12 = .ok (.iconst 0, 1) := by decide +kernel
theorem dL_cell_13 : decode cL_cell 13 = .ok (.ireturn, 1) := by decide +kernel
theorem dL_task_0 : decode cL_task 0 = .ok (.aload 6, 2) := by decide +kernel
theorem dL_task_2 : decode cL_task 2 = .ok (.iconst 0, 1) := by decide +kernel
theorem dL_task_3 : decode cL_task 3 = .ok (.aload_n 0, 1) := by decide +kernel
theorem dL_task_4 : decode cL_task 4 = .ok (.iload_n 1, 1) := by decide +kernel
theorem dL_task_5 : decode cL_task 5 = .ok (.iload_n 2, 1) := by decide +kernel
theorem dL_task_6 : decode cL_task 6 = .ok (.iload_n 3, 1) := by decide +kernel
theorem dL_task_7 : decode cL_task 7 = .ok (.iload 4, 2) := by decide +kernel
theorem dL_task_9 : decode cL_task 9 = .ok (.iload 5, 2) := by decide +kernel
theorem dL_task_11 : decode cL_task 11 = .ok (.invokevirtual 7, 3) := by decide +kernel
theorem dL_task_14 : decode cL_task 14 = .ok (.i2l, 1) := by decide +kernel
theorem dL_task_15 : decode cL_task 15 = .ok (.lastore, 1) := by decide +kernel
theorem dL_task_16 : decode cL_task 16 = .ok (.goto 11, 3) := by decide +kernel
theorem dL_task_19 : decode cL_task 19 = .ok (.astore 7, 2) := by decide +kernel
theorem dL_task_21 : decode cL_task 21 = .ok (.iconst 1, 1) := by decide +kernel
theorem dL_task_22 : decode cL_task 22 = .ok (.ireturn, 1) := by decide +kernel
theorem dL_task_23 : decode cL_task 23 = .ok (.astore 7, 2) := by decide +kernel
theorem dL_task_25 : decode cL_task 25 = .ok (.iconst 2, 1) := by decide +kernel
theorem dL_task_26 : decode cL_task 26 = .ok (.ireturn, 1) := by decide +kernel
theorem dL_task_27 : decode cL_task 27 = .ok (.iconst 0, 1) := by decide +kernel
theorem dL_task_28 : decode cL_task 28 = .ok (.ireturn, 1) := by decide +kernel
theorem dL_mutex_0 : decode cL_mutex 0 = .ok (.aload_n 3, 1) := by decide +kernel
theorem dL_mutex_1 : decode cL_mutex 1 = .ok (.iconst 0, 1) := by decide +kernel
theorem dL_mutex_2 : decode cL_mutex 2 = .ok (.aload_n 0, 1) := by decide +kernel
theorem dL_mutex_3 : decode cL_mutex 3 = .ok (.iload_n 1, 1) := by decide +kernel
theorem dL_mutex_4 : decode cL_mutex 4 = .ok (.iload_n 2, 1) := by decide +kernel
theorem dL_mutex_5 : decode cL_mutex 5 = .ok (.invokevirtual 17, 3) := by decide +kernel
theorem dL_mutex_8 : decode cL_mutex 8 = .ok (.i2l, 1) := by decide +kernel
theorem dL_mutex_9 : decode cL_mutex 9 = .ok (.lastore, 1) := by decide +kernel
theorem dL_mutex_10 : decode cL_mutex 10 = .ok (.goto 11, 3) := by decide +kernel
theorem dL_mutex_13 : decode cL_mutex 13 = .ok (.astore 4, 2) := by decide +kernel
theorem dL_mutex_15 : decode cL_mutex 15 = .ok (.iconst 1, 1) := by decide +kernel
theorem dL_mutex_16 : decode cL_mutex 16 = .ok (.ireturn, 1) := by decide +kernel
theorem dL_mutex_17 : decode cL_mutex 17 = .ok (.astore 4, 2) := by decide +kernel
theorem dL_mutex_19 : decode cL_mutex 19 = .ok (.iconst 2, 1) := by decide +kernel
theorem dL_mutex_20 : decode cL_mutex 20 = .ok (.ireturn, 1) := by decide +kernel
theorem dL_mutex_21 : decode cL_mutex 21 = .ok (.iconst 0, 1) := by decide +kernel
theorem dL_mutex_22 : decode cL_mutex 22 = .ok (.ireturn, 1) := by decide +kernel
theorem dL_step_0 : decode cL_step 0 = .ok (.aload 4, 2) := by decide +kernel
theorem dL_step_2 : decode cL_step 2 = .ok (.iconst 0, 1) := by decide +kernel
theorem dL_step_3 : decode cL_step 3 = .ok (.aload_n 0, 1) := by decide +kernel
theorem dL_step_4 : decode cL_step 4 = .ok (.iload_n 1, 1) := by decide +kernel
theorem dL_step_5 : decode cL_step 5 = .ok (.iload_n 2, 1) := by decide +kernel
theorem dL_step_6 : decode cL_step 6 = .ok (.iload_n 3, 1) := by decide +kernel
theorem dL_step_7 : decode cL_step 7 = .ok (.invokevirtual 21, 3) := by decide +kernel
theorem dL_step_10 : decode cL_step 10 = .ok (.i2l, 1) := by decide +kernel
theorem dL_step_11 : decode cL_step 11 = .ok (.lastore, 1) := by decide +kernel
theorem dL_step_12 : decode cL_step 12 = .ok (.goto 11, 3) := by decide +kernel
theorem dL_step_15 : decode cL_step 15 = .ok (.astore 5, 2) := by decide +kernel
theorem dL_step_17 : decode cL_step 17 = .ok (.iconst 1, 1) := by decide +kernel
theorem dL_step_18 : decode cL_step 18 = .ok (.ireturn, 1) := by decide +kernel
theorem dL_step_19 : decode cL_step 19 = .ok (.astore 5, 2) := by decide +kernel
theorem dL_step_21 : decode cL_step 21 = .ok (.iconst 2, 1) := by decide +kernel
theorem dL_step_22 : decode cL_step 22 = .ok (.ireturn, 1) := by decide +kernel
theorem dL_step_23 : decode cL_step 23 = .ok (.iconst 0, 1) := by decide +kernel
theorem dL_step_24 : decode cL_step 24 = .ok (.ireturn, 1) := by decide +kernel
theorem dL_start_0 : decode cL_start 0 = .ok (.aload_n 0, 1) := by decide +kernel
theorem dL_start_1 : decode cL_start 1 = .ok (.invokevirtual 25, 3) := by decide +kernel
theorem dL_start_4 : decode cL_start 4 = .ok (.goto 6, 3) := by decide +kernel
theorem dL_start_7 : decode cL_start 7 = .ok (.astore_n 1, 1) := by decide +kernel
theorem dL_start_8 : decode cL_start 8 = .ok (.iconst 1, 1) := by decide +kernel
theorem dL_start_9 : decode cL_start 9 = .ok (.ireturn, 1) := by decide +kernel
theorem dL_start_10 : decode cL_start 10 = .ok (.iconst 0, 1) := by decide +kernel
theorem dL_start_11 : decode cL_start 11 = .ok (.ireturn, 1) := by decide +kernel
theorem dL_tick_0 : decode cL_tick 0 = .ok (.aload_n 2, 1) := by decide +kernel
theorem dL_tick_1 : decode cL_tick 1 = .ok (.iconst 0, 1) := by decide +kernel
theorem dL_tick_2 : decode cL_tick 2 = .ok (.aload_n 0, 1) := by decide +kernel
theorem dL_tick_3 : decode cL_tick 3 = .ok (.iload_n 1, 1) := by decide +kernel
theorem dL_tick_4 : decode cL_tick 4 = .ok (.invokevirtual 28, 3) := by decide +kernel
theorem dL_tick_7 : decode cL_tick 7 = .ok (.i2l, 1) := by decide +kernel
theorem dL_tick_8 : decode cL_tick 8 = .ok (.lastore, 1) := by decide +kernel
theorem dL_tick_9 : decode cL_tick 9 = .ok (.goto 9, 3) := by decide +kernel
theorem dL_tick_12 : decode cL_tick 12 = .ok (.astore_n 3, 1) := by decide +kernel
theorem dL_tick_13 : decode cL_tick 13 = .ok (.iconst 1, 1) := by decide +kernel
theorem dL_tick_14 : decode cL_tick 14 = .ok (.ireturn, 1) := by decide +kernel
theorem dL_tick_15 : decode cL_tick 15 = .ok (.astore_n 3, 1) := by decide +kernel
theorem dL_tick_16 : decode cL_tick 16 = .ok (.iconst 2, 1) := by decide +kernel
theorem dL_tick_17 : decode cL_tick 17 = .ok (.ireturn, 1) := by decide +kernel
theorem dL_tick_18 : decode cL_tick 18 = .ok (.iconst 0, 1) := by decide +kernel
theorem dL_tick_19 : decode cL_tick 19 = .ok (.ireturn, 1) := by decide +kernel
theorem dL_response_0 : decode cL_response 0 = .ok (.aload_n 2, 1) := by decide +kernel
theorem dL_response_1 : decode cL_response 1 = .ok (.iconst 0, 1) := by decide +kernel
theorem dL_response_2 : decode cL_response 2 = .ok (.aload_n 0, 1) := by decide +kernel
theorem dL_response_3 : decode cL_response 3 = .ok (.iload_n 1, 1) := by decide +kernel
theorem dL_response_4 : decode cL_response 4 = .ok (.invokevirtual 32, 3) := by decide +kernel
theorem dL_response_7 : decode cL_response 7 = .ok (.i2l, 1) := by decide +kernel
theorem dL_response_8 : decode cL_response 8 = .ok (.lastore, 1) := by decide +kernel
theorem dL_response_9 : decode cL_response 9 = .ok (.goto 6, 3) := by decide +kernel
theorem dL_response_12 : decode cL_response 12 = .ok (.astore_n 3, 1) := by decide +kernel
theorem dL_response_13 : decode cL_response 13 = .ok (.iconst 1, 1) := by decide +kernel
theorem dL_response_14 : decode cL_response 14 = .ok (.ireturn, 1) := by decide +kernel
theorem dL_response_15 : decode cL_response 15 = .ok (.iconst 0, 1) := by decide +kernel
theorem dL_response_16 : decode cL_response 16 = .ok (.ireturn, 1) := by decide +kernel
end
section
theorem dX6_init_0 : decode cX6_init 0 = .ok (.aload_n 0, 1) := by decide +kernel
theorem dX6_init_1 : decode cX6_init 1 = .ok (.invokespecial 1, 3) := by decide +kernel
theorem dX6_init_4 : decode cX6_init 4 = .ok (.aload_n 0, 1) := by decide +kernel
theorem dX6_init_5 : decode cX6_init 5 = .ok (.bipush 8, 2) := by decide +kernel
theorem dX6_init_7 : decode cX6_init 7 = .ok (.anewarray 9, 3) := by decide +kernel
theorem dX6_init_10 : decode cX6_init 10 = .ok (.putfield 11, 3) := by decide +kernel
theorem dX6_init_13 : decode cX6_init 13 = .ok (.aload_n 0, 1) := by decide +kernel
theorem dX6_init_14 : decode cX6_init 14 = .ok (.iconst 4, 1) := by decide +kernel
theorem dX6_init_15 : decode cX6_init 15 = .ok (.anewarray 15, 3) := by decide +kernel
theorem dX6_init_18 : decode cX6_init 18 = .ok (.putfield 17, 3) := by decide +kernel
theorem dX6_init_21 : decode cX6_init 21 = .ok (.aload_n 0, 1) := by decide +kernel
theorem dX6_init_22 : decode cX6_init 22 = .ok (.new 21, 3) := by decide +kernel
theorem dX6_init_25 : decode cX6_init 25 = .ok (.dup, 1) := by decide +kernel
theorem dX6_init_26 : decode cX6_init 26 = .ok (.invokespecial 23, 3) := by decide +kernel
theorem dX6_init_29 : decode cX6_init 29 = .ok (.putfield 24, 3) := by decide +kernel
theorem dX6_init_32 : decode cX6_init 32 = .ok (.aload_n 0, 1) := by decide +kernel
theorem dX6_init_33 : decode cX6_init 33 = .ok (.iload_n 1, 1) := by decide +kernel
theorem dX6_init_34 : decode cX6_init 34 = .ok (.ifCond .eq 7, 3) := by decide +kernel
theorem dX6_init_37 : decode cX6_init 37 = .ok (.iconst 1, 1) := by decide +kernel
theorem dX6_init_38 : decode cX6_init 38 = .ok (.goto 4, 3) := by decide +kernel
theorem dX6_init_41 : decode cX6_init 41 = .ok (.iconst 0, 1) := by decide +kernel
theorem dX6_init_42 : decode cX6_init 42 = .ok (.putfield 28, 3) := by decide +kernel
theorem dX6_init_45 : decode cX6_init 45 = .ok (.return_, 1) := by decide +kernel
theorem dX6_task_0 : decode cX6_task 0 = .ok (.iload_n 2, 1) := by decide +kernel
theorem dX6_task_1 : decode cX6_task 1 = .ok (.ifCond .eq 14, 3) := by decide +kernel
theorem dX6_task_4 : decode cX6_task 4 = .ok (.iload_n 2, 1) := by decide +kernel
theorem dX6_task_5 : decode cX6_task 5 = .ok (.iconst 2, 1) := by decide +kernel
theorem dX6_task_6 : decode cX6_task 6 = .ok (.sipush 200, 3) := by decide +kernel
theorem dX6_task_9 : decode cX6_task 9 = .ok (.invokestatic 32, 3) := by decide +kernel
theorem dX6_task_12 : decode cX6_task 12 = .ok (.ifCond .eq 7, 3) := by decide +kernel
theorem dX6_task_15 : decode cX6_task 15 = .ok (.iconst 1, 1) := by decide +kernel
theorem dX6_task_16 : decode cX6_task 16 = .ok (.goto 4, 3) := by decide +kernel
theorem dX6_task_19 : decode cX6_task 19 = .ok (.iconst 0, 1) := by decide +kernel
theorem dX6_task_20 : decode cX6_task 20 = .ok (.istore 6, 2) := by decide +kernel
theorem dX6_task_22 : decode cX6_task 22 = .ok (.iload 6, 2) := by decide +kernel
theorem dX6_task_24 : decode cX6_task 24 = .ok (.ifCond .eq 47, 3) := by decide +kernel
theorem dX6_task_27 : decode cX6_task 27 = .ok (.iload_n 1, 1) := by decide +kernel
theorem dX6_task_28 : decode cX6_task 28 = .ok (.iconst 1, 1) := by decide +kernel
theorem dX6_task_29 : decode cX6_task 29 = .ok (.bipush 31, 2) := by decide +kernel
theorem dX6_task_31 : decode cX6_task 31 = .ok (.invokestatic 32, 3) := by decide +kernel
theorem dX6_task_34 : decode cX6_task 34 = .ok (.ifCond .eq 37, 3) := by decide +kernel
theorem dX6_task_37 : decode cX6_task 37 = .ok (.iload_n 3, 1) := by decide +kernel
theorem dX6_task_38 : decode cX6_task 38 = .ok (.iconst 0, 1) := by decide +kernel
theorem dX6_task_39 : decode cX6_task 39 = .ok (.bipush 50, 2) := by decide +kernel
theorem dX6_task_41 : decode cX6_task 41 = .ok (.invokestatic 32, 3) := by decide +kernel
theorem dX6_task_44 : decode cX6_task 44 = .ok (.ifCond .eq 27, 3) := by decide +kernel
theorem dX6_task_47 : decode cX6_task 47 = .ok (.iload 4, 2) := by decide +kernel
theorem dX6_task_49 : decode cX6_task 49 = .ok (.iconst 1, 1) := by decide +kernel
theorem dX6_task_50 : decode cX6_task 50 = .ok (.sipush 200, 3) := by decide +kernel
theorem dX6_task_53 : decode cX6_task 53 = .ok (.invokestatic 32, 3) := by decide +kernel
theorem dX6_task_56 : decode cX6_task 56 = .ok (.ifCond .eq 15, 3) := by decide +kernel
theorem dX6_task_59 : decode cX6_task 59 = .ok (.iload 5, 2) := by decide +kernel
theorem dX6_task_61 : decode cX6_task 61 = .ok (.iconst 1, 1) := by decide +kernel
theorem dX6_task_62 : decode cX6_task 62 = .ok (.sipush 200, 3) := by decide +kernel
theorem dX6_task_65 : decode cX6_task 65 = .ok (.invokestatic 32, 3) := by decide +kernel
theorem dX6_task_68 : decode cX6_task 68 = .ok (.ifCond .ne 13, 3) := by decide +kernel
theorem dX6_task_71 : decode cX6_task 71 = .ok (.new 36, 3) := by decide +kernel
theorem dX6_task_74 : decode cX6_task 74 = .ok (.dup, 1) := by decide +kernel
theorem dX6_task_75 : decode cX6_task 75 = .ok (.ldc 38, 2) := by decide +kernel
theorem dX6_task_77 : decode cX6_task 77 = .ok (.invokespecial 40, 3) := by decide +kernel
theorem dX6_task_80 : decode cX6_task 80 = .ok (.athrow, 1) := by decide +kernel
theorem dX6_task_81 : decode cX6_task 81 = .ok (.aload_n 0, 1) := by decide +kernel
theorem dX6_task_82 : decode cX6_task 82 = .ok (.getfield 43, 3) := by decide +kernel
theorem dX6_task_85 : decode cX6_task 85 = .ok (.ifCond .ne 12, 3) := by decide +kernel
theorem dX6_task_88 : decode cX6_task 88 = .ok (.aload_n 0, 1) := by decide +kernel
theorem dX6_task_89 : decode cX6_task 89 = .ok (.getfield 46, 3) := by decide +kernel
theorem dX6_task_92 : decode cX6_task 92 = .ok (.bipush 8, 2) := by decide +kernel
theorem dX6_task_94 : decode cX6_task 94 = .ok (.if_icmp .lt 13, 3) := by decide +kernel
theorem dX6_task_97 : decode cX6_task 97 = .ok (.new 50, 3) := by decide +kernel
theorem dX6_task_100 : decode cX6_task 100 = .ok (.dup, 1) := by decide +kernel
theorem dX6_task_101 : decode cX6_task 101 = .ok (.ldc 52, 2) := by decide +kernel
theorem dX6_task_103 : decode cX6_task 103 = .ok (.invokespecial 54, 3) := by decide +kernel
theorem dX6_task_106 : decode cX6_task 106 = .ok (.athrow, 1) := by decide +kernel
theorem dX6_task_107 : decode cX6_task 107 = .ok (.aload_n 0, 1) := by decide +kernel
theorem dX6_task_108 : decode cX6_task 108 = .ok (.getfield 46, 3) := by decide +kernel
theorem dX6_task_111 : decode cX6_task 111 = .ok (.istore 7, 2) := by decide +kernel
theorem dX6_task_113 : decode cX6_task 113 = .ok (.aload_n 0, 1) := by decide +kernel
theorem dX6_task_114 : decode cX6_task 114 = .ok (.getfield 11, 3) := by decide +kernel
theorem dX6_task_117 : decode cX6_task 117 = .ok (.iload 7, 2) := by decide +kernel
theorem dX6_task_119 : decode cX6_task 119 = .ok (.new 9, 3) := by decide +kernel
theorem dX6_task_122 : decode cX6_task 122 = .ok (.dup, 1) := by decide +kernel
theorem dX6_task_123 : decode cX6_task 123 = .ok (.iload 7, 2) := by decide +kernel
theorem dX6_task_125 : decode cX6_task 125 = .ok (.iload_n 1, 1) := by decide +kernel
theorem dX6_task_126 : decode cX6_task 126 = .ok (.iload_n 2, 1) := by decide +kernel
theorem dX6_task_127 : decode cX6_task 127 = .ok (.iload_n 3, 1) := by decide +kernel
theorem dX6_task_128 : decode cX6_task 128 = .ok (.iload 4, 2) := by decide +kernel
theorem dX6_task_130 : decode cX6_task 130 = .ok (.iload 5, 2) := by decide +kernel
theorem dX6_task_132 : decode cX6_task 132 = .ok (.invokespecial 55, 3) := by decide +kernel
theorem dX6_task_135 : decode cX6_task 135 = .ok (.aastore, 1) := by decide +kernel
theorem dX6_task_136 : decode cX6_task 136 = .ok (.aload_n 0, 1) := by decide +kernel
theorem dX6_task_137 : decode cX6_task 137 = .ok (.dup, 1) := by decide +kernel
theorem dX6_task_138 : decode cX6_task 138 = .ok (.getfield 46, 3) := by decide +kernel
theorem dX6_task_141 : decode cX6_task 141 = .ok (.iconst 1, 1) := by decide +kernel
theorem dX6_task_142 : decode cX6_task 142 = .ok (.iadd, 1) := by decide +kernel
theorem dX6_task_143 : decode cX6_task 143 = .ok (.putfield 46, 3) := by decide +kernel
theorem dX6_task_146 : decode cX6_task 146 = .ok (.iload 7, 2) := by decide +kernel
theorem dX6_task_148 : decode cX6_task 148 = .ok (.ireturn, 1) := by decide +kernel
theorem dX6_strict_0 : decode cX6_strict 0 = .ok (.aload_n 0, 1) := by decide +kernel
theorem dX6_strict_1 : decode cX6_strict 1 = .ok (.iload_n 1, 1) := by decide +kernel
theorem dX6_strict_2 : decode cX6_strict 2 = .ok (.invokevirtual 58, 3) := by decide +kernel
theorem dX6_strict_5 : decode cX6_strict 5 = .ok (.ifCond .ne 5, 3) := by decide +kernel
theorem dX6_strict_8 : decode cX6_strict 8 = .ok (.iconst 0, 1) := by decide +kernel
theorem dX6_strict_9 : decode cX6_strict 9 = .ok (.ireturn, 1) := by decide +kernel
theorem dX6_strict_10 : decode cX6_strict 10 = .ok (.aload_n 0, 1) := by decide +kernel
theorem dX6_strict_11 : decode cX6_strict 11 = .ok (.getfield 11, 3) := by decide +kernel
theorem dX6_strict_14 : decode cX6_strict 14 = .ok (.iload_n 1, 1) := by decide +kernel
theorem dX6_strict_15 : decode cX6_strict 15 = .ok (.aaload, 1) := by decide +kernel
theorem dX6_strict_16 : decode cX6_strict 16 = .ok (.iload_n 2, 1) := by decide +kernel
theorem dX6_strict_17 : decode cX6_strict 17 = .ok (.putfield 62, 3) := by decide +kernel
theorem dX6_strict_20 : decode cX6_strict 20 = .ok (.iconst 1, 1) := by decide +kernel
theorem dX6_strict_21 : decode cX6_strict 21 = .ok (.ireturn, 1) := by decide +kernel
theorem dX6_mutex_0 : decode cX6_mutex 0 = .ok (.iload_n 1, 1) := by decide +kernel
theorem dX6_mutex_1 : decode cX6_mutex 1 = .ok (.iconst 2, 1) := by decide +kernel
theorem dX6_mutex_2 : decode cX6_mutex 2 = .ok (.if_icmp .ne 13, 3) := by decide +kernel
theorem dX6_mutex_5 : decode cX6_mutex 5 = .ok (.iload_n 2, 1) := by decide +kernel
theorem dX6_mutex_6 : decode cX6_mutex 6 = .ok (.iconst 1, 1) := by decide +kernel
theorem dX6_mutex_7 : decode cX6_mutex 7 = .ok (.bipush 31, 2) := by decide +kernel
theorem dX6_mutex_9 : decode cX6_mutex 9 = .ok (.invokestatic 32, 3) := by decide +kernel
theorem dX6_mutex_12 : decode cX6_mutex 12 = .ok (.ifCond .eq 7, 3) := by decide +kernel
theorem dX6_mutex_15 : decode cX6_mutex 15 = .ok (.iconst 1, 1) := by decide +kernel
theorem dX6_mutex_16 : decode cX6_mutex 16 = .ok (.goto 4, 3) := by decide +kernel
theorem dX6_mutex_19 : decode cX6_mutex 19 = .ok (.iconst 0, 1) := by decide +kernel
theorem dX6_mutex_20 : decode cX6_mutex 20 = .ok (.istore_n 3, 1) := by decide +kernel
theorem dX6_mutex_21 : decode cX6_mutex 21 = .ok (.iload_n 1, 1) := by decide +kernel
theorem dX6_mutex_22 : decode cX6_mutex 22 = .ok (.iconst 0, 1) := by decide +kernel
theorem dX6_mutex_23 : decode cX6_mutex 23 = .ok (.iconst 2, 1) := by decide +kernel
theorem dX6_mutex_24 : decode cX6_mutex 24 = .ok (.invokestatic 32, 3) := by decide +kernel
theorem dX6_mutex_27 : decode cX6_mutex 27 = .ok (.ifCond .eq 7, 3) := by decide +kernel
theorem dX6_mutex_30 : decode cX6_mutex 30 = .ok (.iload_n 3, 1) := by decide +kernel
theorem dX6_mutex_31 : decode cX6_mutex 31 = .ok (.ifCond .ne 13, 3) := by decide +kernel
theorem dX6_mutex_34 : decode cX6_mutex 34 = .ok (.new 36, 3) := by decide +kernel
theorem dX6_mutex_37 : decode cX6_mutex 37 = .ok (.dup, 1) := by decide +kernel
theorem dX6_mutex_38 : decode cX6_mutex 38 = .ok (.ldc 65, 2) := by decide +kernel
theorem dX6_mutex_40 : decode cX6_mutex 40 = .ok (.invokespecial 40, 3) := by decide +kernel
theorem dX6_mutex_43 : decode cX6_mutex 43 = .ok (.athrow, 1) := by decide +kernel
theorem dX6_mutex_44 : decode cX6_mutex 44 = .ok (.aload_n 0, 1) := by decide +kernel
theorem dX6_mutex_45 : decode cX6_mutex 45 = .ok (.getfield 43, 3) := by decide +kernel
theorem dX6_mutex_48 : decode cX6_mutex 48 = .ok (.ifCond .ne 11, 3) := by decide +kernel
theorem dX6_mutex_51 : decode cX6_mutex 51 = .ok (.aload_n 0, 1) := by decide +kernel
theorem dX6_mutex_52 : decode cX6_mutex 52 = .ok (.getfield 67, 3) := by decide +kernel
theorem dX6_mutex_55 : decode cX6_mutex 55 = .ok (.iconst 4, 1) := by decide +kernel
theorem dX6_mutex_56 : decode cX6_mutex 56 = .ok (.if_icmp .lt 13, 3) := by decide +kernel
theorem dX6_mutex_59 : decode cX6_mutex 59 = .ok (.new 50, 3) := by decide +kernel
theorem dX6_mutex_62 : decode cX6_mutex 62 = .ok (.dup, 1) := by decide +kernel
theorem dX6_mutex_63 : decode cX6_mutex 63 = .ok (.ldc 70, 2) := by decide +kernel
theorem dX6_mutex_65 : decode cX6_mutex 65 = .ok (.invokespecial 54, 3) := by decide +kernel
theorem dX6_mutex_68 : decode cX6_mutex 68 = .ok (.athrow, 1) := by decide +kernel
theorem dX6_mutex_69 : decode cX6_mutex 69 = .ok (.aload_n 0, 1) := by decide +kernel
theorem dX6_mutex_70 : decode cX6_mutex 70 = .ok (.getfield 67, 3) := by decide +kernel
theorem dX6_mutex_73 : decode cX6_mutex 73 = .ok (.istore 4, 2) := by decide +kernel
theorem dX6_mutex_75 : decode cX6_mutex 75 = .ok (.aload_n 0, 1) := by decide +kernel
theorem dX6_mutex_76 : decode cX6_mutex 76 = .ok (.getfield 17, 3) := by decide +kernel
theorem dX6_mutex_79 : decode cX6_mutex 79 = .ok (.iload 4, 2) := by decide +kernel
theorem dX6_mutex_81 : decode cX6_mutex 81 = .ok (.new 15, 3) := by decide +kernel
theorem dX6_mutex_84 : decode cX6_mutex 84 = .ok (.dup, 1) := by decide +kernel
theorem dX6_mutex_85 : decode cX6_mutex 85 = .ok (.iload 4, 2) := by decide +kernel
theorem dX6_mutex_87 : decode cX6_mutex 87 = .ok (.iload_n 1, 1) := by decide +kernel
theorem dX6_mutex_88 : decode cX6_mutex 88 = .ok (.iload_n 2, 1) := by decide +kernel
theorem dX6_mutex_89 : decode cX6_mutex 89 = .ok (.invokespecial 72, 3) := by decide +kernel
theorem dX6_mutex_92 : decode cX6_mutex 92 = .ok (.aastore, 1) := by decide +kernel
theorem dX6_mutex_93 : decode cX6_mutex 93 = .ok (.aload_n 0, 1) := by decide +kernel
theorem dX6_mutex_94 : decode cX6_mutex 94 = .ok (.dup, 1) := by decide +kernel
theorem dX6_mutex_95 : decode cX6_mutex 95 = .ok (.getfield 67, 3) := by decide +kernel
theorem dX6_mutex_98 : decode cX6_mutex 98 = .ok (.iconst 1, 1) := by decide +kernel
theorem dX6_mutex_99 : decode cX6_mutex 99 = .ok (.iadd, 1) := by decide +kernel
theorem dX6_mutex_100 : decode cX6_mutex 100 = .ok (.putfield 67, 3) := by decide +kernel
theorem dX6_mutex_103 : decode cX6_mutex 103 = .ok (.iload 4, 2) := by decide +kernel
theorem dX6_mutex_105 : decode cX6_mutex 105 = .ok (.ireturn, 1) := by decide +kernel
theorem dX6_step_0 : decode cX6_step 0 = .ok (.aload_n 0, 1) := by decide +kernel
theorem dX6_step_1 : decode cX6_step 1 = .ok (.iload_n 1, 1) := by decide +kernel
theorem dX6_step_2 : decode cX6_step 2 = .ok (.invokevirtual 58, 3) := by decide +kernel
theorem dX6_step_5 : decode cX6_step 5 = .ok (.ifCond .eq 12, 3) := by decide +kernel
theorem dX6_step_8 : decode cX6_step 8 = .ok (.aload_n 0, 1) := by decide +kernel
theorem dX6_step_9 : decode cX6_step 9 = .ok (.iload_n 2, 1) := by decide +kernel
theorem dX6_step_10 : decode cX6_step 10 = .ok (.iload_n 3, 1) := by decide +kernel
theorem dX6_step_11 : decode cX6_step 11 = .ok (.invokevirtual 75, 3) := by decide +kernel
theorem dX6_step_14 : decode cX6_step 14 = .ok (.ifCond .ne 13, 3) := by decide +kernel
theorem dX6_step_17 : decode cX6_step 17 = .ok (.new 36, 3) := by decide +kernel
theorem dX6_step_20 : decode cX6_step 20 = .ok (.dup, 1) := by decide +kernel
theorem dX6_step_21 : decode cX6_step 21 = .ok (.ldc 79, 2) := by decide +kernel
theorem dX6_step_23 : decode cX6_step 23 = .ok (.invokespecial 40, 3) := by decide +kernel
theorem dX6_step_26 : decode cX6_step 26 = .ok (.athrow, 1) := by decide +kernel
theorem dX6_step_27 : decode cX6_step 27 = .ok (.aload_n 0, 1) := by decide +kernel
theorem dX6_step_28 : decode cX6_step 28 = .ok (.getfield 11, 3) := by decide +kernel
theorem dX6_step_31 : decode cX6_step 31 = .ok (.iload_n 1, 1) := by decide +kernel
theorem dX6_step_32 : decode cX6_step 32 = .ok (.aaload, 1) := by decide +kernel
theorem dX6_step_33 : decode cX6_step 33 = .ok (.getfield 81, 3) := by decide +kernel
theorem dX6_step_36 : decode cX6_step 36 = .ok (.astore 4, 2) := by decide +kernel
theorem dX6_step_38 : decode cX6_step 38 = .ok (.aload_n 0, 1) := by decide +kernel
theorem dX6_step_39 : decode cX6_step 39 = .ok (.getfield 43, 3) := by decide +kernel
theorem dX6_step_42 : decode cX6_step 42 = .ok (.ifCond .ne 13, 3) := by decide +kernel
theorem dX6_step_45 : decode cX6_step 45 = .ok (.aload 4, 2) := by decide +kernel
theorem dX6_step_47 : decode cX6_step 47 = .ok (.getfield 85, 3) := by decide +kernel
theorem dX6_step_50 : decode cX6_step 50 = .ok (.bipush 10, 2) := by decide +kernel
theorem dX6_step_52 : decode cX6_step 52 = .ok (.if_icmp .lt 13, 3) := by decide +kernel
theorem dX6_step_55 : decode cX6_step 55 = .ok (.new 50, 3) := by decide +kernel
theorem dX6_step_58 : decode cX6_step 58 = .ok (.dup, 1) := by decide +kernel
theorem dX6_step_59 : decode cX6_step 59 = .ok (.ldc 90, 2) := by decide +kernel
theorem dX6_step_61 : decode cX6_step 61 = .ok (.invokespecial 54, 3) := by decide +kernel
theorem dX6_step_64 : decode cX6_step 64 = .ok (.athrow, 1) := by decide +kernel
theorem dX6_step_65 : decode cX6_step 65 = .ok (.aload 4, 2) := by decide +kernel
theorem dX6_step_67 : decode cX6_step 67 = .ok (.iload_n 2, 1) := by decide +kernel
theorem dX6_step_68 : decode cX6_step 68 = .ok (.iload_n 3, 1) := by decide +kernel
theorem dX6_step_69 : decode cX6_step 69 = .ok (.invokevirtual 92, 3) := by decide +kernel
theorem dX6_step_72 : decode cX6_step 72 = .ok (.aload 4, 2) := by decide +kernel
theorem dX6_step_74 : decode cX6_step 74 = .ok (.getfield 85, 3) := by decide +kernel
theorem dX6_step_77 : decode cX6_step 77 = .ok (.ireturn, 1) := by decide +kernel
theorem dX6_start_0 : decode cX6_start 0 = .ok (.aload_n 0, 1) := by decide +kernel
theorem dX6_start_1 : decode cX6_start 1 = .ok (.getfield 43, 3) := by decide +kernel
theorem dX6_start_4 : decode cX6_start 4 = .ok (.ifCond .ne 10, 3) := by decide +kernel
theorem dX6_start_7 : decode cX6_start 7 = .ok (.aload_n 0, 1) := by decide +kernel
theorem dX6_start_8 : decode cX6_start 8 = .ok (.getfield 46, 3) := by decide +kernel
theorem dX6_start_11 : decode cX6_start 11 = .ok (.ifCond .ne 13, 3) := by decide +kernel
theorem dX6_start_14 : decode cX6_start 14 = .ok (.new 50, 3) := by decide +kernel
theorem dX6_start_17 : decode cX6_start 17 = .ok (.dup, 1) := by decide +kernel
theorem dX6_start_18 : decode cX6_start 18 = .ok (.ldc 96, 2) := by decide +kernel
theorem dX6_start_20 : decode cX6_start 20 = .ok (.invokespecial 54, 3) := by decide +kernel
theorem dX6_start_23 : decode cX6_start 23 = .ok (.athrow, 1) := by decide +kernel
theorem dX6_start_24 : decode cX6_start 24 = .ok (.aload_n 0, 1) := by decide +kernel
theorem dX6_start_25 : decode cX6_start 25 = .ok (.iconst 1, 1) := by decide +kernel
theorem dX6_start_26 : decode cX6_start 26 = .ok (.putfield 43, 3) := by decide +kernel
theorem dX6_start_29 : decode cX6_start 29 = .ok (.return_, 1) := by decide +kernel
theorem dX6_isTask_0 : decode cX6_isTask 0 = .ok (.iload_n 1, 1) := by decide +kernel
theorem dX6_isTask_1 : decode cX6_isTask 1 = .ok (.iconst 0, 1) := by decide +kernel
theorem dX6_isTask_2 : decode cX6_isTask 2 = .ok (.aload_n 0, 1) := by decide +kernel
theorem dX6_isTask_3 : decode cX6_isTask 3 = .ok (.getfield 46, 3) := by decide +kernel
theorem dX6_isTask_6 : decode cX6_isTask 6 = .ok (.iconst 1, 1) := by decide +kernel
theorem dX6_isTask_7 : decode cX6_isTask 7 = .ok (.isub, 1) := by decide +kernel
theorem dX6_isTask_8 : decode cX6_isTask 8 = .ok (.invokestatic 32, 3) := by decide +kernel
theorem dX6_isTask_11 : decode cX6_isTask 11 = .ok (.ireturn, 1) := by decide +kernel
theorem dX6_isMutex_0 : decode cX6_isMutex 0 = .ok (.iload_n 1, 1) := by decide +kernel
theorem dX6_isMutex_1 : decode cX6_isMutex 1 = .ok (.iconst 0, 1) := by decide +kernel
theorem dX6_isMutex_2 : decode cX6_isMutex 2 = .ok (.aload_n 0, 1) := by decide +kernel
theorem dX6_isMutex_3 : decode cX6_isMutex 3 = .ok (.getfield 67, 3) := by decide +kernel
theorem dX6_isMutex_6 : decode cX6_isMutex 6 = .ok (.iconst 1, 1) := by decide +kernel
theorem dX6_isMutex_7 : decode cX6_isMutex 7 = .ok (.isub, 1) := by decide +kernel
theorem dX6_isMutex_8 : decode cX6_isMutex 8 = .ok (.invokestatic 32, 3) := by decide +kernel
theorem dX6_isMutex_11 : decode cX6_isMutex 11 = .ok (.ireturn, 1) := by decide +kernel
theorem dX6_isStep_0 : decode cX6_isStep 0 = .ok (.iload_n 1, 1) := by decide +kernel
theorem dX6_isStep_1 : decode cX6_isStep 1 = .ok (.ifCond .ne 11, 3) := by decide +kernel
theorem dX6_isStep_4 : decode cX6_isStep 4 = .ok (.iload_n 2, 1) := by decide +kernel
theorem dX6_isStep_5 : decode cX6_isStep 5 = .ok (.iconst 1, 1) := by decide +kernel
theorem dX6_isStep_6 : decode cX6_isStep 6 = .ok (.bipush 20, 2) := by decide +kernel
theorem dX6_isStep_8 : decode cX6_isStep 8 = .ok (.invokestatic 32, 3) := by decide +kernel
theorem dX6_isStep_11 : decode cX6_isStep 11 = .ok (.ireturn, 1) := by decide +kernel
theorem dX6_isStep_12 : decode cX6_isStep 12 = .ok (.iload_n 1, 1) := by decide +kernel
theorem dX6_isStep_13 : decode cX6_isStep 13 = .ok (.iconst 1, 1) := by decide +kernel
theorem dX6_isStep_14 : decode cX6_isStep 14 = .ok (.if_icmp .eq 8, 3) := by decide +kernel
theorem dX6_isStep_17 : decode cX6_isStep 17 = .ok (.iload_n 1, 1) := by decide +kernel
theorem dX6_isStep_18 : decode cX6_isStep 18 = .ok (.iconst 2, 1) := by decide +kernel
theorem dX6_isStep_19 : decode cX6_isStep 19 = .ok (.if_icmp .ne 15, 3) := by decide +kernel
theorem dX6_isStep_22 : decode cX6_isStep 22 = .ok (.aload_n 0, 1) := by decide +kernel
theorem dX6_isStep_23 : decode cX6_isStep 23 = .ok (.iload_n 2, 1) := by decide +kernel
theorem dX6_isStep_24 : decode cX6_isStep 24 = .ok (.invokevirtual 98, 3) := by decide +kernel
theorem dX6_isStep_27 : decode cX6_isStep 27 = .ok (.ifCond .eq 7, 3) := by decide +kernel
theorem dX6_isStep_30 : decode cX6_isStep 30 = .ok (.iconst 1, 1) := by decide +kernel
theorem dX6_isStep_31 : decode cX6_isStep 31 = .ok (.goto 4, 3) := by decide +kernel
theorem dX6_isStep_34 : decode cX6_isStep 34 = .ok (.iconst 0, 1) := by decide +kernel
theorem dX6_isStep_35 : decode cX6_isStep 35 = .ok (.ireturn, 1) := by decide +kernel
theorem dX6_within_0 : decode cX6_within 0 = .ok (.iload_n 0, 1) := by decide +kernel
theorem dX6_within_1 : decode cX6_within 1 = .ok (.iload_n 1, 1) := by decide +kernel
theorem dX6_within_2 : decode cX6_within 2 = .ok (.if_icmp .lt 12, 3) := by decide +kernel
theorem dX6_within_5 : decode cX6_within 5 = .ok (.iload_n 0, 1) := by decide +kernel
theorem dX6_within_6 : decode cX6_within 6 = .ok (.iload_n 2, 1) := by decide +kernel
theorem dX6_within_7 : decode cX6_within 7 = .ok (.if_icmp .gt 7, 3) := by decide +kernel
theorem dX6_within_10 : decode cX6_within 10 = .ok (.iconst 1, 1) := by decide +kernel
theorem dX6_within_11 : decode cX6_within 11 = .ok (.goto 4, 3) := by decide +kernel
theorem dX6_within_14 : decode cX6_within 14 = .ok (.iconst 0, 1) := by decide +kernel
theorem dX6_within_15 : decode cX6_within 15 = .ok (.ireturn, 1) := by decide +kernel
theorem dX6_release_0 : decode cX6_release 0 = .ok (.aload_n 0, 1) := by decide +kernel
theorem dX6_release_1 : decode cX6_release 1 = .ok (.getfield 43, 3) := by decide +kernel
theorem dX6_release_4 : decode cX6_release 4 = .ok (.ifCond .eq 23, 3) := by decide +kernel
theorem dX6_release_7 : decode cX6_release 7 = .ok (.aload_n 0, 1) := by decide +kernel
theorem dX6_release_8 : decode cX6_release 8 = .ok (.iload_n 1, 1) := by decide +kernel
theorem dX6_release_9 : decode cX6_release 9 = .ok (.invokevirtual 58, 3) := by decide +kernel
theorem dX6_release_12 : decode cX6_release 12 = .ok (.ifCond .eq 15, 3) := by decide +kernel
theorem dX6_release_15 : decode cX6_release 15 = .ok (.aload_n 0, 1) := by decide +kernel
theorem dX6_release_16 : decode cX6_release 16 = .ok (.getfield 11, 3) := by decide +kernel
theorem dX6_release_19 : decode cX6_release 19 = .ok (.iload_n 1, 1) := by decide +kernel
theorem dX6_release_20 : decode cX6_release 20 = .ok (.aaload, 1) := by decide +kernel
theorem dX6_release_21 : decode cX6_release 21 = .ok (.getfield 101, 3) := by decide +kernel
theorem dX6_release_24 : decode cX6_release 24 = .ok (.ifCond .eq 5, 3) := by decide +kernel
theorem dX6_release_27 : decode cX6_release 27 = .ok (.iconst 0, 1) := by decide +kernel
theorem dX6_release_28 : decode cX6_release 28 = .ok (.ireturn, 1) := by decide +kernel
theorem dX6_release_29 : decode cX6_release 29 = .ok (.aload_n 0, 1) := by decide +kernel
theorem dX6_release_30 : decode cX6_release 30 = .ok (.aload_n 0, 1) := by decide +kernel
theorem dX6_release_31 : decode cX6_release 31 = .ok (.getfield 11, 3) := by decide +kernel
theorem dX6_release_34 : decode cX6_release 34 = .ok (.iload_n 1, 1) := by decide +kernel
theorem dX6_release_35 : decode cX6_release 35 = .ok (.aaload, 1) := by decide +kernel
theorem dX6_release_36 : decode cX6_release 36 = .ok (.invokevirtual 104, 3) := by decide +kernel
theorem dX6_release_39 : decode cX6_release 39 = .ok (.iconst 1, 1) := by decide +kernel
theorem dX6_release_40 : decode cX6_release 40 = .ok (.ireturn, 1) := by decide +kernel
theorem dX6_tick_0 : decode cX6_tick 0 = .ok (.iload_n 1, 1) := by decide +kernel
theorem dX6_tick_1 : decode cX6_tick 1 = .ok (.iconst 0, 1) := by decide +kernel
theorem dX6_tick_2 : decode cX6_tick 2 = .ok (.sipush 500, 3) := by decide +kernel
theorem dX6_tick_5 : decode cX6_tick 5 = .ok (.invokestatic 32, 3) := by decide +kernel
theorem dX6_tick_8 : decode cX6_tick 8 = .ok (.ifCond .ne 13, 3) := by decide +kernel
theorem dX6_tick_11 : decode cX6_tick 11 = .ok (.new 36, 3) := by decide +kernel
theorem dX6_tick_14 : decode cX6_tick 14 = .ok (.dup, 1) := by decide +kernel
theorem dX6_tick_15 : decode cX6_tick 15 = .ok (.ldc 108, 2) := by decide +kernel
theorem dX6_tick_17 : decode cX6_tick 17 = .ok (.invokespecial 40, 3) := by decide +kernel
theorem dX6_tick_20 : decode cX6_tick 20 = .ok (.athrow, 1) := by decide +kernel
theorem dX6_tick_21 : decode cX6_tick 21 = .ok (.aload_n 0, 1) := by decide +kernel
theorem dX6_tick_22 : decode cX6_tick 22 = .ok (.getfield 43, 3) := by decide +kernel
theorem dX6_tick_25 : decode cX6_tick 25 = .ok (.ifCond .ne 13, 3) := by decide +kernel
theorem dX6_tick_28 : decode cX6_tick 28 = .ok (.new 50, 3) := by decide +kernel
theorem dX6_tick_31 : decode cX6_tick 31 = .ok (.dup, 1) := by decide +kernel
theorem dX6_tick_32 : decode cX6_tick 32 = .ok (.ldc 110, 2) := by decide +kernel
theorem dX6_tick_34 : decode cX6_tick 34 = .ok (.invokespecial 54, 3) := by decide +kernel
theorem dX6_tick_37 : decode cX6_tick 37 = .ok (.athrow, 1) := by decide +kernel
theorem dX6_tick_38 : decode cX6_tick 38 = .ok (.iconst 0, 1) := by decide +kernel
theorem dX6_tick_39 : decode cX6_tick 39 = .ok (.istore_n 2, 1) := by decide +kernel
theorem dX6_tick_40 : decode cX6_tick 40 = .ok (.iconst 0, 1) := by decide +kernel
theorem dX6_tick_41 : decode cX6_tick 41 = .ok (.istore_n 3, 1) := by decide +kernel
theorem dX6_tick_42 : decode cX6_tick 42 = .ok (.iload_n 3, 1) := by decide +kernel
theorem dX6_tick_43 : decode cX6_tick 43 = .ok (.iload_n 1, 1) := by decide +kernel
theorem dX6_tick_44 : decode cX6_tick 44 = .ok (.if_icmp .ge 47, 3) := by decide +kernel
theorem dX6_tick_47 : decode cX6_tick 47 = .ok (.aload_n 0, 1) := by decide +kernel
theorem dX6_tick_48 : decode cX6_tick 48 = .ok (.invokevirtual 112, 3) := by decide +kernel
theorem dX6_tick_51 : decode cX6_tick 51 = .ok (.aload_n 0, 1) := by decide +kernel
theorem dX6_tick_52 : decode cX6_tick 52 = .ok (.invokevirtual 115, 3) := by decide +kernel
theorem dX6_tick_55 : decode cX6_tick 55 = .ok (.aload_n 0, 1) := by decide +kernel
theorem dX6_tick_56 : decode cX6_tick 56 = .ok (.invokevirtual 118, 3) := by decide +kernel
theorem dX6_tick_59 : decode cX6_tick 59 = .ok (.astore 4, 2) := by decide +kernel
theorem dX6_tick_61 : decode cX6_tick 61 = .ok (.aload 4, 2) := by decide +kernel
theorem dX6_tick_63 : decode cX6_tick 63 = .ok (.ifnull 12, 3) := by decide +kernel
theorem dX6_tick_66 : decode cX6_tick 66 = .ok (.aload_n 0, 1) := by decide +kernel
theorem dX6_tick_67 : decode cX6_tick 67 = .ok (.aload 4, 2) := by decide +kernel
theorem dX6_tick_69 : decode cX6_tick 69 = .ok (.invokevirtual 122, 3) := by decide +kernel
theorem dX6_tick_72 : decode cX6_tick 72 = .ok (.iinc 2 1, 3) := by decide +kernel
theorem dX6_tick_75 : decode cX6_tick 75 = .ok (.aload_n 0, 1) := by decide +kernel
theorem dX6_tick_76 : decode cX6_tick 76 = .ok (.dup, 1) := by decide +kernel
theorem dX6_tick_77 : decode cX6_tick 77 = .ok (.getfield 125, 3) := by decide +kernel
theorem dX6_tick_80 : decode cX6_tick 80 = .ok (.iconst 1, 1) := by decide +kernel
theorem dX6_tick_81 : decode cX6_tick 81 = .ok (.iadd, 1) := by decide +kernel
theorem dX6_tick_82 : decode cX6_tick 82 = .ok (.putfield 125, 3) := by decide +kernel
theorem dX6_tick_85 : decode cX6_tick 85 = .ok (.iinc 3 1, 3) := by decide +kernel
theorem dX6_tick_88 : decode cX6_tick 88 = .ok (.goto (-46), 3) := by decide +kernel
theorem dX6_tick_91 : decode cX6_tick 91 = .ok (.iload_n 2, 1) := by decide +kernel
theorem dX6_tick_92 : decode cX6_tick 92 = .ok (.ireturn, 1) := by decide +kernel
theorem dX6_noteMisses_0 : decode cX6_noteMisses 0 = .ok (.iconst 0, 1) := by decide +kernel
theorem dX6_noteMisses_1 : decode cX6_noteMisses 1 = .ok (.istore_n 1, 1) := by decide +kernel
theorem dX6_noteMisses_2 : decode cX6_noteMisses 2 = .ok (.iload_n 1, 1) := by decide +kernel
theorem dX6_noteMisses_3 : decode cX6_noteMisses 3 = .ok (.aload_n 0, 1) := by decide +kernel
theorem dX6_noteMisses_4 : decode cX6_noteMisses 4 = .ok (.getfield 46, 3) := by decide +kernel
theorem dX6_noteMisses_7 : decode cX6_noteMisses 7 = .ok (.if_icmp .ge 85, 3) := by decide +kernel
theorem dX6_noteMisses_10 : decode cX6_noteMisses 10 = .ok (.aload_n 0, 1) := by decide +kernel
theorem dX6_noteMisses_11 : decode cX6_noteMisses 11 = .ok (.getfield 11, 3) := by decide +kernel
theorem dX6_noteMisses_14 : decode cX6_noteMisses 14 = .ok (.iload_n 1, 1) := by decide +kernel
theorem dX6_noteMisses_15 : decode cX6_noteMisses 15 = .ok (.aaload, 1) := by decide +kernel
theorem dX6_noteMisses_16 : decode cX6_noteMisses 16 = .ok (.astore_n 2, 1) := by decide +kernel
theorem dX6_noteMisses_17 : decode cX6_noteMisses 17 = .ok (.aload_n 2, 1) := by decide +kernel
theorem dX6_noteMisses_18 : decode cX6_noteMisses 18 = .ok (.getfield 128, 3) := by decide +kernel
theorem dX6_noteMisses_21 : decode cX6_noteMisses 21 = .ok (.getfield 132, 3) := by decide +kernel
theorem dX6_noteMisses_24 : decode cX6_noteMisses 24 = .ok (.ifCond .eq 62, 3) := by decide +kernel
theorem dX6_noteMisses_27 : decode cX6_noteMisses 27 = .ok (.aload_n 2, 1) := by decide +kernel
theorem dX6_noteMisses_28 : decode cX6_noteMisses 28 = .ok (.getfield 128, 3) := by decide +kernel
theorem dX6_noteMisses_31 : decode cX6_noteMisses 31 = .ok (.getfield 137, 3) := by decide +kernel
theorem dX6_noteMisses_34 : decode cX6_noteMisses 34 = .ok (.aload_n 0, 1) := by decide +kernel
theorem dX6_noteMisses_35 : decode cX6_noteMisses 35 = .ok (.getfield 125, 3) := by decide +kernel
theorem dX6_noteMisses_38 : decode cX6_noteMisses 38 = .ok (.if_icmp .ne 48, 3) := by decide +kernel
theorem dX6_noteMisses_41 : decode cX6_noteMisses 41 = .ok (.aload_n 2, 1) := by decide +kernel
theorem dX6_noteMisses_42 : decode cX6_noteMisses 42 = .ok (.getfield 140, 3) := by decide +kernel
theorem dX6_noteMisses_45 : decode cX6_noteMisses 45 = .ok (.dup, 1) := by decide +kernel
theorem dX6_noteMisses_46 : decode cX6_noteMisses 46 = .ok (.getfield 144, 3) := by decide +kernel
theorem dX6_noteMisses_49 : decode cX6_noteMisses 49 = .ok (.iconst 1, 1) := by decide +kernel
theorem dX6_noteMisses_50 : decode cX6_noteMisses 50 = .ok (.iadd, 1) := by decide +kernel
theorem dX6_noteMisses_51 : decode cX6_noteMisses 51 = .ok (.putfield 144, 3) := by decide +kernel
theorem dX6_noteMisses_54 : decode cX6_noteMisses 54 = .ok (.aload_n 0, 1) := by decide +kernel
theorem dX6_noteMisses_55 : decode cX6_noteMisses 55 = .ok (.iconst 4, 1) := by decide +kernel
theorem dX6_noteMisses_56 : decode cX6_noteMisses 56 = .ok (.aload_n 2, 1) := by decide +kernel
theorem dX6_noteMisses_57 : decode cX6_noteMisses 57 = .ok (.invokevirtual 149, 3) := by decide +kernel
theorem dX6_noteMisses_60 : decode cX6_noteMisses 60 = .ok (.aload_n 2, 1) := by decide +kernel
theorem dX6_noteMisses_61 : decode cX6_noteMisses 61 = .ok (.getfield 62, 3) := by decide +kernel
theorem dX6_noteMisses_64 : decode cX6_noteMisses 64 = .ok (.ifCond .eq 22, 3) := by decide +kernel
theorem dX6_noteMisses_67 : decode cX6_noteMisses 67 = .ok (.aload_n 2, 1) := by decide +kernel
theorem dX6_noteMisses_68 : decode cX6_noteMisses 68 = .ok (.getfield 140, 3) := by decide +kernel
theorem dX6_noteMisses_71 : decode cX6_noteMisses 71 = .ok (.dup, 1) := by decide +kernel
theorem dX6_noteMisses_72 : decode cX6_noteMisses 72 = .ok (.getfield 153, 3) := by decide +kernel
theorem dX6_noteMisses_75 : decode cX6_noteMisses 75 = .ok (.iconst 1, 1) := by decide +kernel
theorem dX6_noteMisses_76 : decode cX6_noteMisses 76 = .ok (.iadd, 1) := by decide +kernel
theorem dX6_noteMisses_77 : decode cX6_noteMisses 77 = .ok (.putfield 153, 3) := by decide +kernel
theorem dX6_noteMisses_80 : decode cX6_noteMisses 80 = .ok (.aload_n 0, 1) := by decide +kernel
theorem dX6_noteMisses_81 : decode cX6_noteMisses 81 = .ok (.aload_n 2, 1) := by decide +kernel
theorem dX6_noteMisses_82 : decode cX6_noteMisses 82 = .ok (.iconst 3, 1) := by decide +kernel
theorem dX6_noteMisses_83 : decode cX6_noteMisses 83 = .ok (.invokevirtual 156, 3) := by decide +kernel
theorem dX6_noteMisses_86 : decode cX6_noteMisses 86 = .ok (.iinc 1 1, 3) := by decide +kernel
theorem dX6_noteMisses_89 : decode cX6_noteMisses 89 = .ok (.goto (-87), 3) := by decide +kernel
theorem dX6_noteMisses_92 : decode cX6_noteMisses 92 = .ok (.return_, 1) := by decide +kernel
theorem dX6_releasePeriodic_0 : decode cX6_releasePeriodic 0 = .ok (.iconst 0, 1) := by decide +kernel
theorem dX6_releasePeriodic_1 : decode cX6_releasePeriodic 1 = .ok (.istore_n 1, 1) := by decide +kernel
theorem dX6_releasePeriodic_2 : decode cX6_releasePeriodic 2 = .ok (.iload_n 1, 1) := by decide +kernel
theorem dX6_releasePeriodic_3 : decode cX6_releasePeriodic 3 = .ok (.aload_n 0, 1) := by decide +kernel
theorem dX6_releasePeriodic_4 : decode cX6_releasePeriodic 4 = .ok (.getfield 46, 3) := by decide +kernel
theorem dX6_releasePeriodic_7 : decode cX6_releasePeriodic 7 = .ok (.if_icmp .ge 35, 3) := by decide +kernel
theorem dX6_releasePeriodic_10 : decode cX6_releasePeriodic 10 = .ok (.aload_n 0, 1) := by decide +kernel
theorem dX6_releasePeriodic_11 : decode cX6_releasePeriodic 11 = .ok (.getfield 11, 3) := by decide +kernel
theorem dX6_releasePeriodic_14 : decode cX6_releasePeriodic 14 = .ok (.iload_n 1, 1) := by decide +kernel
theorem dX6_releasePeriodic_15 : decode cX6_releasePeriodic 15 = .ok (.aaload, 1) := by decide +kernel
theorem dX6_releasePeriodic_16 : decode cX6_releasePeriodic 16 = .ok (.aload_n 0, 1) := by decide +kernel
theorem dX6_releasePeriodic_17 : decode cX6_releasePeriodic 17 = .ok (.getfield 125, 3) := by decide +kernel
theorem dX6_releasePeriodic_20 : decode cX6_releasePeriodic 20 = .ok (.invokevirtual 160, 3) := by decide +kernel
theorem dX6_releasePeriodic_23 : decode cX6_releasePeriodic 23 = .ok (.ifCond .eq 13, 3) := by decide +kernel
theorem dX6_releasePeriodic_26 : decode cX6_releasePeriodic 26 = .ok (.aload_n 0, 1) := by decide +kernel
theorem dX6_releasePeriodic_27 : decode cX6_releasePeriodic 27 = .ok (.aload_n 0, 1) := by decide +kernel
theorem dX6_releasePeriodic_28 : decode cX6_releasePeriodic 28 = .ok (.getfield 11, 3) := by decide +kernel
theorem dX6_releasePeriodic_31 : decode cX6_releasePeriodic 31 = .ok (.iload_n 1, 1) := by decide +kernel
theorem dX6_releasePeriodic_32 : decode cX6_releasePeriodic 32 = .ok (.aaload, 1) := by decide +kernel
theorem dX6_releasePeriodic_33 : decode cX6_releasePeriodic 33 = .ok (.invokevirtual 104, 3) := by decide +kernel
theorem dX6_releasePeriodic_36 : decode cX6_releasePeriodic 36 = .ok (.iinc 1 1, 3) := by decide +kernel
theorem dX6_releasePeriodic_39 : decode cX6_releasePeriodic 39 = .ok (.goto (-37), 3) := by decide +kernel
theorem dX6_releasePeriodic_42 : decode cX6_releasePeriodic 42 = .ok (.return_, 1) := by decide +kernel
theorem dX6_beginJob_0 : decode cX6_beginJob 0 = .ok (.aload_n 1, 1) := by decide +kernel
theorem dX6_beginJob_1 : decode cX6_beginJob 1 = .ok (.getfield 128, 3) := by decide +kernel
theorem dX6_beginJob_4 : decode cX6_beginJob 4 = .ok (.getfield 132, 3) := by decide +kernel
theorem dX6_beginJob_7 : decode cX6_beginJob 7 = .ok (.ifCond .eq 23, 3) := by decide +kernel
theorem dX6_beginJob_10 : decode cX6_beginJob 10 = .ok (.aload_n 1, 1) := by decide +kernel
theorem dX6_beginJob_11 : decode cX6_beginJob 11 = .ok (.getfield 140, 3) := by decide +kernel
theorem dX6_beginJob_14 : decode cX6_beginJob 14 = .ok (.dup, 1) := by decide +kernel
theorem dX6_beginJob_15 : decode cX6_beginJob 15 = .ok (.getfield 163, 3) := by decide +kernel
theorem dX6_beginJob_18 : decode cX6_beginJob 18 = .ok (.iconst 1, 1) := by decide +kernel
theorem dX6_beginJob_19 : decode cX6_beginJob 19 = .ok (.iadd, 1) := by decide +kernel
theorem dX6_beginJob_20 : decode cX6_beginJob 20 = .ok (.putfield 163, 3) := by decide +kernel
theorem dX6_beginJob_23 : decode cX6_beginJob 23 = .ok (.aload_n 0, 1) := by decide +kernel
theorem dX6_beginJob_24 : decode cX6_beginJob 24 = .ok (.iconst 1, 1) := by decide +kernel
theorem dX6_beginJob_25 : decode cX6_beginJob 25 = .ok (.aload_n 1, 1) := by decide +kernel
theorem dX6_beginJob_26 : decode cX6_beginJob 26 = .ok (.invokevirtual 149, 3) := by decide +kernel
theorem dX6_beginJob_29 : decode cX6_beginJob 29 = .ok (.return_, 1) := by decide +kernel
theorem dX6_beginJob_30 : decode cX6_beginJob 30 = .ok (.aload_n 1, 1) := by decide +kernel
theorem dX6_beginJob_31 : decode cX6_beginJob 31 = .ok (.getfield 128, 3) := by decide +kernel
theorem dX6_beginJob_34 : decode cX6_beginJob 34 = .ok (.aload_n 0, 1) := by decide +kernel
theorem dX6_beginJob_35 : decode cX6_beginJob 35 = .ok (.getfield 125, 3) := by decide +kernel
theorem dX6_beginJob_38 : decode cX6_beginJob 38 = .ok (.aload_n 1, 1) := by decide +kernel
theorem dX6_beginJob_39 : decode cX6_beginJob 39 = .ok (.getfield 166, 3) := by decide +kernel
theorem dX6_beginJob_42 : decode cX6_beginJob 42 = .ok (.aload_n 0, 1) := by decide +kernel
theorem dX6_beginJob_43 : decode cX6_beginJob 43 = .ok (.invokevirtual 169, 3) := by decide +kernel
theorem dX6_beginJob_46 : decode cX6_beginJob 46 = .ok (.invokevirtual 173, 3) := by decide +kernel
theorem dX6_beginJob_49 : decode cX6_beginJob 49 = .ok (.aload_n 0, 1) := by decide +kernel
theorem dX6_beginJob_50 : decode cX6_beginJob 50 = .ok (.iconst 0, 1) := by decide +kernel
theorem dX6_beginJob_51 : decode cX6_beginJob 51 = .ok (.aload_n 1, 1) := by decide +kernel
theorem dX6_beginJob_52 : decode cX6_beginJob 52 = .ok (.invokevirtual 149, 3) := by decide +kernel
theorem dX6_beginJob_55 : decode cX6_beginJob 55 = .ok (.return_, 1) := by decide +kernel
theorem dX6_settle_0 : decode cX6_settle 0 = .ok (.iconst 0, 1) := by decide +kernel
theorem dX6_settle_1 : decode cX6_settle 1 = .ok (.istore_n 1, 1) := by decide +kernel
theorem dX6_settle_2 : decode cX6_settle 2 = .ok (.iload_n 1, 1) := by decide +kernel
theorem dX6_settle_3 : decode cX6_settle 3 = .ok (.sipush 1000, 3) := by decide +kernel
theorem dX6_settle_6 : decode cX6_settle 6 = .ok (.if_icmp .ge 36, 3) := by decide +kernel
theorem dX6_settle_9 : decode cX6_settle 9 = .ok (.aload_n 0, 1) := by decide +kernel
theorem dX6_settle_10 : decode cX6_settle 10 = .ok (.invokevirtual 176, 3) := by decide +kernel
theorem dX6_settle_13 : decode cX6_settle 13 = .ok (.astore_n 2, 1) := by decide +kernel
theorem dX6_settle_14 : decode cX6_settle 14 = .ok (.aload_n 2, 1) := by decide +kernel
theorem dX6_settle_15 : decode cX6_settle 15 = .ok (.ifnull 10, 3) := by decide +kernel
theorem dX6_settle_18 : decode cX6_settle 18 = .ok (.aload_n 2, 1) := by decide +kernel
theorem dX6_settle_19 : decode cX6_settle 19 = .ok (.invokevirtual 179, 3) := by decide +kernel
theorem dX6_settle_22 : decode cX6_settle 22 = .ok (.ifCond .eq 5, 3) := by decide +kernel
theorem dX6_settle_25 : decode cX6_settle 25 = .ok (.aload_n 2, 1) := by decide +kernel
theorem dX6_settle_26 : decode cX6_settle 26 = .ok (.areturn, 1) := by decide +kernel
theorem dX6_settle_27 : decode cX6_settle 27 = .ok (.aload_n 0, 1) := by decide +kernel
theorem dX6_settle_28 : decode cX6_settle 28 = .ok (.aload_n 2, 1) := by decide +kernel
theorem dX6_settle_29 : decode cX6_settle 29 = .ok (.aload_n 0, 1) := by decide +kernel
theorem dX6_settle_30 : decode cX6_settle 30 = .ok (.getfield 125, 3) := by decide +kernel
theorem dX6_settle_33 : decode cX6_settle 33 = .ok (.invokevirtual 183, 3) := by decide +kernel
theorem dX6_settle_36 : decode cX6_settle 36 = .ok (.iinc 1 1, 3) := by decide +kernel
theorem dX6_settle_39 : decode cX6_settle 39 = .ok (.goto (-37), 3) := by decide +kernel
theorem dX6_settle_42 : decode cX6_settle 42 = .ok (.aconst_null, 1) := by decide +kernel
theorem dX6_settle_43 : decode cX6_settle 43 = .ok (.areturn, 1) := by decide +kernel
theorem dX6_workOneUnit_0 : decode cX6_workOneUnit 0 = .ok (.aload_n 1, 1) := by decide +kernel
theorem dX6_workOneUnit_1 : decode cX6_workOneUnit 1 = .ok (.getfield 128, 3) := by decide +kernel
theorem dX6_workOneUnit_4 : decode cX6_workOneUnit 4 = .ok (.astore_n 2, 1) := by decide +kernel
theorem dX6_workOneUnit_5 : decode cX6_workOneUnit 5 = .ok (.aload_n 0, 1) := by decide +kernel
theorem dX6_workOneUnit_6 : decode cX6_workOneUnit 6 = .ok (.aload_n 1, 1) := by decide +kernel
theorem dX6_workOneUnit_7 : decode cX6_workOneUnit 7 = .ok (.putfield 186, 3) := by decide +kernel
theorem dX6_workOneUnit_10 : decode cX6_workOneUnit 10 = .ok (.aload_n 2, 1) := by decide +kernel
theorem dX6_workOneUnit_11 : decode cX6_workOneUnit 11 = .ok (.dup, 1) := by decide +kernel
theorem dX6_workOneUnit_12 : decode cX6_workOneUnit 12 = .ok (.getfield 190, 3) := by decide +kernel
theorem dX6_workOneUnit_15 : decode cX6_workOneUnit 15 = .ok (.iconst 1, 1) := by decide +kernel
theorem dX6_workOneUnit_16 : decode cX6_workOneUnit 16 = .ok (.iadd, 1) := by decide +kernel
theorem dX6_workOneUnit_17 : decode cX6_workOneUnit 17 = .ok (.putfield 190, 3) := by decide +kernel
theorem dX6_workOneUnit_20 : decode cX6_workOneUnit 20 = .ok (.aload_n 2, 1) := by decide +kernel
theorem dX6_workOneUnit_21 : decode cX6_workOneUnit 21 = .ok (.dup, 1) := by decide +kernel
theorem dX6_workOneUnit_22 : decode cX6_workOneUnit 22 = .ok (.getfield 193, 3) := by decide +kernel
theorem dX6_workOneUnit_25 : decode cX6_workOneUnit 25 = .ok (.iconst 1, 1) := by decide +kernel
theorem dX6_workOneUnit_26 : decode cX6_workOneUnit 26 = .ok (.iadd, 1) := by decide +kernel
theorem dX6_workOneUnit_27 : decode cX6_workOneUnit 27 = .ok (.putfield 193, 3) := by decide +kernel
theorem dX6_workOneUnit_30 : decode cX6_workOneUnit 30 = .ok (.aload_n 1, 1) := by decide +kernel
theorem dX6_workOneUnit_31 : decode cX6_workOneUnit 31 = .ok (.getfield 140, 3) := by decide +kernel
theorem dX6_workOneUnit_34 : decode cX6_workOneUnit 34 = .ok (.dup, 1) := by decide +kernel
theorem dX6_workOneUnit_35 : decode cX6_workOneUnit 35 = .ok (.getfield 196, 3) := by decide +kernel
theorem dX6_workOneUnit_38 : decode cX6_workOneUnit 38 = .ok (.iconst 1, 1) := by decide +kernel
theorem dX6_workOneUnit_39 : decode cX6_workOneUnit 39 = .ok (.iadd, 1) := by decide +kernel
theorem dX6_workOneUnit_40 : decode cX6_workOneUnit 40 = .ok (.putfield 196, 3) := by decide +kernel
theorem dX6_workOneUnit_43 : decode cX6_workOneUnit 43 = .ok (.aload_n 2, 1) := by decide +kernel
theorem dX6_workOneUnit_44 : decode cX6_workOneUnit 44 = .ok (.getfield 190, 3) := by decide +kernel
theorem dX6_workOneUnit_47 : decode cX6_workOneUnit 47 = .ok (.aload_n 1, 1) := by decide +kernel
theorem dX6_workOneUnit_48 : decode cX6_workOneUnit 48 = .ok (.getfield 197, 3) := by decide +kernel
theorem dX6_workOneUnit_51 : decode cX6_workOneUnit 51 = .ok (.iconst 1, 1) := by decide +kernel
theorem dX6_workOneUnit_52 : decode cX6_workOneUnit 52 = .ok (.iadd, 1) := by decide +kernel
theorem dX6_workOneUnit_53 : decode cX6_workOneUnit 53 = .ok (.if_icmp .ne 10, 3) := by decide +kernel
theorem dX6_workOneUnit_56 : decode cX6_workOneUnit 56 = .ok (.aload_n 0, 1) := by decide +kernel
theorem dX6_workOneUnit_57 : decode cX6_workOneUnit 57 = .ok (.bipush 7, 2) := by decide +kernel
theorem dX6_workOneUnit_59 : decode cX6_workOneUnit 59 = .ok (.aload_n 1, 1) := by decide +kernel
theorem dX6_workOneUnit_60 : decode cX6_workOneUnit 60 = .ok (.invokevirtual 149, 3) := by decide +kernel
theorem dX6_workOneUnit_63 : decode cX6_workOneUnit 63 = .ok (.aload_n 2, 1) := by decide +kernel
theorem dX6_workOneUnit_64 : decode cX6_workOneUnit 64 = .ok (.getfield 193, 3) := by decide +kernel
theorem dX6_workOneUnit_67 : decode cX6_workOneUnit 67 = .ok (.aload_n 1, 1) := by decide +kernel
theorem dX6_workOneUnit_68 : decode cX6_workOneUnit 68 = .ok (.getfield 81, 3) := by decide +kernel
theorem dX6_workOneUnit_71 : decode cX6_workOneUnit 71 = .ok (.getfield 200, 3) := by decide +kernel
theorem dX6_workOneUnit_74 : decode cX6_workOneUnit 74 = .ok (.aload_n 2, 1) := by decide +kernel
theorem dX6_workOneUnit_75 : decode cX6_workOneUnit 75 = .ok (.getfield 204, 3) := by decide +kernel
theorem dX6_workOneUnit_78 : decode cX6_workOneUnit 78 = .ok (.iaload, 1) := by decide +kernel
theorem dX6_workOneUnit_79 : decode cX6_workOneUnit 79 = .ok (.if_icmp .lt 18, 3) := by decide +kernel
theorem dX6_workOneUnit_82 : decode cX6_workOneUnit 82 = .ok (.aload_n 2, 1) := by decide +kernel
theorem dX6_workOneUnit_83 : decode cX6_workOneUnit 83 = .ok (.invokevirtual 207, 3) := by decide +kernel
theorem dX6_workOneUnit_86 : decode cX6_workOneUnit 86 = .ok (.aload_n 0, 1) := by decide +kernel
theorem dX6_workOneUnit_87 : decode cX6_workOneUnit 87 = .ok (.aload_n 1, 1) := by decide +kernel
theorem dX6_workOneUnit_88 : decode cX6_workOneUnit 88 = .ok (.aload_n 0, 1) := by decide +kernel
theorem dX6_workOneUnit_89 : decode cX6_workOneUnit 89 = .ok (.getfield 125, 3) := by decide +kernel
theorem dX6_workOneUnit_92 : decode cX6_workOneUnit 92 = .ok (.iconst 1, 1) := by decide +kernel
theorem dX6_workOneUnit_93 : decode cX6_workOneUnit 93 = .ok (.iadd, 1) := by decide +kernel
theorem dX6_workOneUnit_94 : decode cX6_workOneUnit 94 = .ok (.invokevirtual 183, 3) := by decide +kernel
theorem dX6_workOneUnit_97 : decode cX6_workOneUnit 97 = .ok (.return_, 1) := by decide +kernel
theorem dX6_goOn_0 : decode cX6_goOn 0 = .ok (.aload_n 1, 1) := by decide +kernel
theorem dX6_goOn_1 : decode cX6_goOn 1 = .ok (.getfield 128, 3) := by decide +kernel
theorem dX6_goOn_4 : decode cX6_goOn 4 = .ok (.astore_n 3, 1) := by decide +kernel
theorem dX6_goOn_5 : decode cX6_goOn 5 = .ok (.aload_n 1, 1) := by decide +kernel
theorem dX6_goOn_6 : decode cX6_goOn 6 = .ok (.getfield 81, 3) := by decide +kernel
theorem dX6_goOn_9 : decode cX6_goOn 9 = .ok (.astore 4, 2) := by decide +kernel
theorem dX6_goOn_11 : decode cX6_goOn 11 = .ok (.aload 4, 2) := by decide +kernel
theorem dX6_goOn_13 : decode cX6_goOn 13 = .ok (.getfield 85, 3) := by decide +kernel
theorem dX6_goOn_16 : decode cX6_goOn 16 = .ok (.aload_n 3, 1) := by decide +kernel
theorem dX6_goOn_17 : decode cX6_goOn 17 = .ok (.getfield 204, 3) := by decide +kernel
theorem dX6_goOn_20 : decode cX6_goOn 20 = .ok (.isub, 1) := by decide +kernel
theorem dX6_goOn_21 : decode cX6_goOn 21 = .ok (.istore 5, 2) := by decide +kernel
theorem dX6_goOn_23 : decode cX6_goOn 23 = .ok (.iload 5, 2) := by decide +kernel
theorem dX6_goOn_25 : decode cX6_goOn 25 = .ok (.ifCond .le 129, 3) := by decide +kernel
theorem dX6_goOn_28 : decode cX6_goOn 28 = .ok (.aload 4, 2) := by decide +kernel
theorem dX6_goOn_30 : decode cX6_goOn 30 = .ok (.getfield 210, 3) := by decide +kernel
theorem dX6_goOn_33 : decode cX6_goOn 33 = .ok (.aload_n 3, 1) := by decide +kernel
theorem dX6_goOn_34 : decode cX6_goOn 34 = .ok (.getfield 204, 3) := by decide +kernel
theorem dX6_goOn_37 : decode cX6_goOn 37 = .ok (.iaload, 1) := by decide +kernel
theorem dX6_goOn_38 : decode cX6_goOn 38 = .ok (.istore 6, 2) := by decide +kernel
theorem dX6_goOn_40 : decode cX6_goOn 40 = .ok (.iload 6, 2) := by decide +kernel
theorem dX6_goOn_42 : decode cX6_goOn 42 = .ok (.ifCond .ne 4, 3) := by decide +kernel
theorem dX6_goOn_45 : decode cX6_goOn 45 = .ok (.return_, 1) := by decide +kernel
theorem dX6_goOn_46 : decode cX6_goOn 46 = .ok (.aload_n 0, 1) := by decide +kernel
theorem dX6_goOn_47 : decode cX6_goOn 47 = .ok (.getfield 17, 3) := by decide +kernel
theorem dX6_goOn_50 : decode cX6_goOn 50 = .ok (.aload 4, 2) := by decide +kernel
theorem dX6_goOn_52 : decode cX6_goOn 52 = .ok (.getfield 200, 3) := by decide +kernel
theorem dX6_goOn_55 : decode cX6_goOn 55 = .ok (.aload_n 3, 1) := by decide +kernel
theorem dX6_goOn_56 : decode cX6_goOn 56 = .ok (.getfield 204, 3) := by decide +kernel
theorem dX6_goOn_59 : decode cX6_goOn 59 = .ok (.iaload, 1) := by decide +kernel
theorem dX6_goOn_60 : decode cX6_goOn 60 = .ok (.aaload, 1) := by decide +kernel
theorem dX6_goOn_61 : decode cX6_goOn 61 = .ok (.astore 7, 2) := by decide +kernel
theorem dX6_goOn_63 : decode cX6_goOn 63 = .ok (.aload_n 0, 1) := by decide +kernel
theorem dX6_goOn_64 : decode cX6_goOn 64 = .ok (.aload_n 1, 1) := by decide +kernel
theorem dX6_goOn_65 : decode cX6_goOn 65 = .ok (.iload 6, 2) := by decide +kernel
theorem dX6_goOn_67 : decode cX6_goOn 67 = .ok (.aload 7, 2) := by decide +kernel
theorem dX6_goOn_69 : decode cX6_goOn 69 = .ok (.invokevirtual 213, 3) := by decide +kernel
theorem dX6_goOn_72 : decode cX6_goOn 72 = .ok (.ifCond .eq 23, 3) := by decide +kernel
theorem dX6_goOn_75 : decode cX6_goOn 75 = .ok (.aload_n 1, 1) := by decide +kernel
theorem dX6_goOn_76 : decode cX6_goOn 76 = .ok (.getfield 140, 3) := by decide +kernel
theorem dX6_goOn_79 : decode cX6_goOn 79 = .ok (.dup, 1) := by decide +kernel
theorem dX6_goOn_80 : decode cX6_goOn 80 = .ok (.getfield 153, 3) := by decide +kernel
theorem dX6_goOn_83 : decode cX6_goOn 83 = .ok (.iconst 1, 1) := by decide +kernel
theorem dX6_goOn_84 : decode cX6_goOn 84 = .ok (.iadd, 1) := by decide +kernel
theorem dX6_goOn_85 : decode cX6_goOn 85 = .ok (.putfield 153, 3) := by decide +kernel
theorem dX6_goOn_88 : decode cX6_goOn 88 = .ok (.aload_n 0, 1) := by decide +kernel
theorem dX6_goOn_89 : decode cX6_goOn 89 = .ok (.aload_n 1, 1) := by decide +kernel
theorem dX6_goOn_90 : decode cX6_goOn 90 = .ok (.iconst 3, 1) := by decide +kernel
theorem dX6_goOn_91 : decode cX6_goOn 91 = .ok (.invokevirtual 156, 3) := by decide +kernel
theorem dX6_goOn_94 : decode cX6_goOn 94 = .ok (.return_, 1) := by decide +kernel
theorem dX6_goOn_95 : decode cX6_goOn 95 = .ok (.iload 6, 2) := by decide +kernel
theorem dX6_goOn_97 : decode cX6_goOn 97 = .ok (.iconst 2, 1) := by decide +kernel
theorem dX6_goOn_98 : decode cX6_goOn 98 = .ok (.if_icmp .ne 12, 3) := by decide +kernel
theorem dX6_goOn_101 : decode cX6_goOn 101 = .ok (.aload_n 0, 1) := by decide +kernel
theorem dX6_goOn_102 : decode cX6_goOn 102 = .ok (.aload 7, 2) := by decide +kernel
theorem dX6_goOn_104 : decode cX6_goOn 104 = .ok (.invokevirtual 217, 3) := by decide +kernel
theorem dX6_goOn_107 : decode cX6_goOn 107 = .ok (.goto 37, 3) := by decide +kernel
theorem dX6_goOn_110 : decode cX6_goOn 110 = .ok (.aload 7, 2) := by decide +kernel
theorem dX6_goOn_112 : decode cX6_goOn 112 = .ok (.getfield 221, 3) := by decide +kernel
theorem dX6_goOn_115 : decode cX6_goOn 115 = .ok (.ifnonnull 12, 3) := by decide +kernel
theorem dX6_goOn_118 : decode cX6_goOn 118 = .ok (.aload 7, 2) := by decide +kernel
theorem dX6_goOn_120 : decode cX6_goOn 120 = .ok (.aload_n 1, 1) := by decide +kernel
theorem dX6_goOn_121 : decode cX6_goOn 121 = .ok (.putfield 221, 3) := by decide +kernel
theorem dX6_goOn_124 : decode cX6_goOn 124 = .ok (.goto 20, 3) := by decide +kernel
theorem dX6_goOn_127 : decode cX6_goOn 127 = .ok (.aload_n 3, 1) := by decide +kernel
theorem dX6_goOn_128 : decode cX6_goOn 128 = .ok (.aload 7, 2) := by decide +kernel
theorem dX6_goOn_130 : decode cX6_goOn 130 = .ok (.aload_n 0, 1) := by decide +kernel
theorem dX6_goOn_131 : decode cX6_goOn 131 = .ok (.invokevirtual 169, 3) := by decide +kernel
theorem dX6_goOn_134 : decode cX6_goOn 134 = .ok (.invokevirtual 224, 3) := by decide +kernel
theorem dX6_goOn_137 : decode cX6_goOn 137 = .ok (.aload_n 0, 1) := by decide +kernel
theorem dX6_goOn_138 : decode cX6_goOn 138 = .ok (.iconst 5, 1) := by decide +kernel
theorem dX6_goOn_139 : decode cX6_goOn 139 = .ok (.aload_n 1, 1) := by decide +kernel
theorem dX6_goOn_140 : decode cX6_goOn 140 = .ok (.invokevirtual 149, 3) := by decide +kernel
theorem dX6_goOn_143 : decode cX6_goOn 143 = .ok (.return_, 1) := by decide +kernel
theorem dX6_goOn_144 : decode cX6_goOn 144 = .ok (.aload_n 3, 1) := by decide +kernel
theorem dX6_goOn_145 : decode cX6_goOn 145 = .ok (.invokevirtual 207, 3) := by decide +kernel
theorem dX6_goOn_148 : decode cX6_goOn 148 = .ok (.iinc 5 (-1), 3) := by decide +kernel
theorem dX6_goOn_151 : decode cX6_goOn 151 = .ok (.goto (-128), 3) := by decide +kernel
theorem dX6_goOn_154 : decode cX6_goOn 154 = .ok (.aload_n 1, 1) := by decide +kernel
theorem dX6_goOn_155 : decode cX6_goOn 155 = .ok (.getfield 140, 3) := by decide +kernel
theorem dX6_goOn_158 : decode cX6_goOn 158 = .ok (.iload_n 2, 1) := by decide +kernel
theorem dX6_goOn_159 : decode cX6_goOn 159 = .ok (.aload_n 3, 1) := by decide +kernel
theorem dX6_goOn_160 : decode cX6_goOn 160 = .ok (.getfield 228, 3) := by decide +kernel
theorem dX6_goOn_163 : decode cX6_goOn 163 = .ok (.isub, 1) := by decide +kernel
theorem dX6_goOn_164 : decode cX6_goOn 164 = .ok (.invokevirtual 231, 3) := by decide +kernel
theorem dX6_goOn_167 : decode cX6_goOn 167 = .ok (.aload_n 0, 1) := by decide +kernel
theorem dX6_goOn_168 : decode cX6_goOn 168 = .ok (.aload_n 1, 1) := by decide +kernel
theorem dX6_goOn_169 : decode cX6_goOn 169 = .ok (.iconst 2, 1) := by decide +kernel
theorem dX6_goOn_170 : decode cX6_goOn 170 = .ok (.invokevirtual 156, 3) := by decide +kernel
theorem dX6_goOn_173 : decode cX6_goOn 173 = .ok (.return_, 1) := by decide +kernel
theorem dX6_stepFails_0 : decode cX6_stepFails 0 = .ok (.iload_n 2, 1) := by decide +kernel
theorem dX6_stepFails_1 : decode cX6_stepFails 1 = .ok (.iconst 2, 1) := by decide +kernel
theorem dX6_stepFails_2 : decode cX6_stepFails 2 = .ok (.if_icmp .ne 17, 3) := by decide +kernel
theorem dX6_stepFails_5 : decode cX6_stepFails 5 = .ok (.aload_n 3, 1) := by decide +kernel
theorem dX6_stepFails_6 : decode cX6_stepFails 6 = .ok (.getfield 221, 3) := by decide +kernel
theorem dX6_stepFails_9 : decode cX6_stepFails 9 = .ok (.aload_n 1, 1) := by decide +kernel
theorem dX6_stepFails_10 : decode cX6_stepFails 10 = .ok (.if_acmp .eq 7, 3) := by decide +kernel
theorem dX6_stepFails_13 : decode cX6_stepFails 13 = .ok (.iconst 1, 1) := by decide +kernel
theorem dX6_stepFails_14 : decode cX6_stepFails 14 = .ok (.goto 4, 3) := by decide +kernel
theorem dX6_stepFails_17 : decode cX6_stepFails 17 = .ok (.iconst 0, 1) := by decide +kernel
theorem dX6_stepFails_18 : decode cX6_stepFails 18 = .ok (.ireturn, 1) := by decide +kernel
theorem dX6_stepFails_19 : decode cX6_stepFails 19 = .ok (.aload_n 0, 1) := by decide +kernel
theorem dX6_stepFails_20 : decode cX6_stepFails 20 = .ok (.getfield 28, 3) := by decide +kernel
theorem dX6_stepFails_23 : decode cX6_stepFails 23 = .ok (.ifCond .ne 26, 3) := by decide +kernel
theorem dX6_stepFails_26 : decode cX6_stepFails 26 = .ok (.aload_n 3, 1) := by decide +kernel
theorem dX6_stepFails_27 : decode cX6_stepFails 27 = .ok (.getfield 235, 3) := by decide +kernel
theorem dX6_stepFails_30 : decode cX6_stepFails 30 = .ok (.iconst 2, 1) := by decide +kernel
theorem dX6_stepFails_31 : decode cX6_stepFails 31 = .ok (.if_icmp .ne 18, 3) := by decide +kernel
theorem dX6_stepFails_34 : decode cX6_stepFails 34 = .ok (.aload_n 1, 1) := by decide +kernel
theorem dX6_stepFails_35 : decode cX6_stepFails 35 = .ok (.getfield 238, 3) := by decide +kernel
theorem dX6_stepFails_38 : decode cX6_stepFails 38 = .ok (.aload_n 3, 1) := by decide +kernel
theorem dX6_stepFails_39 : decode cX6_stepFails 39 = .ok (.getfield 241, 3) := by decide +kernel
theorem dX6_stepFails_42 : decode cX6_stepFails 42 = .ok (.if_icmp .le 7, 3) := by decide +kernel
theorem dX6_stepFails_45 : decode cX6_stepFails 45 = .ok (.iconst 1, 1) := by decide +kernel
theorem dX6_stepFails_46 : decode cX6_stepFails 46 = .ok (.goto 4, 3) := by decide +kernel
theorem dX6_stepFails_49 : decode cX6_stepFails 49 = .ok (.iconst 0, 1) := by decide +kernel
theorem dX6_stepFails_50 : decode cX6_stepFails 50 = .ok (.istore 4, 2) := by decide +kernel
theorem dX6_stepFails_52 : decode cX6_stepFails 52 = .ok (.aload_n 3, 1) := by decide +kernel
theorem dX6_stepFails_53 : decode cX6_stepFails 53 = .ok (.getfield 221, 3) := by decide +kernel
theorem dX6_stepFails_56 : decode cX6_stepFails 56 = .ok (.aload_n 1, 1) := by decide +kernel
theorem dX6_stepFails_57 : decode cX6_stepFails 57 = .ok (.if_acmp .eq 8, 3) := by decide +kernel
theorem dX6_stepFails_60 : decode cX6_stepFails 60 = .ok (.iload 4, 2) := by decide +kernel
theorem dX6_stepFails_62 : decode cX6_stepFails 62 = .ok (.ifCond .eq 7, 3) := by decide +kernel
theorem dX6_stepFails_65 : decode cX6_stepFails 65 = .ok (.iconst 1, 1) := by decide +kernel
theorem dX6_stepFails_66 : decode cX6_stepFails 66 = .ok (.goto 4, 3) := by decide +kernel
theorem dX6_stepFails_69 : decode cX6_stepFails 69 = .ok (.iconst 0, 1) := by decide +kernel
theorem dX6_stepFails_70 : decode cX6_stepFails 70 = .ok (.ireturn, 1) := by decide +kernel
theorem dX6_endJob_0 : decode cX6_endJob 0 = .ok (.aload_n 0, 1) := by decide +kernel
theorem dX6_endJob_1 : decode cX6_endJob 1 = .ok (.iload_n 2, 1) := by decide +kernel
theorem dX6_endJob_2 : decode cX6_endJob 2 = .ok (.aload_n 1, 1) := by decide +kernel
theorem dX6_endJob_3 : decode cX6_endJob 3 = .ok (.invokevirtual 149, 3) := by decide +kernel
theorem dX6_endJob_6 : decode cX6_endJob 6 = .ok (.aload_n 1, 1) := by decide +kernel
theorem dX6_endJob_7 : decode cX6_endJob 7 = .ok (.getfield 128, 3) := by decide +kernel
theorem dX6_endJob_10 : decode cX6_endJob 10 = .ok (.invokevirtual 244, 3) := by decide +kernel
theorem dX6_endJob_13 : decode cX6_endJob 13 = .ok (.iconst 0, 1) := by decide +kernel
theorem dX6_endJob_14 : decode cX6_endJob 14 = .ok (.istore_n 3, 1) := by decide +kernel
theorem dX6_endJob_15 : decode cX6_endJob 15 = .ok (.iload_n 3, 1) := by decide +kernel
theorem dX6_endJob_16 : decode cX6_endJob 16 = .ok (.aload_n 0, 1) := by decide +kernel
theorem dX6_endJob_17 : decode cX6_endJob 17 = .ok (.getfield 67, 3) := by decide +kernel
theorem dX6_endJob_20 : decode cX6_endJob 20 = .ok (.if_icmp .ge 32, 3) := by decide +kernel
theorem dX6_endJob_23 : decode cX6_endJob 23 = .ok (.aload_n 0, 1) := by decide +kernel
theorem dX6_endJob_24 : decode cX6_endJob 24 = .ok (.getfield 17, 3) := by decide +kernel
theorem dX6_endJob_27 : decode cX6_endJob 27 = .ok (.iload_n 3, 1) := by decide +kernel
theorem dX6_endJob_28 : decode cX6_endJob 28 = .ok (.aaload, 1) := by decide +kernel
theorem dX6_endJob_29 : decode cX6_endJob 29 = .ok (.getfield 221, 3) := by decide +kernel
theorem dX6_endJob_32 : decode cX6_endJob 32 = .ok (.aload_n 1, 1) := by decide +kernel
theorem dX6_endJob_33 : decode cX6_endJob 33 = .ok (.if_acmp .ne 13, 3) := by decide +kernel
theorem dX6_endJob_36 : decode cX6_endJob 36 = .ok (.aload_n 0, 1) := by decide +kernel
theorem dX6_endJob_37 : decode cX6_endJob 37 = .ok (.aload_n 0, 1) := by decide +kernel
theorem dX6_endJob_38 : decode cX6_endJob 38 = .ok (.getfield 17, 3) := by decide +kernel
theorem dX6_endJob_41 : decode cX6_endJob 41 = .ok (.iload_n 3, 1) := by decide +kernel
theorem dX6_endJob_42 : decode cX6_endJob 42 = .ok (.aaload, 1) := by decide +kernel
theorem dX6_endJob_43 : decode cX6_endJob 43 = .ok (.invokevirtual 217, 3) := by decide +kernel
theorem dX6_endJob_46 : decode cX6_endJob 46 = .ok (.iinc 3 1, 3) := by decide +kernel
theorem dX6_endJob_49 : decode cX6_endJob 49 = .ok (.goto (-34), 3) := by decide +kernel
theorem dX6_endJob_52 : decode cX6_endJob 52 = .ok (.return_, 1) := by decide +kernel
theorem dX6_giveAway_0 : decode cX6_giveAway 0 = .ok (.aload_n 0, 1) := by decide +kernel
theorem dX6_giveAway_1 : decode cX6_giveAway 1 = .ok (.invokevirtual 247, 3) := by decide +kernel
theorem dX6_giveAway_4 : decode cX6_giveAway 4 = .ok (.aload_n 0, 1) := by decide +kernel
theorem dX6_giveAway_5 : decode cX6_giveAway 5 = .ok (.aload_n 1, 1) := by decide +kernel
theorem dX6_giveAway_6 : decode cX6_giveAway 6 = .ok (.invokevirtual 250, 3) := by decide +kernel
theorem dX6_giveAway_9 : decode cX6_giveAway 9 = .ok (.astore_n 2, 1) := by decide +kernel
theorem dX6_giveAway_10 : decode cX6_giveAway 10 = .ok (.aload_n 1, 1) := by decide +kernel
theorem dX6_giveAway_11 : decode cX6_giveAway 11 = .ok (.aload_n 2, 1) := by decide +kernel
theorem dX6_giveAway_12 : decode cX6_giveAway 12 = .ok (.putfield 221, 3) := by decide +kernel
theorem dX6_giveAway_15 : decode cX6_giveAway 15 = .ok (.aload_n 2, 1) := by decide +kernel
theorem dX6_giveAway_16 : decode cX6_giveAway 16 = .ok (.ifnull 21, 3) := by decide +kernel
theorem dX6_giveAway_19 : decode cX6_giveAway 19 = .ok (.aload_n 2, 1) := by decide +kernel
theorem dX6_giveAway_20 : decode cX6_giveAway 20 = .ok (.getfield 128, 3) := by decide +kernel
theorem dX6_giveAway_23 : decode cX6_giveAway 23 = .ok (.aload_n 0, 1) := by decide +kernel
theorem dX6_giveAway_24 : decode cX6_giveAway 24 = .ok (.invokevirtual 169, 3) := by decide +kernel
theorem dX6_giveAway_27 : decode cX6_giveAway 27 = .ok (.invokevirtual 254, 3) := by decide +kernel
theorem dX6_giveAway_30 : decode cX6_giveAway 30 = .ok (.aload_n 0, 1) := by decide +kernel
theorem dX6_giveAway_31 : decode cX6_giveAway 31 = .ok (.bipush 6, 2) := by decide +kernel
theorem dX6_giveAway_33 : decode cX6_giveAway 33 = .ok (.aload_n 2, 1) := by decide +kernel
theorem dX6_giveAway_34 : decode cX6_giveAway 34 = .ok (.invokevirtual 149, 3) := by decide +kernel
theorem dX6_giveAway_37 : decode cX6_giveAway 37 = .ok (.return_, 1) := by decide +kernel
theorem dX6_heirOf_0 : decode cX6_heirOf 0 = .ok (.aconst_null, 1) := by decide +kernel
theorem dX6_heirOf_1 : decode cX6_heirOf 1 = .ok (.astore_n 2, 1) := by decide +kernel
theorem dX6_heirOf_2 : decode cX6_heirOf 2 = .ok (.iconst 0, 1) := by decide +kernel
theorem dX6_heirOf_3 : decode cX6_heirOf 3 = .ok (.istore_n 3, 1) := by decide +kernel
theorem dX6_heirOf_4 : decode cX6_heirOf 4 = .ok (.iload_n 3, 1) := by decide +kernel
theorem dX6_heirOf_5 : decode cX6_heirOf 5 = .ok (.aload_n 0, 1) := by decide +kernel
theorem dX6_heirOf_6 : decode cX6_heirOf 6 = .ok (.getfield 46, 3) := by decide +kernel
theorem dX6_heirOf_9 : decode cX6_heirOf 9 = .ok (.if_icmp .ge 51, 3) := by decide +kernel
theorem dX6_heirOf_12 : decode cX6_heirOf 12 = .ok (.aload_n 0, 1) := by decide +kernel
theorem dX6_heirOf_13 : decode cX6_heirOf 13 = .ok (.getfield 11, 3) := by decide +kernel
theorem dX6_heirOf_16 : decode cX6_heirOf 16 = .ok (.iload_n 3, 1) := by decide +kernel
theorem dX6_heirOf_17 : decode cX6_heirOf 17 = .ok (.aaload, 1) := by decide +kernel
theorem dX6_heirOf_18 : decode cX6_heirOf 18 = .ok (.astore 4, 2) := by decide +kernel
theorem dX6_heirOf_20 : decode cX6_heirOf 20 = .ok (.aload 4, 2) := by decide +kernel
theorem dX6_heirOf_22 : decode cX6_heirOf 22 = .ok (.getfield 128, 3) := by decide +kernel
theorem dX6_heirOf_25 : decode cX6_heirOf 25 = .ok (.getfield 257, 3) := by decide +kernel
theorem dX6_heirOf_28 : decode cX6_heirOf 28 = .ok (.aload_n 1, 1) := by decide +kernel
theorem dX6_heirOf_29 : decode cX6_heirOf 29 = .ok (.if_acmp .ne 25, 3) := by decide +kernel
theorem dX6_heirOf_32 : decode cX6_heirOf 32 = .ok (.aload_n 2, 1) := by decide +kernel
theorem dX6_heirOf_33 : decode cX6_heirOf 33 = .ok (.ifnull 18, 3) := by decide +kernel
theorem dX6_heirOf_36 : decode cX6_heirOf 36 = .ok (.aload 4, 2) := by decide +kernel
theorem dX6_heirOf_38 : decode cX6_heirOf 38 = .ok (.getfield 128, 3) := by decide +kernel
theorem dX6_heirOf_41 : decode cX6_heirOf 41 = .ok (.aload_n 2, 1) := by decide +kernel
theorem dX6_heirOf_42 : decode cX6_heirOf 42 = .ok (.getfield 128, 3) := by decide +kernel
theorem dX6_heirOf_45 : decode cX6_heirOf 45 = .ok (.invokevirtual 261, 3) := by decide +kernel
theorem dX6_heirOf_48 : decode cX6_heirOf 48 = .ok (.ifCond .eq 6, 3) := by decide +kernel
theorem dX6_heirOf_51 : decode cX6_heirOf 51 = .ok (.aload 4, 2) := by decide +kernel
theorem dX6_heirOf_53 : decode cX6_heirOf 53 = .ok (.astore_n 2, 1) := by decide +kernel
theorem dX6_heirOf_54 : decode cX6_heirOf 54 = .ok (.iinc 3 1, 3) := by decide +kernel
theorem dX6_heirOf_57 : decode cX6_heirOf 57 = .ok (.goto (-53), 3) := by decide +kernel
theorem dX6_heirOf_60 : decode cX6_heirOf 60 = .ok (.aload_n 2, 1) := by decide +kernel
theorem dX6_heirOf_61 : decode cX6_heirOf 61 = .ok (.areturn, 1) := by decide +kernel
theorem dX6_nextChange_0 : decode cX6_nextChange 0 = .ok (.aload_n 0, 1) := by decide +kernel
theorem dX6_nextChange_1 : decode cX6_nextChange 1 = .ok (.dup, 1) := by decide +kernel
theorem dX6_nextChange_2 : decode cX6_nextChange 2 = .ok (.getfield 265, 3) := by decide +kernel
theorem dX6_nextChange_5 : decode cX6_nextChange 5 = .ok (.iconst 1, 1) := by decide +kernel
theorem dX6_nextChange_6 : decode cX6_nextChange 6 = .ok (.iadd, 1) := by decide +kernel
theorem dX6_nextChange_7 : decode cX6_nextChange 7 = .ok (.putfield 265, 3) := by decide +kernel
theorem dX6_nextChange_10 : decode cX6_nextChange 10 = .ok (.aload_n 0, 1) := by decide +kernel
theorem dX6_nextChange_11 : decode cX6_nextChange 11 = .ok (.getfield 265, 3) := by decide +kernel
theorem dX6_nextChange_14 : decode cX6_nextChange 14 = .ok (.ireturn, 1) := by decide +kernel
theorem dX6_note_0 : decode cX6_note 0 = .ok (.aload_n 0, 1) := by decide +kernel
theorem dX6_note_1 : decode cX6_note 1 = .ok (.getfield 24, 3) := by decide +kernel
theorem dX6_note_4 : decode cX6_note 4 = .ok (.iload_n 1, 1) := by decide +kernel
theorem dX6_note_5 : decode cX6_note 5 = .ok (.aload_n 0, 1) := by decide +kernel
theorem dX6_note_6 : decode cX6_note 6 = .ok (.getfield 125, 3) := by decide +kernel
theorem dX6_note_9 : decode cX6_note 9 = .ok (.aload_n 2, 1) := by decide +kernel
theorem dX6_note_10 : decode cX6_note 10 = .ok (.getfield 268, 3) := by decide +kernel
theorem dX6_note_13 : decode cX6_note 13 = .ok (.invokevirtual 271, 3) := by decide +kernel
theorem dX6_note_16 : decode cX6_note 16 = .ok (.return_, 1) := by decide +kernel
theorem dX6_mostUrgentReady_0 : decode cX6_mostUrgentReady 0 = .ok (.aload_n 0, 1) := by decide +kernel
theorem dX6_mostUrgentReady_1 : decode cX6_mostUrgentReady 1 = .ok (.invokevirtual 247, 3) := by decide +kernel
theorem dX6_mostUrgentReady_4 : decode cX6_mostUrgentReady 4 = .ok (.aconst_null, 1) := by decide +kernel
theorem dX6_mostUrgentReady_5 : decode cX6_mostUrgentReady 5 = .ok (.astore_n 1, 1) := by decide +kernel
theorem dX6_mostUrgentReady_6 : decode cX6_mostUrgentReady 6 = .ok (.iconst 0, 1) := by decide +kernel
theorem dX6_mostUrgentReady_7 : decode cX6_mostUrgentReady 7 = .ok (.istore_n 2, 1) := by decide +kernel
theorem dX6_mostUrgentReady_8 : decode cX6_mostUrgentReady 8 = .ok (.iload_n 2, 1) := by decide +kernel
theorem dX6_mostUrgentReady_9 : decode cX6_mostUrgentReady 9 = .ok (.aload_n 0, 1) := by decide +kernel
theorem dX6_mostUrgentReady_10 : decode cX6_mostUrgentReady 10 = .ok (.getfield 46, 3) := by decide +kernel
theorem dX6_mostUrgentReady_13 : decode cX6_mostUrgentReady 13 = .ok (.if_icmp .ge 42, 3) := by decide +kernel
theorem dX6_mostUrgentReady_16 : decode cX6_mostUrgentReady 16 = .ok (.aload_n 0, 1) := by decide +kernel
theorem dX6_mostUrgentReady_17 : decode cX6_mostUrgentReady 17 = .ok (.getfield 11, 3) := by decide +kernel
theorem dX6_mostUrgentReady_20 : decode cX6_mostUrgentReady 20 = .ok (.iload_n 2, 1) := by decide +kernel
theorem dX6_mostUrgentReady_21 : decode cX6_mostUrgentReady 21 = .ok (.aaload, 1) := by decide +kernel
theorem dX6_mostUrgentReady_22 : decode cX6_mostUrgentReady 22 = .ok (.astore_n 3, 1) := by decide +kernel
theorem dX6_mostUrgentReady_23 : decode cX6_mostUrgentReady 23 = .ok (.aload_n 3, 1) := by decide +kernel
theorem dX6_mostUrgentReady_24 : decode cX6_mostUrgentReady 24 = .ok (.getfield 128, 3) := by decide +kernel
theorem dX6_mostUrgentReady_27 : decode cX6_mostUrgentReady 27 = .ok (.getfield 132, 3) := by decide +kernel
theorem dX6_mostUrgentReady_30 : decode cX6_mostUrgentReady 30 = .ok (.iconst 1, 1) := by decide +kernel
theorem dX6_mostUrgentReady_31 : decode cX6_mostUrgentReady 31 = .ok (.if_icmp .ne 18, 3) := by decide +kernel
theorem dX6_mostUrgentReady_34 : decode cX6_mostUrgentReady 34 = .ok (.aload_n 1, 1) := by decide +kernel
theorem dX6_mostUrgentReady_35 : decode cX6_mostUrgentReady 35 = .ok (.ifnull 12, 3) := by decide +kernel
theorem dX6_mostUrgentReady_38 : decode cX6_mostUrgentReady 38 = .ok (.aload_n 0, 1) := by decide +kernel
theorem dX6_mostUrgentReady_39 : decode cX6_mostUrgentReady 39 = .ok (.aload_n 3, 1) := by decide +kernel
theorem dX6_mostUrgentReady_40 : decode cX6_mostUrgentReady 40 = .ok (.aload_n 1, 1) := by decide +kernel
theorem dX6_mostUrgentReady_41 : decode cX6_mostUrgentReady 41 = .ok (.invokevirtual 274, 3) := by decide +kernel
theorem dX6_mostUrgentReady_44 : decode cX6_mostUrgentReady 44 = .ok (.ifCond .eq 5, 3) := by decide +kernel
theorem dX6_mostUrgentReady_47 : decode cX6_mostUrgentReady 47 = .ok (.aload_n 3, 1) := by decide +kernel
theorem dX6_mostUrgentReady_48 : decode cX6_mostUrgentReady 48 = .ok (.astore_n 1, 1) := by decide +kernel
theorem dX6_mostUrgentReady_49 : decode cX6_mostUrgentReady 49 = .ok (.iinc 2 1, 3) := by decide +kernel
theorem dX6_mostUrgentReady_52 : decode cX6_mostUrgentReady 52 = .ok (.goto (-44), 3) := by decide +kernel
theorem dX6_mostUrgentReady_55 : decode cX6_mostUrgentReady 55 = .ok (.aload_n 1, 1) := by decide +kernel
theorem dX6_mostUrgentReady_56 : decode cX6_mostUrgentReady 56 = .ok (.areturn, 1) := by decide +kernel
theorem dX6_goesAhead_0 : decode cX6_goesAhead 0 = .ok (.aload_n 1, 1) := by decide +kernel
theorem dX6_goesAhead_1 : decode cX6_goesAhead 1 = .ok (.getfield 128, 3) := by decide +kernel
theorem dX6_goesAhead_4 : decode cX6_goesAhead 4 = .ok (.getfield 278, 3) := by decide +kernel
theorem dX6_goesAhead_7 : decode cX6_goesAhead 7 = .ok (.aload_n 2, 1) := by decide +kernel
theorem dX6_goesAhead_8 : decode cX6_goesAhead 8 = .ok (.getfield 128, 3) := by decide +kernel
theorem dX6_goesAhead_11 : decode cX6_goesAhead 11 = .ok (.getfield 278, 3) := by decide +kernel
theorem dX6_goesAhead_14 : decode cX6_goesAhead 14 = .ok (.if_icmp .eq 26, 3) := by decide +kernel
theorem dX6_goesAhead_17 : decode cX6_goesAhead 17 = .ok (.aload_n 1, 1) := by decide +kernel
theorem dX6_goesAhead_18 : decode cX6_goesAhead 18 = .ok (.getfield 128, 3) := by decide +kernel
theorem dX6_goesAhead_21 : decode cX6_goesAhead 21 = .ok (.getfield 278, 3) := by decide +kernel
theorem dX6_goesAhead_24 : decode cX6_goesAhead 24 = .ok (.aload_n 2, 1) := by decide +kernel
theorem dX6_goesAhead_25 : decode cX6_goesAhead 25 = .ok (.getfield 128, 3) := by decide +kernel
theorem dX6_goesAhead_28 : decode cX6_goesAhead 28 = .ok (.getfield 278, 3) := by decide +kernel
theorem dX6_goesAhead_31 : decode cX6_goesAhead 31 = .ok (.if_icmp .le 7, 3) := by decide +kernel
theorem dX6_goesAhead_34 : decode cX6_goesAhead 34 = .ok (.iconst 1, 1) := by decide +kernel
theorem dX6_goesAhead_35 : decode cX6_goesAhead 35 = .ok (.goto 4, 3) := by decide +kernel
theorem dX6_goesAhead_38 : decode cX6_goesAhead 38 = .ok (.iconst 0, 1) := by decide +kernel
theorem dX6_goesAhead_39 : decode cX6_goesAhead 39 = .ok (.ireturn, 1) := by decide +kernel
theorem dX6_goesAhead_40 : decode cX6_goesAhead 40 = .ok (.aload_n 1, 1) := by decide +kernel
theorem dX6_goesAhead_41 : decode cX6_goesAhead 41 = .ok (.aload_n 0, 1) := by decide +kernel
theorem dX6_goesAhead_42 : decode cX6_goesAhead 42 = .ok (.getfield 186, 3) := by decide +kernel
theorem dX6_goesAhead_45 : decode cX6_goesAhead 45 = .ok (.if_acmp .eq 11, 3) := by decide +kernel
theorem dX6_goesAhead_48 : decode cX6_goesAhead 48 = .ok (.aload_n 2, 1) := by decide +kernel
theorem dX6_goesAhead_49 : decode cX6_goesAhead 49 = .ok (.aload_n 0, 1) := by decide +kernel
theorem dX6_goesAhead_50 : decode cX6_goesAhead 50 = .ok (.getfield 186, 3) := by decide +kernel
theorem dX6_goesAhead_53 : decode cX6_goesAhead 53 = .ok (.if_acmp .ne 17, 3) := by decide +kernel
theorem dX6_goesAhead_56 : decode cX6_goesAhead 56 = .ok (.aload_n 1, 1) := by decide +kernel
theorem dX6_goesAhead_57 : decode cX6_goesAhead 57 = .ok (.aload_n 0, 1) := by decide +kernel
theorem dX6_goesAhead_58 : decode cX6_goesAhead 58 = .ok (.getfield 186, 3) := by decide +kernel
theorem dX6_goesAhead_61 : decode cX6_goesAhead 61 = .ok (.if_acmp .ne 7, 3) := by decide +kernel
theorem dX6_goesAhead_64 : decode cX6_goesAhead 64 = .ok (.iconst 1, 1) := by decide +kernel
theorem dX6_goesAhead_65 : decode cX6_goesAhead 65 = .ok (.goto 4, 3) := by decide +kernel
theorem dX6_goesAhead_68 : decode cX6_goesAhead 68 = .ok (.iconst 0, 1) := by decide +kernel
theorem dX6_goesAhead_69 : decode cX6_goesAhead 69 = .ok (.ireturn, 1) := by decide +kernel
theorem dX6_goesAhead_70 : decode cX6_goesAhead 70 = .ok (.aload_n 1, 1) := by decide +kernel
theorem dX6_goesAhead_71 : decode cX6_goesAhead 71 = .ok (.getfield 128, 3) := by decide +kernel
theorem dX6_goesAhead_74 : decode cX6_goesAhead 74 = .ok (.getfield 281, 3) := by decide +kernel
theorem dX6_goesAhead_77 : decode cX6_goesAhead 77 = .ok (.aload_n 2, 1) := by decide +kernel
theorem dX6_goesAhead_78 : decode cX6_goesAhead 78 = .ok (.getfield 128, 3) := by decide +kernel
theorem dX6_goesAhead_81 : decode cX6_goesAhead 81 = .ok (.getfield 281, 3) := by decide +kernel
theorem dX6_goesAhead_84 : decode cX6_goesAhead 84 = .ok (.if_icmp .ge 7, 3) := by decide +kernel
theorem dX6_goesAhead_87 : decode cX6_goesAhead 87 = .ok (.iconst 1, 1) := by decide +kernel
theorem dX6_goesAhead_88 : decode cX6_goesAhead 88 = .ok (.goto 4, 3) := by decide +kernel
theorem dX6_goesAhead_91 : decode cX6_goesAhead 91 = .ok (.iconst 0, 1) := by decide +kernel
theorem dX6_goesAhead_92 : decode cX6_goesAhead 92 = .ok (.ireturn, 1) := by decide +kernel
theorem dX6_rankTasks_0 : decode cX6_rankTasks 0 = .ok (.iconst 0, 1) := by decide +kernel
theorem dX6_rankTasks_1 : decode cX6_rankTasks 1 = .ok (.istore_n 1, 1) := by decide +kernel
theorem dX6_rankTasks_2 : decode cX6_rankTasks 2 = .ok (.iload_n 1, 1) := by decide +kernel
theorem dX6_rankTasks_3 : decode cX6_rankTasks 3 = .ok (.aload_n 0, 1) := by decide +kernel
theorem dX6_rankTasks_4 : decode cX6_rankTasks 4 = .ok (.getfield 46, 3) := by decide +kernel
theorem dX6_rankTasks_7 : decode cX6_rankTasks 7 = .ok (.if_icmp .ge 45, 3) := by decide +kernel
theorem dX6_rankTasks_10 : decode cX6_rankTasks 10 = .ok (.aload_n 0, 1) := by decide +kernel
theorem dX6_rankTasks_11 : decode cX6_rankTasks 11 = .ok (.getfield 11, 3) := by decide +kernel
theorem dX6_rankTasks_14 : decode cX6_rankTasks 14 = .ok (.iload_n 1, 1) := by decide +kernel
theorem dX6_rankTasks_15 : decode cX6_rankTasks 15 = .ok (.aaload, 1) := by decide +kernel
theorem dX6_rankTasks_16 : decode cX6_rankTasks 16 = .ok (.astore_n 2, 1) := by decide +kernel
theorem dX6_rankTasks_17 : decode cX6_rankTasks 17 = .ok (.aload_n 2, 1) := by decide +kernel
theorem dX6_rankTasks_18 : decode cX6_rankTasks 18 = .ok (.getfield 128, 3) := by decide +kernel
theorem dX6_rankTasks_21 : decode cX6_rankTasks 21 = .ok (.aload_n 0, 1) := by decide +kernel
theorem dX6_rankTasks_22 : decode cX6_rankTasks 22 = .ok (.getfield 28, 3) := by decide +kernel
theorem dX6_rankTasks_25 : decode cX6_rankTasks 25 = .ok (.ifCond .eq 14, 3) := by decide +kernel
theorem dX6_rankTasks_28 : decode cX6_rankTasks 28 = .ok (.aload_n 2, 1) := by decide +kernel
theorem dX6_rankTasks_29 : decode cX6_rankTasks 29 = .ok (.getfield 128, 3) := by decide +kernel
theorem dX6_rankTasks_32 : decode cX6_rankTasks 32 = .ok (.getfield 137, 3) := by decide +kernel
theorem dX6_rankTasks_35 : decode cX6_rankTasks 35 = .ok (.ineg, 1) := by decide +kernel
theorem dX6_rankTasks_36 : decode cX6_rankTasks 36 = .ok (.goto 7, 3) := by decide +kernel
theorem dX6_rankTasks_39 : decode cX6_rankTasks 39 = .ok (.aload_n 2, 1) := by decide +kernel
theorem dX6_rankTasks_40 : decode cX6_rankTasks 40 = .ok (.getfield 238, 3) := by decide +kernel
theorem dX6_rankTasks_43 : decode cX6_rankTasks 43 = .ok (.putfield 278, 3) := by decide +kernel
theorem dX6_rankTasks_46 : decode cX6_rankTasks 46 = .ok (.iinc 1 1, 3) := by decide +kernel
theorem dX6_rankTasks_49 : decode cX6_rankTasks 49 = .ok (.goto (-47), 3) := by decide +kernel
theorem dX6_rankTasks_52 : decode cX6_rankTasks 52 = .ok (.aload_n 0, 1) := by decide +kernel
theorem dX6_rankTasks_53 : decode cX6_rankTasks 53 = .ok (.getfield 28, 3) := by decide +kernel
theorem dX6_rankTasks_56 : decode cX6_rankTasks 56 = .ok (.ifCond .ne 7, 3) := by decide +kernel
theorem dX6_rankTasks_59 : decode cX6_rankTasks 59 = .ok (.aload_n 0, 1) := by decide +kernel
theorem dX6_rankTasks_60 : decode cX6_rankTasks 60 = .ok (.invokevirtual 284, 3) := by decide +kernel
theorem dX6_rankTasks_63 : decode cX6_rankTasks 63 = .ok (.iconst 1, 1) := by decide +kernel
theorem dX6_rankTasks_64 : decode cX6_rankTasks 64 = .ok (.istore_n 1, 1) := by decide +kernel
theorem dX6_rankTasks_65 : decode cX6_rankTasks 65 = .ok (.iconst 0, 1) := by decide +kernel
theorem dX6_rankTasks_66 : decode cX6_rankTasks 66 = .ok (.istore_n 2, 1) := by decide +kernel
theorem dX6_rankTasks_67 : decode cX6_rankTasks 67 = .ok (.iload_n 1, 1) := by decide +kernel
theorem dX6_rankTasks_68 : decode cX6_rankTasks 68 = .ok (.ifCond .eq 22, 3) := by decide +kernel
theorem dX6_rankTasks_71 : decode cX6_rankTasks 71 = .ok (.iload_n 2, 1) := by decide +kernel
theorem dX6_rankTasks_72 : decode cX6_rankTasks 72 = .ok (.aload_n 0, 1) := by decide +kernel
theorem dX6_rankTasks_73 : decode cX6_rankTasks 73 = .ok (.getfield 46, 3) := by decide +kernel
theorem dX6_rankTasks_76 : decode cX6_rankTasks 76 = .ok (.if_icmp .ge 14, 3) := by decide +kernel
theorem dX6_rankTasks_79 : decode cX6_rankTasks 79 = .ok (.aload_n 0, 1) := by decide +kernel
theorem dX6_rankTasks_80 : decode cX6_rankTasks 80 = .ok (.invokevirtual 287, 3) := by decide +kernel
theorem dX6_rankTasks_83 : decode cX6_rankTasks 83 = .ok (.istore_n 1, 1) := by decide +kernel
theorem dX6_rankTasks_84 : decode cX6_rankTasks 84 = .ok (.iinc 2 1, 3) := by decide +kernel
theorem dX6_rankTasks_87 : decode cX6_rankTasks 87 = .ok (.goto (-20), 3) := by decide +kernel
theorem dX6_rankTasks_90 : decode cX6_rankTasks 90 = .ok (.return_, 1) := by decide +kernel
theorem dX6_liftToCeilings_0 : decode cX6_liftToCeilings 0 = .ok (.iconst 0, 1) := by decide +kernel
theorem dX6_liftToCeilings_1 : decode cX6_liftToCeilings 1 = .ok (.istore_n 1, 1) := by decide +kernel
theorem dX6_liftToCeilings_2 : decode cX6_liftToCeilings 2 = .ok (.iload_n 1, 1) := by decide +kernel
theorem dX6_liftToCeilings_3 : decode cX6_liftToCeilings 3 = .ok (.aload_n 0, 1) := by decide +kernel
theorem dX6_liftToCeilings_4 : decode cX6_liftToCeilings 4 = .ok (.getfield 67, 3) := by decide +kernel
theorem dX6_liftToCeilings_7 : decode cX6_liftToCeilings 7 = .ok (.if_icmp .ge 62, 3) := by decide +kernel
theorem dX6_liftToCeilings_10 : decode cX6_liftToCeilings 10 = .ok (.aload_n 0, 1) := by decide +kernel
theorem dX6_liftToCeilings_11 : decode cX6_liftToCeilings 11 = .ok (.getfield 17, 3) := by decide +kernel
theorem dX6_liftToCeilings_14 : decode cX6_liftToCeilings 14 = .ok (.iload_n 1, 1) := by decide +kernel
theorem dX6_liftToCeilings_15 : decode cX6_liftToCeilings 15 = .ok (.aaload, 1) := by decide +kernel
theorem dX6_liftToCeilings_16 : decode cX6_liftToCeilings 16 = .ok (.astore_n 2, 1) := by decide +kernel
theorem dX6_liftToCeilings_17 : decode cX6_liftToCeilings 17 = .ok (.aload_n 2, 1) := by decide +kernel
theorem dX6_liftToCeilings_18 : decode cX6_liftToCeilings 18 = .ok (.getfield 235, 3) := by decide +kernel
theorem dX6_liftToCeilings_21 : decode cX6_liftToCeilings 21 = .ok (.iconst 2, 1) := by decide +kernel
theorem dX6_liftToCeilings_22 : decode cX6_liftToCeilings 22 = .ok (.if_icmp .ne 41, 3) := by decide +kernel
theorem dX6_liftToCeilings_25 : decode cX6_liftToCeilings 25 = .ok (.aload_n 2, 1) := by decide +kernel
theorem dX6_liftToCeilings_26 : decode cX6_liftToCeilings 26 = .ok (.getfield 221, 3) := by decide +kernel
theorem dX6_liftToCeilings_29 : decode cX6_liftToCeilings 29 = .ok (.ifnull 34, 3) := by decide +kernel
theorem dX6_liftToCeilings_32 : decode cX6_liftToCeilings 32 = .ok (.aload_n 2, 1) := by decide +kernel
theorem dX6_liftToCeilings_33 : decode cX6_liftToCeilings 33 = .ok (.getfield 221, 3) := by decide +kernel
theorem dX6_liftToCeilings_36 : decode cX6_liftToCeilings 36 = .ok (.getfield 128, 3) := by decide +kernel
theorem dX6_liftToCeilings_39 : decode cX6_liftToCeilings 39 = .ok (.getfield 278, 3) := by decide +kernel
theorem dX6_liftToCeilings_42 : decode cX6_liftToCeilings 42 = .ok (.aload_n 2, 1) := by decide +kernel
theorem dX6_liftToCeilings_43 : decode cX6_liftToCeilings 43 = .ok (.getfield 241, 3) := by decide +kernel
theorem dX6_liftToCeilings_46 : decode cX6_liftToCeilings 46 = .ok (.if_icmp .ge 17, 3) := by decide +kernel
theorem dX6_liftToCeilings_49 : decode cX6_liftToCeilings 49 = .ok (.aload_n 2, 1) := by decide +kernel
theorem dX6_liftToCeilings_50 : decode cX6_liftToCeilings 50 = .ok (.getfield 221, 3) := by decide +kernel
theorem dX6_liftToCeilings_53 : decode cX6_liftToCeilings 53 = .ok (.getfield 128, 3) := by decide +kernel
theorem dX6_liftToCeilings_56 : decode cX6_liftToCeilings 56 = .ok (.aload_n 2, 1) := by decide +kernel
theorem dX6_liftToCeilings_57 : decode cX6_liftToCeilings 57 = .ok (.getfield 241, 3) := by decide +kernel
theorem dX6_liftToCeilings_60 : decode cX6_liftToCeilings 60 = .ok (.putfield 278, 3) := by decide +kernel
theorem dX6_liftToCeilings_63 : decode cX6_liftToCeilings 63 = .ok (.iinc 1 1, 3) := by decide +kernel
theorem dX6_liftToCeilings_66 : decode cX6_liftToCeilings 66 = .ok (.goto (-64), 3) := by decide +kernel
theorem dX6_liftToCeilings_69 : decode cX6_liftToCeilings 69 = .ok (.return_, 1) := by decide +kernel
theorem dX6_lendOnce_0 : decode cX6_lendOnce 0 = .ok (.iconst 0, 1) := by decide +kernel
theorem dX6_lendOnce_1 : decode cX6_lendOnce 1 = .ok (.istore_n 1, 1) := by decide +kernel
theorem dX6_lendOnce_2 : decode cX6_lendOnce 2 = .ok (.iconst 0, 1) := by decide +kernel
theorem dX6_lendOnce_3 : decode cX6_lendOnce 3 = .ok (.istore_n 2, 1) := by decide +kernel
theorem dX6_lendOnce_4 : decode cX6_lendOnce 4 = .ok (.iload_n 2, 1) := by decide +kernel
theorem dX6_lendOnce_5 : decode cX6_lendOnce 5 = .ok (.aload_n 0, 1) := by decide +kernel
theorem dX6_lendOnce_6 : decode cX6_lendOnce 6 = .ok (.getfield 46, 3) := by decide +kernel
theorem dX6_lendOnce_9 : decode cX6_lendOnce 9 = .ok (.if_icmp .ge 82, 3) := by decide +kernel
theorem dX6_lendOnce_12 : decode cX6_lendOnce 12 = .ok (.aload_n 0, 1) := by decide +kernel
theorem dX6_lendOnce_13 : decode cX6_lendOnce 13 = .ok (.getfield 11, 3) := by decide +kernel
theorem dX6_lendOnce_16 : decode cX6_lendOnce 16 = .ok (.iload_n 2, 1) := by decide +kernel
theorem dX6_lendOnce_17 : decode cX6_lendOnce 17 = .ok (.aaload, 1) := by decide +kernel
theorem dX6_lendOnce_18 : decode cX6_lendOnce 18 = .ok (.getfield 128, 3) := by decide +kernel
theorem dX6_lendOnce_21 : decode cX6_lendOnce 21 = .ok (.astore_n 3, 1) := by decide +kernel
theorem dX6_lendOnce_22 : decode cX6_lendOnce 22 = .ok (.aload_n 3, 1) := by decide +kernel
theorem dX6_lendOnce_23 : decode cX6_lendOnce 23 = .ok (.getfield 257, 3) := by decide +kernel
theorem dX6_lendOnce_26 : decode cX6_lendOnce 26 = .ok (.astore 4, 2) := by decide +kernel
theorem dX6_lendOnce_28 : decode cX6_lendOnce 28 = .ok (.aload 4, 2) := by decide +kernel
theorem dX6_lendOnce_30 : decode cX6_lendOnce 30 = .ok (.ifnull 55, 3) := by decide +kernel
theorem dX6_lendOnce_33 : decode cX6_lendOnce 33 = .ok (.aload 4, 2) := by decide +kernel
theorem dX6_lendOnce_35 : decode cX6_lendOnce 35 = .ok (.getfield 235, 3) := by decide +kernel
theorem dX6_lendOnce_38 : decode cX6_lendOnce 38 = .ok (.iconst 1, 1) := by decide +kernel
theorem dX6_lendOnce_39 : decode cX6_lendOnce 39 = .ok (.if_icmp .ne 46, 3) := by decide +kernel
theorem dX6_lendOnce_42 : decode cX6_lendOnce 42 = .ok (.aload 4, 2) := by decide +kernel
theorem dX6_lendOnce_44 : decode cX6_lendOnce 44 = .ok (.getfield 221, 3) := by decide +kernel
theorem dX6_lendOnce_47 : decode cX6_lendOnce 47 = .ok (.ifnull 38, 3) := by decide +kernel
theorem dX6_lendOnce_50 : decode cX6_lendOnce 50 = .ok (.aload 4, 2) := by decide +kernel
theorem dX6_lendOnce_52 : decode cX6_lendOnce 52 = .ok (.getfield 221, 3) := by decide +kernel
theorem dX6_lendOnce_55 : decode cX6_lendOnce 55 = .ok (.getfield 128, 3) := by decide +kernel
theorem dX6_lendOnce_58 : decode cX6_lendOnce 58 = .ok (.getfield 278, 3) := by decide +kernel
theorem dX6_lendOnce_61 : decode cX6_lendOnce 61 = .ok (.aload_n 3, 1) := by decide +kernel
theorem dX6_lendOnce_62 : decode cX6_lendOnce 62 = .ok (.getfield 278, 3) := by decide +kernel
theorem dX6_lendOnce_65 : decode cX6_lendOnce 65 = .ok (.if_icmp .ge 20, 3) := by decide +kernel
theorem dX6_lendOnce_68 : decode cX6_lendOnce 68 = .ok (.aload 4, 2) := by decide +kernel
theorem dX6_lendOnce_70 : decode cX6_lendOnce 70 = .ok (.getfield 221, 3) := by decide +kernel
theorem dX6_lendOnce_73 : decode cX6_lendOnce 73 = .ok (.getfield 128, 3) := by decide +kernel
theorem dX6_lendOnce_76 : decode cX6_lendOnce 76 = .ok (.aload_n 3, 1) := by decide +kernel
theorem dX6_lendOnce_77 : decode cX6_lendOnce 77 = .ok (.getfield 278, 3) := by decide +kernel
theorem dX6_lendOnce_80 : decode cX6_lendOnce 80 = .ok (.putfield 278, 3) := by decide +kernel
theorem dX6_lendOnce_83 : decode cX6_lendOnce 83 = .ok (.iconst 1, 1) := by decide +kernel
theorem dX6_lendOnce_84 : decode cX6_lendOnce 84 = .ok (.istore_n 1, 1) := by decide +kernel
theorem dX6_lendOnce_85 : decode cX6_lendOnce 85 = .ok (.iinc 2 1, 3) := by decide +kernel
theorem dX6_lendOnce_88 : decode cX6_lendOnce 88 = .ok (.goto (-84), 3) := by decide +kernel
theorem dX6_lendOnce_91 : decode cX6_lendOnce 91 = .ok (.iload_n 1, 1) := by decide +kernel
theorem dX6_lendOnce_92 : decode cX6_lendOnce 92 = .ok (.ireturn, 1) := by decide +kernel
theorem dX6_urgencyOf_0 : decode cX6_urgencyOf 0 = .ok (.aload_n 1, 1) := by decide +kernel
theorem dX6_urgencyOf_1 : decode cX6_urgencyOf 1 = .ok (.getfield 128, 3) := by decide +kernel
theorem dX6_urgencyOf_4 : decode cX6_urgencyOf 4 = .ok (.getfield 132, 3) := by decide +kernel
theorem dX6_urgencyOf_7 : decode cX6_urgencyOf 7 = .ok (.ifCond .ne 5, 3) := by decide +kernel
theorem dX6_urgencyOf_10 : decode cX6_urgencyOf 10 = .ok (.iconst 0, 1) := by decide +kernel
theorem dX6_urgencyOf_11 : decode cX6_urgencyOf 11 = .ok (.ireturn, 1) := by decide +kernel
theorem dX6_urgencyOf_12 : decode cX6_urgencyOf 12 = .ok (.aload_n 0, 1) := by decide +kernel
theorem dX6_urgencyOf_13 : decode cX6_urgencyOf 13 = .ok (.invokevirtual 247, 3) := by decide +kernel
theorem dX6_urgencyOf_16 : decode cX6_urgencyOf 16 = .ok (.aload_n 0, 1) := by decide +kernel
theorem dX6_urgencyOf_17 : decode cX6_urgencyOf 17 = .ok (.getfield 28, 3) := by decide +kernel
theorem dX6_urgencyOf_20 : decode cX6_urgencyOf 20 = .ok (.ifCond .eq 14, 3) := by decide +kernel
theorem dX6_urgencyOf_23 : decode cX6_urgencyOf 23 = .ok (.aload_n 1, 1) := by decide +kernel
theorem dX6_urgencyOf_24 : decode cX6_urgencyOf 24 = .ok (.getfield 128, 3) := by decide +kernel
theorem dX6_urgencyOf_27 : decode cX6_urgencyOf 27 = .ok (.getfield 278, 3) := by decide +kernel
theorem dX6_urgencyOf_30 : decode cX6_urgencyOf 30 = .ok (.ineg, 1) := by decide +kernel
theorem dX6_urgencyOf_31 : decode cX6_urgencyOf 31 = .ok (.goto 10, 3) := by decide +kernel
theorem dX6_urgencyOf_34 : decode cX6_urgencyOf 34 = .ok (.aload_n 1, 1) := by decide +kernel
theorem dX6_urgencyOf_35 : decode cX6_urgencyOf 35 = .ok (.getfield 128, 3) := by decide +kernel
theorem dX6_urgencyOf_38 : decode cX6_urgencyOf 38 = .ok (.getfield 278, 3) := by decide +kernel
theorem dX6_urgencyOf_41 : decode cX6_urgencyOf 41 = .ok (.ireturn, 1) := by decide +kernel
theorem dX6_seen_0 : decode cX6_seen 0 = .ok (.aload_n 0, 1) := by decide +kernel
theorem dX6_seen_1 : decode cX6_seen 1 = .ok (.iload_n 1, 1) := by decide +kernel
theorem dX6_seen_2 : decode cX6_seen 2 = .ok (.invokevirtual 58, 3) := by decide +kernel
theorem dX6_seen_5 : decode cX6_seen 5 = .ok (.ifCond .ne 5, 3) := by decide +kernel
theorem dX6_seen_8 : decode cX6_seen 8 = .ok (.iconst (-1), 1) := by decide +kernel
theorem dX6_seen_9 : decode cX6_seen 9 = .ok (.ireturn, 1) := by decide +kernel
theorem dX6_seen_10 : decode cX6_seen 10 = .ok (.aload_n 0, 1) := by decide +kernel
theorem dX6_seen_11 : decode cX6_seen 11 = .ok (.getfield 11, 3) := by decide +kernel
theorem dX6_seen_14 : decode cX6_seen 14 = .ok (.iload_n 1, 1) := by decide +kernel
theorem dX6_seen_15 : decode cX6_seen 15 = .ok (.aaload, 1) := by decide +kernel
theorem dX6_seen_16 : decode cX6_seen 16 = .ok (.astore_n 3, 1) := by decide +kernel
theorem dX6_seen_17 : decode cX6_seen 17 = .ok (.iload_n 2, 1) := by decide +kernel
theorem dX6_seen_18 : decode cX6_seen 18 = .ok (.tableswitch 163 0 9 #[54, 62, 84, 90, 98, 106, 114, 122, 130, 138], 54) := by decide +kernel
theorem dX6_seen_72 : decode cX6_seen 72 = .ok (.aload_n 3, 1) := by decide +kernel
theorem dX6_seen_73 : decode cX6_seen 73 = .ok (.getfield 128, 3) := by decide +kernel
theorem dX6_seen_76 : decode cX6_seen 76 = .ok (.getfield 132, 3) := by decide +kernel
theorem dX6_seen_79 : decode cX6_seen 79 = .ok (.ireturn, 1) := by decide +kernel
theorem dX6_seen_80 : decode cX6_seen 80 = .ok (.aload_n 3, 1) := by decide +kernel
theorem dX6_seen_81 : decode cX6_seen 81 = .ok (.getfield 128, 3) := by decide +kernel
theorem dX6_seen_84 : decode cX6_seen 84 = .ok (.getfield 132, 3) := by decide +kernel
theorem dX6_seen_87 : decode cX6_seen 87 = .ok (.ifCond .ne 7, 3) := by decide +kernel
theorem dX6_seen_90 : decode cX6_seen 90 = .ok (.iconst (-1), 1) := by decide +kernel
theorem dX6_seen_91 : decode cX6_seen 91 = .ok (.goto 10, 3) := by decide +kernel
theorem dX6_seen_94 : decode cX6_seen 94 = .ok (.aload_n 3, 1) := by decide +kernel
theorem dX6_seen_95 : decode cX6_seen 95 = .ok (.getfield 128, 3) := by decide +kernel
theorem dX6_seen_98 : decode cX6_seen 98 = .ok (.getfield 204, 3) := by decide +kernel
theorem dX6_seen_101 : decode cX6_seen 101 = .ok (.ireturn, 1) := by decide +kernel
theorem dX6_seen_102 : decode cX6_seen 102 = .ok (.aload_n 0, 1) := by decide +kernel
theorem dX6_seen_103 : decode cX6_seen 103 = .ok (.aload_n 3, 1) := by decide +kernel
theorem dX6_seen_104 : decode cX6_seen 104 = .ok (.invokevirtual 290, 3) := by decide +kernel
theorem dX6_seen_107 : decode cX6_seen 107 = .ok (.ireturn, 1) := by decide +kernel
theorem dX6_seen_108 : decode cX6_seen 108 = .ok (.aload_n 3, 1) := by decide +kernel
theorem dX6_seen_109 : decode cX6_seen 109 = .ok (.getfield 140, 3) := by decide +kernel
theorem dX6_seen_112 : decode cX6_seen 112 = .ok (.getfield 294, 3) := by decide +kernel
theorem dX6_seen_115 : decode cX6_seen 115 = .ok (.ireturn, 1) := by decide +kernel
theorem dX6_seen_116 : decode cX6_seen 116 = .ok (.aload_n 3, 1) := by decide +kernel
theorem dX6_seen_117 : decode cX6_seen 117 = .ok (.getfield 140, 3) := by decide +kernel
theorem dX6_seen_120 : decode cX6_seen 120 = .ok (.getfield 153, 3) := by decide +kernel
theorem dX6_seen_123 : decode cX6_seen 123 = .ok (.ireturn, 1) := by decide +kernel
theorem dX6_seen_124 : decode cX6_seen 124 = .ok (.aload_n 3, 1) := by decide +kernel
theorem dX6_seen_125 : decode cX6_seen 125 = .ok (.getfield 140, 3) := by decide +kernel
theorem dX6_seen_128 : decode cX6_seen 128 = .ok (.getfield 144, 3) := by decide +kernel
theorem dX6_seen_131 : decode cX6_seen 131 = .ok (.ireturn, 1) := by decide +kernel
theorem dX6_seen_132 : decode cX6_seen 132 = .ok (.aload_n 3, 1) := by decide +kernel
theorem dX6_seen_133 : decode cX6_seen 133 = .ok (.getfield 140, 3) := by decide +kernel
theorem dX6_seen_136 : decode cX6_seen 136 = .ok (.getfield 163, 3) := by decide +kernel
theorem dX6_seen_139 : decode cX6_seen 139 = .ok (.ireturn, 1) := by decide +kernel
theorem dX6_seen_140 : decode cX6_seen 140 = .ok (.aload_n 3, 1) := by decide +kernel
theorem dX6_seen_141 : decode cX6_seen 141 = .ok (.getfield 140, 3) := by decide +kernel
theorem dX6_seen_144 : decode cX6_seen 144 = .ok (.getfield 196, 3) := by decide +kernel
theorem dX6_seen_147 : decode cX6_seen 147 = .ok (.ireturn, 1) := by decide +kernel
theorem dX6_seen_148 : decode cX6_seen 148 = .ok (.aload_n 3, 1) := by decide +kernel
theorem dX6_seen_149 : decode cX6_seen 149 = .ok (.getfield 140, 3) := by decide +kernel
theorem dX6_seen_152 : decode cX6_seen 152 = .ok (.getfield 297, 3) := by decide +kernel
theorem dX6_seen_155 : decode cX6_seen 155 = .ok (.ireturn, 1) := by decide +kernel
theorem dX6_seen_156 : decode cX6_seen 156 = .ok (.aload_n 3, 1) := by decide +kernel
theorem dX6_seen_157 : decode cX6_seen 157 = .ok (.getfield 128, 3) := by decide +kernel
theorem dX6_seen_160 : decode cX6_seen 160 = .ok (.getfield 257, 3) := by decide +kernel
theorem dX6_seen_163 : decode cX6_seen 163 = .ok (.ifnonnull 7, 3) := by decide +kernel
theorem dX6_seen_166 : decode cX6_seen 166 = .ok (.iconst (-1), 1) := by decide +kernel
theorem dX6_seen_167 : decode cX6_seen 167 = .ok (.goto 13, 3) := by decide +kernel
theorem dX6_seen_170 : decode cX6_seen 170 = .ok (.aload_n 3, 1) := by decide +kernel
theorem dX6_seen_171 : decode cX6_seen 171 = .ok (.getfield 128, 3) := by decide +kernel
theorem dX6_seen_174 : decode cX6_seen 174 = .ok (.getfield 257, 3) := by decide +kernel
theorem dX6_seen_177 : decode cX6_seen 177 = .ok (.getfield 300, 3) := by decide +kernel
theorem dX6_seen_180 : decode cX6_seen 180 = .ok (.ireturn, 1) := by decide +kernel
theorem dX6_seen_181 : decode cX6_seen 181 = .ok (.iconst (-1), 1) := by decide +kernel
theorem dX6_seen_182 : decode cX6_seen 182 = .ok (.ireturn, 1) := by decide +kernel
theorem dX6_held_0 : decode cX6_held 0 = .ok (.aload_n 0, 1) := by decide +kernel
theorem dX6_held_1 : decode cX6_held 1 = .ok (.iload_n 1, 1) := by decide +kernel
theorem dX6_held_2 : decode cX6_held 2 = .ok (.invokevirtual 98, 3) := by decide +kernel
theorem dX6_held_5 : decode cX6_held 5 = .ok (.ifCond .ne 5, 3) := by decide +kernel
theorem dX6_held_8 : decode cX6_held 8 = .ok (.iconst (-1), 1) := by decide +kernel
theorem dX6_held_9 : decode cX6_held 9 = .ok (.ireturn, 1) := by decide +kernel
theorem dX6_held_10 : decode cX6_held 10 = .ok (.aload_n 0, 1) := by decide +kernel
theorem dX6_held_11 : decode cX6_held 11 = .ok (.getfield 17, 3) := by decide +kernel
theorem dX6_held_14 : decode cX6_held 14 = .ok (.iload_n 1, 1) := by decide +kernel
theorem dX6_held_15 : decode cX6_held 15 = .ok (.aaload, 1) := by decide +kernel
theorem dX6_held_16 : decode cX6_held 16 = .ok (.astore_n 3, 1) := by decide +kernel
theorem dX6_held_17 : decode cX6_held 17 = .ok (.iload_n 2, 1) := by decide +kernel
theorem dX6_held_18 : decode cX6_held 18 = .ok (.tableswitch 57 0 2 #[26, 45, 51], 26) := by decide +kernel
theorem dX6_held_44 : decode cX6_held 44 = .ok (.aload_n 3, 1) := by decide +kernel
theorem dX6_held_45 : decode cX6_held 45 = .ok (.getfield 221, 3) := by decide +kernel
theorem dX6_held_48 : decode cX6_held 48 = .ok (.ifnonnull 7, 3) := by decide +kernel
theorem dX6_held_51 : decode cX6_held 51 = .ok (.iconst (-1), 1) := by decide +kernel
theorem dX6_held_52 : decode cX6_held 52 = .ok (.goto 10, 3) := by decide +kernel
theorem dX6_held_55 : decode cX6_held 55 = .ok (.aload_n 3, 1) := by decide +kernel
theorem dX6_held_56 : decode cX6_held 56 = .ok (.getfield 221, 3) := by decide +kernel
theorem dX6_held_59 : decode cX6_held 59 = .ok (.getfield 268, 3) := by decide +kernel
theorem dX6_held_62 : decode cX6_held 62 = .ok (.ireturn, 1) := by decide +kernel
theorem dX6_held_63 : decode cX6_held 63 = .ok (.aload_n 0, 1) := by decide +kernel
theorem dX6_held_64 : decode cX6_held 64 = .ok (.aload_n 3, 1) := by decide +kernel
theorem dX6_held_65 : decode cX6_held 65 = .ok (.invokevirtual 301, 3) := by decide +kernel
theorem dX6_held_68 : decode cX6_held 68 = .ok (.ireturn, 1) := by decide +kernel
theorem dX6_held_69 : decode cX6_held 69 = .ok (.aload_n 0, 1) := by decide +kernel
theorem dX6_held_70 : decode cX6_held 70 = .ok (.iload_n 1, 1) := by decide +kernel
theorem dX6_held_71 : decode cX6_held 71 = .ok (.invokevirtual 305, 3) := by decide +kernel
theorem dX6_held_74 : decode cX6_held 74 = .ok (.ireturn, 1) := by decide +kernel
theorem dX6_held_75 : decode cX6_held 75 = .ok (.iconst (-1), 1) := by decide +kernel
theorem dX6_held_76 : decode cX6_held 76 = .ok (.ireturn, 1) := by decide +kernel
theorem dX6_event_0 : decode cX6_event 0 = .ok (.aload_n 0, 1) := by decide +kernel
theorem dX6_event_1 : decode cX6_event 1 = .ok (.getfield 24, 3) := by decide +kernel
theorem dX6_event_4 : decode cX6_event 4 = .ok (.iload_n 1, 1) := by decide +kernel
theorem dX6_event_5 : decode cX6_event 5 = .ok (.iload_n 2, 1) := by decide +kernel
theorem dX6_event_6 : decode cX6_event 6 = .ok (.invokevirtual 309, 3) := by decide +kernel
theorem dX6_event_9 : decode cX6_event 9 = .ok (.ireturn, 1) := by decide +kernel
theorem dX6_look_0 : decode cX6_look 0 = .ok (.iload_n 1, 1) := by decide +kernel
theorem dX6_look_1 : decode cX6_look 1 = .ok (.tableswitch 94 0 5 #[39, 44, 49, 54, 67, 86], 39) := by decide +kernel
theorem dX6_look_40 : decode cX6_look 40 = .ok (.aload_n 0, 1) := by decide +kernel
theorem dX6_look_41 : decode cX6_look 41 = .ok (.getfield 125, 3) := by decide +kernel
theorem dX6_look_44 : decode cX6_look 44 = .ok (.ireturn, 1) := by decide +kernel
theorem dX6_look_45 : decode cX6_look 45 = .ok (.aload_n 0, 1) := by decide +kernel
theorem dX6_look_46 : decode cX6_look 46 = .ok (.getfield 46, 3) := by decide +kernel
theorem dX6_look_49 : decode cX6_look 49 = .ok (.ireturn, 1) := by decide +kernel
theorem dX6_look_50 : decode cX6_look 50 = .ok (.aload_n 0, 1) := by decide +kernel
theorem dX6_look_51 : decode cX6_look 51 = .ok (.getfield 67, 3) := by decide +kernel
theorem dX6_look_54 : decode cX6_look 54 = .ok (.ireturn, 1) := by decide +kernel
theorem dX6_look_55 : decode cX6_look 55 = .ok (.aload_n 0, 1) := by decide +kernel
theorem dX6_look_56 : decode cX6_look 56 = .ok (.getfield 43, 3) := by decide +kernel
theorem dX6_look_59 : decode cX6_look 59 = .ok (.ifCond .eq 7, 3) := by decide +kernel
theorem dX6_look_62 : decode cX6_look 62 = .ok (.iconst 1, 1) := by decide +kernel
theorem dX6_look_63 : decode cX6_look 63 = .ok (.goto 4, 3) := by decide +kernel
theorem dX6_look_66 : decode cX6_look 66 = .ok (.iconst 0, 1) := by decide +kernel
theorem dX6_look_67 : decode cX6_look 67 = .ok (.ireturn, 1) := by decide +kernel
theorem dX6_look_68 : decode cX6_look 68 = .ok (.aload_n 0, 1) := by decide +kernel
theorem dX6_look_69 : decode cX6_look 69 = .ok (.getfield 186, 3) := by decide +kernel
theorem dX6_look_72 : decode cX6_look 72 = .ok (.ifnonnull 7, 3) := by decide +kernel
theorem dX6_look_75 : decode cX6_look 75 = .ok (.iconst (-1), 1) := by decide +kernel
theorem dX6_look_76 : decode cX6_look 76 = .ok (.goto 10, 3) := by decide +kernel
theorem dX6_look_79 : decode cX6_look 79 = .ok (.aload_n 0, 1) := by decide +kernel
theorem dX6_look_80 : decode cX6_look 80 = .ok (.getfield 186, 3) := by decide +kernel
theorem dX6_look_83 : decode cX6_look 83 = .ok (.getfield 268, 3) := by decide +kernel
theorem dX6_look_86 : decode cX6_look 86 = .ok (.ireturn, 1) := by decide +kernel
theorem dX6_look_87 : decode cX6_look 87 = .ok (.aload_n 0, 1) := by decide +kernel
theorem dX6_look_88 : decode cX6_look 88 = .ok (.getfield 24, 3) := by decide +kernel
theorem dX6_look_91 : decode cX6_look 91 = .ok (.getfield 313, 3) := by decide +kernel
theorem dX6_look_94 : decode cX6_look 94 = .ok (.ireturn, 1) := by decide +kernel
theorem dX6_look_95 : decode cX6_look 95 = .ok (.iconst (-1), 1) := by decide +kernel
theorem dX6_look_96 : decode cX6_look 96 = .ok (.ireturn, 1) := by decide +kernel
theorem dX6_countBlockedAt_0 : decode cX6_countBlockedAt 0 = .ok (.iconst 0, 1) := by decide +kernel
theorem dX6_countBlockedAt_1 : decode cX6_countBlockedAt 1 = .ok (.istore_n 2, 1) := by decide +kernel
theorem dX6_countBlockedAt_2 : decode cX6_countBlockedAt 2 = .ok (.iconst 0, 1) := by decide +kernel
theorem dX6_countBlockedAt_3 : decode cX6_countBlockedAt 3 = .ok (.istore_n 3, 1) := by decide +kernel
theorem dX6_countBlockedAt_4 : decode cX6_countBlockedAt 4 = .ok (.iload_n 3, 1) := by decide +kernel
theorem dX6_countBlockedAt_5 : decode cX6_countBlockedAt 5 = .ok (.aload_n 0, 1) := by decide +kernel
theorem dX6_countBlockedAt_6 : decode cX6_countBlockedAt 6 = .ok (.getfield 46, 3) := by decide +kernel
theorem dX6_countBlockedAt_9 : decode cX6_countBlockedAt 9 = .ok (.if_icmp .ge 28, 3) := by decide +kernel
theorem dX6_countBlockedAt_12 : decode cX6_countBlockedAt 12 = .ok (.aload_n 0, 1) := by decide +kernel
theorem dX6_countBlockedAt_13 : decode cX6_countBlockedAt 13 = .ok (.getfield 11, 3) := by decide +kernel
theorem dX6_countBlockedAt_16 : decode cX6_countBlockedAt 16 = .ok (.iload_n 3, 1) := by decide +kernel
theorem dX6_countBlockedAt_17 : decode cX6_countBlockedAt 17 = .ok (.aaload, 1) := by decide +kernel
theorem dX6_countBlockedAt_18 : decode cX6_countBlockedAt 18 = .ok (.getfield 128, 3) := by decide +kernel
theorem dX6_countBlockedAt_21 : decode cX6_countBlockedAt 21 = .ok (.getfield 257, 3) := by decide +kernel
theorem dX6_countBlockedAt_24 : decode cX6_countBlockedAt 24 = .ok (.aload_n 1, 1) := by decide +kernel
theorem dX6_countBlockedAt_25 : decode cX6_countBlockedAt 25 = .ok (.if_acmp .ne 6, 3) := by decide +kernel
theorem dX6_countBlockedAt_28 : decode cX6_countBlockedAt 28 = .ok (.iinc 2 1, 3) := by decide +kernel
theorem dX6_countBlockedAt_31 : decode cX6_countBlockedAt 31 = .ok (.iinc 3 1, 3) := by decide +kernel
theorem dX6_countBlockedAt_34 : decode cX6_countBlockedAt 34 = .ok (.goto (-30), 3) := by decide +kernel
theorem dX6_countBlockedAt_37 : decode cX6_countBlockedAt 37 = .ok (.iload_n 2, 1) := by decide +kernel
theorem dX6_countBlockedAt_38 : decode cX6_countBlockedAt 38 = .ok (.ireturn, 1) := by decide +kernel
theorem dX6_response_0 : decode cX6_response 0 = .ok (.aload_n 0, 1) := by decide +kernel
theorem dX6_response_1 : decode cX6_response 1 = .ok (.iload_n 1, 1) := by decide +kernel
theorem dX6_response_2 : decode cX6_response 2 = .ok (.invokevirtual 58, 3) := by decide +kernel
theorem dX6_response_5 : decode cX6_response 5 = .ok (.ifCond .ne 14, 3) := by decide +kernel
theorem dX6_response_8 : decode cX6_response 8 = .ok (.new 36, 3) := by decide +kernel
theorem dX6_response_11 : decode cX6_response 11 = .ok (.dup, 1) := by decide +kernel
theorem dX6_response_12 : decode cX6_response 12 = .ok (.ldc_w 316, 3) := by decide +kernel
theorem dX6_response_15 : decode cX6_response 15 = .ok (.invokespecial 40, 3) := by decide +kernel
theorem dX6_response_18 : decode cX6_response 18 = .ok (.athrow, 1) := by decide +kernel
theorem dX6_response_19 : decode cX6_response 19 = .ok (.aload_n 0, 1) := by decide +kernel
theorem dX6_response_20 : decode cX6_response 20 = .ok (.getfield 11, 3) := by decide +kernel
theorem dX6_response_23 : decode cX6_response 23 = .ok (.iload_n 1, 1) := by decide +kernel
theorem dX6_response_24 : decode cX6_response 24 = .ok (.aaload, 1) := by decide +kernel
theorem dX6_response_25 : decode cX6_response 25 = .ok (.astore_n 2, 1) := by decide +kernel
theorem dX6_response_26 : decode cX6_response 26 = .ok (.aload_n 2, 1) := by decide +kernel
theorem dX6_response_27 : decode cX6_response 27 = .ok (.getfield 81, 3) := by decide +kernel
theorem dX6_response_30 : decode cX6_response 30 = .ok (.invokevirtual 318, 3) := by decide +kernel
theorem dX6_response_33 : decode cX6_response 33 = .ok (.aload_n 0, 1) := by decide +kernel
theorem dX6_response_34 : decode cX6_response 34 = .ok (.aload_n 2, 1) := by decide +kernel
theorem dX6_response_35 : decode cX6_response 35 = .ok (.invokevirtual 321, 3) := by decide +kernel
theorem dX6_response_38 : decode cX6_response 38 = .ok (.iadd, 1) := by decide +kernel
theorem dX6_response_39 : decode cX6_response 39 = .ok (.istore_n 3, 1) := by decide +kernel
theorem dX6_response_40 : decode cX6_response 40 = .ok (.iload_n 3, 1) := by decide +kernel
theorem dX6_response_41 : decode cX6_response 41 = .ok (.istore 4, 2) := by decide +kernel
theorem dX6_response_43 : decode cX6_response 43 = .ok (.iconst 0, 1) := by decide +kernel
theorem dX6_response_44 : decode cX6_response 44 = .ok (.istore 5, 2) := by decide +kernel
theorem dX6_response_46 : decode cX6_response 46 = .ok (.iload 5, 2) := by decide +kernel
theorem dX6_response_48 : decode cX6_response 48 = .ok (.sipush 1001, 3) := by decide +kernel
theorem dX6_response_51 : decode cX6_response 51 = .ok (.if_icmp .gt 44, 3) := by decide +kernel
theorem dX6_response_54 : decode cX6_response 54 = .ok (.iload_n 3, 1) := by decide +kernel
theorem dX6_response_55 : decode cX6_response 55 = .ok (.aload_n 0, 1) := by decide +kernel
theorem dX6_response_56 : decode cX6_response 56 = .ok (.aload_n 2, 1) := by decide +kernel
theorem dX6_response_57 : decode cX6_response 57 = .ok (.iload 4, 2) := by decide +kernel
theorem dX6_response_59 : decode cX6_response 59 = .ok (.invokevirtual 324, 3) := by decide +kernel
theorem dX6_response_62 : decode cX6_response 62 = .ok (.iadd, 1) := by decide +kernel
theorem dX6_response_63 : decode cX6_response 63 = .ok (.istore 6, 2) := by decide +kernel
theorem dX6_response_65 : decode cX6_response 65 = .ok (.iload 6, 2) := by decide +kernel
theorem dX6_response_67 : decode cX6_response 67 = .ok (.sipush 1000, 3) := by decide +kernel
theorem dX6_response_70 : decode cX6_response 70 = .ok (.if_icmp .le 5, 3) := by decide +kernel
theorem dX6_response_73 : decode cX6_response 73 = .ok (.iconst (-1), 1) := by decide +kernel
theorem dX6_response_74 : decode cX6_response 74 = .ok (.ireturn, 1) := by decide +kernel
theorem dX6_response_75 : decode cX6_response 75 = .ok (.iload 6, 2) := by decide +kernel
theorem dX6_response_77 : decode cX6_response 77 = .ok (.iload 4, 2) := by decide +kernel
theorem dX6_response_79 : decode cX6_response 79 = .ok (.if_icmp .ne 6, 3) := by decide +kernel
theorem dX6_response_82 : decode cX6_response 82 = .ok (.iload 4, 2) := by decide +kernel
theorem dX6_response_84 : decode cX6_response 84 = .ok (.ireturn, 1) := by decide +kernel
theorem dX6_response_85 : decode cX6_response 85 = .ok (.iload 6, 2) := by decide +kernel
theorem dX6_response_87 : decode cX6_response 87 = .ok (.istore 4, 2) := by decide +kernel
theorem dX6_response_89 : decode cX6_response 89 = .ok (.iinc 5 1, 3) := by decide +kernel
theorem dX6_response_92 : decode cX6_response 92 = .ok (.goto (-46), 3) := by decide +kernel
theorem dX6_response_95 : decode cX6_response 95 = .ok (.iconst (-1), 1) := by decide +kernel
theorem dX6_response_96 : decode cX6_response 96 = .ok (.ireturn, 1) := by decide +kernel
theorem dX6_load_0 : decode cX6_load 0 = .ok (.dconst 0, 1) := by decide +kernel
theorem dX6_load_1 : decode cX6_load 1 = .ok (.dstore_n 1, 1) := by decide +kernel
theorem dX6_load_2 : decode cX6_load 2 = .ok (.iconst 0, 1) := by decide +kernel
theorem dX6_load_3 : decode cX6_load 3 = .ok (.istore_n 3, 1) := by decide +kernel
theorem dX6_load_4 : decode cX6_load 4 = .ok (.iload_n 3, 1) := by decide +kernel
theorem dX6_load_5 : decode cX6_load 5 = .ok (.aload_n 0, 1) := by decide +kernel
theorem dX6_load_6 : decode cX6_load 6 = .ok (.getfield 46, 3) := by decide +kernel
theorem dX6_load_9 : decode cX6_load 9 = .ok (.if_icmp .ge 44, 3) := by decide +kernel
theorem dX6_load_12 : decode cX6_load 12 = .ok (.aload_n 0, 1) := by decide +kernel
theorem dX6_load_13 : decode cX6_load 13 = .ok (.getfield 11, 3) := by decide +kernel
theorem dX6_load_16 : decode cX6_load 16 = .ok (.iload_n 3, 1) := by decide +kernel
theorem dX6_load_17 : decode cX6_load 17 = .ok (.aaload, 1) := by decide +kernel
theorem dX6_load_18 : decode cX6_load 18 = .ok (.astore 4, 2) := by decide +kernel
theorem dX6_load_20 : decode cX6_load 20 = .ok (.aload 4, 2) := by decide +kernel
theorem dX6_load_22 : decode cX6_load 22 = .ok (.getfield 101, 3) := by decide +kernel
theorem dX6_load_25 : decode cX6_load 25 = .ok (.ifCond .le 22, 3) := by decide +kernel
theorem dX6_load_28 : decode cX6_load 28 = .ok (.dload_n 1, 1) := by decide +kernel
theorem dX6_load_29 : decode cX6_load 29 = .ok (.aload 4, 2) := by decide +kernel
theorem dX6_load_31 : decode cX6_load 31 = .ok (.getfield 81, 3) := by decide +kernel
theorem dX6_load_34 : decode cX6_load 34 = .ok (.invokevirtual 318, 3) := by decide +kernel
theorem dX6_load_37 : decode cX6_load 37 = .ok (.i2d, 1) := by decide +kernel
theorem dX6_load_38 : decode cX6_load 38 = .ok (.aload 4, 2) := by decide +kernel
theorem dX6_load_40 : decode cX6_load 40 = .ok (.getfield 101, 3) := by decide +kernel
theorem dX6_load_43 : decode cX6_load 43 = .ok (.i2d, 1) := by decide +kernel
theorem dX6_load_44 : decode cX6_load 44 = .ok (.ddiv, 1) := by decide +kernel
theorem dX6_load_45 : decode cX6_load 45 = .ok (.dadd, 1) := by decide +kernel
theorem dX6_load_46 : decode cX6_load 46 = .ok (.dstore_n 1, 1) := by decide +kernel
theorem dX6_load_47 : decode cX6_load 47 = .ok (.iinc 3 1, 3) := by decide +kernel
theorem dX6_load_50 : decode cX6_load 50 = .ok (.goto (-46), 3) := by decide +kernel
theorem dX6_load_53 : decode cX6_load 53 = .ok (.dload_n 1, 1) := by decide +kernel
theorem dX6_load_54 : decode cX6_load 54 = .ok (.dreturn, 1) := by decide +kernel
theorem dX6_blockingOf_0 : decode cX6_blockingOf 0 = .ok (.iconst 0, 1) := by decide +kernel
theorem dX6_blockingOf_1 : decode cX6_blockingOf 1 = .ok (.istore_n 2, 1) := by decide +kernel
theorem dX6_blockingOf_2 : decode cX6_blockingOf 2 = .ok (.iconst 0, 1) := by decide +kernel
theorem dX6_blockingOf_3 : decode cX6_blockingOf 3 = .ok (.istore_n 3, 1) := by decide +kernel
theorem dX6_blockingOf_4 : decode cX6_blockingOf 4 = .ok (.iload_n 3, 1) := by decide +kernel
theorem dX6_blockingOf_5 : decode cX6_blockingOf 5 = .ok (.aload_n 0, 1) := by decide +kernel
theorem dX6_blockingOf_6 : decode cX6_blockingOf 6 = .ok (.getfield 67, 3) := by decide +kernel
theorem dX6_blockingOf_9 : decode cX6_blockingOf 9 = .ok (.if_icmp .ge 35, 3) := by decide +kernel
theorem dX6_blockingOf_12 : decode cX6_blockingOf 12 = .ok (.aload_n 0, 1) := by decide +kernel
theorem dX6_blockingOf_13 : decode cX6_blockingOf 13 = .ok (.iload_n 3, 1) := by decide +kernel
theorem dX6_blockingOf_14 : decode cX6_blockingOf 14 = .ok (.invokevirtual 305, 3) := by decide +kernel
theorem dX6_blockingOf_17 : decode cX6_blockingOf 17 = .ok (.aload_n 1, 1) := by decide +kernel
theorem dX6_blockingOf_18 : decode cX6_blockingOf 18 = .ok (.getfield 238, 3) := by decide +kernel
theorem dX6_blockingOf_21 : decode cX6_blockingOf 21 = .ok (.if_icmp .lt 17, 3) := by decide +kernel
theorem dX6_blockingOf_24 : decode cX6_blockingOf 24 = .ok (.iload_n 2, 1) := by decide +kernel
theorem dX6_blockingOf_25 : decode cX6_blockingOf 25 = .ok (.aload_n 0, 1) := by decide +kernel
theorem dX6_blockingOf_26 : decode cX6_blockingOf 26 = .ok (.aload_n 1, 1) := by decide +kernel
theorem dX6_blockingOf_27 : decode cX6_blockingOf 27 = .ok (.getfield 238, 3) := by decide +kernel
theorem dX6_blockingOf_30 : decode cX6_blockingOf 30 = .ok (.iload_n 3, 1) := by decide +kernel
theorem dX6_blockingOf_31 : decode cX6_blockingOf 31 = .ok (.invokevirtual 328, 3) := by decide +kernel
theorem dX6_blockingOf_34 : decode cX6_blockingOf 34 = .ok (.invokestatic 331, 3) := by decide +kernel
theorem dX6_blockingOf_37 : decode cX6_blockingOf 37 = .ok (.istore_n 2, 1) := by decide +kernel
theorem dX6_blockingOf_38 : decode cX6_blockingOf 38 = .ok (.iinc 3 1, 3) := by decide +kernel
theorem dX6_blockingOf_41 : decode cX6_blockingOf 41 = .ok (.goto (-37), 3) := by decide +kernel
theorem dX6_blockingOf_44 : decode cX6_blockingOf 44 = .ok (.iload_n 2, 1) := by decide +kernel
theorem dX6_blockingOf_45 : decode cX6_blockingOf 45 = .ok (.ireturn, 1) := by decide +kernel
theorem dX6_greatestSectionBelow_0 : decode cX6_greatestSectionBelow 0 = .ok (.iconst 0, 1) := by decide +kernel
theorem dX6_greatestSectionBelow_1 : decode cX6_greatestSectionBelow 1 = .ok (.istore_n 3, 1) := by decide +kernel
theorem dX6_greatestSectionBelow_2 : decode cX6_greatestSectionBelow 2 = .ok (.iconst 0, 1) := by decide +kernel
theorem dX6_greatestSectionBelow_3 : decode cX6_greatestSectionBelow 3 = .ok (.istore 4, 2) := by decide +kernel
theorem dX6_greatestSectionBelow_5 : decode cX6_greatestSectionBelow 5 = .ok (.iload 4, 2) := by decide +kernel
theorem dX6_greatestSectionBelow_7 : decode cX6_greatestSectionBelow 7 = .ok (.aload_n 0, 1) := by decide +kernel
theorem dX6_greatestSectionBelow_8 : decode cX6_greatestSectionBelow 8 = .ok (.getfield 46, 3) := by decide +kernel
theorem dX6_greatestSectionBelow_11 : decode cX6_greatestSectionBelow 11 = .ok (.if_icmp .ge 42, 3) := by decide +kernel
theorem dX6_greatestSectionBelow_14 : decode cX6_greatestSectionBelow 14 = .ok (.aload_n 0, 1) := by decide +kernel
theorem dX6_greatestSectionBelow_15 : decode cX6_greatestSectionBelow 15 = .ok (.getfield 11, 3) := by decide +kernel
theorem dX6_greatestSectionBelow_18 : decode cX6_greatestSectionBelow 18 = .ok (.iload 4, 2) := by decide +kernel
theorem dX6_greatestSectionBelow_20 : decode cX6_greatestSectionBelow 20 = .ok (.aaload, 1) := by decide +kernel
theorem dX6_greatestSectionBelow_21 : decode cX6_greatestSectionBelow 21 = .ok (.getfield 238, 3) := by decide +kernel
theorem dX6_greatestSectionBelow_24 : decode cX6_greatestSectionBelow 24 = .ok (.iload_n 1, 1) := by decide +kernel
theorem dX6_greatestSectionBelow_25 : decode cX6_greatestSectionBelow 25 = .ok (.if_icmp .ge 22, 3) := by decide +kernel
theorem dX6_greatestSectionBelow_28 : decode cX6_greatestSectionBelow 28 = .ok (.iload_n 3, 1) := by decide +kernel
theorem dX6_greatestSectionBelow_29 : decode cX6_greatestSectionBelow 29 = .ok (.aload_n 0, 1) := by decide +kernel
theorem dX6_greatestSectionBelow_30 : decode cX6_greatestSectionBelow 30 = .ok (.getfield 11, 3) := by decide +kernel
theorem dX6_greatestSectionBelow_33 : decode cX6_greatestSectionBelow 33 = .ok (.iload 4, 2) := by decide +kernel
theorem dX6_greatestSectionBelow_35 : decode cX6_greatestSectionBelow 35 = .ok (.aaload, 1) := by decide +kernel
theorem dX6_greatestSectionBelow_36 : decode cX6_greatestSectionBelow 36 = .ok (.getfield 81, 3) := by decide +kernel
theorem dX6_greatestSectionBelow_39 : decode cX6_greatestSectionBelow 39 = .ok (.iload_n 2, 1) := by decide +kernel
theorem dX6_greatestSectionBelow_40 : decode cX6_greatestSectionBelow 40 = .ok (.invokevirtual 336, 3) := by decide +kernel
theorem dX6_greatestSectionBelow_43 : decode cX6_greatestSectionBelow 43 = .ok (.invokestatic 331, 3) := by decide +kernel
theorem dX6_greatestSectionBelow_46 : decode cX6_greatestSectionBelow 46 = .ok (.istore_n 3, 1) := by decide +kernel
theorem dX6_greatestSectionBelow_47 : decode cX6_greatestSectionBelow 47 = .ok (.iinc 4 1, 3) := by decide +kernel
theorem dX6_greatestSectionBelow_50 : decode cX6_greatestSectionBelow 50 = .ok (.goto (-45), 3) := by decide +kernel
theorem dX6_greatestSectionBelow_53 : decode cX6_greatestSectionBelow 53 = .ok (.iload_n 3, 1) := by decide +kernel
theorem dX6_greatestSectionBelow_54 : decode cX6_greatestSectionBelow 54 = .ok (.ireturn, 1) := by decide +kernel
theorem dX6_interferenceWith_0 : decode cX6_interferenceWith 0 = .ok (.iconst 0, 1) := by decide +kernel
theorem dX6_interferenceWith_1 : decode cX6_interferenceWith 1 = .ok (.istore_n 3, 1) := by decide +kernel
theorem dX6_interferenceWith_2 : decode cX6_interferenceWith 2 = .ok (.iconst 0, 1) := by decide +kernel
theorem dX6_interferenceWith_3 : decode cX6_interferenceWith 3 = .ok (.istore 4, 2) := by decide +kernel
theorem dX6_interferenceWith_5 : decode cX6_interferenceWith 5 = .ok (.iload 4, 2) := by decide +kernel
theorem dX6_interferenceWith_7 : decode cX6_interferenceWith 7 = .ok (.aload_n 0, 1) := by decide +kernel
theorem dX6_interferenceWith_8 : decode cX6_interferenceWith 8 = .ok (.getfield 46, 3) := by decide +kernel
theorem dX6_interferenceWith_11 : decode cX6_interferenceWith 11 = .ok (.if_icmp .ge 71, 3) := by decide +kernel
theorem dX6_interferenceWith_14 : decode cX6_interferenceWith 14 = .ok (.aload_n 0, 1) := by decide +kernel
theorem dX6_interferenceWith_15 : decode cX6_interferenceWith 15 = .ok (.getfield 11, 3) := by decide +kernel
theorem dX6_interferenceWith_18 : decode cX6_interferenceWith 18 = .ok (.iload 4, 2) := by decide +kernel
theorem dX6_interferenceWith_20 : decode cX6_interferenceWith 20 = .ok (.aaload, 1) := by decide +kernel
theorem dX6_interferenceWith_21 : decode cX6_interferenceWith 21 = .ok (.astore 5, 2) := by decide +kernel
theorem dX6_interferenceWith_23 : decode cX6_interferenceWith 23 = .ok (.aload 5, 2) := by decide +kernel
theorem dX6_interferenceWith_25 : decode cX6_interferenceWith 25 = .ok (.aload_n 1, 1) := by decide +kernel
theorem dX6_interferenceWith_26 : decode cX6_interferenceWith 26 = .ok (.if_acmp .eq 50, 3) := by decide +kernel
theorem dX6_interferenceWith_29 : decode cX6_interferenceWith 29 = .ok (.aload 5, 2) := by decide +kernel
theorem dX6_interferenceWith_31 : decode cX6_interferenceWith 31 = .ok (.getfield 101, 3) := by decide +kernel
theorem dX6_interferenceWith_34 : decode cX6_interferenceWith 34 = .ok (.ifCond .le 42, 3) := by decide +kernel
theorem dX6_interferenceWith_37 : decode cX6_interferenceWith 37 = .ok (.aload 5, 2) := by decide +kernel
theorem dX6_interferenceWith_39 : decode cX6_interferenceWith 39 = .ok (.getfield 238, 3) := by decide +kernel
theorem dX6_interferenceWith_42 : decode cX6_interferenceWith 42 = .ok (.aload_n 1, 1) := by decide +kernel
theorem dX6_interferenceWith_43 : decode cX6_interferenceWith 43 = .ok (.getfield 238, 3) := by decide +kernel
theorem dX6_interferenceWith_46 : decode cX6_interferenceWith 46 = .ok (.if_icmp .lt 30, 3) := by decide +kernel
theorem dX6_interferenceWith_49 : decode cX6_interferenceWith 49 = .ok (.iload_n 3, 1) := by decide +kernel
theorem dX6_interferenceWith_50 : decode cX6_interferenceWith 50 = .ok (.iload_n 2, 1) := by decide +kernel
theorem dX6_interferenceWith_51 : decode cX6_interferenceWith 51 = .ok (.aload 5, 2) := by decide +kernel
theorem dX6_interferenceWith_53 : decode cX6_interferenceWith 53 = .ok (.getfield 101, 3) := by decide +kernel
theorem dX6_interferenceWith_56 : decode cX6_interferenceWith 56 = .ok (.iadd, 1) := by decide +kernel
theorem dX6_interferenceWith_57 : decode cX6_interferenceWith 57 = .ok (.iconst 1, 1) := by decide +kernel
theorem dX6_interferenceWith_58 : decode cX6_interferenceWith 58 = .ok (.isub, 1) := by decide +kernel
theorem dX6_interferenceWith_59 : decode cX6_interferenceWith 59 = .ok (.aload 5, 2) := by decide +kernel
theorem dX6_interferenceWith_61 : decode cX6_interferenceWith 61 = .ok (.getfield 101, 3) := by decide +kernel
theorem dX6_interferenceWith_64 : decode cX6_interferenceWith 64 = .ok (.idiv, 1) := by decide +kernel
theorem dX6_interferenceWith_65 : decode cX6_interferenceWith 65 = .ok (.aload 5, 2) := by decide +kernel
theorem dX6_interferenceWith_67 : decode cX6_interferenceWith 67 = .ok (.getfield 81, 3) := by decide +kernel
theorem dX6_interferenceWith_70 : decode cX6_interferenceWith 70 = .ok (.invokevirtual 318, 3) := by decide +kernel
theorem dX6_interferenceWith_73 : decode cX6_interferenceWith 73 = .ok (.imul, 1) := by decide +kernel
theorem dX6_interferenceWith_74 : decode cX6_interferenceWith 74 = .ok (.iadd, 1) := by decide +kernel
theorem dX6_interferenceWith_75 : decode cX6_interferenceWith 75 = .ok (.istore_n 3, 1) := by decide +kernel
theorem dX6_interferenceWith_76 : decode cX6_interferenceWith 76 = .ok (.iinc 4 1, 3) := by decide +kernel
theorem dX6_interferenceWith_79 : decode cX6_interferenceWith 79 = .ok (.goto (-74), 3) := by decide +kernel
theorem dX6_interferenceWith_82 : decode cX6_interferenceWith 82 = .ok (.iload_n 3, 1) := by decide +kernel
theorem dX6_interferenceWith_83 : decode cX6_interferenceWith 83 = .ok (.ireturn, 1) := by decide +kernel
theorem dX6_ceilOf_0 : decode cX6_ceilOf 0 = .ok (.iconst 0, 1) := by decide +kernel
theorem dX6_ceilOf_1 : decode cX6_ceilOf 1 = .ok (.istore_n 2, 1) := by decide +kernel
theorem dX6_ceilOf_2 : decode cX6_ceilOf 2 = .ok (.iconst 0, 1) := by decide +kernel
theorem dX6_ceilOf_3 : decode cX6_ceilOf 3 = .ok (.istore_n 3, 1) := by decide +kernel
theorem dX6_ceilOf_4 : decode cX6_ceilOf 4 = .ok (.iload_n 3, 1) := by decide +kernel
theorem dX6_ceilOf_5 : decode cX6_ceilOf 5 = .ok (.aload_n 0, 1) := by decide +kernel
theorem dX6_ceilOf_6 : decode cX6_ceilOf 6 = .ok (.getfield 46, 3) := by decide +kernel
theorem dX6_ceilOf_9 : decode cX6_ceilOf 9 = .ok (.if_icmp .ge 39, 3) := by decide +kernel
theorem dX6_ceilOf_12 : decode cX6_ceilOf 12 = .ok (.aload_n 0, 1) := by decide +kernel
theorem dX6_ceilOf_13 : decode cX6_ceilOf 13 = .ok (.getfield 11, 3) := by decide +kernel
theorem dX6_ceilOf_16 : decode cX6_ceilOf 16 = .ok (.iload_n 3, 1) := by decide +kernel
theorem dX6_ceilOf_17 : decode cX6_ceilOf 17 = .ok (.aaload, 1) := by decide +kernel
theorem dX6_ceilOf_18 : decode cX6_ceilOf 18 = .ok (.getfield 81, 3) := by decide +kernel
theorem dX6_ceilOf_21 : decode cX6_ceilOf 21 = .ok (.iload_n 1, 1) := by decide +kernel
theorem dX6_ceilOf_22 : decode cX6_ceilOf 22 = .ok (.invokevirtual 339, 3) := by decide +kernel
theorem dX6_ceilOf_25 : decode cX6_ceilOf 25 = .ok (.ifCond .eq 17, 3) := by decide +kernel
theorem dX6_ceilOf_28 : decode cX6_ceilOf 28 = .ok (.iload_n 2, 1) := by decide +kernel
theorem dX6_ceilOf_29 : decode cX6_ceilOf 29 = .ok (.aload_n 0, 1) := by decide +kernel
theorem dX6_ceilOf_30 : decode cX6_ceilOf 30 = .ok (.getfield 11, 3) := by decide +kernel
theorem dX6_ceilOf_33 : decode cX6_ceilOf 33 = .ok (.iload_n 3, 1) := by decide +kernel
theorem dX6_ceilOf_34 : decode cX6_ceilOf 34 = .ok (.aaload, 1) := by decide +kernel
theorem dX6_ceilOf_35 : decode cX6_ceilOf 35 = .ok (.getfield 238, 3) := by decide +kernel
theorem dX6_ceilOf_38 : decode cX6_ceilOf 38 = .ok (.invokestatic 331, 3) := by decide +kernel
theorem dX6_ceilOf_41 : decode cX6_ceilOf 41 = .ok (.istore_n 2, 1) := by decide +kernel
theorem dX6_ceilOf_42 : decode cX6_ceilOf 42 = .ok (.iinc 3 1, 3) := by decide +kernel
theorem dX6_ceilOf_45 : decode cX6_ceilOf 45 = .ok (.goto (-41), 3) := by decide +kernel
theorem dX6_ceilOf_48 : decode cX6_ceilOf 48 = .ok (.iload_n 2, 1) := by decide +kernel
theorem dX6_ceilOf_49 : decode cX6_ceilOf 49 = .ok (.ireturn, 1) := by decide +kernel
end
section
theorem dX7_init_0 : decode cX7_init 0 = .ok (.aload_n 0, 1) := by decide +kernel
theorem dX7_init_1 : decode cX7_init 1 = .ok (.invokespecial 1, 3) := by decide +kernel
theorem dX7_init_4 : decode cX7_init 4 = .ok (.aload_n 0, 1) := by decide +kernel
theorem dX7_init_5 : decode cX7_init 5 = .ok (.iconst (-1), 1) := by decide +kernel
theorem dX7_init_6 : decode cX7_init 6 = .ok (.putfield 7, 3) := by decide +kernel
theorem dX7_init_9 : decode cX7_init 9 = .ok (.aload_n 0, 1) := by decide +kernel
theorem dX7_init_10 : decode cX7_init 10 = .ok (.bipush 8, 2) := by decide +kernel
theorem dX7_init_12 : decode cX7_init 12 = .ok (.newarray .int, 2) := by decide +kernel
theorem dX7_init_14 : decode cX7_init 14 = .ok (.putfield 13, 3) := by decide +kernel
theorem dX7_init_17 : decode cX7_init 17 = .ok (.aload_n 0, 1) := by decide +kernel
theorem dX7_init_18 : decode cX7_init 18 = .ok (.bipush 8, 2) := by decide +kernel
theorem dX7_init_20 : decode cX7_init 20 = .ok (.newarray .int, 2) := by decide +kernel
theorem dX7_init_22 : decode cX7_init 22 = .ok (.putfield 17, 3) := by decide +kernel
theorem dX7_init_25 : decode cX7_init 25 = .ok (.aload_n 0, 1) := by decide +kernel
theorem dX7_init_26 : decode cX7_init 26 = .ok (.bipush 8, 2) := by decide +kernel
theorem dX7_init_28 : decode cX7_init 28 = .ok (.newarray .int, 2) := by decide +kernel
theorem dX7_init_30 : decode cX7_init 30 = .ok (.putfield 20, 3) := by decide +kernel
theorem dX7_init_33 : decode cX7_init 33 = .ok (.aload_n 0, 1) := by decide +kernel
theorem dX7_init_34 : decode cX7_init 34 = .ok (.bipush 8, 2) := by decide +kernel
theorem dX7_init_36 : decode cX7_init 36 = .ok (.newarray .int, 2) := by decide +kernel
theorem dX7_init_38 : decode cX7_init 38 = .ok (.putfield 23, 3) := by decide +kernel
theorem dX7_init_41 : decode cX7_init 41 = .ok (.aload_n 0, 1) := by decide +kernel
theorem dX7_init_42 : decode cX7_init 42 = .ok (.bipush 8, 2) := by decide +kernel
theorem dX7_init_44 : decode cX7_init 44 = .ok (.newarray .int, 2) := by decide +kernel
theorem dX7_init_46 : decode cX7_init 46 = .ok (.putfield 26, 3) := by decide +kernel
theorem dX7_init_49 : decode cX7_init 49 = .ok (.aload_n 0, 1) := by decide +kernel
theorem dX7_init_50 : decode cX7_init 50 = .ok (.bipush 8, 2) := by decide +kernel
theorem dX7_init_52 : decode cX7_init 52 = .ok (.newarray .boolean, 2) := by decide +kernel
theorem dX7_init_54 : decode cX7_init 54 = .ok (.putfield 29, 3) := by decide +kernel
theorem dX7_init_57 : decode cX7_init 57 = .ok (.aload_n 0, 1) := by decide +kernel
theorem dX7_init_58 : decode cX7_init 58 = .ok (.bipush 8, 2) := by decide +kernel
theorem dX7_init_60 : decode cX7_init 60 = .ok (.newarray .int, 2) := by decide +kernel
theorem dX7_init_62 : decode cX7_init 62 = .ok (.putfield 33, 3) := by decide +kernel
theorem dX7_init_65 : decode cX7_init 65 = .ok (.aload_n 0, 1) := by decide +kernel
theorem dX7_init_66 : decode cX7_init 66 = .ok (.bipush 80, 2) := by decide +kernel
theorem dX7_init_68 : decode cX7_init 68 = .ok (.newarray .int, 2) := by decide +kernel
theorem dX7_init_70 : decode cX7_init 70 = .ok (.putfield 36, 3) := by decide +kernel
theorem dX7_init_73 : decode cX7_init 73 = .ok (.aload_n 0, 1) := by decide +kernel
theorem dX7_init_74 : decode cX7_init 74 = .ok (.bipush 80, 2) := by decide +kernel
theorem dX7_init_76 : decode cX7_init 76 = .ok (.newarray .int, 2) := by decide +kernel
theorem dX7_init_78 : decode cX7_init 78 = .ok (.putfield 39, 3) := by decide +kernel
theorem dX7_init_81 : decode cX7_init 81 = .ok (.aload_n 0, 1) := by decide +kernel
theorem dX7_init_82 : decode cX7_init 82 = .ok (.bipush 8, 2) := by decide +kernel
theorem dX7_init_84 : decode cX7_init 84 = .ok (.newarray .int, 2) := by decide +kernel
theorem dX7_init_86 : decode cX7_init 86 = .ok (.putfield 42, 3) := by decide +kernel
theorem dX7_init_89 : decode cX7_init 89 = .ok (.aload_n 0, 1) := by decide +kernel
theorem dX7_init_90 : decode cX7_init 90 = .ok (.bipush 8, 2) := by decide +kernel
theorem dX7_init_92 : decode cX7_init 92 = .ok (.newarray .int, 2) := by decide +kernel
theorem dX7_init_94 : decode cX7_init 94 = .ok (.putfield 45, 3) := by decide +kernel
theorem dX7_init_97 : decode cX7_init 97 = .ok (.aload_n 0, 1) := by decide +kernel
theorem dX7_init_98 : decode cX7_init 98 = .ok (.bipush 8, 2) := by decide +kernel
theorem dX7_init_100 : decode cX7_init 100 = .ok (.newarray .int, 2) := by decide +kernel
theorem dX7_init_102 : decode cX7_init 102 = .ok (.putfield 48, 3) := by decide +kernel
theorem dX7_init_105 : decode cX7_init 105 = .ok (.aload_n 0, 1) := by decide +kernel
theorem dX7_init_106 : decode cX7_init 106 = .ok (.bipush 8, 2) := by decide +kernel
theorem dX7_init_108 : decode cX7_init 108 = .ok (.newarray .int, 2) := by decide +kernel
theorem dX7_init_110 : decode cX7_init 110 = .ok (.putfield 51, 3) := by decide +kernel
theorem dX7_init_113 : decode cX7_init 113 = .ok (.aload_n 0, 1) := by decide +kernel
theorem dX7_init_114 : decode cX7_init 114 = .ok (.bipush 8, 2) := by decide +kernel
theorem dX7_init_116 : decode cX7_init 116 = .ok (.newarray .int, 2) := by decide +kernel
theorem dX7_init_118 : decode cX7_init 118 = .ok (.putfield 54, 3) := by decide +kernel
theorem dX7_init_121 : decode cX7_init 121 = .ok (.aload_n 0, 1) := by decide +kernel
theorem dX7_init_122 : decode cX7_init 122 = .ok (.bipush 8, 2) := by decide +kernel
theorem dX7_init_124 : decode cX7_init 124 = .ok (.newarray .int, 2) := by decide +kernel
theorem dX7_init_126 : decode cX7_init 126 = .ok (.putfield 57, 3) := by decide +kernel
theorem dX7_init_129 : decode cX7_init 129 = .ok (.aload_n 0, 1) := by decide +kernel
theorem dX7_init_130 : decode cX7_init 130 = .ok (.bipush 8, 2) := by decide +kernel
theorem dX7_init_132 : decode cX7_init 132 = .ok (.newarray .int, 2) := by decide +kernel
theorem dX7_init_134 : decode cX7_init 134 = .ok (.putfield 60, 3) := by decide +kernel
theorem dX7_init_137 : decode cX7_init 137 = .ok (.aload_n 0, 1) := by decide +kernel
theorem dX7_init_138 : decode cX7_init 138 = .ok (.bipush 8, 2) := by decide +kernel
theorem dX7_init_140 : decode cX7_init 140 = .ok (.newarray .int, 2) := by decide +kernel
theorem dX7_init_142 : decode cX7_init 142 = .ok (.putfield 63, 3) := by decide +kernel
theorem dX7_init_145 : decode cX7_init 145 = .ok (.aload_n 0, 1) := by decide +kernel
theorem dX7_init_146 : decode cX7_init 146 = .ok (.bipush 8, 2) := by decide +kernel
theorem dX7_init_148 : decode cX7_init 148 = .ok (.newarray .int, 2) := by decide +kernel
theorem dX7_init_150 : decode cX7_init 150 = .ok (.putfield 66, 3) := by decide +kernel
theorem dX7_init_153 : decode cX7_init 153 = .ok (.aload_n 0, 1) := by decide +kernel
theorem dX7_init_154 : decode cX7_init 154 = .ok (.bipush 8, 2) := by decide +kernel
theorem dX7_init_156 : decode cX7_init 156 = .ok (.newarray .int, 2) := by decide +kernel
theorem dX7_init_158 : decode cX7_init 158 = .ok (.putfield 69, 3) := by decide +kernel
theorem dX7_init_161 : decode cX7_init 161 = .ok (.aload_n 0, 1) := by decide +kernel
theorem dX7_init_162 : decode cX7_init 162 = .ok (.bipush 8, 2) := by decide +kernel
theorem dX7_init_164 : decode cX7_init 164 = .ok (.newarray .int, 2) := by decide +kernel
theorem dX7_init_166 : decode cX7_init 166 = .ok (.putfield 72, 3) := by decide +kernel
theorem dX7_init_169 : decode cX7_init 169 = .ok (.aload_n 0, 1) := by decide +kernel
theorem dX7_init_170 : decode cX7_init 170 = .ok (.bipush 8, 2) := by decide +kernel
theorem dX7_init_172 : decode cX7_init 172 = .ok (.newarray .int, 2) := by decide +kernel
theorem dX7_init_174 : decode cX7_init 174 = .ok (.putfield 75, 3) := by decide +kernel
theorem dX7_init_177 : decode cX7_init 177 = .ok (.aload_n 0, 1) := by decide +kernel
theorem dX7_init_178 : decode cX7_init 178 = .ok (.bipush 8, 2) := by decide +kernel
theorem dX7_init_180 : decode cX7_init 180 = .ok (.newarray .int, 2) := by decide +kernel
theorem dX7_init_182 : decode cX7_init 182 = .ok (.putfield 78, 3) := by decide +kernel
theorem dX7_init_185 : decode cX7_init 185 = .ok (.aload_n 0, 1) := by decide +kernel
theorem dX7_init_186 : decode cX7_init 186 = .ok (.bipush 8, 2) := by decide +kernel
theorem dX7_init_188 : decode cX7_init 188 = .ok (.newarray .int, 2) := by decide +kernel
theorem dX7_init_190 : decode cX7_init 190 = .ok (.putfield 81, 3) := by decide +kernel
theorem dX7_init_193 : decode cX7_init 193 = .ok (.aload_n 0, 1) := by decide +kernel
theorem dX7_init_194 : decode cX7_init 194 = .ok (.bipush 8, 2) := by decide +kernel
theorem dX7_init_196 : decode cX7_init 196 = .ok (.newarray .int, 2) := by decide +kernel
theorem dX7_init_198 : decode cX7_init 198 = .ok (.putfield 84, 3) := by decide +kernel
theorem dX7_init_201 : decode cX7_init 201 = .ok (.aload_n 0, 1) := by decide +kernel
theorem dX7_init_202 : decode cX7_init 202 = .ok (.iconst 4, 1) := by decide +kernel
theorem dX7_init_203 : decode cX7_init 203 = .ok (.newarray .int, 2) := by decide +kernel
theorem dX7_init_205 : decode cX7_init 205 = .ok (.putfield 87, 3) := by decide +kernel
theorem dX7_init_208 : decode cX7_init 208 = .ok (.aload_n 0, 1) := by decide +kernel
theorem dX7_init_209 : decode cX7_init 209 = .ok (.iconst 4, 1) := by decide +kernel
theorem dX7_init_210 : decode cX7_init 210 = .ok (.newarray .int, 2) := by decide +kernel
theorem dX7_init_212 : decode cX7_init 212 = .ok (.putfield 90, 3) := by decide +kernel
theorem dX7_init_215 : decode cX7_init 215 = .ok (.aload_n 0, 1) := by decide +kernel
theorem dX7_init_216 : decode cX7_init 216 = .ok (.iconst 4, 1) := by decide +kernel
theorem dX7_init_217 : decode cX7_init 217 = .ok (.newarray .int, 2) := by decide +kernel
theorem dX7_init_219 : decode cX7_init 219 = .ok (.putfield 93, 3) := by decide +kernel
theorem dX7_init_222 : decode cX7_init 222 = .ok (.aload_n 0, 1) := by decide +kernel
theorem dX7_init_223 : decode cX7_init 223 = .ok (.bipush 40, 2) := by decide +kernel
theorem dX7_init_225 : decode cX7_init 225 = .ok (.newarray .int, 2) := by decide +kernel
theorem dX7_init_227 : decode cX7_init 227 = .ok (.putfield 96, 3) := by decide +kernel
theorem dX7_init_230 : decode cX7_init 230 = .ok (.aload_n 0, 1) := by decide +kernel
theorem dX7_init_231 : decode cX7_init 231 = .ok (.bipush 40, 2) := by decide +kernel
theorem dX7_init_233 : decode cX7_init 233 = .ok (.newarray .int, 2) := by decide +kernel
theorem dX7_init_235 : decode cX7_init 235 = .ok (.putfield 99, 3) := by decide +kernel
theorem dX7_init_238 : decode cX7_init 238 = .ok (.aload_n 0, 1) := by decide +kernel
theorem dX7_init_239 : decode cX7_init 239 = .ok (.bipush 40, 2) := by decide +kernel
theorem dX7_init_241 : decode cX7_init 241 = .ok (.newarray .int, 2) := by decide +kernel
theorem dX7_init_243 : decode cX7_init 243 = .ok (.putfield 102, 3) := by decide +kernel
theorem dX7_init_246 : decode cX7_init 246 = .ok (.aload_n 0, 1) := by decide +kernel
theorem dX7_init_247 : decode cX7_init 247 = .ok (.iload_n 1, 1) := by decide +kernel
theorem dX7_init_248 : decode cX7_init 248 = .ok (.ifCond .eq 7, 3) := by decide +kernel
theorem dX7_init_251 : decode cX7_init 251 = .ok (.iconst 1, 1) := by decide +kernel
theorem dX7_init_252 : decode cX7_init 252 = .ok (.goto 4, 3) := by decide +kernel
theorem dX7_init_255 : decode cX7_init 255 = .ok (.iconst 0, 1) := by decide +kernel
theorem dX7_init_256 : decode cX7_init 256 = .ok (.putfield 105, 3) := by decide +kernel
theorem dX7_init_259 : decode cX7_init 259 = .ok (.return_, 1) := by decide +kernel
theorem dX7_thrown_0 : decode cX7_thrown 0 = .ok (.aload_n 0, 1) := by decide +kernel
theorem dX7_thrown_1 : decode cX7_thrown 1 = .ok (.getfield 109, 3) := by decide +kernel
theorem dX7_thrown_4 : decode cX7_thrown 4 = .ok (.ireturn, 1) := by decide +kernel
theorem dX7_in_0 : decode cX7_in 0 = .ok (.iload_n 0, 1) := by decide +kernel
theorem dX7_in_1 : decode cX7_in 1 = .ok (.iload_n 1, 1) := by decide +kernel
theorem dX7_in_2 : decode cX7_in 2 = .ok (.if_icmp .lt 12, 3) := by decide +kernel
theorem dX7_in_5 : decode cX7_in 5 = .ok (.iload_n 0, 1) := by decide +kernel
theorem dX7_in_6 : decode cX7_in 6 = .ok (.iload_n 2, 1) := by decide +kernel
theorem dX7_in_7 : decode cX7_in 7 = .ok (.if_icmp .gt 7, 3) := by decide +kernel
theorem dX7_in_10 : decode cX7_in 10 = .ok (.iconst 1, 1) := by decide +kernel
theorem dX7_in_11 : decode cX7_in 11 = .ok (.goto 4, 3) := by decide +kernel
theorem dX7_in_14 : decode cX7_in 14 = .ok (.iconst 0, 1) := by decide +kernel
theorem dX7_in_15 : decode cX7_in 15 = .ok (.ireturn, 1) := by decide +kernel
theorem dX7_isTask_0 : decode cX7_isTask 0 = .ok (.iload_n 1, 1) := by decide +kernel
theorem dX7_isTask_1 : decode cX7_isTask 1 = .ok (.ifCond .lt 15, 3) := by decide +kernel
theorem dX7_isTask_4 : decode cX7_isTask 4 = .ok (.iload_n 1, 1) := by decide +kernel
theorem dX7_isTask_5 : decode cX7_isTask 5 = .ok (.aload_n 0, 1) := by decide +kernel
theorem dX7_isTask_6 : decode cX7_isTask 6 = .ok (.getfield 112, 3) := by decide +kernel
theorem dX7_isTask_9 : decode cX7_isTask 9 = .ok (.if_icmp .ge 7, 3) := by decide +kernel
theorem dX7_isTask_12 : decode cX7_isTask 12 = .ok (.iconst 1, 1) := by decide +kernel
theorem dX7_isTask_13 : decode cX7_isTask 13 = .ok (.goto 4, 3) := by decide +kernel
theorem dX7_isTask_16 : decode cX7_isTask 16 = .ok (.iconst 0, 1) := by decide +kernel
theorem dX7_isTask_17 : decode cX7_isTask 17 = .ok (.ireturn, 1) := by decide +kernel
theorem dX7_task_0 : decode cX7_task 0 = .ok (.iload_n 1, 1) := by decide +kernel
theorem dX7_task_1 : decode cX7_task 1 = .ok (.iconst 1, 1) := by decide +kernel
theorem dX7_task_2 : decode cX7_task 2 = .ok (.bipush 31, 2) := by decide +kernel
theorem dX7_task_4 : decode cX7_task 4 = .ok (.invokestatic 115, 3) := by decide +kernel
theorem dX7_task_7 : decode cX7_task 7 = .ok (.ifCond .eq 56, 3) := by decide +kernel
theorem dX7_task_10 : decode cX7_task 10 = .ok (.iload_n 2, 1) := by decide +kernel
theorem dX7_task_11 : decode cX7_task 11 = .ok (.ifCond .eq 14, 3) := by decide +kernel
theorem dX7_task_14 : decode cX7_task 14 = .ok (.iload_n 2, 1) := by decide +kernel
theorem dX7_task_15 : decode cX7_task 15 = .ok (.iconst 2, 1) := by decide +kernel
theorem dX7_task_16 : decode cX7_task 16 = .ok (.sipush 200, 3) := by decide +kernel
theorem dX7_task_19 : decode cX7_task 19 = .ok (.invokestatic 115, 3) := by decide +kernel
theorem dX7_task_22 : decode cX7_task 22 = .ok (.ifCond .eq 41, 3) := by decide +kernel
theorem dX7_task_25 : decode cX7_task 25 = .ok (.iload_n 3, 1) := by decide +kernel
theorem dX7_task_26 : decode cX7_task 26 = .ok (.iconst 0, 1) := by decide +kernel
theorem dX7_task_27 : decode cX7_task 27 = .ok (.bipush 50, 2) := by decide +kernel
theorem dX7_task_29 : decode cX7_task 29 = .ok (.invokestatic 115, 3) := by decide +kernel
theorem dX7_task_32 : decode cX7_task 32 = .ok (.ifCond .eq 31, 3) := by decide +kernel
theorem dX7_task_35 : decode cX7_task 35 = .ok (.iload 4, 2) := by decide +kernel
theorem dX7_task_37 : decode cX7_task 37 = .ok (.iconst 1, 1) := by decide +kernel
theorem dX7_task_38 : decode cX7_task 38 = .ok (.sipush 200, 3) := by decide +kernel
theorem dX7_task_41 : decode cX7_task 41 = .ok (.invokestatic 115, 3) := by decide +kernel
theorem dX7_task_44 : decode cX7_task 44 = .ok (.ifCond .eq 19, 3) := by decide +kernel
theorem dX7_task_47 : decode cX7_task 47 = .ok (.iload 5, 2) := by decide +kernel
theorem dX7_task_49 : decode cX7_task 49 = .ok (.iconst 1, 1) := by decide +kernel
theorem dX7_task_50 : decode cX7_task 50 = .ok (.sipush 200, 3) := by decide +kernel
theorem dX7_task_53 : decode cX7_task 53 = .ok (.invokestatic 115, 3) := by decide +kernel
theorem dX7_task_56 : decode cX7_task 56 = .ok (.ifCond .eq 7, 3) := by decide +kernel
theorem dX7_task_59 : decode cX7_task 59 = .ok (.iconst 1, 1) := by decide +kernel
theorem dX7_task_60 : decode cX7_task 60 = .ok (.goto 4, 3) := by decide +kernel
theorem dX7_task_63 : decode cX7_task 63 = .ok (.iconst 0, 1) := by decide +kernel
theorem dX7_task_64 : decode cX7_task 64 = .ok (.istore 6, 2) := by decide +kernel
theorem dX7_task_66 : decode cX7_task 66 = .ok (.aload_n 0, 1) := by decide +kernel
theorem dX7_task_67 : decode cX7_task 67 = .ok (.iload 6, 2) := by decide +kernel
theorem dX7_task_69 : decode cX7_task 69 = .ok (.ifCond .ne 7, 3) := by decide +kernel
theorem dX7_task_72 : decode cX7_task 72 = .ok (.iconst 1, 1) := by decide +kernel
theorem dX7_task_73 : decode cX7_task 73 = .ok (.goto 24, 3) := by decide +kernel
theorem dX7_task_76 : decode cX7_task 76 = .ok (.aload_n 0, 1) := by decide +kernel
theorem dX7_task_77 : decode cX7_task 77 = .ok (.getfield 119, 3) := by decide +kernel
theorem dX7_task_80 : decode cX7_task 80 = .ok (.ifCond .ne 12, 3) := by decide +kernel
theorem dX7_task_83 : decode cX7_task 83 = .ok (.aload_n 0, 1) := by decide +kernel
theorem dX7_task_84 : decode cX7_task 84 = .ok (.getfield 112, 3) := by decide +kernel
theorem dX7_task_87 : decode cX7_task 87 = .ok (.bipush 8, 2) := by decide +kernel
theorem dX7_task_89 : decode cX7_task 89 = .ok (.if_icmp .ne 7, 3) := by decide +kernel
theorem dX7_task_92 : decode cX7_task 92 = .ok (.iconst 2, 1) := by decide +kernel
theorem dX7_task_93 : decode cX7_task 93 = .ok (.goto 4, 3) := by decide +kernel
theorem dX7_task_96 : decode cX7_task 96 = .ok (.iconst 0, 1) := by decide +kernel
theorem dX7_task_97 : decode cX7_task 97 = .ok (.putfield 109, 3) := by decide +kernel
theorem dX7_task_100 : decode cX7_task 100 = .ok (.aload_n 0, 1) := by decide +kernel
theorem dX7_task_101 : decode cX7_task 101 = .ok (.getfield 109, 3) := by decide +kernel
theorem dX7_task_104 : decode cX7_task 104 = .ok (.ifCond .le 5, 3) := by decide +kernel
theorem dX7_task_107 : decode cX7_task 107 = .ok (.iconst 0, 1) := by decide +kernel
theorem dX7_task_108 : decode cX7_task 108 = .ok (.ireturn, 1) := by decide +kernel
theorem dX7_task_109 : decode cX7_task 109 = .ok (.aload_n 0, 1) := by decide +kernel
theorem dX7_task_110 : decode cX7_task 110 = .ok (.getfield 13, 3) := by decide +kernel
theorem dX7_task_113 : decode cX7_task 113 = .ok (.aload_n 0, 1) := by decide +kernel
theorem dX7_task_114 : decode cX7_task 114 = .ok (.getfield 112, 3) := by decide +kernel
theorem dX7_task_117 : decode cX7_task 117 = .ok (.iload_n 1, 1) := by decide +kernel
theorem dX7_task_118 : decode cX7_task 118 = .ok (.iastore, 1) := by decide +kernel
theorem dX7_task_119 : decode cX7_task 119 = .ok (.aload_n 0, 1) := by decide +kernel
theorem dX7_task_120 : decode cX7_task 120 = .ok (.getfield 17, 3) := by decide +kernel
theorem dX7_task_123 : decode cX7_task 123 = .ok (.aload_n 0, 1) := by decide +kernel
theorem dX7_task_124 : decode cX7_task 124 = .ok (.getfield 112, 3) := by decide +kernel
theorem dX7_task_127 : decode cX7_task 127 = .ok (.iload_n 2, 1) := by decide +kernel
theorem dX7_task_128 : decode cX7_task 128 = .ok (.iastore, 1) := by decide +kernel
theorem dX7_task_129 : decode cX7_task 129 = .ok (.aload_n 0, 1) := by decide +kernel
theorem dX7_task_130 : decode cX7_task 130 = .ok (.getfield 20, 3) := by decide +kernel
theorem dX7_task_133 : decode cX7_task 133 = .ok (.aload_n 0, 1) := by decide +kernel
theorem dX7_task_134 : decode cX7_task 134 = .ok (.getfield 112, 3) := by decide +kernel
theorem dX7_task_137 : decode cX7_task 137 = .ok (.iload_n 3, 1) := by decide +kernel
theorem dX7_task_138 : decode cX7_task 138 = .ok (.iastore, 1) := by decide +kernel
theorem dX7_task_139 : decode cX7_task 139 = .ok (.aload_n 0, 1) := by decide +kernel
theorem dX7_task_140 : decode cX7_task 140 = .ok (.getfield 23, 3) := by decide +kernel
theorem dX7_task_143 : decode cX7_task 143 = .ok (.aload_n 0, 1) := by decide +kernel
theorem dX7_task_144 : decode cX7_task 144 = .ok (.getfield 112, 3) := by decide +kernel
theorem dX7_task_147 : decode cX7_task 147 = .ok (.iload 4, 2) := by decide +kernel
theorem dX7_task_149 : decode cX7_task 149 = .ok (.iastore, 1) := by decide +kernel
theorem dX7_task_150 : decode cX7_task 150 = .ok (.aload_n 0, 1) := by decide +kernel
theorem dX7_task_151 : decode cX7_task 151 = .ok (.getfield 26, 3) := by decide +kernel
theorem dX7_task_154 : decode cX7_task 154 = .ok (.aload_n 0, 1) := by decide +kernel
theorem dX7_task_155 : decode cX7_task 155 = .ok (.getfield 112, 3) := by decide +kernel
theorem dX7_task_158 : decode cX7_task 158 = .ok (.iload 5, 2) := by decide +kernel
theorem dX7_task_160 : decode cX7_task 160 = .ok (.iastore, 1) := by decide +kernel
theorem dX7_task_161 : decode cX7_task 161 = .ok (.aload_n 0, 1) := by decide +kernel
theorem dX7_task_162 : decode cX7_task 162 = .ok (.getfield 60, 3) := by decide +kernel
theorem dX7_task_165 : decode cX7_task 165 = .ok (.aload_n 0, 1) := by decide +kernel
theorem dX7_task_166 : decode cX7_task 166 = .ok (.getfield 112, 3) := by decide +kernel
theorem dX7_task_169 : decode cX7_task 169 = .ok (.iconst (-1), 1) := by decide +kernel
theorem dX7_task_170 : decode cX7_task 170 = .ok (.iastore, 1) := by decide +kernel
theorem dX7_task_171 : decode cX7_task 171 = .ok (.aload_n 0, 1) := by decide +kernel
theorem dX7_task_172 : decode cX7_task 172 = .ok (.dup, 1) := by decide +kernel
theorem dX7_task_173 : decode cX7_task 173 = .ok (.getfield 112, 3) := by decide +kernel
theorem dX7_task_176 : decode cX7_task 176 = .ok (.iconst 1, 1) := by decide +kernel
theorem dX7_task_177 : decode cX7_task 177 = .ok (.iadd, 1) := by decide +kernel
theorem dX7_task_178 : decode cX7_task 178 = .ok (.putfield 112, 3) := by decide +kernel
theorem dX7_task_181 : decode cX7_task 181 = .ok (.aload_n 0, 1) := by decide +kernel
theorem dX7_task_182 : decode cX7_task 182 = .ok (.getfield 112, 3) := by decide +kernel
theorem dX7_task_185 : decode cX7_task 185 = .ok (.iconst 1, 1) := by decide +kernel
theorem dX7_task_186 : decode cX7_task 186 = .ok (.isub, 1) := by decide +kernel
theorem dX7_task_187 : decode cX7_task 187 = .ok (.ireturn, 1) := by decide +kernel
theorem dX7_strict_0 : decode cX7_strict 0 = .ok (.aload_n 0, 1) := by decide +kernel
theorem dX7_strict_1 : decode cX7_strict 1 = .ok (.iconst 0, 1) := by decide +kernel
theorem dX7_strict_2 : decode cX7_strict 2 = .ok (.putfield 109, 3) := by decide +kernel
theorem dX7_strict_5 : decode cX7_strict 5 = .ok (.aload_n 0, 1) := by decide +kernel
theorem dX7_strict_6 : decode cX7_strict 6 = .ok (.iload_n 1, 1) := by decide +kernel
theorem dX7_strict_7 : decode cX7_strict 7 = .ok (.invokevirtual 122, 3) := by decide +kernel
theorem dX7_strict_10 : decode cX7_strict 10 = .ok (.ifCond .ne 5, 3) := by decide +kernel
theorem dX7_strict_13 : decode cX7_strict 13 = .ok (.iconst 0, 1) := by decide +kernel
theorem dX7_strict_14 : decode cX7_strict 14 = .ok (.ireturn, 1) := by decide +kernel
theorem dX7_strict_15 : decode cX7_strict 15 = .ok (.aload_n 0, 1) := by decide +kernel
theorem dX7_strict_16 : decode cX7_strict 16 = .ok (.getfield 29, 3) := by decide +kernel
theorem dX7_strict_19 : decode cX7_strict 19 = .ok (.iload_n 1, 1) := by decide +kernel
theorem dX7_strict_20 : decode cX7_strict 20 = .ok (.iload_n 2, 1) := by decide +kernel
theorem dX7_strict_21 : decode cX7_strict 21 = .ok (.bastore, 1) := by decide +kernel
theorem dX7_strict_22 : decode cX7_strict 22 = .ok (.iconst 1, 1) := by decide +kernel
theorem dX7_strict_23 : decode cX7_strict 23 = .ok (.ireturn, 1) := by decide +kernel
theorem dX7_mutex_0 : decode cX7_mutex 0 = .ok (.iload_n 1, 1) := by decide +kernel
theorem dX7_mutex_1 : decode cX7_mutex 1 = .ok (.iconst 0, 1) := by decide +kernel
theorem dX7_mutex_2 : decode cX7_mutex 2 = .ok (.iconst 2, 1) := by decide +kernel
theorem dX7_mutex_3 : decode cX7_mutex 3 = .ok (.invokestatic 115, 3) := by decide +kernel
theorem dX7_mutex_6 : decode cX7_mutex 6 = .ok (.ifCond .eq 22, 3) := by decide +kernel
theorem dX7_mutex_9 : decode cX7_mutex 9 = .ok (.iload_n 1, 1) := by decide +kernel
theorem dX7_mutex_10 : decode cX7_mutex 10 = .ok (.iconst 2, 1) := by decide +kernel
theorem dX7_mutex_11 : decode cX7_mutex 11 = .ok (.if_icmp .lt 13, 3) := by decide +kernel
theorem dX7_mutex_14 : decode cX7_mutex 14 = .ok (.iload_n 2, 1) := by decide +kernel
theorem dX7_mutex_15 : decode cX7_mutex 15 = .ok (.iconst 1, 1) := by decide +kernel
theorem dX7_mutex_16 : decode cX7_mutex 16 = .ok (.bipush 31, 2) := by decide +kernel
theorem dX7_mutex_18 : decode cX7_mutex 18 = .ok (.invokestatic 115, 3) := by decide +kernel
theorem dX7_mutex_21 : decode cX7_mutex 21 = .ok (.ifCond .eq 7, 3) := by decide +kernel
theorem dX7_mutex_24 : decode cX7_mutex 24 = .ok (.iconst 1, 1) := by decide +kernel
theorem dX7_mutex_25 : decode cX7_mutex 25 = .ok (.goto 4, 3) := by decide +kernel
theorem dX7_mutex_28 : decode cX7_mutex 28 = .ok (.iconst 0, 1) := by decide +kernel
theorem dX7_mutex_29 : decode cX7_mutex 29 = .ok (.istore_n 3, 1) := by decide +kernel
theorem dX7_mutex_30 : decode cX7_mutex 30 = .ok (.aload_n 0, 1) := by decide +kernel
theorem dX7_mutex_31 : decode cX7_mutex 31 = .ok (.iload_n 3, 1) := by decide +kernel
theorem dX7_mutex_32 : decode cX7_mutex 32 = .ok (.ifCond .ne 7, 3) := by decide +kernel
theorem dX7_mutex_35 : decode cX7_mutex 35 = .ok (.iconst 1, 1) := by decide +kernel
theorem dX7_mutex_36 : decode cX7_mutex 36 = .ok (.goto 23, 3) := by decide +kernel
theorem dX7_mutex_39 : decode cX7_mutex 39 = .ok (.aload_n 0, 1) := by decide +kernel
theorem dX7_mutex_40 : decode cX7_mutex 40 = .ok (.getfield 119, 3) := by decide +kernel
theorem dX7_mutex_43 : decode cX7_mutex 43 = .ok (.ifCond .ne 11, 3) := by decide +kernel
theorem dX7_mutex_46 : decode cX7_mutex 46 = .ok (.aload_n 0, 1) := by decide +kernel
theorem dX7_mutex_47 : decode cX7_mutex 47 = .ok (.getfield 126, 3) := by decide +kernel
theorem dX7_mutex_50 : decode cX7_mutex 50 = .ok (.iconst 4, 1) := by decide +kernel
theorem dX7_mutex_51 : decode cX7_mutex 51 = .ok (.if_icmp .ne 7, 3) := by decide +kernel
theorem dX7_mutex_54 : decode cX7_mutex 54 = .ok (.iconst 2, 1) := by decide +kernel
theorem dX7_mutex_55 : decode cX7_mutex 55 = .ok (.goto 4, 3) := by decide +kernel
theorem dX7_mutex_58 : decode cX7_mutex 58 = .ok (.iconst 0, 1) := by decide +kernel
theorem dX7_mutex_59 : decode cX7_mutex 59 = .ok (.putfield 109, 3) := by decide +kernel
theorem dX7_mutex_62 : decode cX7_mutex 62 = .ok (.aload_n 0, 1) := by decide +kernel
theorem dX7_mutex_63 : decode cX7_mutex 63 = .ok (.getfield 109, 3) := by decide +kernel
theorem dX7_mutex_66 : decode cX7_mutex 66 = .ok (.ifCond .le 5, 3) := by decide +kernel
theorem dX7_mutex_69 : decode cX7_mutex 69 = .ok (.iconst 0, 1) := by decide +kernel
theorem dX7_mutex_70 : decode cX7_mutex 70 = .ok (.ireturn, 1) := by decide +kernel
theorem dX7_mutex_71 : decode cX7_mutex 71 = .ok (.aload_n 0, 1) := by decide +kernel
theorem dX7_mutex_72 : decode cX7_mutex 72 = .ok (.getfield 87, 3) := by decide +kernel
theorem dX7_mutex_75 : decode cX7_mutex 75 = .ok (.aload_n 0, 1) := by decide +kernel
theorem dX7_mutex_76 : decode cX7_mutex 76 = .ok (.getfield 126, 3) := by decide +kernel
theorem dX7_mutex_79 : decode cX7_mutex 79 = .ok (.iload_n 1, 1) := by decide +kernel
theorem dX7_mutex_80 : decode cX7_mutex 80 = .ok (.iastore, 1) := by decide +kernel
theorem dX7_mutex_81 : decode cX7_mutex 81 = .ok (.aload_n 0, 1) := by decide +kernel
theorem dX7_mutex_82 : decode cX7_mutex 82 = .ok (.getfield 90, 3) := by decide +kernel
theorem dX7_mutex_85 : decode cX7_mutex 85 = .ok (.aload_n 0, 1) := by decide +kernel
theorem dX7_mutex_86 : decode cX7_mutex 86 = .ok (.getfield 126, 3) := by decide +kernel
theorem dX7_mutex_89 : decode cX7_mutex 89 = .ok (.iload_n 2, 1) := by decide +kernel
theorem dX7_mutex_90 : decode cX7_mutex 90 = .ok (.iastore, 1) := by decide +kernel
theorem dX7_mutex_91 : decode cX7_mutex 91 = .ok (.aload_n 0, 1) := by decide +kernel
theorem dX7_mutex_92 : decode cX7_mutex 92 = .ok (.getfield 93, 3) := by decide +kernel
theorem dX7_mutex_95 : decode cX7_mutex 95 = .ok (.aload_n 0, 1) := by decide +kernel
theorem dX7_mutex_96 : decode cX7_mutex 96 = .ok (.getfield 126, 3) := by decide +kernel
theorem dX7_mutex_99 : decode cX7_mutex 99 = .ok (.iconst (-1), 1) := by decide +kernel
theorem dX7_mutex_100 : decode cX7_mutex 100 = .ok (.iastore, 1) := by decide +kernel
theorem dX7_mutex_101 : decode cX7_mutex 101 = .ok (.aload_n 0, 1) := by decide +kernel
theorem dX7_mutex_102 : decode cX7_mutex 102 = .ok (.dup, 1) := by decide +kernel
theorem dX7_mutex_103 : decode cX7_mutex 103 = .ok (.getfield 126, 3) := by decide +kernel
theorem dX7_mutex_106 : decode cX7_mutex 106 = .ok (.iconst 1, 1) := by decide +kernel
theorem dX7_mutex_107 : decode cX7_mutex 107 = .ok (.iadd, 1) := by decide +kernel
theorem dX7_mutex_108 : decode cX7_mutex 108 = .ok (.putfield 126, 3) := by decide +kernel
theorem dX7_mutex_111 : decode cX7_mutex 111 = .ok (.aload_n 0, 1) := by decide +kernel
theorem dX7_mutex_112 : decode cX7_mutex 112 = .ok (.getfield 126, 3) := by decide +kernel
theorem dX7_mutex_115 : decode cX7_mutex 115 = .ok (.iconst 1, 1) := by decide +kernel
theorem dX7_mutex_116 : decode cX7_mutex 116 = .ok (.isub, 1) := by decide +kernel
theorem dX7_mutex_117 : decode cX7_mutex 117 = .ok (.ireturn, 1) := by decide +kernel
theorem dX7_step_0 : decode cX7_step 0 = .ok (.aload_n 0, 1) := by decide +kernel
theorem dX7_step_1 : decode cX7_step 1 = .ok (.iload_n 1, 1) := by decide +kernel
theorem dX7_step_2 : decode cX7_step 2 = .ok (.invokevirtual 122, 3) := by decide +kernel
theorem dX7_step_5 : decode cX7_step 5 = .ok (.ifCond .eq 45, 3) := by decide +kernel
theorem dX7_step_8 : decode cX7_step 8 = .ok (.iload_n 2, 1) := by decide +kernel
theorem dX7_step_9 : decode cX7_step 9 = .ok (.ifCond .ne 16, 3) := by decide +kernel
theorem dX7_step_12 : decode cX7_step 12 = .ok (.iload_n 3, 1) := by decide +kernel
theorem dX7_step_13 : decode cX7_step 13 = .ok (.iconst 1, 1) := by decide +kernel
theorem dX7_step_14 : decode cX7_step 14 = .ok (.bipush 20, 2) := by decide +kernel
theorem dX7_step_16 : decode cX7_step 16 = .ok (.invokestatic 115, 3) := by decide +kernel
theorem dX7_step_19 : decode cX7_step 19 = .ok (.ifCond .eq 31, 3) := by decide +kernel
theorem dX7_step_22 : decode cX7_step 22 = .ok (.goto 24, 3) := by decide +kernel
theorem dX7_step_25 : decode cX7_step 25 = .ok (.iload_n 2, 1) := by decide +kernel
theorem dX7_step_26 : decode cX7_step 26 = .ok (.iconst 1, 1) := by decide +kernel
theorem dX7_step_27 : decode cX7_step 27 = .ok (.iconst 2, 1) := by decide +kernel
theorem dX7_step_28 : decode cX7_step 28 = .ok (.invokestatic 115, 3) := by decide +kernel
theorem dX7_step_31 : decode cX7_step 31 = .ok (.ifCond .eq 19, 3) := by decide +kernel
theorem dX7_step_34 : decode cX7_step 34 = .ok (.iload_n 3, 1) := by decide +kernel
theorem dX7_step_35 : decode cX7_step 35 = .ok (.ifCond .lt 15, 3) := by decide +kernel
theorem dX7_step_38 : decode cX7_step 38 = .ok (.iload_n 3, 1) := by decide +kernel
theorem dX7_step_39 : decode cX7_step 39 = .ok (.aload_n 0, 1) := by decide +kernel
theorem dX7_step_40 : decode cX7_step 40 = .ok (.getfield 126, 3) := by decide +kernel
theorem dX7_step_43 : decode cX7_step 43 = .ok (.if_icmp .ge 7, 3) := by decide +kernel
theorem dX7_step_46 : decode cX7_step 46 = .ok (.iconst 1, 1) := by decide +kernel
theorem dX7_step_47 : decode cX7_step 47 = .ok (.goto 4, 3) := by decide +kernel
theorem dX7_step_50 : decode cX7_step 50 = .ok (.iconst 0, 1) := by decide +kernel
theorem dX7_step_51 : decode cX7_step 51 = .ok (.istore 4, 2) := by decide +kernel
theorem dX7_step_53 : decode cX7_step 53 = .ok (.aload_n 0, 1) := by decide +kernel
theorem dX7_step_54 : decode cX7_step 54 = .ok (.iload 4, 2) := by decide +kernel
theorem dX7_step_56 : decode cX7_step 56 = .ok (.ifCond .ne 7, 3) := by decide +kernel
theorem dX7_step_59 : decode cX7_step 59 = .ok (.iconst 1, 1) := by decide +kernel
theorem dX7_step_60 : decode cX7_step 60 = .ok (.goto 4, 3) := by decide +kernel
theorem dX7_step_63 : decode cX7_step 63 = .ok (.iconst 0, 1) := by decide +kernel
theorem dX7_step_64 : decode cX7_step 64 = .ok (.putfield 109, 3) := by decide +kernel
theorem dX7_step_67 : decode cX7_step 67 = .ok (.aload_n 0, 1) := by decide +kernel
theorem dX7_step_68 : decode cX7_step 68 = .ok (.getfield 109, 3) := by decide +kernel
theorem dX7_step_71 : decode cX7_step 71 = .ok (.ifCond .le 5, 3) := by decide +kernel
theorem dX7_step_74 : decode cX7_step 74 = .ok (.iconst 0, 1) := by decide +kernel
theorem dX7_step_75 : decode cX7_step 75 = .ok (.ireturn, 1) := by decide +kernel
theorem dX7_step_76 : decode cX7_step 76 = .ok (.aload_n 0, 1) := by decide +kernel
theorem dX7_step_77 : decode cX7_step 77 = .ok (.aload_n 0, 1) := by decide +kernel
theorem dX7_step_78 : decode cX7_step 78 = .ok (.getfield 119, 3) := by decide +kernel
theorem dX7_step_81 : decode cX7_step 81 = .ok (.ifCond .ne 14, 3) := by decide +kernel
theorem dX7_step_84 : decode cX7_step 84 = .ok (.aload_n 0, 1) := by decide +kernel
theorem dX7_step_85 : decode cX7_step 85 = .ok (.getfield 33, 3) := by decide +kernel
theorem dX7_step_88 : decode cX7_step 88 = .ok (.iload_n 1, 1) := by decide +kernel
theorem dX7_step_89 : decode cX7_step 89 = .ok (.iaload, 1) := by decide +kernel
theorem dX7_step_90 : decode cX7_step 90 = .ok (.bipush 10, 2) := by decide +kernel
theorem dX7_step_92 : decode cX7_step 92 = .ok (.if_icmp .ne 7, 3) := by decide +kernel
theorem dX7_step_95 : decode cX7_step 95 = .ok (.iconst 2, 1) := by decide +kernel
theorem dX7_step_96 : decode cX7_step 96 = .ok (.goto 4, 3) := by decide +kernel
theorem dX7_step_99 : decode cX7_step 99 = .ok (.iconst 0, 1) := by decide +kernel
theorem dX7_step_100 : decode cX7_step 100 = .ok (.putfield 109, 3) := by decide +kernel
theorem dX7_step_103 : decode cX7_step 103 = .ok (.aload_n 0, 1) := by decide +kernel
theorem dX7_step_104 : decode cX7_step 104 = .ok (.getfield 109, 3) := by decide +kernel
theorem dX7_step_107 : decode cX7_step 107 = .ok (.ifCond .le 5, 3) := by decide +kernel
theorem dX7_step_110 : decode cX7_step 110 = .ok (.iconst 0, 1) := by decide +kernel
theorem dX7_step_111 : decode cX7_step 111 = .ok (.ireturn, 1) := by decide +kernel
theorem dX7_step_112 : decode cX7_step 112 = .ok (.aload_n 0, 1) := by decide +kernel
theorem dX7_step_113 : decode cX7_step 113 = .ok (.getfield 36, 3) := by decide +kernel
theorem dX7_step_116 : decode cX7_step 116 = .ok (.bipush 10, 2) := by decide +kernel
theorem dX7_step_118 : decode cX7_step 118 = .ok (.iload_n 1, 1) := by decide +kernel
theorem dX7_step_119 : decode cX7_step 119 = .ok (.imul, 1) := by decide +kernel
theorem dX7_step_120 : decode cX7_step 120 = .ok (.aload_n 0, 1) := by decide +kernel
theorem dX7_step_121 : decode cX7_step 121 = .ok (.getfield 33, 3) := by decide +kernel
theorem dX7_step_124 : decode cX7_step 124 = .ok (.iload_n 1, 1) := by decide +kernel
theorem dX7_step_125 : decode cX7_step 125 = .ok (.iaload, 1) := by decide +kernel
theorem dX7_step_126 : decode cX7_step 126 = .ok (.iadd, 1) := by decide +kernel
theorem dX7_step_127 : decode cX7_step 127 = .ok (.iload_n 2, 1) := by decide +kernel
theorem dX7_step_128 : decode cX7_step 128 = .ok (.iastore, 1) := by decide +kernel
theorem dX7_step_129 : decode cX7_step 129 = .ok (.aload_n 0, 1) := by decide +kernel
theorem dX7_step_130 : decode cX7_step 130 = .ok (.getfield 39, 3) := by decide +kernel
theorem dX7_step_133 : decode cX7_step 133 = .ok (.bipush 10, 2) := by decide +kernel
theorem dX7_step_135 : decode cX7_step 135 = .ok (.iload_n 1, 1) := by decide +kernel
theorem dX7_step_136 : decode cX7_step 136 = .ok (.imul, 1) := by decide +kernel
theorem dX7_step_137 : decode cX7_step 137 = .ok (.aload_n 0, 1) := by decide +kernel
theorem dX7_step_138 : decode cX7_step 138 = .ok (.getfield 33, 3) := by decide +kernel
theorem dX7_step_141 : decode cX7_step 141 = .ok (.iload_n 1, 1) := by decide +kernel
theorem dX7_step_142 : decode cX7_step 142 = .ok (.iaload, 1) := by decide +kernel
theorem dX7_step_143 : decode cX7_step 143 = .ok (.iadd, 1) := by decide +kernel
theorem dX7_step_144 : decode cX7_step 144 = .ok (.iload_n 3, 1) := by decide +kernel
theorem dX7_step_145 : decode cX7_step 145 = .ok (.iastore, 1) := by decide +kernel
theorem dX7_step_146 : decode cX7_step 146 = .ok (.aload_n 0, 1) := by decide +kernel
theorem dX7_step_147 : decode cX7_step 147 = .ok (.getfield 33, 3) := by decide +kernel
theorem dX7_step_150 : decode cX7_step 150 = .ok (.iload_n 1, 1) := by decide +kernel
theorem dX7_step_151 : decode cX7_step 151 = .ok (.dup2, 1) := by decide +kernel
theorem dX7_step_152 : decode cX7_step 152 = .ok (.iaload, 1) := by decide +kernel
theorem dX7_step_153 : decode cX7_step 153 = .ok (.iconst 1, 1) := by decide +kernel
theorem dX7_step_154 : decode cX7_step 154 = .ok (.iadd, 1) := by decide +kernel
theorem dX7_step_155 : decode cX7_step 155 = .ok (.iastore, 1) := by decide +kernel
theorem dX7_step_156 : decode cX7_step 156 = .ok (.aload_n 0, 1) := by decide +kernel
theorem dX7_step_157 : decode cX7_step 157 = .ok (.getfield 33, 3) := by decide +kernel
theorem dX7_step_160 : decode cX7_step 160 = .ok (.iload_n 1, 1) := by decide +kernel
theorem dX7_step_161 : decode cX7_step 161 = .ok (.iaload, 1) := by decide +kernel
theorem dX7_step_162 : decode cX7_step 162 = .ok (.ireturn, 1) := by decide +kernel
theorem dX7_start_0 : decode cX7_start 0 = .ok (.aload_n 0, 1) := by decide +kernel
theorem dX7_start_1 : decode cX7_start 1 = .ok (.aload_n 0, 1) := by decide +kernel
theorem dX7_start_2 : decode cX7_start 2 = .ok (.getfield 119, 3) := by decide +kernel
theorem dX7_start_5 : decode cX7_start 5 = .ok (.ifCond .ne 10, 3) := by decide +kernel
theorem dX7_start_8 : decode cX7_start 8 = .ok (.aload_n 0, 1) := by decide +kernel
theorem dX7_start_9 : decode cX7_start 9 = .ok (.getfield 112, 3) := by decide +kernel
theorem dX7_start_12 : decode cX7_start 12 = .ok (.ifCond .ne 7, 3) := by decide +kernel
theorem dX7_start_15 : decode cX7_start 15 = .ok (.iconst 1, 1) := by decide +kernel
theorem dX7_start_16 : decode cX7_start 16 = .ok (.goto 4, 3) := by decide +kernel
theorem dX7_start_19 : decode cX7_start 19 = .ok (.iconst 0, 1) := by decide +kernel
theorem dX7_start_20 : decode cX7_start 20 = .ok (.putfield 109, 3) := by decide +kernel
theorem dX7_start_23 : decode cX7_start 23 = .ok (.aload_n 0, 1) := by decide +kernel
theorem dX7_start_24 : decode cX7_start 24 = .ok (.aload_n 0, 1) := by decide +kernel
theorem dX7_start_25 : decode cX7_start 25 = .ok (.getfield 119, 3) := by decide +kernel
theorem dX7_start_28 : decode cX7_start 28 = .ok (.ifCond .ne 10, 3) := by decide +kernel
theorem dX7_start_31 : decode cX7_start 31 = .ok (.aload_n 0, 1) := by decide +kernel
theorem dX7_start_32 : decode cX7_start 32 = .ok (.getfield 109, 3) := by decide +kernel
theorem dX7_start_35 : decode cX7_start 35 = .ok (.ifCond .ne 7, 3) := by decide +kernel
theorem dX7_start_38 : decode cX7_start 38 = .ok (.iconst 1, 1) := by decide +kernel
theorem dX7_start_39 : decode cX7_start 39 = .ok (.goto 4, 3) := by decide +kernel
theorem dX7_start_42 : decode cX7_start 42 = .ok (.iconst 0, 1) := by decide +kernel
theorem dX7_start_43 : decode cX7_start 43 = .ok (.putfield 119, 3) := by decide +kernel
theorem dX7_start_46 : decode cX7_start 46 = .ok (.return_, 1) := by decide +kernel
theorem dX7_better_0 : decode cX7_better 0 = .ok (.aload_n 0, 1) := by decide +kernel
theorem dX7_better_1 : decode cX7_better 1 = .ok (.getfield 105, 3) := by decide +kernel
theorem dX7_better_4 : decode cX7_better 4 = .ok (.ifCond .eq 16, 3) := by decide +kernel
theorem dX7_better_7 : decode cX7_better 7 = .ok (.iload_n 1, 1) := by decide +kernel
theorem dX7_better_8 : decode cX7_better 8 = .ok (.iload_n 2, 1) := by decide +kernel
theorem dX7_better_9 : decode cX7_better 9 = .ok (.if_icmp .ge 7, 3) := by decide +kernel
theorem dX7_better_12 : decode cX7_better 12 = .ok (.iconst 1, 1) := by decide +kernel
theorem dX7_better_13 : decode cX7_better 13 = .ok (.goto 17, 3) := by decide +kernel
theorem dX7_better_16 : decode cX7_better 16 = .ok (.iconst 0, 1) := by decide +kernel
theorem dX7_better_17 : decode cX7_better 17 = .ok (.goto 13, 3) := by decide +kernel
theorem dX7_better_20 : decode cX7_better 20 = .ok (.iload_n 1, 1) := by decide +kernel
theorem dX7_better_21 : decode cX7_better 21 = .ok (.iload_n 2, 1) := by decide +kernel
theorem dX7_better_22 : decode cX7_better 22 = .ok (.if_icmp .le 7, 3) := by decide +kernel
theorem dX7_better_25 : decode cX7_better 25 = .ok (.iconst 1, 1) := by decide +kernel
theorem dX7_better_26 : decode cX7_better 26 = .ok (.goto 4, 3) := by decide +kernel
theorem dX7_better_29 : decode cX7_better 29 = .ok (.iconst 0, 1) := by decide +kernel
theorem dX7_better_30 : decode cX7_better 30 = .ok (.ireturn, 1) := by decide +kernel
theorem dX7_weigh_0 : decode cX7_weigh 0 = .ok (.iconst 0, 1) := by decide +kernel
theorem dX7_weigh_1 : decode cX7_weigh 1 = .ok (.istore_n 1, 1) := by decide +kernel
theorem dX7_weigh_2 : decode cX7_weigh 2 = .ok (.iload_n 1, 1) := by decide +kernel
theorem dX7_weigh_3 : decode cX7_weigh 3 = .ok (.aload_n 0, 1) := by decide +kernel
theorem dX7_weigh_4 : decode cX7_weigh 4 = .ok (.getfield 112, 3) := by decide +kernel
theorem dX7_weigh_7 : decode cX7_weigh 7 = .ok (.if_icmp .ge 126, 3) := by decide +kernel
theorem dX7_weigh_10 : decode cX7_weigh 10 = .ok (.aload_n 0, 1) := by decide +kernel
theorem dX7_weigh_11 : decode cX7_weigh 11 = .ok (.getfield 66, 3) := by decide +kernel
theorem dX7_weigh_14 : decode cX7_weigh 14 = .ok (.iload_n 1, 1) := by decide +kernel
theorem dX7_weigh_15 : decode cX7_weigh 15 = .ok (.aload_n 0, 1) := by decide +kernel
theorem dX7_weigh_16 : decode cX7_weigh 16 = .ok (.getfield 105, 3) := by decide +kernel
theorem dX7_weigh_19 : decode cX7_weigh 19 = .ok (.ifCond .eq 12, 3) := by decide +kernel
theorem dX7_weigh_22 : decode cX7_weigh 22 = .ok (.aload_n 0, 1) := by decide +kernel
theorem dX7_weigh_23 : decode cX7_weigh 23 = .ok (.getfield 51, 3) := by decide +kernel
theorem dX7_weigh_26 : decode cX7_weigh 26 = .ok (.iload_n 1, 1) := by decide +kernel
theorem dX7_weigh_27 : decode cX7_weigh 27 = .ok (.iaload, 1) := by decide +kernel
theorem dX7_weigh_28 : decode cX7_weigh 28 = .ok (.goto 9, 3) := by decide +kernel
theorem dX7_weigh_31 : decode cX7_weigh 31 = .ok (.aload_n 0, 1) := by decide +kernel
theorem dX7_weigh_32 : decode cX7_weigh 32 = .ok (.getfield 13, 3) := by decide +kernel
theorem dX7_weigh_35 : decode cX7_weigh 35 = .ok (.iload_n 1, 1) := by decide +kernel
theorem dX7_weigh_36 : decode cX7_weigh 36 = .ok (.iaload, 1) := by decide +kernel
theorem dX7_weigh_37 : decode cX7_weigh 37 = .ok (.iastore, 1) := by decide +kernel
theorem dX7_weigh_38 : decode cX7_weigh 38 = .ok (.iconst 0, 1) := by decide +kernel
theorem dX7_weigh_39 : decode cX7_weigh 39 = .ok (.istore_n 2, 1) := by decide +kernel
theorem dX7_weigh_40 : decode cX7_weigh 40 = .ok (.iload_n 2, 1) := by decide +kernel
theorem dX7_weigh_41 : decode cX7_weigh 41 = .ok (.aload_n 0, 1) := by decide +kernel
theorem dX7_weigh_42 : decode cX7_weigh 42 = .ok (.getfield 126, 3) := by decide +kernel
theorem dX7_weigh_45 : decode cX7_weigh 45 = .ok (.if_icmp .ge 82, 3) := by decide +kernel
theorem dX7_weigh_48 : decode cX7_weigh 48 = .ok (.aload_n 0, 1) := by decide +kernel
theorem dX7_weigh_49 : decode cX7_weigh 49 = .ok (.getfield 105, 3) := by decide +kernel
theorem dX7_weigh_52 : decode cX7_weigh 52 = .ok (.ifCond .ne 75, 3) := by decide +kernel
theorem dX7_weigh_55 : decode cX7_weigh 55 = .ok (.aload_n 0, 1) := by decide +kernel
theorem dX7_weigh_56 : decode cX7_weigh 56 = .ok (.getfield 93, 3) := by decide +kernel
theorem dX7_weigh_59 : decode cX7_weigh 59 = .ok (.iload_n 2, 1) := by decide +kernel
theorem dX7_weigh_60 : decode cX7_weigh 60 = .ok (.iaload, 1) := by decide +kernel
theorem dX7_weigh_61 : decode cX7_weigh 61 = .ok (.iload_n 1, 1) := by decide +kernel
theorem dX7_weigh_62 : decode cX7_weigh 62 = .ok (.if_icmp .ne 32, 3) := by decide +kernel
theorem dX7_weigh_65 : decode cX7_weigh 65 = .ok (.aload_n 0, 1) := by decide +kernel
theorem dX7_weigh_66 : decode cX7_weigh 66 = .ok (.getfield 87, 3) := by decide +kernel
theorem dX7_weigh_69 : decode cX7_weigh 69 = .ok (.iload_n 2, 1) := by decide +kernel
theorem dX7_weigh_70 : decode cX7_weigh 70 = .ok (.iaload, 1) := by decide +kernel
theorem dX7_weigh_71 : decode cX7_weigh 71 = .ok (.iconst 2, 1) := by decide +kernel
theorem dX7_weigh_72 : decode cX7_weigh 72 = .ok (.if_icmp .ne 22, 3) := by decide +kernel
theorem dX7_weigh_75 : decode cX7_weigh 75 = .ok (.aload_n 0, 1) := by decide +kernel
theorem dX7_weigh_76 : decode cX7_weigh 76 = .ok (.getfield 90, 3) := by decide +kernel
theorem dX7_weigh_79 : decode cX7_weigh 79 = .ok (.iload_n 2, 1) := by decide +kernel
theorem dX7_weigh_80 : decode cX7_weigh 80 = .ok (.iaload, 1) := by decide +kernel
theorem dX7_weigh_81 : decode cX7_weigh 81 = .ok (.aload_n 0, 1) := by decide +kernel
theorem dX7_weigh_82 : decode cX7_weigh 82 = .ok (.getfield 66, 3) := by decide +kernel
theorem dX7_weigh_85 : decode cX7_weigh 85 = .ok (.iload_n 1, 1) := by decide +kernel
theorem dX7_weigh_86 : decode cX7_weigh 86 = .ok (.iaload, 1) := by decide +kernel
theorem dX7_weigh_87 : decode cX7_weigh 87 = .ok (.if_icmp .le 7, 3) := by decide +kernel
theorem dX7_weigh_90 : decode cX7_weigh 90 = .ok (.iconst 1, 1) := by decide +kernel
theorem dX7_weigh_91 : decode cX7_weigh 91 = .ok (.goto 4, 3) := by decide +kernel
theorem dX7_weigh_94 : decode cX7_weigh 94 = .ok (.iconst 0, 1) := by decide +kernel
theorem dX7_weigh_95 : decode cX7_weigh 95 = .ok (.istore_n 3, 1) := by decide +kernel
theorem dX7_weigh_96 : decode cX7_weigh 96 = .ok (.aload_n 0, 1) := by decide +kernel
theorem dX7_weigh_97 : decode cX7_weigh 97 = .ok (.getfield 66, 3) := by decide +kernel
theorem dX7_weigh_100 : decode cX7_weigh 100 = .ok (.iload_n 1, 1) := by decide +kernel
theorem dX7_weigh_101 : decode cX7_weigh 101 = .ok (.iload_n 3, 1) := by decide +kernel
theorem dX7_weigh_102 : decode cX7_weigh 102 = .ok (.ifCond .eq 12, 3) := by decide +kernel
theorem dX7_weigh_105 : decode cX7_weigh 105 = .ok (.aload_n 0, 1) := by decide +kernel
theorem dX7_weigh_106 : decode cX7_weigh 106 = .ok (.getfield 90, 3) := by decide +kernel
theorem dX7_weigh_109 : decode cX7_weigh 109 = .ok (.iload_n 2, 1) := by decide +kernel
theorem dX7_weigh_110 : decode cX7_weigh 110 = .ok (.iaload, 1) := by decide +kernel
theorem dX7_weigh_111 : decode cX7_weigh 111 = .ok (.goto 9, 3) := by decide +kernel
theorem dX7_weigh_114 : decode cX7_weigh 114 = .ok (.aload_n 0, 1) := by decide +kernel
theorem dX7_weigh_115 : decode cX7_weigh 115 = .ok (.getfield 66, 3) := by decide +kernel
theorem dX7_weigh_118 : decode cX7_weigh 118 = .ok (.iload_n 1, 1) := by decide +kernel
theorem dX7_weigh_119 : decode cX7_weigh 119 = .ok (.iaload, 1) := by decide +kernel
theorem dX7_weigh_120 : decode cX7_weigh 120 = .ok (.iastore, 1) := by decide +kernel
theorem dX7_weigh_121 : decode cX7_weigh 121 = .ok (.iinc 2 1, 3) := by decide +kernel
theorem dX7_weigh_124 : decode cX7_weigh 124 = .ok (.goto (-84), 3) := by decide +kernel
theorem dX7_weigh_127 : decode cX7_weigh 127 = .ok (.iinc 1 1, 3) := by decide +kernel
theorem dX7_weigh_130 : decode cX7_weigh 130 = .ok (.goto (-128), 3) := by decide +kernel
theorem dX7_weigh_133 : decode cX7_weigh 133 = .ok (.iconst 0, 1) := by decide +kernel
theorem dX7_weigh_134 : decode cX7_weigh 134 = .ok (.istore_n 1, 1) := by decide +kernel
theorem dX7_weigh_135 : decode cX7_weigh 135 = .ok (.iload_n 1, 1) := by decide +kernel
theorem dX7_weigh_136 : decode cX7_weigh 136 = .ok (.bipush 8, 2) := by decide +kernel
theorem dX7_weigh_138 : decode cX7_weigh 138 = .ok (.if_icmp .ge 127, 3) := by decide +kernel
theorem dX7_weigh_141 : decode cX7_weigh 141 = .ok (.iconst 0, 1) := by decide +kernel
theorem dX7_weigh_142 : decode cX7_weigh 142 = .ok (.istore_n 2, 1) := by decide +kernel
theorem dX7_weigh_143 : decode cX7_weigh 143 = .ok (.iload_n 2, 1) := by decide +kernel
theorem dX7_weigh_144 : decode cX7_weigh 144 = .ok (.aload_n 0, 1) := by decide +kernel
theorem dX7_weigh_145 : decode cX7_weigh 145 = .ok (.getfield 112, 3) := by decide +kernel
theorem dX7_weigh_148 : decode cX7_weigh 148 = .ok (.if_icmp .ge 111, 3) := by decide +kernel
theorem dX7_weigh_151 : decode cX7_weigh 151 = .ok (.aload_n 0, 1) := by decide +kernel
theorem dX7_weigh_152 : decode cX7_weigh 152 = .ok (.getfield 42, 3) := by decide +kernel
theorem dX7_weigh_155 : decode cX7_weigh 155 = .ok (.iload_n 2, 1) := by decide +kernel
theorem dX7_weigh_156 : decode cX7_weigh 156 = .ok (.iaload, 1) := by decide +kernel
theorem dX7_weigh_157 : decode cX7_weigh 157 = .ok (.iconst 2, 1) := by decide +kernel
theorem dX7_weigh_158 : decode cX7_weigh 158 = .ok (.if_icmp .ne 12, 3) := by decide +kernel
theorem dX7_weigh_161 : decode cX7_weigh 161 = .ok (.aload_n 0, 1) := by decide +kernel
theorem dX7_weigh_162 : decode cX7_weigh 162 = .ok (.getfield 60, 3) := by decide +kernel
theorem dX7_weigh_165 : decode cX7_weigh 165 = .ok (.iload_n 2, 1) := by decide +kernel
theorem dX7_weigh_166 : decode cX7_weigh 166 = .ok (.iaload, 1) := by decide +kernel
theorem dX7_weigh_167 : decode cX7_weigh 167 = .ok (.goto 4, 3) := by decide +kernel
theorem dX7_weigh_170 : decode cX7_weigh 170 = .ok (.iconst (-1), 1) := by decide +kernel
theorem dX7_weigh_171 : decode cX7_weigh 171 = .ok (.istore_n 3, 1) := by decide +kernel
theorem dX7_weigh_172 : decode cX7_weigh 172 = .ok (.iload_n 3, 1) := by decide +kernel
theorem dX7_weigh_173 : decode cX7_weigh 173 = .ok (.ifCond .lt 30, 3) := by decide +kernel
theorem dX7_weigh_176 : decode cX7_weigh 176 = .ok (.aload_n 0, 1) := by decide +kernel
theorem dX7_weigh_177 : decode cX7_weigh 177 = .ok (.getfield 87, 3) := by decide +kernel
theorem dX7_weigh_180 : decode cX7_weigh 180 = .ok (.iload_n 3, 1) := by decide +kernel
theorem dX7_weigh_181 : decode cX7_weigh 181 = .ok (.ifCond .ge 7, 3) := by decide +kernel
theorem dX7_weigh_184 : decode cX7_weigh 184 = .ok (.iconst 0, 1) := by decide +kernel
theorem dX7_weigh_185 : decode cX7_weigh 185 = .ok (.goto 4, 3) := by decide +kernel
theorem dX7_weigh_188 : decode cX7_weigh 188 = .ok (.iload_n 3, 1) := by decide +kernel
theorem dX7_weigh_189 : decode cX7_weigh 189 = .ok (.iaload, 1) := by decide +kernel
theorem dX7_weigh_190 : decode cX7_weigh 190 = .ok (.iconst 1, 1) := by decide +kernel
theorem dX7_weigh_191 : decode cX7_weigh 191 = .ok (.if_icmp .ne 12, 3) := by decide +kernel
theorem dX7_weigh_194 : decode cX7_weigh 194 = .ok (.aload_n 0, 1) := by decide +kernel
theorem dX7_weigh_195 : decode cX7_weigh 195 = .ok (.getfield 93, 3) := by decide +kernel
theorem dX7_weigh_198 : decode cX7_weigh 198 = .ok (.iload_n 3, 1) := by decide +kernel
theorem dX7_weigh_199 : decode cX7_weigh 199 = .ok (.iaload, 1) := by decide +kernel
theorem dX7_weigh_200 : decode cX7_weigh 200 = .ok (.goto 4, 3) := by decide +kernel
theorem dX7_weigh_203 : decode cX7_weigh 203 = .ok (.iconst (-1), 1) := by decide +kernel
theorem dX7_weigh_204 : decode cX7_weigh 204 = .ok (.istore 4, 2) := by decide +kernel
theorem dX7_weigh_206 : decode cX7_weigh 206 = .ok (.iload 4, 2) := by decide +kernel
theorem dX7_weigh_208 : decode cX7_weigh 208 = .ok (.ifCond .lt 45, 3) := by decide +kernel
theorem dX7_weigh_211 : decode cX7_weigh 211 = .ok (.aload_n 0, 1) := by decide +kernel
theorem dX7_weigh_212 : decode cX7_weigh 212 = .ok (.aload_n 0, 1) := by decide +kernel
theorem dX7_weigh_213 : decode cX7_weigh 213 = .ok (.getfield 66, 3) := by decide +kernel
theorem dX7_weigh_216 : decode cX7_weigh 216 = .ok (.iload_n 2, 1) := by decide +kernel
theorem dX7_weigh_217 : decode cX7_weigh 217 = .ok (.iaload, 1) := by decide +kernel
theorem dX7_weigh_218 : decode cX7_weigh 218 = .ok (.aload_n 0, 1) := by decide +kernel
theorem dX7_weigh_219 : decode cX7_weigh 219 = .ok (.getfield 66, 3) := by decide +kernel
theorem dX7_weigh_222 : decode cX7_weigh 222 = .ok (.iload 4, 2) := by decide +kernel
theorem dX7_weigh_224 : decode cX7_weigh 224 = .ok (.ifCond .ge 7, 3) := by decide +kernel
theorem dX7_weigh_227 : decode cX7_weigh 227 = .ok (.iconst 0, 1) := by decide +kernel
theorem dX7_weigh_228 : decode cX7_weigh 228 = .ok (.goto 5, 3) := by decide +kernel
theorem dX7_weigh_231 : decode cX7_weigh 231 = .ok (.iload 4, 2) := by decide +kernel
theorem dX7_weigh_233 : decode cX7_weigh 233 = .ok (.iaload, 1) := by decide +kernel
theorem dX7_weigh_234 : decode cX7_weigh 234 = .ok (.invokevirtual 129, 3) := by decide +kernel
theorem dX7_weigh_237 : decode cX7_weigh 237 = .ok (.ifCond .eq 16, 3) := by decide +kernel
theorem dX7_weigh_240 : decode cX7_weigh 240 = .ok (.aload_n 0, 1) := by decide +kernel
theorem dX7_weigh_241 : decode cX7_weigh 241 = .ok (.getfield 66, 3) := by decide +kernel
theorem dX7_weigh_244 : decode cX7_weigh 244 = .ok (.iload 4, 2) := by decide +kernel
theorem dX7_weigh_246 : decode cX7_weigh 246 = .ok (.aload_n 0, 1) := by decide +kernel
theorem dX7_weigh_247 : decode cX7_weigh 247 = .ok (.getfield 66, 3) := by decide +kernel
theorem dX7_weigh_250 : decode cX7_weigh 250 = .ok (.iload_n 2, 1) := by decide +kernel
theorem dX7_weigh_251 : decode cX7_weigh 251 = .ok (.iaload, 1) := by decide +kernel
theorem dX7_weigh_252 : decode cX7_weigh 252 = .ok (.iastore, 1) := by decide +kernel
theorem dX7_weigh_253 : decode cX7_weigh 253 = .ok (.iinc 2 1, 3) := by decide +kernel
theorem dX7_weigh_256 : decode cX7_weigh 256 = .ok (.goto (-113), 3) := by decide +kernel
theorem dX7_weigh_259 : decode cX7_weigh 259 = .ok (.iinc 1 1, 3) := by decide +kernel
theorem dX7_weigh_262 : decode cX7_weigh 262 = .ok (.goto (-127), 3) := by decide +kernel
theorem dX7_weigh_265 : decode cX7_weigh 265 = .ok (.return_, 1) := by decide +kernel
theorem dX7_first_0 : decode cX7_first 0 = .ok (.aload_n 0, 1) := by decide +kernel
theorem dX7_first_1 : decode cX7_first 1 = .ok (.invokevirtual 133, 3) := by decide +kernel
theorem dX7_first_4 : decode cX7_first 4 = .ok (.iconst (-1), 1) := by decide +kernel
theorem dX7_first_5 : decode cX7_first 5 = .ok (.istore_n 1, 1) := by decide +kernel
theorem dX7_first_6 : decode cX7_first 6 = .ok (.iconst 0, 1) := by decide +kernel
theorem dX7_first_7 : decode cX7_first 7 = .ok (.istore_n 2, 1) := by decide +kernel
theorem dX7_first_8 : decode cX7_first 8 = .ok (.iload_n 2, 1) := by decide +kernel
theorem dX7_first_9 : decode cX7_first 9 = .ok (.aload_n 0, 1) := by decide +kernel
theorem dX7_first_10 : decode cX7_first 10 = .ok (.getfield 112, 3) := by decide +kernel
theorem dX7_first_13 : decode cX7_first 13 = .ok (.if_icmp .ge 114, 3) := by decide +kernel
theorem dX7_first_16 : decode cX7_first 16 = .ok (.aload_n 0, 1) := by decide +kernel
theorem dX7_first_17 : decode cX7_first 17 = .ok (.getfield 42, 3) := by decide +kernel
theorem dX7_first_20 : decode cX7_first 20 = .ok (.iload_n 2, 1) := by decide +kernel
theorem dX7_first_21 : decode cX7_first 21 = .ok (.iaload, 1) := by decide +kernel
theorem dX7_first_22 : decode cX7_first 22 = .ok (.iconst 1, 1) := by decide +kernel
theorem dX7_first_23 : decode cX7_first 23 = .ok (.if_icmp .ne 98, 3) := by decide +kernel
theorem dX7_first_26 : decode cX7_first 26 = .ok (.iload_n 1, 1) := by decide +kernel
theorem dX7_first_27 : decode cX7_first 27 = .ok (.ifCond .lt 22, 3) := by decide +kernel
theorem dX7_first_30 : decode cX7_first 30 = .ok (.aload_n 0, 1) := by decide +kernel
theorem dX7_first_31 : decode cX7_first 31 = .ok (.aload_n 0, 1) := by decide +kernel
theorem dX7_first_32 : decode cX7_first 32 = .ok (.getfield 66, 3) := by decide +kernel
theorem dX7_first_35 : decode cX7_first 35 = .ok (.iload_n 2, 1) := by decide +kernel
theorem dX7_first_36 : decode cX7_first 36 = .ok (.iaload, 1) := by decide +kernel
theorem dX7_first_37 : decode cX7_first 37 = .ok (.aload_n 0, 1) := by decide +kernel
theorem dX7_first_38 : decode cX7_first 38 = .ok (.getfield 66, 3) := by decide +kernel
theorem dX7_first_41 : decode cX7_first 41 = .ok (.iload_n 1, 1) := by decide +kernel
theorem dX7_first_42 : decode cX7_first 42 = .ok (.iaload, 1) := by decide +kernel
theorem dX7_first_43 : decode cX7_first 43 = .ok (.invokevirtual 129, 3) := by decide +kernel
theorem dX7_first_46 : decode cX7_first 46 = .ok (.ifCond .eq 7, 3) := by decide +kernel
theorem dX7_first_49 : decode cX7_first 49 = .ok (.iconst 1, 1) := by decide +kernel
theorem dX7_first_50 : decode cX7_first 50 = .ok (.goto 4, 3) := by decide +kernel
theorem dX7_first_53 : decode cX7_first 53 = .ok (.iconst 0, 1) := by decide +kernel
theorem dX7_first_54 : decode cX7_first 54 = .ok (.istore_n 3, 1) := by decide +kernel
theorem dX7_first_55 : decode cX7_first 55 = .ok (.iload_n 1, 1) := by decide +kernel
theorem dX7_first_56 : decode cX7_first 56 = .ok (.ifCond .lt 55, 3) := by decide +kernel
theorem dX7_first_59 : decode cX7_first 59 = .ok (.aload_n 0, 1) := by decide +kernel
theorem dX7_first_60 : decode cX7_first 60 = .ok (.getfield 66, 3) := by decide +kernel
theorem dX7_first_63 : decode cX7_first 63 = .ok (.iload_n 2, 1) := by decide +kernel
theorem dX7_first_64 : decode cX7_first 64 = .ok (.iaload, 1) := by decide +kernel
theorem dX7_first_65 : decode cX7_first 65 = .ok (.aload_n 0, 1) := by decide +kernel
theorem dX7_first_66 : decode cX7_first 66 = .ok (.getfield 66, 3) := by decide +kernel
theorem dX7_first_69 : decode cX7_first 69 = .ok (.iload_n 1, 1) := by decide +kernel
theorem dX7_first_70 : decode cX7_first 70 = .ok (.iaload, 1) := by decide +kernel
theorem dX7_first_71 : decode cX7_first 71 = .ok (.if_icmp .ne 40, 3) := by decide +kernel
theorem dX7_first_74 : decode cX7_first 74 = .ok (.iload_n 2, 1) := by decide +kernel
theorem dX7_first_75 : decode cX7_first 75 = .ok (.aload_n 0, 1) := by decide +kernel
theorem dX7_first_76 : decode cX7_first 76 = .ok (.getfield 7, 3) := by decide +kernel
theorem dX7_first_79 : decode cX7_first 79 = .ok (.if_icmp .eq 26, 3) := by decide +kernel
theorem dX7_first_82 : decode cX7_first 82 = .ok (.iload_n 1, 1) := by decide +kernel
theorem dX7_first_83 : decode cX7_first 83 = .ok (.aload_n 0, 1) := by decide +kernel
theorem dX7_first_84 : decode cX7_first 84 = .ok (.getfield 7, 3) := by decide +kernel
theorem dX7_first_87 : decode cX7_first 87 = .ok (.if_icmp .eq 22, 3) := by decide +kernel
theorem dX7_first_90 : decode cX7_first 90 = .ok (.aload_n 0, 1) := by decide +kernel
theorem dX7_first_91 : decode cX7_first 91 = .ok (.getfield 57, 3) := by decide +kernel
theorem dX7_first_94 : decode cX7_first 94 = .ok (.iload_n 2, 1) := by decide +kernel
theorem dX7_first_95 : decode cX7_first 95 = .ok (.iaload, 1) := by decide +kernel
theorem dX7_first_96 : decode cX7_first 96 = .ok (.aload_n 0, 1) := by decide +kernel
theorem dX7_first_97 : decode cX7_first 97 = .ok (.getfield 57, 3) := by decide +kernel
theorem dX7_first_100 : decode cX7_first 100 = .ok (.iload_n 1, 1) := by decide +kernel
theorem dX7_first_101 : decode cX7_first 101 = .ok (.iaload, 1) := by decide +kernel
theorem dX7_first_102 : decode cX7_first 102 = .ok (.if_icmp .ge 7, 3) := by decide +kernel
theorem dX7_first_105 : decode cX7_first 105 = .ok (.iconst 1, 1) := by decide +kernel
theorem dX7_first_106 : decode cX7_first 106 = .ok (.goto 4, 3) := by decide +kernel
theorem dX7_first_109 : decode cX7_first 109 = .ok (.iconst 0, 1) := by decide +kernel
theorem dX7_first_110 : decode cX7_first 110 = .ok (.istore_n 3, 1) := by decide +kernel
theorem dX7_first_111 : decode cX7_first 111 = .ok (.iload_n 3, 1) := by decide +kernel
theorem dX7_first_112 : decode cX7_first 112 = .ok (.ifCond .eq 7, 3) := by decide +kernel
theorem dX7_first_115 : decode cX7_first 115 = .ok (.iload_n 2, 1) := by decide +kernel
theorem dX7_first_116 : decode cX7_first 116 = .ok (.goto 4, 3) := by decide +kernel
theorem dX7_first_119 : decode cX7_first 119 = .ok (.iload_n 1, 1) := by decide +kernel
theorem dX7_first_120 : decode cX7_first 120 = .ok (.istore_n 1, 1) := by decide +kernel
theorem dX7_first_121 : decode cX7_first 121 = .ok (.iinc 2 1, 3) := by decide +kernel
theorem dX7_first_124 : decode cX7_first 124 = .ok (.goto (-116), 3) := by decide +kernel
theorem dX7_first_127 : decode cX7_first 127 = .ok (.iload_n 1, 1) := by decide +kernel
theorem dX7_first_128 : decode cX7_first 128 = .ok (.ireturn, 1) := by decide +kernel
theorem dX7_note_0 : decode cX7_note 0 = .ok (.aload_n 0, 1) := by decide +kernel
theorem dX7_note_1 : decode cX7_note 1 = .ok (.getfield 96, 3) := by decide +kernel
theorem dX7_note_4 : decode cX7_note 4 = .ok (.aload_n 0, 1) := by decide +kernel
theorem dX7_note_5 : decode cX7_note 5 = .ok (.getfield 136, 3) := by decide +kernel
theorem dX7_note_8 : decode cX7_note 8 = .ok (.bipush 40, 2) := by decide +kernel
theorem dX7_note_10 : decode cX7_note 10 = .ok (.irem, 1) := by decide +kernel
theorem dX7_note_11 : decode cX7_note 11 = .ok (.iload_n 1, 1) := by decide +kernel
theorem dX7_note_12 : decode cX7_note 12 = .ok (.iastore, 1) := by decide +kernel
theorem dX7_note_13 : decode cX7_note 13 = .ok (.aload_n 0, 1) := by decide +kernel
theorem dX7_note_14 : decode cX7_note 14 = .ok (.getfield 99, 3) := by decide +kernel
theorem dX7_note_17 : decode cX7_note 17 = .ok (.aload_n 0, 1) := by decide +kernel
theorem dX7_note_18 : decode cX7_note 18 = .ok (.getfield 136, 3) := by decide +kernel
theorem dX7_note_21 : decode cX7_note 21 = .ok (.bipush 40, 2) := by decide +kernel
theorem dX7_note_23 : decode cX7_note 23 = .ok (.irem, 1) := by decide +kernel
theorem dX7_note_24 : decode cX7_note 24 = .ok (.aload_n 0, 1) := by decide +kernel
theorem dX7_note_25 : decode cX7_note 25 = .ok (.getfield 139, 3) := by decide +kernel
theorem dX7_note_28 : decode cX7_note 28 = .ok (.iastore, 1) := by decide +kernel
theorem dX7_note_29 : decode cX7_note 29 = .ok (.aload_n 0, 1) := by decide +kernel
theorem dX7_note_30 : decode cX7_note 30 = .ok (.getfield 102, 3) := by decide +kernel
theorem dX7_note_33 : decode cX7_note 33 = .ok (.aload_n 0, 1) := by decide +kernel
theorem dX7_note_34 : decode cX7_note 34 = .ok (.getfield 136, 3) := by decide +kernel
theorem dX7_note_37 : decode cX7_note 37 = .ok (.bipush 40, 2) := by decide +kernel
theorem dX7_note_39 : decode cX7_note 39 = .ok (.irem, 1) := by decide +kernel
theorem dX7_note_40 : decode cX7_note 40 = .ok (.iload_n 2, 1) := by decide +kernel
theorem dX7_note_41 : decode cX7_note 41 = .ok (.iastore, 1) := by decide +kernel
theorem dX7_note_42 : decode cX7_note 42 = .ok (.aload_n 0, 1) := by decide +kernel
theorem dX7_note_43 : decode cX7_note 43 = .ok (.dup, 1) := by decide +kernel
theorem dX7_note_44 : decode cX7_note 44 = .ok (.getfield 136, 3) := by decide +kernel
theorem dX7_note_47 : decode cX7_note 47 = .ok (.iconst 1, 1) := by decide +kernel
theorem dX7_note_48 : decode cX7_note 48 = .ok (.iadd, 1) := by decide +kernel
theorem dX7_note_49 : decode cX7_note 49 = .ok (.putfield 136, 3) := by decide +kernel
theorem dX7_note_52 : decode cX7_note 52 = .ok (.return_, 1) := by decide +kernel
theorem dX7_ready_0 : decode cX7_ready 0 = .ok (.aload_n 0, 1) := by decide +kernel
theorem dX7_ready_1 : decode cX7_ready 1 = .ok (.getfield 42, 3) := by decide +kernel
theorem dX7_ready_4 : decode cX7_ready 4 = .ok (.iload_n 1, 1) := by decide +kernel
theorem dX7_ready_5 : decode cX7_ready 5 = .ok (.iconst 1, 1) := by decide +kernel
theorem dX7_ready_6 : decode cX7_ready 6 = .ok (.iastore, 1) := by decide +kernel
theorem dX7_ready_7 : decode cX7_ready 7 = .ok (.aload_n 0, 1) := by decide +kernel
theorem dX7_ready_8 : decode cX7_ready 8 = .ok (.dup, 1) := by decide +kernel
theorem dX7_ready_9 : decode cX7_ready 9 = .ok (.getfield 142, 3) := by decide +kernel
theorem dX7_ready_12 : decode cX7_ready 12 = .ok (.iconst 1, 1) := by decide +kernel
theorem dX7_ready_13 : decode cX7_ready 13 = .ok (.iadd, 1) := by decide +kernel
theorem dX7_ready_14 : decode cX7_ready 14 = .ok (.putfield 142, 3) := by decide +kernel
theorem dX7_ready_17 : decode cX7_ready 17 = .ok (.aload_n 0, 1) := by decide +kernel
theorem dX7_ready_18 : decode cX7_ready 18 = .ok (.getfield 57, 3) := by decide +kernel
theorem dX7_ready_21 : decode cX7_ready 21 = .ok (.iload_n 1, 1) := by decide +kernel
theorem dX7_ready_22 : decode cX7_ready 22 = .ok (.aload_n 0, 1) := by decide +kernel
theorem dX7_ready_23 : decode cX7_ready 23 = .ok (.getfield 142, 3) := by decide +kernel
theorem dX7_ready_26 : decode cX7_ready 26 = .ok (.iastore, 1) := by decide +kernel
theorem dX7_ready_27 : decode cX7_ready 27 = .ok (.return_, 1) := by decide +kernel
theorem dX7_begin_0 : decode cX7_begin 0 = .ok (.aload_n 0, 1) := by decide +kernel
theorem dX7_begin_1 : decode cX7_begin 1 = .ok (.getfield 42, 3) := by decide +kernel
theorem dX7_begin_4 : decode cX7_begin 4 = .ok (.iload_n 1, 1) := by decide +kernel
theorem dX7_begin_5 : decode cX7_begin 5 = .ok (.iaload, 1) := by decide +kernel
theorem dX7_begin_6 : decode cX7_begin 6 = .ok (.ifCond .eq 20, 3) := by decide +kernel
theorem dX7_begin_9 : decode cX7_begin 9 = .ok (.aload_n 0, 1) := by decide +kernel
theorem dX7_begin_10 : decode cX7_begin 10 = .ok (.getfield 78, 3) := by decide +kernel
theorem dX7_begin_13 : decode cX7_begin 13 = .ok (.iload_n 1, 1) := by decide +kernel
theorem dX7_begin_14 : decode cX7_begin 14 = .ok (.dup2, 1) := by decide +kernel
theorem dX7_begin_15 : decode cX7_begin 15 = .ok (.iaload, 1) := by decide +kernel
theorem dX7_begin_16 : decode cX7_begin 16 = .ok (.iconst 1, 1) := by decide +kernel
theorem dX7_begin_17 : decode cX7_begin 17 = .ok (.iadd, 1) := by decide +kernel
theorem dX7_begin_18 : decode cX7_begin 18 = .ok (.iastore, 1) := by decide +kernel
theorem dX7_begin_19 : decode cX7_begin 19 = .ok (.aload_n 0, 1) := by decide +kernel
theorem dX7_begin_20 : decode cX7_begin 20 = .ok (.iconst 1, 1) := by decide +kernel
theorem dX7_begin_21 : decode cX7_begin 21 = .ok (.iload_n 1, 1) := by decide +kernel
theorem dX7_begin_22 : decode cX7_begin 22 = .ok (.invokevirtual 145, 3) := by decide +kernel
theorem dX7_begin_25 : decode cX7_begin 25 = .ok (.return_, 1) := by decide +kernel
theorem dX7_begin_26 : decode cX7_begin 26 = .ok (.aload_n 0, 1) := by decide +kernel
theorem dX7_begin_27 : decode cX7_begin 27 = .ok (.getfield 45, 3) := by decide +kernel
theorem dX7_begin_30 : decode cX7_begin 30 = .ok (.iload_n 1, 1) := by decide +kernel
theorem dX7_begin_31 : decode cX7_begin 31 = .ok (.iconst 0, 1) := by decide +kernel
theorem dX7_begin_32 : decode cX7_begin 32 = .ok (.iastore, 1) := by decide +kernel
theorem dX7_begin_33 : decode cX7_begin 33 = .ok (.aload_n 0, 1) := by decide +kernel
theorem dX7_begin_34 : decode cX7_begin 34 = .ok (.getfield 48, 3) := by decide +kernel
theorem dX7_begin_37 : decode cX7_begin 37 = .ok (.iload_n 1, 1) := by decide +kernel
theorem dX7_begin_38 : decode cX7_begin 38 = .ok (.iconst 0, 1) := by decide +kernel
theorem dX7_begin_39 : decode cX7_begin 39 = .ok (.iastore, 1) := by decide +kernel
theorem dX7_begin_40 : decode cX7_begin 40 = .ok (.aload_n 0, 1) := by decide +kernel
theorem dX7_begin_41 : decode cX7_begin 41 = .ok (.getfield 63, 3) := by decide +kernel
theorem dX7_begin_44 : decode cX7_begin 44 = .ok (.iload_n 1, 1) := by decide +kernel
theorem dX7_begin_45 : decode cX7_begin 45 = .ok (.iconst 0, 1) := by decide +kernel
theorem dX7_begin_46 : decode cX7_begin 46 = .ok (.iastore, 1) := by decide +kernel
theorem dX7_begin_47 : decode cX7_begin 47 = .ok (.aload_n 0, 1) := by decide +kernel
theorem dX7_begin_48 : decode cX7_begin 48 = .ok (.getfield 51, 3) := by decide +kernel
theorem dX7_begin_51 : decode cX7_begin 51 = .ok (.iload_n 1, 1) := by decide +kernel
theorem dX7_begin_52 : decode cX7_begin 52 = .ok (.aload_n 0, 1) := by decide +kernel
theorem dX7_begin_53 : decode cX7_begin 53 = .ok (.getfield 139, 3) := by decide +kernel
theorem dX7_begin_56 : decode cX7_begin 56 = .ok (.aload_n 0, 1) := by decide +kernel
theorem dX7_begin_57 : decode cX7_begin 57 = .ok (.getfield 23, 3) := by decide +kernel
theorem dX7_begin_60 : decode cX7_begin 60 = .ok (.iload_n 1, 1) := by decide +kernel
theorem dX7_begin_61 : decode cX7_begin 61 = .ok (.iaload, 1) := by decide +kernel
theorem dX7_begin_62 : decode cX7_begin 62 = .ok (.iadd, 1) := by decide +kernel
theorem dX7_begin_63 : decode cX7_begin 63 = .ok (.iastore, 1) := by decide +kernel
theorem dX7_begin_64 : decode cX7_begin 64 = .ok (.aload_n 0, 1) := by decide +kernel
theorem dX7_begin_65 : decode cX7_begin 65 = .ok (.getfield 54, 3) := by decide +kernel
theorem dX7_begin_68 : decode cX7_begin 68 = .ok (.iload_n 1, 1) := by decide +kernel
theorem dX7_begin_69 : decode cX7_begin 69 = .ok (.aload_n 0, 1) := by decide +kernel
theorem dX7_begin_70 : decode cX7_begin 70 = .ok (.getfield 139, 3) := by decide +kernel
theorem dX7_begin_73 : decode cX7_begin 73 = .ok (.iastore, 1) := by decide +kernel
theorem dX7_begin_74 : decode cX7_begin 74 = .ok (.aload_n 0, 1) := by decide +kernel
theorem dX7_begin_75 : decode cX7_begin 75 = .ok (.iload_n 1, 1) := by decide +kernel
theorem dX7_begin_76 : decode cX7_begin 76 = .ok (.invokevirtual 149, 3) := by decide +kernel
theorem dX7_begin_79 : decode cX7_begin 79 = .ok (.aload_n 0, 1) := by decide +kernel
theorem dX7_begin_80 : decode cX7_begin 80 = .ok (.iconst 0, 1) := by decide +kernel
theorem dX7_begin_81 : decode cX7_begin 81 = .ok (.iload_n 1, 1) := by decide +kernel
theorem dX7_begin_82 : decode cX7_begin 82 = .ok (.invokevirtual 145, 3) := by decide +kernel
theorem dX7_begin_85 : decode cX7_begin 85 = .ok (.return_, 1) := by decide +kernel
theorem dX7_give_0 : decode cX7_give 0 = .ok (.aload_n 0, 1) := by decide +kernel
theorem dX7_give_1 : decode cX7_give 1 = .ok (.invokevirtual 133, 3) := by decide +kernel
theorem dX7_give_4 : decode cX7_give 4 = .ok (.iconst (-1), 1) := by decide +kernel
theorem dX7_give_5 : decode cX7_give 5 = .ok (.istore_n 2, 1) := by decide +kernel
theorem dX7_give_6 : decode cX7_give 6 = .ok (.iconst 0, 1) := by decide +kernel
theorem dX7_give_7 : decode cX7_give 7 = .ok (.istore_n 3, 1) := by decide +kernel
theorem dX7_give_8 : decode cX7_give 8 = .ok (.iload_n 3, 1) := by decide +kernel
theorem dX7_give_9 : decode cX7_give 9 = .ok (.aload_n 0, 1) := by decide +kernel
theorem dX7_give_10 : decode cX7_give 10 = .ok (.getfield 112, 3) := by decide +kernel
theorem dX7_give_13 : decode cX7_give 13 = .ok (.if_icmp .ge 100, 3) := by decide +kernel
theorem dX7_give_16 : decode cX7_give 16 = .ok (.aload_n 0, 1) := by decide +kernel
theorem dX7_give_17 : decode cX7_give 17 = .ok (.getfield 42, 3) := by decide +kernel
theorem dX7_give_20 : decode cX7_give 20 = .ok (.iload_n 3, 1) := by decide +kernel
theorem dX7_give_21 : decode cX7_give 21 = .ok (.iaload, 1) := by decide +kernel
theorem dX7_give_22 : decode cX7_give 22 = .ok (.iconst 2, 1) := by decide +kernel
theorem dX7_give_23 : decode cX7_give 23 = .ok (.if_icmp .ne 84, 3) := by decide +kernel
theorem dX7_give_26 : decode cX7_give 26 = .ok (.aload_n 0, 1) := by decide +kernel
theorem dX7_give_27 : decode cX7_give 27 = .ok (.getfield 60, 3) := by decide +kernel
theorem dX7_give_30 : decode cX7_give 30 = .ok (.iload_n 3, 1) := by decide +kernel
theorem dX7_give_31 : decode cX7_give 31 = .ok (.iaload, 1) := by decide +kernel
theorem dX7_give_32 : decode cX7_give 32 = .ok (.iload_n 1, 1) := by decide +kernel
theorem dX7_give_33 : decode cX7_give 33 = .ok (.if_icmp .ne 74, 3) := by decide +kernel
theorem dX7_give_36 : decode cX7_give 36 = .ok (.iload_n 2, 1) := by decide +kernel
theorem dX7_give_37 : decode cX7_give 37 = .ok (.ifCond .lt 52, 3) := by decide +kernel
theorem dX7_give_40 : decode cX7_give 40 = .ok (.aload_n 0, 1) := by decide +kernel
theorem dX7_give_41 : decode cX7_give 41 = .ok (.aload_n 0, 1) := by decide +kernel
theorem dX7_give_42 : decode cX7_give 42 = .ok (.getfield 66, 3) := by decide +kernel
theorem dX7_give_45 : decode cX7_give 45 = .ok (.iload_n 3, 1) := by decide +kernel
theorem dX7_give_46 : decode cX7_give 46 = .ok (.iaload, 1) := by decide +kernel
theorem dX7_give_47 : decode cX7_give 47 = .ok (.aload_n 0, 1) := by decide +kernel
theorem dX7_give_48 : decode cX7_give 48 = .ok (.getfield 66, 3) := by decide +kernel
theorem dX7_give_51 : decode cX7_give 51 = .ok (.iload_n 2, 1) := by decide +kernel
theorem dX7_give_52 : decode cX7_give 52 = .ok (.iaload, 1) := by decide +kernel
theorem dX7_give_53 : decode cX7_give 53 = .ok (.invokevirtual 129, 3) := by decide +kernel
theorem dX7_give_56 : decode cX7_give 56 = .ok (.ifCond .ne 33, 3) := by decide +kernel
theorem dX7_give_59 : decode cX7_give 59 = .ok (.aload_n 0, 1) := by decide +kernel
theorem dX7_give_60 : decode cX7_give 60 = .ok (.getfield 66, 3) := by decide +kernel
theorem dX7_give_63 : decode cX7_give 63 = .ok (.iload_n 3, 1) := by decide +kernel
theorem dX7_give_64 : decode cX7_give 64 = .ok (.iaload, 1) := by decide +kernel
theorem dX7_give_65 : decode cX7_give 65 = .ok (.aload_n 0, 1) := by decide +kernel
theorem dX7_give_66 : decode cX7_give 66 = .ok (.getfield 66, 3) := by decide +kernel
theorem dX7_give_69 : decode cX7_give 69 = .ok (.iload_n 2, 1) := by decide +kernel
theorem dX7_give_70 : decode cX7_give 70 = .ok (.iaload, 1) := by decide +kernel
theorem dX7_give_71 : decode cX7_give 71 = .ok (.if_icmp .ne 22, 3) := by decide +kernel
theorem dX7_give_74 : decode cX7_give 74 = .ok (.aload_n 0, 1) := by decide +kernel
theorem dX7_give_75 : decode cX7_give 75 = .ok (.getfield 57, 3) := by decide +kernel
theorem dX7_give_78 : decode cX7_give 78 = .ok (.iload_n 3, 1) := by decide +kernel
theorem dX7_give_79 : decode cX7_give 79 = .ok (.iaload, 1) := by decide +kernel
theorem dX7_give_80 : decode cX7_give 80 = .ok (.aload_n 0, 1) := by decide +kernel
theorem dX7_give_81 : decode cX7_give 81 = .ok (.getfield 57, 3) := by decide +kernel
theorem dX7_give_84 : decode cX7_give 84 = .ok (.iload_n 2, 1) := by decide +kernel
theorem dX7_give_85 : decode cX7_give 85 = .ok (.iaload, 1) := by decide +kernel
theorem dX7_give_86 : decode cX7_give 86 = .ok (.if_icmp .ge 7, 3) := by decide +kernel
theorem dX7_give_89 : decode cX7_give 89 = .ok (.iconst 1, 1) := by decide +kernel
theorem dX7_give_90 : decode cX7_give 90 = .ok (.goto 4, 3) := by decide +kernel
theorem dX7_give_93 : decode cX7_give 93 = .ok (.iconst 0, 1) := by decide +kernel
theorem dX7_give_94 : decode cX7_give 94 = .ok (.istore 4, 2) := by decide +kernel
theorem dX7_give_96 : decode cX7_give 96 = .ok (.iload 4, 2) := by decide +kernel
theorem dX7_give_98 : decode cX7_give 98 = .ok (.ifCond .eq 7, 3) := by decide +kernel
theorem dX7_give_101 : decode cX7_give 101 = .ok (.iload_n 3, 1) := by decide +kernel
theorem dX7_give_102 : decode cX7_give 102 = .ok (.goto 4, 3) := by decide +kernel
theorem dX7_give_105 : decode cX7_give 105 = .ok (.iload_n 2, 1) := by decide +kernel
theorem dX7_give_106 : decode cX7_give 106 = .ok (.istore_n 2, 1) := by decide +kernel
theorem dX7_give_107 : decode cX7_give 107 = .ok (.iinc 3 1, 3) := by decide +kernel
theorem dX7_give_110 : decode cX7_give 110 = .ok (.goto (-102), 3) := by decide +kernel
theorem dX7_give_113 : decode cX7_give 113 = .ok (.aload_n 0, 1) := by decide +kernel
theorem dX7_give_114 : decode cX7_give 114 = .ok (.getfield 93, 3) := by decide +kernel
theorem dX7_give_117 : decode cX7_give 117 = .ok (.iload_n 1, 1) := by decide +kernel
theorem dX7_give_118 : decode cX7_give 118 = .ok (.iload_n 2, 1) := by decide +kernel
theorem dX7_give_119 : decode cX7_give 119 = .ok (.iastore, 1) := by decide +kernel
theorem dX7_give_120 : decode cX7_give 120 = .ok (.iload_n 2, 1) := by decide +kernel
theorem dX7_give_121 : decode cX7_give 121 = .ok (.ifCond .lt 32, 3) := by decide +kernel
theorem dX7_give_124 : decode cX7_give 124 = .ok (.aload_n 0, 1) := by decide +kernel
theorem dX7_give_125 : decode cX7_give 125 = .ok (.getfield 60, 3) := by decide +kernel
theorem dX7_give_128 : decode cX7_give 128 = .ok (.iload_n 2, 1) := by decide +kernel
theorem dX7_give_129 : decode cX7_give 129 = .ok (.iconst (-1), 1) := by decide +kernel
theorem dX7_give_130 : decode cX7_give 130 = .ok (.iastore, 1) := by decide +kernel
theorem dX7_give_131 : decode cX7_give 131 = .ok (.aload_n 0, 1) := by decide +kernel
theorem dX7_give_132 : decode cX7_give 132 = .ok (.getfield 45, 3) := by decide +kernel
theorem dX7_give_135 : decode cX7_give 135 = .ok (.iload_n 2, 1) := by decide +kernel
theorem dX7_give_136 : decode cX7_give 136 = .ok (.dup2, 1) := by decide +kernel
theorem dX7_give_137 : decode cX7_give 137 = .ok (.iaload, 1) := by decide +kernel
theorem dX7_give_138 : decode cX7_give 138 = .ok (.iconst 1, 1) := by decide +kernel
theorem dX7_give_139 : decode cX7_give 139 = .ok (.iadd, 1) := by decide +kernel
theorem dX7_give_140 : decode cX7_give 140 = .ok (.iastore, 1) := by decide +kernel
theorem dX7_give_141 : decode cX7_give 141 = .ok (.aload_n 0, 1) := by decide +kernel
theorem dX7_give_142 : decode cX7_give 142 = .ok (.iload_n 2, 1) := by decide +kernel
theorem dX7_give_143 : decode cX7_give 143 = .ok (.invokevirtual 149, 3) := by decide +kernel
theorem dX7_give_146 : decode cX7_give 146 = .ok (.aload_n 0, 1) := by decide +kernel
theorem dX7_give_147 : decode cX7_give 147 = .ok (.bipush 6, 2) := by decide +kernel
theorem dX7_give_149 : decode cX7_give 149 = .ok (.iload_n 2, 1) := by decide +kernel
theorem dX7_give_150 : decode cX7_give 150 = .ok (.invokevirtual 145, 3) := by decide +kernel
theorem dX7_give_153 : decode cX7_give 153 = .ok (.return_, 1) := by decide +kernel
theorem dX7_over_0 : decode cX7_over 0 = .ok (.aload_n 0, 1) := by decide +kernel
theorem dX7_over_1 : decode cX7_over 1 = .ok (.getfield 42, 3) := by decide +kernel
theorem dX7_over_4 : decode cX7_over 4 = .ok (.iload_n 1, 1) := by decide +kernel
theorem dX7_over_5 : decode cX7_over 5 = .ok (.iconst 0, 1) := by decide +kernel
theorem dX7_over_6 : decode cX7_over 6 = .ok (.iastore, 1) := by decide +kernel
theorem dX7_over_7 : decode cX7_over 7 = .ok (.aload_n 0, 1) := by decide +kernel
theorem dX7_over_8 : decode cX7_over 8 = .ok (.getfield 60, 3) := by decide +kernel
theorem dX7_over_11 : decode cX7_over 11 = .ok (.iload_n 1, 1) := by decide +kernel
theorem dX7_over_12 : decode cX7_over 12 = .ok (.iconst (-1), 1) := by decide +kernel
theorem dX7_over_13 : decode cX7_over 13 = .ok (.iastore, 1) := by decide +kernel
theorem dX7_over_14 : decode cX7_over 14 = .ok (.iload_n 2, 1) := by decide +kernel
theorem dX7_over_15 : decode cX7_over 15 = .ok (.ifCond .eq 16, 3) := by decide +kernel
theorem dX7_over_18 : decode cX7_over 18 = .ok (.aload_n 0, 1) := by decide +kernel
theorem dX7_over_19 : decode cX7_over 19 = .ok (.getfield 72, 3) := by decide +kernel
theorem dX7_over_22 : decode cX7_over 22 = .ok (.iload_n 1, 1) := by decide +kernel
theorem dX7_over_23 : decode cX7_over 23 = .ok (.dup2, 1) := by decide +kernel
theorem dX7_over_24 : decode cX7_over 24 = .ok (.iaload, 1) := by decide +kernel
theorem dX7_over_25 : decode cX7_over 25 = .ok (.iconst 1, 1) := by decide +kernel
theorem dX7_over_26 : decode cX7_over 26 = .ok (.iadd, 1) := by decide +kernel
theorem dX7_over_27 : decode cX7_over 27 = .ok (.iastore, 1) := by decide +kernel
theorem dX7_over_28 : decode cX7_over 28 = .ok (.goto 53, 3) := by decide +kernel
theorem dX7_over_31 : decode cX7_over 31 = .ok (.aload_n 0, 1) := by decide +kernel
theorem dX7_over_32 : decode cX7_over 32 = .ok (.getfield 69, 3) := by decide +kernel
theorem dX7_over_35 : decode cX7_over 35 = .ok (.iload_n 1, 1) := by decide +kernel
theorem dX7_over_36 : decode cX7_over 36 = .ok (.dup2, 1) := by decide +kernel
theorem dX7_over_37 : decode cX7_over 37 = .ok (.iaload, 1) := by decide +kernel
theorem dX7_over_38 : decode cX7_over 38 = .ok (.iconst 1, 1) := by decide +kernel
theorem dX7_over_39 : decode cX7_over 39 = .ok (.iadd, 1) := by decide +kernel
theorem dX7_over_40 : decode cX7_over 40 = .ok (.iastore, 1) := by decide +kernel
theorem dX7_over_41 : decode cX7_over 41 = .ok (.aload_n 0, 1) := by decide +kernel
theorem dX7_over_42 : decode cX7_over 42 = .ok (.getfield 84, 3) := by decide +kernel
theorem dX7_over_45 : decode cX7_over 45 = .ok (.iload_n 1, 1) := by decide +kernel
theorem dX7_over_46 : decode cX7_over 46 = .ok (.iload_n 3, 1) := by decide +kernel
theorem dX7_over_47 : decode cX7_over 47 = .ok (.aload_n 0, 1) := by decide +kernel
theorem dX7_over_48 : decode cX7_over 48 = .ok (.getfield 54, 3) := by decide +kernel
theorem dX7_over_51 : decode cX7_over 51 = .ok (.iload_n 1, 1) := by decide +kernel
theorem dX7_over_52 : decode cX7_over 52 = .ok (.iaload, 1) := by decide +kernel
theorem dX7_over_53 : decode cX7_over 53 = .ok (.isub, 1) := by decide +kernel
theorem dX7_over_54 : decode cX7_over 54 = .ok (.aload_n 0, 1) := by decide +kernel
theorem dX7_over_55 : decode cX7_over 55 = .ok (.getfield 84, 3) := by decide +kernel
theorem dX7_over_58 : decode cX7_over 58 = .ok (.iload_n 1, 1) := by decide +kernel
theorem dX7_over_59 : decode cX7_over 59 = .ok (.iaload, 1) := by decide +kernel
theorem dX7_over_60 : decode cX7_over 60 = .ok (.if_icmp .le 14, 3) := by decide +kernel
theorem dX7_over_63 : decode cX7_over 63 = .ok (.iload_n 3, 1) := by decide +kernel
theorem dX7_over_64 : decode cX7_over 64 = .ok (.aload_n 0, 1) := by decide +kernel
theorem dX7_over_65 : decode cX7_over 65 = .ok (.getfield 54, 3) := by decide +kernel
theorem dX7_over_68 : decode cX7_over 68 = .ok (.iload_n 1, 1) := by decide +kernel
theorem dX7_over_69 : decode cX7_over 69 = .ok (.iaload, 1) := by decide +kernel
theorem dX7_over_70 : decode cX7_over 70 = .ok (.isub, 1) := by decide +kernel
theorem dX7_over_71 : decode cX7_over 71 = .ok (.goto 9, 3) := by decide +kernel
theorem dX7_over_74 : decode cX7_over 74 = .ok (.aload_n 0, 1) := by decide +kernel
theorem dX7_over_75 : decode cX7_over 75 = .ok (.getfield 84, 3) := by decide +kernel
theorem dX7_over_78 : decode cX7_over 78 = .ok (.iload_n 1, 1) := by decide +kernel
theorem dX7_over_79 : decode cX7_over 79 = .ok (.iaload, 1) := by decide +kernel
theorem dX7_over_80 : decode cX7_over 80 = .ok (.iastore, 1) := by decide +kernel
theorem dX7_over_81 : decode cX7_over 81 = .ok (.aload_n 0, 1) := by decide +kernel
theorem dX7_over_82 : decode cX7_over 82 = .ok (.iload_n 2, 1) := by decide +kernel
theorem dX7_over_83 : decode cX7_over 83 = .ok (.ifCond .eq 7, 3) := by decide +kernel
theorem dX7_over_86 : decode cX7_over 86 = .ok (.iconst 3, 1) := by decide +kernel
theorem dX7_over_87 : decode cX7_over 87 = .ok (.goto 4, 3) := by decide +kernel
theorem dX7_over_90 : decode cX7_over 90 = .ok (.iconst 2, 1) := by decide +kernel
theorem dX7_over_91 : decode cX7_over 91 = .ok (.iload_n 1, 1) := by decide +kernel
theorem dX7_over_92 : decode cX7_over 92 = .ok (.invokevirtual 145, 3) := by decide +kernel
theorem dX7_over_95 : decode cX7_over 95 = .ok (.iconst 0, 1) := by decide +kernel
theorem dX7_over_96 : decode cX7_over 96 = .ok (.istore 4, 2) := by decide +kernel
theorem dX7_over_98 : decode cX7_over 98 = .ok (.iload 4, 2) := by decide +kernel
theorem dX7_over_100 : decode cX7_over 100 = .ok (.aload_n 0, 1) := by decide +kernel
theorem dX7_over_101 : decode cX7_over 101 = .ok (.getfield 126, 3) := by decide +kernel
theorem dX7_over_104 : decode cX7_over 104 = .ok (.if_icmp .ge 26, 3) := by decide +kernel
theorem dX7_over_107 : decode cX7_over 107 = .ok (.aload_n 0, 1) := by decide +kernel
theorem dX7_over_108 : decode cX7_over 108 = .ok (.getfield 93, 3) := by decide +kernel
theorem dX7_over_111 : decode cX7_over 111 = .ok (.iload 4, 2) := by decide +kernel
theorem dX7_over_113 : decode cX7_over 113 = .ok (.iaload, 1) := by decide +kernel
theorem dX7_over_114 : decode cX7_over 114 = .ok (.iload_n 1, 1) := by decide +kernel
theorem dX7_over_115 : decode cX7_over 115 = .ok (.if_icmp .ne 9, 3) := by decide +kernel
theorem dX7_over_118 : decode cX7_over 118 = .ok (.aload_n 0, 1) := by decide +kernel
theorem dX7_over_119 : decode cX7_over 119 = .ok (.iload 4, 2) := by decide +kernel
theorem dX7_over_121 : decode cX7_over 121 = .ok (.invokevirtual 153, 3) := by decide +kernel
theorem dX7_over_124 : decode cX7_over 124 = .ok (.iinc 4 1, 3) := by decide +kernel
theorem dX7_over_127 : decode cX7_over 127 = .ok (.goto (-29), 3) := by decide +kernel
theorem dX7_over_130 : decode cX7_over 130 = .ok (.return_, 1) := by decide +kernel
theorem dX7_atWork_0 : decode cX7_atWork 0 = .ok (.aload_n 0, 1) := by decide +kernel
theorem dX7_atWork_1 : decode cX7_atWork 1 = .ok (.getfield 45, 3) := by decide +kernel
theorem dX7_atWork_4 : decode cX7_atWork 4 = .ok (.iload_n 1, 1) := by decide +kernel
theorem dX7_atWork_5 : decode cX7_atWork 5 = .ok (.iaload, 1) := by decide +kernel
theorem dX7_atWork_6 : decode cX7_atWork 6 = .ok (.aload_n 0, 1) := by decide +kernel
theorem dX7_atWork_7 : decode cX7_atWork 7 = .ok (.getfield 33, 3) := by decide +kernel
theorem dX7_atWork_10 : decode cX7_atWork 10 = .ok (.iload_n 1, 1) := by decide +kernel
theorem dX7_atWork_11 : decode cX7_atWork 11 = .ok (.iaload, 1) := by decide +kernel
theorem dX7_atWork_12 : decode cX7_atWork 12 = .ok (.if_icmp .ge 26, 3) := by decide +kernel
theorem dX7_atWork_15 : decode cX7_atWork 15 = .ok (.aload_n 0, 1) := by decide +kernel
theorem dX7_atWork_16 : decode cX7_atWork 16 = .ok (.getfield 36, 3) := by decide +kernel
theorem dX7_atWork_19 : decode cX7_atWork 19 = .ok (.bipush 10, 2) := by decide +kernel
theorem dX7_atWork_21 : decode cX7_atWork 21 = .ok (.iload_n 1, 1) := by decide +kernel
theorem dX7_atWork_22 : decode cX7_atWork 22 = .ok (.imul, 1) := by decide +kernel
theorem dX7_atWork_23 : decode cX7_atWork 23 = .ok (.aload_n 0, 1) := by decide +kernel
theorem dX7_atWork_24 : decode cX7_atWork 24 = .ok (.getfield 45, 3) := by decide +kernel
theorem dX7_atWork_27 : decode cX7_atWork 27 = .ok (.iload_n 1, 1) := by decide +kernel
theorem dX7_atWork_28 : decode cX7_atWork 28 = .ok (.iaload, 1) := by decide +kernel
theorem dX7_atWork_29 : decode cX7_atWork 29 = .ok (.iadd, 1) := by decide +kernel
theorem dX7_atWork_30 : decode cX7_atWork 30 = .ok (.iaload, 1) := by decide +kernel
theorem dX7_atWork_31 : decode cX7_atWork 31 = .ok (.ifCond .ne 7, 3) := by decide +kernel
theorem dX7_atWork_34 : decode cX7_atWork 34 = .ok (.iconst 1, 1) := by decide +kernel
theorem dX7_atWork_35 : decode cX7_atWork 35 = .ok (.goto 4, 3) := by decide +kernel
theorem dX7_atWork_38 : decode cX7_atWork 38 = .ok (.iconst 0, 1) := by decide +kernel
theorem dX7_atWork_39 : decode cX7_atWork 39 = .ok (.ireturn, 1) := by decide +kernel
theorem dX7_goOn_0 : decode cX7_goOn 0 = .ok (.aload_n 0, 1) := by decide +kernel
theorem dX7_goOn_1 : decode cX7_goOn 1 = .ok (.getfield 42, 3) := by decide +kernel
theorem dX7_goOn_4 : decode cX7_goOn 4 = .ok (.iload_n 1, 1) := by decide +kernel
theorem dX7_goOn_5 : decode cX7_goOn 5 = .ok (.iaload, 1) := by decide +kernel
theorem dX7_goOn_6 : decode cX7_goOn 6 = .ok (.iconst 1, 1) := by decide +kernel
theorem dX7_goOn_7 : decode cX7_goOn 7 = .ok (.if_icmp .ne 121, 3) := by decide +kernel
theorem dX7_goOn_10 : decode cX7_goOn 10 = .ok (.aload_n 0, 1) := by decide +kernel
theorem dX7_goOn_11 : decode cX7_goOn 11 = .ok (.iload_n 1, 1) := by decide +kernel
theorem dX7_goOn_12 : decode cX7_goOn 12 = .ok (.invokevirtual 156, 3) := by decide +kernel
theorem dX7_goOn_15 : decode cX7_goOn 15 = .ok (.ifCond .ne 113, 3) := by decide +kernel
theorem dX7_goOn_18 : decode cX7_goOn 18 = .ok (.bipush 10, 2) := by decide +kernel
theorem dX7_goOn_20 : decode cX7_goOn 20 = .ok (.iload_n 1, 1) := by decide +kernel
theorem dX7_goOn_21 : decode cX7_goOn 21 = .ok (.imul, 1) := by decide +kernel
theorem dX7_goOn_22 : decode cX7_goOn 22 = .ok (.aload_n 0, 1) := by decide +kernel
theorem dX7_goOn_23 : decode cX7_goOn 23 = .ok (.getfield 45, 3) := by decide +kernel
theorem dX7_goOn_26 : decode cX7_goOn 26 = .ok (.iload_n 1, 1) := by decide +kernel
theorem dX7_goOn_27 : decode cX7_goOn 27 = .ok (.iaload, 1) := by decide +kernel
theorem dX7_goOn_28 : decode cX7_goOn 28 = .ok (.iadd, 1) := by decide +kernel
theorem dX7_goOn_29 : decode cX7_goOn 29 = .ok (.istore_n 3, 1) := by decide +kernel
theorem dX7_goOn_30 : decode cX7_goOn 30 = .ok (.aload_n 0, 1) := by decide +kernel
theorem dX7_goOn_31 : decode cX7_goOn 31 = .ok (.getfield 45, 3) := by decide +kernel
theorem dX7_goOn_34 : decode cX7_goOn 34 = .ok (.iload_n 1, 1) := by decide +kernel
theorem dX7_goOn_35 : decode cX7_goOn 35 = .ok (.iaload, 1) := by decide +kernel
theorem dX7_goOn_36 : decode cX7_goOn 36 = .ok (.aload_n 0, 1) := by decide +kernel
theorem dX7_goOn_37 : decode cX7_goOn 37 = .ok (.getfield 33, 3) := by decide +kernel
theorem dX7_goOn_40 : decode cX7_goOn 40 = .ok (.iload_n 1, 1) := by decide +kernel
theorem dX7_goOn_41 : decode cX7_goOn 41 = .ok (.iaload, 1) := by decide +kernel
theorem dX7_goOn_42 : decode cX7_goOn 42 = .ok (.if_icmp .ne 13, 3) := by decide +kernel
theorem dX7_goOn_45 : decode cX7_goOn 45 = .ok (.aload_n 0, 1) := by decide +kernel
theorem dX7_goOn_46 : decode cX7_goOn 46 = .ok (.iload_n 1, 1) := by decide +kernel
theorem dX7_goOn_47 : decode cX7_goOn 47 = .ok (.iconst 0, 1) := by decide +kernel
theorem dX7_goOn_48 : decode cX7_goOn 48 = .ok (.iload_n 2, 1) := by decide +kernel
theorem dX7_goOn_49 : decode cX7_goOn 49 = .ok (.invokevirtual 159, 3) := by decide +kernel
theorem dX7_goOn_52 : decode cX7_goOn 52 = .ok (.goto 73, 3) := by decide +kernel
theorem dX7_goOn_55 : decode cX7_goOn 55 = .ok (.aload_n 0, 1) := by decide +kernel
theorem dX7_goOn_56 : decode cX7_goOn 56 = .ok (.getfield 36, 3) := by decide +kernel
theorem dX7_goOn_59 : decode cX7_goOn 59 = .ok (.iload_n 3, 1) := by decide +kernel
theorem dX7_goOn_60 : decode cX7_goOn 60 = .ok (.iaload, 1) := by decide +kernel
theorem dX7_goOn_61 : decode cX7_goOn 61 = .ok (.iconst 1, 1) := by decide +kernel
theorem dX7_goOn_62 : decode cX7_goOn 62 = .ok (.if_icmp .ne 18, 3) := by decide +kernel
theorem dX7_goOn_65 : decode cX7_goOn 65 = .ok (.aload_n 0, 1) := by decide +kernel
theorem dX7_goOn_66 : decode cX7_goOn 66 = .ok (.iload_n 1, 1) := by decide +kernel
theorem dX7_goOn_67 : decode cX7_goOn 67 = .ok (.aload_n 0, 1) := by decide +kernel
theorem dX7_goOn_68 : decode cX7_goOn 68 = .ok (.getfield 39, 3) := by decide +kernel
theorem dX7_goOn_71 : decode cX7_goOn 71 = .ok (.iload_n 3, 1) := by decide +kernel
theorem dX7_goOn_72 : decode cX7_goOn 72 = .ok (.iaload, 1) := by decide +kernel
theorem dX7_goOn_73 : decode cX7_goOn 73 = .ok (.iload_n 2, 1) := by decide +kernel
theorem dX7_goOn_74 : decode cX7_goOn 74 = .ok (.invokevirtual 163, 3) := by decide +kernel
theorem dX7_goOn_77 : decode cX7_goOn 77 = .ok (.goto 48, 3) := by decide +kernel
theorem dX7_goOn_80 : decode cX7_goOn 80 = .ok (.aload_n 0, 1) := by decide +kernel
theorem dX7_goOn_81 : decode cX7_goOn 81 = .ok (.getfield 93, 3) := by decide +kernel
theorem dX7_goOn_84 : decode cX7_goOn 84 = .ok (.aload_n 0, 1) := by decide +kernel
theorem dX7_goOn_85 : decode cX7_goOn 85 = .ok (.getfield 39, 3) := by decide +kernel
theorem dX7_goOn_88 : decode cX7_goOn 88 = .ok (.iload_n 3, 1) := by decide +kernel
theorem dX7_goOn_89 : decode cX7_goOn 89 = .ok (.iaload, 1) := by decide +kernel
theorem dX7_goOn_90 : decode cX7_goOn 90 = .ok (.iaload, 1) := by decide +kernel
theorem dX7_goOn_91 : decode cX7_goOn 91 = .ok (.iload_n 1, 1) := by decide +kernel
theorem dX7_goOn_92 : decode cX7_goOn 92 = .ok (.if_icmp .eq 13, 3) := by decide +kernel
theorem dX7_goOn_95 : decode cX7_goOn 95 = .ok (.aload_n 0, 1) := by decide +kernel
theorem dX7_goOn_96 : decode cX7_goOn 96 = .ok (.iload_n 1, 1) := by decide +kernel
theorem dX7_goOn_97 : decode cX7_goOn 97 = .ok (.iconst 1, 1) := by decide +kernel
theorem dX7_goOn_98 : decode cX7_goOn 98 = .ok (.iload_n 2, 1) := by decide +kernel
theorem dX7_goOn_99 : decode cX7_goOn 99 = .ok (.invokevirtual 159, 3) := by decide +kernel
theorem dX7_goOn_102 : decode cX7_goOn 102 = .ok (.goto 23, 3) := by decide +kernel
theorem dX7_goOn_105 : decode cX7_goOn 105 = .ok (.aload_n 0, 1) := by decide +kernel
theorem dX7_goOn_106 : decode cX7_goOn 106 = .ok (.getfield 45, 3) := by decide +kernel
theorem dX7_goOn_109 : decode cX7_goOn 109 = .ok (.iload_n 1, 1) := by decide +kernel
theorem dX7_goOn_110 : decode cX7_goOn 110 = .ok (.dup2, 1) := by decide +kernel
theorem dX7_goOn_111 : decode cX7_goOn 111 = .ok (.iaload, 1) := by decide +kernel
theorem dX7_goOn_112 : decode cX7_goOn 112 = .ok (.iconst 1, 1) := by decide +kernel
theorem dX7_goOn_113 : decode cX7_goOn 113 = .ok (.iadd, 1) := by decide +kernel
theorem dX7_goOn_114 : decode cX7_goOn 114 = .ok (.iastore, 1) := by decide +kernel
theorem dX7_goOn_115 : decode cX7_goOn 115 = .ok (.aload_n 0, 1) := by decide +kernel
theorem dX7_goOn_116 : decode cX7_goOn 116 = .ok (.aload_n 0, 1) := by decide +kernel
theorem dX7_goOn_117 : decode cX7_goOn 117 = .ok (.getfield 39, 3) := by decide +kernel
theorem dX7_goOn_120 : decode cX7_goOn 120 = .ok (.iload_n 3, 1) := by decide +kernel
theorem dX7_goOn_121 : decode cX7_goOn 121 = .ok (.iaload, 1) := by decide +kernel
theorem dX7_goOn_122 : decode cX7_goOn 122 = .ok (.invokevirtual 153, 3) := by decide +kernel
theorem dX7_goOn_125 : decode cX7_goOn 125 = .ok (.goto (-125), 3) := by decide +kernel
theorem dX7_goOn_128 : decode cX7_goOn 128 = .ok (.return_, 1) := by decide +kernel
theorem dX7_lock_0 : decode cX7_lock 0 = .ok (.aload_n 0, 1) := by decide +kernel
theorem dX7_lock_1 : decode cX7_lock 1 = .ok (.getfield 93, 3) := by decide +kernel
theorem dX7_lock_4 : decode cX7_lock 4 = .ok (.iload_n 2, 1) := by decide +kernel
theorem dX7_lock_5 : decode cX7_lock 5 = .ok (.iaload, 1) := by decide +kernel
theorem dX7_lock_6 : decode cX7_lock 6 = .ok (.iload_n 1, 1) := by decide +kernel
theorem dX7_lock_7 : decode cX7_lock 7 = .ok (.if_icmp .eq 35, 3) := by decide +kernel
theorem dX7_lock_10 : decode cX7_lock 10 = .ok (.aload_n 0, 1) := by decide +kernel
theorem dX7_lock_11 : decode cX7_lock 11 = .ok (.getfield 105, 3) := by decide +kernel
theorem dX7_lock_14 : decode cX7_lock 14 = .ok (.ifCond .ne 38, 3) := by decide +kernel
theorem dX7_lock_17 : decode cX7_lock 17 = .ok (.aload_n 0, 1) := by decide +kernel
theorem dX7_lock_18 : decode cX7_lock 18 = .ok (.getfield 87, 3) := by decide +kernel
theorem dX7_lock_21 : decode cX7_lock 21 = .ok (.iload_n 2, 1) := by decide +kernel
theorem dX7_lock_22 : decode cX7_lock 22 = .ok (.iaload, 1) := by decide +kernel
theorem dX7_lock_23 : decode cX7_lock 23 = .ok (.iconst 2, 1) := by decide +kernel
theorem dX7_lock_24 : decode cX7_lock 24 = .ok (.if_icmp .ne 28, 3) := by decide +kernel
theorem dX7_lock_27 : decode cX7_lock 27 = .ok (.aload_n 0, 1) := by decide +kernel
theorem dX7_lock_28 : decode cX7_lock 28 = .ok (.getfield 13, 3) := by decide +kernel
theorem dX7_lock_31 : decode cX7_lock 31 = .ok (.iload_n 1, 1) := by decide +kernel
theorem dX7_lock_32 : decode cX7_lock 32 = .ok (.iaload, 1) := by decide +kernel
theorem dX7_lock_33 : decode cX7_lock 33 = .ok (.aload_n 0, 1) := by decide +kernel
theorem dX7_lock_34 : decode cX7_lock 34 = .ok (.getfield 90, 3) := by decide +kernel
theorem dX7_lock_37 : decode cX7_lock 37 = .ok (.iload_n 2, 1) := by decide +kernel
theorem dX7_lock_38 : decode cX7_lock 38 = .ok (.iaload, 1) := by decide +kernel
theorem dX7_lock_39 : decode cX7_lock 39 = .ok (.if_icmp .le 13, 3) := by decide +kernel
theorem dX7_lock_42 : decode cX7_lock 42 = .ok (.aload_n 0, 1) := by decide +kernel
theorem dX7_lock_43 : decode cX7_lock 43 = .ok (.iload_n 1, 1) := by decide +kernel
theorem dX7_lock_44 : decode cX7_lock 44 = .ok (.iconst 1, 1) := by decide +kernel
theorem dX7_lock_45 : decode cX7_lock 45 = .ok (.iload_n 3, 1) := by decide +kernel
theorem dX7_lock_46 : decode cX7_lock 46 = .ok (.invokevirtual 159, 3) := by decide +kernel
theorem dX7_lock_49 : decode cX7_lock 49 = .ok (.goto 72, 3) := by decide +kernel
theorem dX7_lock_52 : decode cX7_lock 52 = .ok (.aload_n 0, 1) := by decide +kernel
theorem dX7_lock_53 : decode cX7_lock 53 = .ok (.getfield 93, 3) := by decide +kernel
theorem dX7_lock_56 : decode cX7_lock 56 = .ok (.iload_n 2, 1) := by decide +kernel
theorem dX7_lock_57 : decode cX7_lock 57 = .ok (.iaload, 1) := by decide +kernel
theorem dX7_lock_58 : decode cX7_lock 58 = .ok (.ifCond .lt 46, 3) := by decide +kernel
theorem dX7_lock_61 : decode cX7_lock 61 = .ok (.aload_n 0, 1) := by decide +kernel
theorem dX7_lock_62 : decode cX7_lock 62 = .ok (.getfield 42, 3) := by decide +kernel
theorem dX7_lock_65 : decode cX7_lock 65 = .ok (.iload_n 1, 1) := by decide +kernel
theorem dX7_lock_66 : decode cX7_lock 66 = .ok (.iconst 2, 1) := by decide +kernel
theorem dX7_lock_67 : decode cX7_lock 67 = .ok (.iastore, 1) := by decide +kernel
theorem dX7_lock_68 : decode cX7_lock 68 = .ok (.aload_n 0, 1) := by decide +kernel
theorem dX7_lock_69 : decode cX7_lock 69 = .ok (.getfield 60, 3) := by decide +kernel
theorem dX7_lock_72 : decode cX7_lock 72 = .ok (.iload_n 1, 1) := by decide +kernel
theorem dX7_lock_73 : decode cX7_lock 73 = .ok (.iload_n 2, 1) := by decide +kernel
theorem dX7_lock_74 : decode cX7_lock 74 = .ok (.iastore, 1) := by decide +kernel
theorem dX7_lock_75 : decode cX7_lock 75 = .ok (.aload_n 0, 1) := by decide +kernel
theorem dX7_lock_76 : decode cX7_lock 76 = .ok (.dup, 1) := by decide +kernel
theorem dX7_lock_77 : decode cX7_lock 77 = .ok (.getfield 142, 3) := by decide +kernel
theorem dX7_lock_80 : decode cX7_lock 80 = .ok (.iconst 1, 1) := by decide +kernel
theorem dX7_lock_81 : decode cX7_lock 81 = .ok (.iadd, 1) := by decide +kernel
theorem dX7_lock_82 : decode cX7_lock 82 = .ok (.putfield 142, 3) := by decide +kernel
theorem dX7_lock_85 : decode cX7_lock 85 = .ok (.aload_n 0, 1) := by decide +kernel
theorem dX7_lock_86 : decode cX7_lock 86 = .ok (.getfield 57, 3) := by decide +kernel
theorem dX7_lock_89 : decode cX7_lock 89 = .ok (.iload_n 1, 1) := by decide +kernel
theorem dX7_lock_90 : decode cX7_lock 90 = .ok (.aload_n 0, 1) := by decide +kernel
theorem dX7_lock_91 : decode cX7_lock 91 = .ok (.getfield 142, 3) := by decide +kernel
theorem dX7_lock_94 : decode cX7_lock 94 = .ok (.iastore, 1) := by decide +kernel
theorem dX7_lock_95 : decode cX7_lock 95 = .ok (.aload_n 0, 1) := by decide +kernel
theorem dX7_lock_96 : decode cX7_lock 96 = .ok (.iconst 5, 1) := by decide +kernel
theorem dX7_lock_97 : decode cX7_lock 97 = .ok (.iload_n 1, 1) := by decide +kernel
theorem dX7_lock_98 : decode cX7_lock 98 = .ok (.invokevirtual 145, 3) := by decide +kernel
theorem dX7_lock_101 : decode cX7_lock 101 = .ok (.goto 20, 3) := by decide +kernel
theorem dX7_lock_104 : decode cX7_lock 104 = .ok (.aload_n 0, 1) := by decide +kernel
theorem dX7_lock_105 : decode cX7_lock 105 = .ok (.getfield 93, 3) := by decide +kernel
theorem dX7_lock_108 : decode cX7_lock 108 = .ok (.iload_n 2, 1) := by decide +kernel
theorem dX7_lock_109 : decode cX7_lock 109 = .ok (.iload_n 1, 1) := by decide +kernel
theorem dX7_lock_110 : decode cX7_lock 110 = .ok (.iastore, 1) := by decide +kernel
theorem dX7_lock_111 : decode cX7_lock 111 = .ok (.aload_n 0, 1) := by decide +kernel
theorem dX7_lock_112 : decode cX7_lock 112 = .ok (.getfield 45, 3) := by decide +kernel
theorem dX7_lock_115 : decode cX7_lock 115 = .ok (.iload_n 1, 1) := by decide +kernel
theorem dX7_lock_116 : decode cX7_lock 116 = .ok (.dup2, 1) := by decide +kernel
theorem dX7_lock_117 : decode cX7_lock 117 = .ok (.iaload, 1) := by decide +kernel
theorem dX7_lock_118 : decode cX7_lock 118 = .ok (.iconst 1, 1) := by decide +kernel
theorem dX7_lock_119 : decode cX7_lock 119 = .ok (.iadd, 1) := by decide +kernel
theorem dX7_lock_120 : decode cX7_lock 120 = .ok (.iastore, 1) := by decide +kernel
theorem dX7_lock_121 : decode cX7_lock 121 = .ok (.return_, 1) := by decide +kernel
theorem dX7_release_0 : decode cX7_release 0 = .ok (.aload_n 0, 1) := by decide +kernel
theorem dX7_release_1 : decode cX7_release 1 = .ok (.iconst 0, 1) := by decide +kernel
theorem dX7_release_2 : decode cX7_release 2 = .ok (.putfield 109, 3) := by decide +kernel
theorem dX7_release_5 : decode cX7_release 5 = .ok (.aload_n 0, 1) := by decide +kernel
theorem dX7_release_6 : decode cX7_release 6 = .ok (.iload_n 1, 1) := by decide +kernel
theorem dX7_release_7 : decode cX7_release 7 = .ok (.invokevirtual 122, 3) := by decide +kernel
theorem dX7_release_10 : decode cX7_release 10 = .ok (.ifCond .eq 10, 3) := by decide +kernel
theorem dX7_release_13 : decode cX7_release 13 = .ok (.aload_n 0, 1) := by decide +kernel
theorem dX7_release_14 : decode cX7_release 14 = .ok (.getfield 119, 3) := by decide +kernel
theorem dX7_release_17 : decode cX7_release 17 = .ok (.ifCond .ne 5, 3) := by decide +kernel
theorem dX7_release_20 : decode cX7_release 20 = .ok (.iconst 0, 1) := by decide +kernel
theorem dX7_release_21 : decode cX7_release 21 = .ok (.ireturn, 1) := by decide +kernel
theorem dX7_release_22 : decode cX7_release 22 = .ok (.aload_n 0, 1) := by decide +kernel
theorem dX7_release_23 : decode cX7_release 23 = .ok (.getfield 17, 3) := by decide +kernel
theorem dX7_release_26 : decode cX7_release 26 = .ok (.iload_n 1, 1) := by decide +kernel
theorem dX7_release_27 : decode cX7_release 27 = .ok (.iaload, 1) := by decide +kernel
theorem dX7_release_28 : decode cX7_release 28 = .ok (.ifCond .le 5, 3) := by decide +kernel
theorem dX7_release_31 : decode cX7_release 31 = .ok (.iconst 0, 1) := by decide +kernel
theorem dX7_release_32 : decode cX7_release 32 = .ok (.ireturn, 1) := by decide +kernel
theorem dX7_release_33 : decode cX7_release 33 = .ok (.aload_n 0, 1) := by decide +kernel
theorem dX7_release_34 : decode cX7_release 34 = .ok (.iload_n 1, 1) := by decide +kernel
theorem dX7_release_35 : decode cX7_release 35 = .ok (.invokevirtual 167, 3) := by decide +kernel
theorem dX7_release_38 : decode cX7_release 38 = .ok (.iconst 1, 1) := by decide +kernel
theorem dX7_release_39 : decode cX7_release 39 = .ok (.ireturn, 1) := by decide +kernel
theorem dX7_arrivals_0 : decode cX7_arrivals 0 = .ok (.iconst 0, 1) := by decide +kernel
theorem dX7_arrivals_1 : decode cX7_arrivals 1 = .ok (.istore_n 1, 1) := by decide +kernel
theorem dX7_arrivals_2 : decode cX7_arrivals 2 = .ok (.iload_n 1, 1) := by decide +kernel
theorem dX7_arrivals_3 : decode cX7_arrivals 3 = .ok (.aload_n 0, 1) := by decide +kernel
theorem dX7_arrivals_4 : decode cX7_arrivals 4 = .ok (.getfield 112, 3) := by decide +kernel
theorem dX7_arrivals_7 : decode cX7_arrivals 7 = .ok (.if_icmp .ge 66, 3) := by decide +kernel
theorem dX7_arrivals_10 : decode cX7_arrivals 10 = .ok (.aload_n 0, 1) := by decide +kernel
theorem dX7_arrivals_11 : decode cX7_arrivals 11 = .ok (.getfield 42, 3) := by decide +kernel
theorem dX7_arrivals_14 : decode cX7_arrivals 14 = .ok (.iload_n 1, 1) := by decide +kernel
theorem dX7_arrivals_15 : decode cX7_arrivals 15 = .ok (.iaload, 1) := by decide +kernel
theorem dX7_arrivals_16 : decode cX7_arrivals 16 = .ok (.ifCond .eq 51, 3) := by decide +kernel
theorem dX7_arrivals_19 : decode cX7_arrivals 19 = .ok (.aload_n 0, 1) := by decide +kernel
theorem dX7_arrivals_20 : decode cX7_arrivals 20 = .ok (.getfield 51, 3) := by decide +kernel
theorem dX7_arrivals_23 : decode cX7_arrivals 23 = .ok (.iload_n 1, 1) := by decide +kernel
theorem dX7_arrivals_24 : decode cX7_arrivals 24 = .ok (.iaload, 1) := by decide +kernel
theorem dX7_arrivals_25 : decode cX7_arrivals 25 = .ok (.aload_n 0, 1) := by decide +kernel
theorem dX7_arrivals_26 : decode cX7_arrivals 26 = .ok (.getfield 139, 3) := by decide +kernel
theorem dX7_arrivals_29 : decode cX7_arrivals 29 = .ok (.if_icmp .ne 38, 3) := by decide +kernel
theorem dX7_arrivals_32 : decode cX7_arrivals 32 = .ok (.aload_n 0, 1) := by decide +kernel
theorem dX7_arrivals_33 : decode cX7_arrivals 33 = .ok (.getfield 75, 3) := by decide +kernel
theorem dX7_arrivals_36 : decode cX7_arrivals 36 = .ok (.iload_n 1, 1) := by decide +kernel
theorem dX7_arrivals_37 : decode cX7_arrivals 37 = .ok (.dup2, 1) := by decide +kernel
theorem dX7_arrivals_38 : decode cX7_arrivals 38 = .ok (.iaload, 1) := by decide +kernel
theorem dX7_arrivals_39 : decode cX7_arrivals 39 = .ok (.iconst 1, 1) := by decide +kernel
theorem dX7_arrivals_40 : decode cX7_arrivals 40 = .ok (.iadd, 1) := by decide +kernel
theorem dX7_arrivals_41 : decode cX7_arrivals 41 = .ok (.iastore, 1) := by decide +kernel
theorem dX7_arrivals_42 : decode cX7_arrivals 42 = .ok (.aload_n 0, 1) := by decide +kernel
theorem dX7_arrivals_43 : decode cX7_arrivals 43 = .ok (.iconst 4, 1) := by decide +kernel
theorem dX7_arrivals_44 : decode cX7_arrivals 44 = .ok (.iload_n 1, 1) := by decide +kernel
theorem dX7_arrivals_45 : decode cX7_arrivals 45 = .ok (.invokevirtual 145, 3) := by decide +kernel
theorem dX7_arrivals_48 : decode cX7_arrivals 48 = .ok (.aload_n 0, 1) := by decide +kernel
theorem dX7_arrivals_49 : decode cX7_arrivals 49 = .ok (.getfield 29, 3) := by decide +kernel
theorem dX7_arrivals_52 : decode cX7_arrivals 52 = .ok (.iload_n 1, 1) := by decide +kernel
theorem dX7_arrivals_53 : decode cX7_arrivals 53 = .ok (.baload, 1) := by decide +kernel
theorem dX7_arrivals_54 : decode cX7_arrivals 54 = .ok (.ifCond .eq 13, 3) := by decide +kernel
theorem dX7_arrivals_57 : decode cX7_arrivals 57 = .ok (.aload_n 0, 1) := by decide +kernel
theorem dX7_arrivals_58 : decode cX7_arrivals 58 = .ok (.iload_n 1, 1) := by decide +kernel
theorem dX7_arrivals_59 : decode cX7_arrivals 59 = .ok (.iconst 1, 1) := by decide +kernel
theorem dX7_arrivals_60 : decode cX7_arrivals 60 = .ok (.aload_n 0, 1) := by decide +kernel
theorem dX7_arrivals_61 : decode cX7_arrivals 61 = .ok (.getfield 139, 3) := by decide +kernel
theorem dX7_arrivals_64 : decode cX7_arrivals 64 = .ok (.invokevirtual 159, 3) := by decide +kernel
theorem dX7_arrivals_67 : decode cX7_arrivals 67 = .ok (.iinc 1 1, 3) := by decide +kernel
theorem dX7_arrivals_70 : decode cX7_arrivals 70 = .ok (.goto (-68), 3) := by decide +kernel
theorem dX7_arrivals_73 : decode cX7_arrivals 73 = .ok (.iconst 0, 1) := by decide +kernel
theorem dX7_arrivals_74 : decode cX7_arrivals 74 = .ok (.istore_n 1, 1) := by decide +kernel
theorem dX7_arrivals_75 : decode cX7_arrivals 75 = .ok (.iload_n 1, 1) := by decide +kernel
theorem dX7_arrivals_76 : decode cX7_arrivals 76 = .ok (.aload_n 0, 1) := by decide +kernel
theorem dX7_arrivals_77 : decode cX7_arrivals 77 = .ok (.getfield 112, 3) := by decide +kernel
theorem dX7_arrivals_80 : decode cX7_arrivals 80 = .ok (.if_icmp .ge 57, 3) := by decide +kernel
theorem dX7_arrivals_83 : decode cX7_arrivals 83 = .ok (.aload_n 0, 1) := by decide +kernel
theorem dX7_arrivals_84 : decode cX7_arrivals 84 = .ok (.getfield 17, 3) := by decide +kernel
theorem dX7_arrivals_87 : decode cX7_arrivals 87 = .ok (.iload_n 1, 1) := by decide +kernel
theorem dX7_arrivals_88 : decode cX7_arrivals 88 = .ok (.iaload, 1) := by decide +kernel
theorem dX7_arrivals_89 : decode cX7_arrivals 89 = .ok (.ifCond .le 42, 3) := by decide +kernel
theorem dX7_arrivals_92 : decode cX7_arrivals 92 = .ok (.aload_n 0, 1) := by decide +kernel
theorem dX7_arrivals_93 : decode cX7_arrivals 93 = .ok (.getfield 139, 3) := by decide +kernel
theorem dX7_arrivals_96 : decode cX7_arrivals 96 = .ok (.aload_n 0, 1) := by decide +kernel
theorem dX7_arrivals_97 : decode cX7_arrivals 97 = .ok (.getfield 20, 3) := by decide +kernel
theorem dX7_arrivals_100 : decode cX7_arrivals 100 = .ok (.iload_n 1, 1) := by decide +kernel
theorem dX7_arrivals_101 : decode cX7_arrivals 101 = .ok (.iaload, 1) := by decide +kernel
theorem dX7_arrivals_102 : decode cX7_arrivals 102 = .ok (.if_icmp .lt 29, 3) := by decide +kernel
theorem dX7_arrivals_105 : decode cX7_arrivals 105 = .ok (.aload_n 0, 1) := by decide +kernel
theorem dX7_arrivals_106 : decode cX7_arrivals 106 = .ok (.getfield 139, 3) := by decide +kernel
theorem dX7_arrivals_109 : decode cX7_arrivals 109 = .ok (.aload_n 0, 1) := by decide +kernel
theorem dX7_arrivals_110 : decode cX7_arrivals 110 = .ok (.getfield 20, 3) := by decide +kernel
theorem dX7_arrivals_113 : decode cX7_arrivals 113 = .ok (.iload_n 1, 1) := by decide +kernel
theorem dX7_arrivals_114 : decode cX7_arrivals 114 = .ok (.iaload, 1) := by decide +kernel
theorem dX7_arrivals_115 : decode cX7_arrivals 115 = .ok (.isub, 1) := by decide +kernel
theorem dX7_arrivals_116 : decode cX7_arrivals 116 = .ok (.aload_n 0, 1) := by decide +kernel
theorem dX7_arrivals_117 : decode cX7_arrivals 117 = .ok (.getfield 17, 3) := by decide +kernel
theorem dX7_arrivals_120 : decode cX7_arrivals 120 = .ok (.iload_n 1, 1) := by decide +kernel
theorem dX7_arrivals_121 : decode cX7_arrivals 121 = .ok (.iaload, 1) := by decide +kernel
theorem dX7_arrivals_122 : decode cX7_arrivals 122 = .ok (.irem, 1) := by decide +kernel
theorem dX7_arrivals_123 : decode cX7_arrivals 123 = .ok (.ifCond .ne 8, 3) := by decide +kernel
theorem dX7_arrivals_126 : decode cX7_arrivals 126 = .ok (.aload_n 0, 1) := by decide +kernel
theorem dX7_arrivals_127 : decode cX7_arrivals 127 = .ok (.iload_n 1, 1) := by decide +kernel
theorem dX7_arrivals_128 : decode cX7_arrivals 128 = .ok (.invokevirtual 167, 3) := by decide +kernel
theorem dX7_arrivals_131 : decode cX7_arrivals 131 = .ok (.iinc 1 1, 3) := by decide +kernel
theorem dX7_arrivals_134 : decode cX7_arrivals 134 = .ok (.goto (-59), 3) := by decide +kernel
theorem dX7_arrivals_137 : decode cX7_arrivals 137 = .ok (.return_, 1) := by decide +kernel
theorem dX7_work_0 : decode cX7_work 0 = .ok (.bipush 10, 2) := by decide +kernel
theorem dX7_work_2 : decode cX7_work 2 = .ok (.iload_n 1, 1) := by decide +kernel
theorem dX7_work_3 : decode cX7_work 3 = .ok (.imul, 1) := by decide +kernel
theorem dX7_work_4 : decode cX7_work 4 = .ok (.aload_n 0, 1) := by decide +kernel
theorem dX7_work_5 : decode cX7_work 5 = .ok (.getfield 45, 3) := by decide +kernel
theorem dX7_work_8 : decode cX7_work 8 = .ok (.iload_n 1, 1) := by decide +kernel
theorem dX7_work_9 : decode cX7_work 9 = .ok (.iaload, 1) := by decide +kernel
theorem dX7_work_10 : decode cX7_work 10 = .ok (.iadd, 1) := by decide +kernel
theorem dX7_work_11 : decode cX7_work 11 = .ok (.istore_n 2, 1) := by decide +kernel
theorem dX7_work_12 : decode cX7_work 12 = .ok (.aload_n 0, 1) := by decide +kernel
theorem dX7_work_13 : decode cX7_work 13 = .ok (.getfield 48, 3) := by decide +kernel
theorem dX7_work_16 : decode cX7_work 16 = .ok (.iload_n 1, 1) := by decide +kernel
theorem dX7_work_17 : decode cX7_work 17 = .ok (.aload_n 0, 1) := by decide +kernel
theorem dX7_work_18 : decode cX7_work 18 = .ok (.getfield 48, 3) := by decide +kernel
theorem dX7_work_21 : decode cX7_work 21 = .ok (.iload_n 1, 1) := by decide +kernel
theorem dX7_work_22 : decode cX7_work 22 = .ok (.iaload, 1) := by decide +kernel
theorem dX7_work_23 : decode cX7_work 23 = .ok (.ifCond .ne 12, 3) := by decide +kernel
theorem dX7_work_26 : decode cX7_work 26 = .ok (.aload_n 0, 1) := by decide +kernel
theorem dX7_work_27 : decode cX7_work 27 = .ok (.getfield 39, 3) := by decide +kernel
theorem dX7_work_30 : decode cX7_work 30 = .ok (.iload_n 2, 1) := by decide +kernel
theorem dX7_work_31 : decode cX7_work 31 = .ok (.iaload, 1) := by decide +kernel
theorem dX7_work_32 : decode cX7_work 32 = .ok (.goto 9, 3) := by decide +kernel
theorem dX7_work_35 : decode cX7_work 35 = .ok (.aload_n 0, 1) := by decide +kernel
theorem dX7_work_36 : decode cX7_work 36 = .ok (.getfield 48, 3) := by decide +kernel
theorem dX7_work_39 : decode cX7_work 39 = .ok (.iload_n 1, 1) := by decide +kernel
theorem dX7_work_40 : decode cX7_work 40 = .ok (.iaload, 1) := by decide +kernel
theorem dX7_work_41 : decode cX7_work 41 = .ok (.iastore, 1) := by decide +kernel
theorem dX7_work_42 : decode cX7_work 42 = .ok (.aload_n 0, 1) := by decide +kernel
theorem dX7_work_43 : decode cX7_work 43 = .ok (.getfield 48, 3) := by decide +kernel
theorem dX7_work_46 : decode cX7_work 46 = .ok (.iload_n 1, 1) := by decide +kernel
theorem dX7_work_47 : decode cX7_work 47 = .ok (.dup2, 1) := by decide +kernel
theorem dX7_work_48 : decode cX7_work 48 = .ok (.iaload, 1) := by decide +kernel
theorem dX7_work_49 : decode cX7_work 49 = .ok (.iconst 1, 1) := by decide +kernel
theorem dX7_work_50 : decode cX7_work 50 = .ok (.isub, 1) := by decide +kernel
theorem dX7_work_51 : decode cX7_work 51 = .ok (.iastore, 1) := by decide +kernel
theorem dX7_work_52 : decode cX7_work 52 = .ok (.aload_n 0, 1) := by decide +kernel
theorem dX7_work_53 : decode cX7_work 53 = .ok (.getfield 81, 3) := by decide +kernel
theorem dX7_work_56 : decode cX7_work 56 = .ok (.iload_n 1, 1) := by decide +kernel
theorem dX7_work_57 : decode cX7_work 57 = .ok (.dup2, 1) := by decide +kernel
theorem dX7_work_58 : decode cX7_work 58 = .ok (.iaload, 1) := by decide +kernel
theorem dX7_work_59 : decode cX7_work 59 = .ok (.iconst 1, 1) := by decide +kernel
theorem dX7_work_60 : decode cX7_work 60 = .ok (.iadd, 1) := by decide +kernel
theorem dX7_work_61 : decode cX7_work 61 = .ok (.iastore, 1) := by decide +kernel
theorem dX7_work_62 : decode cX7_work 62 = .ok (.aload_n 0, 1) := by decide +kernel
theorem dX7_work_63 : decode cX7_work 63 = .ok (.getfield 63, 3) := by decide +kernel
theorem dX7_work_66 : decode cX7_work 66 = .ok (.iload_n 1, 1) := by decide +kernel
theorem dX7_work_67 : decode cX7_work 67 = .ok (.dup2, 1) := by decide +kernel
theorem dX7_work_68 : decode cX7_work 68 = .ok (.iaload, 1) := by decide +kernel
theorem dX7_work_69 : decode cX7_work 69 = .ok (.iconst 1, 1) := by decide +kernel
theorem dX7_work_70 : decode cX7_work 70 = .ok (.iadd, 1) := by decide +kernel
theorem dX7_work_71 : decode cX7_work 71 = .ok (.iastore, 1) := by decide +kernel
theorem dX7_work_72 : decode cX7_work 72 = .ok (.aload_n 0, 1) := by decide +kernel
theorem dX7_work_73 : decode cX7_work 73 = .ok (.iload_n 1, 1) := by decide +kernel
theorem dX7_work_74 : decode cX7_work 74 = .ok (.putfield 7, 3) := by decide +kernel
theorem dX7_work_77 : decode cX7_work 77 = .ok (.aload_n 0, 1) := by decide +kernel
theorem dX7_work_78 : decode cX7_work 78 = .ok (.getfield 63, 3) := by decide +kernel
theorem dX7_work_81 : decode cX7_work 81 = .ok (.iload_n 1, 1) := by decide +kernel
theorem dX7_work_82 : decode cX7_work 82 = .ok (.iaload, 1) := by decide +kernel
theorem dX7_work_83 : decode cX7_work 83 = .ok (.aload_n 0, 1) := by decide +kernel
theorem dX7_work_84 : decode cX7_work 84 = .ok (.getfield 26, 3) := by decide +kernel
theorem dX7_work_87 : decode cX7_work 87 = .ok (.iload_n 1, 1) := by decide +kernel
theorem dX7_work_88 : decode cX7_work 88 = .ok (.iaload, 1) := by decide +kernel
theorem dX7_work_89 : decode cX7_work 89 = .ok (.iconst 1, 1) := by decide +kernel
theorem dX7_work_90 : decode cX7_work 90 = .ok (.iadd, 1) := by decide +kernel
theorem dX7_work_91 : decode cX7_work 91 = .ok (.if_icmp .ne 10, 3) := by decide +kernel
theorem dX7_work_94 : decode cX7_work 94 = .ok (.aload_n 0, 1) := by decide +kernel
theorem dX7_work_95 : decode cX7_work 95 = .ok (.bipush 7, 2) := by decide +kernel
theorem dX7_work_97 : decode cX7_work 97 = .ok (.iload_n 1, 1) := by decide +kernel
theorem dX7_work_98 : decode cX7_work 98 = .ok (.invokevirtual 145, 3) := by decide +kernel
theorem dX7_work_101 : decode cX7_work 101 = .ok (.aload_n 0, 1) := by decide +kernel
theorem dX7_work_102 : decode cX7_work 102 = .ok (.getfield 48, 3) := by decide +kernel
theorem dX7_work_105 : decode cX7_work 105 = .ok (.iload_n 1, 1) := by decide +kernel
theorem dX7_work_106 : decode cX7_work 106 = .ok (.iaload, 1) := by decide +kernel
theorem dX7_work_107 : decode cX7_work 107 = .ok (.ifCond .ne 24, 3) := by decide +kernel
theorem dX7_work_110 : decode cX7_work 110 = .ok (.aload_n 0, 1) := by decide +kernel
theorem dX7_work_111 : decode cX7_work 111 = .ok (.getfield 45, 3) := by decide +kernel
theorem dX7_work_114 : decode cX7_work 114 = .ok (.iload_n 1, 1) := by decide +kernel
theorem dX7_work_115 : decode cX7_work 115 = .ok (.dup2, 1) := by decide +kernel
theorem dX7_work_116 : decode cX7_work 116 = .ok (.iaload, 1) := by decide +kernel
theorem dX7_work_117 : decode cX7_work 117 = .ok (.iconst 1, 1) := by decide +kernel
theorem dX7_work_118 : decode cX7_work 118 = .ok (.iadd, 1) := by decide +kernel
theorem dX7_work_119 : decode cX7_work 119 = .ok (.iastore, 1) := by decide +kernel
theorem dX7_work_120 : decode cX7_work 120 = .ok (.aload_n 0, 1) := by decide +kernel
theorem dX7_work_121 : decode cX7_work 121 = .ok (.iload_n 1, 1) := by decide +kernel
theorem dX7_work_122 : decode cX7_work 122 = .ok (.aload_n 0, 1) := by decide +kernel
theorem dX7_work_123 : decode cX7_work 123 = .ok (.getfield 139, 3) := by decide +kernel
theorem dX7_work_126 : decode cX7_work 126 = .ok (.iconst 1, 1) := by decide +kernel
theorem dX7_work_127 : decode cX7_work 127 = .ok (.iadd, 1) := by decide +kernel
theorem dX7_work_128 : decode cX7_work 128 = .ok (.invokevirtual 170, 3) := by decide +kernel
theorem dX7_work_131 : decode cX7_work 131 = .ok (.return_, 1) := by decide +kernel
theorem dX7_pass_0 : decode cX7_pass 0 = .ok (.aload_n 0, 1) := by decide +kernel
theorem dX7_pass_1 : decode cX7_pass 1 = .ok (.invokevirtual 173, 3) := by decide +kernel
theorem dX7_pass_4 : decode cX7_pass 4 = .ok (.aload_n 0, 1) := by decide +kernel
theorem dX7_pass_5 : decode cX7_pass 5 = .ok (.invokevirtual 176, 3) := by decide +kernel
theorem dX7_pass_8 : decode cX7_pass 8 = .ok (.istore_n 1, 1) := by decide +kernel
theorem dX7_pass_9 : decode cX7_pass 9 = .ok (.iload_n 1, 1) := by decide +kernel
theorem dX7_pass_10 : decode cX7_pass 10 = .ok (.ifCond .lt 28, 3) := by decide +kernel
theorem dX7_pass_13 : decode cX7_pass 13 = .ok (.aload_n 0, 1) := by decide +kernel
theorem dX7_pass_14 : decode cX7_pass 14 = .ok (.iload_n 1, 1) := by decide +kernel
theorem dX7_pass_15 : decode cX7_pass 15 = .ok (.invokevirtual 156, 3) := by decide +kernel
theorem dX7_pass_18 : decode cX7_pass 18 = .ok (.ifCond .ne 20, 3) := by decide +kernel
theorem dX7_pass_21 : decode cX7_pass 21 = .ok (.aload_n 0, 1) := by decide +kernel
theorem dX7_pass_22 : decode cX7_pass 22 = .ok (.iload_n 1, 1) := by decide +kernel
theorem dX7_pass_23 : decode cX7_pass 23 = .ok (.aload_n 0, 1) := by decide +kernel
theorem dX7_pass_24 : decode cX7_pass 24 = .ok (.getfield 139, 3) := by decide +kernel
theorem dX7_pass_27 : decode cX7_pass 27 = .ok (.invokevirtual 170, 3) := by decide +kernel
theorem dX7_pass_30 : decode cX7_pass 30 = .ok (.aload_n 0, 1) := by decide +kernel
theorem dX7_pass_31 : decode cX7_pass 31 = .ok (.invokevirtual 176, 3) := by decide +kernel
theorem dX7_pass_34 : decode cX7_pass 34 = .ok (.istore_n 1, 1) := by decide +kernel
theorem dX7_pass_35 : decode cX7_pass 35 = .ok (.goto (-26), 3) := by decide +kernel
theorem dX7_pass_38 : decode cX7_pass 38 = .ok (.iload_n 1, 1) := by decide +kernel
theorem dX7_pass_39 : decode cX7_pass 39 = .ok (.ifCond .lt 8, 3) := by decide +kernel
theorem dX7_pass_42 : decode cX7_pass 42 = .ok (.aload_n 0, 1) := by decide +kernel
theorem dX7_pass_43 : decode cX7_pass 43 = .ok (.iload_n 1, 1) := by decide +kernel
theorem dX7_pass_44 : decode cX7_pass 44 = .ok (.invokevirtual 180, 3) := by decide +kernel
theorem dX7_pass_47 : decode cX7_pass 47 = .ok (.aload_n 0, 1) := by decide +kernel
theorem dX7_pass_48 : decode cX7_pass 48 = .ok (.dup, 1) := by decide +kernel
theorem dX7_pass_49 : decode cX7_pass 49 = .ok (.getfield 139, 3) := by decide +kernel
theorem dX7_pass_52 : decode cX7_pass 52 = .ok (.iconst 1, 1) := by decide +kernel
theorem dX7_pass_53 : decode cX7_pass 53 = .ok (.iadd, 1) := by decide +kernel
theorem dX7_pass_54 : decode cX7_pass 54 = .ok (.putfield 139, 3) := by decide +kernel
theorem dX7_pass_57 : decode cX7_pass 57 = .ok (.iload_n 1, 1) := by decide +kernel
theorem dX7_pass_58 : decode cX7_pass 58 = .ok (.ifCond .lt 7, 3) := by decide +kernel
theorem dX7_pass_61 : decode cX7_pass 61 = .ok (.iconst 1, 1) := by decide +kernel
theorem dX7_pass_62 : decode cX7_pass 62 = .ok (.goto 4, 3) := by decide +kernel
theorem dX7_pass_65 : decode cX7_pass 65 = .ok (.iconst 0, 1) := by decide +kernel
theorem dX7_pass_66 : decode cX7_pass 66 = .ok (.ireturn, 1) := by decide +kernel
theorem dX7_tick_0 : decode cX7_tick 0 = .ok (.aload_n 0, 1) := by decide +kernel
theorem dX7_tick_1 : decode cX7_tick 1 = .ok (.iload_n 1, 1) := by decide +kernel
theorem dX7_tick_2 : decode cX7_tick 2 = .ok (.iconst 0, 1) := by decide +kernel
theorem dX7_tick_3 : decode cX7_tick 3 = .ok (.sipush 500, 3) := by decide +kernel
theorem dX7_tick_6 : decode cX7_tick 6 = .ok (.invokestatic 115, 3) := by decide +kernel
theorem dX7_tick_9 : decode cX7_tick 9 = .ok (.ifCond .ne 7, 3) := by decide +kernel
theorem dX7_tick_12 : decode cX7_tick 12 = .ok (.iconst 1, 1) := by decide +kernel
theorem dX7_tick_13 : decode cX7_tick 13 = .ok (.goto 15, 3) := by decide +kernel
theorem dX7_tick_16 : decode cX7_tick 16 = .ok (.aload_n 0, 1) := by decide +kernel
theorem dX7_tick_17 : decode cX7_tick 17 = .ok (.getfield 119, 3) := by decide +kernel
theorem dX7_tick_20 : decode cX7_tick 20 = .ok (.ifCond .ne 7, 3) := by decide +kernel
theorem dX7_tick_23 : decode cX7_tick 23 = .ok (.iconst 2, 1) := by decide +kernel
theorem dX7_tick_24 : decode cX7_tick 24 = .ok (.goto 4, 3) := by decide +kernel
theorem dX7_tick_27 : decode cX7_tick 27 = .ok (.iconst 0, 1) := by decide +kernel
theorem dX7_tick_28 : decode cX7_tick 28 = .ok (.putfield 109, 3) := by decide +kernel
theorem dX7_tick_31 : decode cX7_tick 31 = .ok (.iconst 0, 1) := by decide +kernel
theorem dX7_tick_32 : decode cX7_tick 32 = .ok (.istore_n 2, 1) := by decide +kernel
theorem dX7_tick_33 : decode cX7_tick 33 = .ok (.iconst 0, 1) := by decide +kernel
theorem dX7_tick_34 : decode cX7_tick 34 = .ok (.istore_n 3, 1) := by decide +kernel
theorem dX7_tick_35 : decode cX7_tick 35 = .ok (.iload_n 3, 1) := by decide +kernel
theorem dX7_tick_36 : decode cX7_tick 36 = .ok (.iload_n 1, 1) := by decide +kernel
theorem dX7_tick_37 : decode cX7_tick 37 = .ok (.if_icmp .ge 31, 3) := by decide +kernel
theorem dX7_tick_40 : decode cX7_tick 40 = .ok (.aload_n 0, 1) := by decide +kernel
theorem dX7_tick_41 : decode cX7_tick 41 = .ok (.getfield 109, 3) := by decide +kernel
theorem dX7_tick_44 : decode cX7_tick 44 = .ok (.ifCond .ne 24, 3) := by decide +kernel
theorem dX7_tick_47 : decode cX7_tick 47 = .ok (.iload_n 2, 1) := by decide +kernel
theorem dX7_tick_48 : decode cX7_tick 48 = .ok (.aload_n 0, 1) := by decide +kernel
theorem dX7_tick_49 : decode cX7_tick 49 = .ok (.invokevirtual 183, 3) := by decide +kernel
theorem dX7_tick_52 : decode cX7_tick 52 = .ok (.ifCond .eq 7, 3) := by decide +kernel
theorem dX7_tick_55 : decode cX7_tick 55 = .ok (.iconst 1, 1) := by decide +kernel
theorem dX7_tick_56 : decode cX7_tick 56 = .ok (.goto 4, 3) := by decide +kernel
theorem dX7_tick_59 : decode cX7_tick 59 = .ok (.iconst 0, 1) := by decide +kernel
theorem dX7_tick_60 : decode cX7_tick 60 = .ok (.iadd, 1) := by decide +kernel
theorem dX7_tick_61 : decode cX7_tick 61 = .ok (.istore_n 2, 1) := by decide +kernel
theorem dX7_tick_62 : decode cX7_tick 62 = .ok (.iinc 3 1, 3) := by decide +kernel
theorem dX7_tick_65 : decode cX7_tick 65 = .ok (.goto (-30), 3) := by decide +kernel
theorem dX7_tick_68 : decode cX7_tick 68 = .ok (.iload_n 2, 1) := by decide +kernel
theorem dX7_tick_69 : decode cX7_tick 69 = .ok (.ireturn, 1) := by decide +kernel
theorem dX7_seen_0 : decode cX7_seen 0 = .ok (.aload_n 0, 1) := by decide +kernel
theorem dX7_seen_1 : decode cX7_seen 1 = .ok (.iconst 0, 1) := by decide +kernel
theorem dX7_seen_2 : decode cX7_seen 2 = .ok (.putfield 109, 3) := by decide +kernel
theorem dX7_seen_5 : decode cX7_seen 5 = .ok (.aload_n 0, 1) := by decide +kernel
theorem dX7_seen_6 : decode cX7_seen 6 = .ok (.iload_n 1, 1) := by decide +kernel
theorem dX7_seen_7 : decode cX7_seen 7 = .ok (.invokevirtual 122, 3) := by decide +kernel
theorem dX7_seen_10 : decode cX7_seen 10 = .ok (.ifCond .eq 13, 3) := by decide +kernel
theorem dX7_seen_13 : decode cX7_seen 13 = .ok (.iload_n 2, 1) := by decide +kernel
theorem dX7_seen_14 : decode cX7_seen 14 = .ok (.ifCond .lt 9, 3) := by decide +kernel
theorem dX7_seen_17 : decode cX7_seen 17 = .ok (.iload_n 2, 1) := by decide +kernel
theorem dX7_seen_18 : decode cX7_seen 18 = .ok (.bipush 9, 2) := by decide +kernel
theorem dX7_seen_20 : decode cX7_seen 20 = .ok (.if_icmp .le 5, 3) := by decide +kernel
theorem dX7_seen_23 : decode cX7_seen 23 = .ok (.iconst (-1), 1) := by decide +kernel
theorem dX7_seen_24 : decode cX7_seen 24 = .ok (.ireturn, 1) := by decide +kernel
theorem dX7_seen_25 : decode cX7_seen 25 = .ok (.iload_n 2, 1) := by decide +kernel
theorem dX7_seen_26 : decode cX7_seen 26 = .ok (.iconst 2, 1) := by decide +kernel
theorem dX7_seen_27 : decode cX7_seen 27 = .ok (.if_icmp .ne 27, 3) := by decide +kernel
theorem dX7_seen_30 : decode cX7_seen 30 = .ok (.aload_n 0, 1) := by decide +kernel
theorem dX7_seen_31 : decode cX7_seen 31 = .ok (.invokevirtual 133, 3) := by decide +kernel
theorem dX7_seen_34 : decode cX7_seen 34 = .ok (.aload_n 0, 1) := by decide +kernel
theorem dX7_seen_35 : decode cX7_seen 35 = .ok (.getfield 42, 3) := by decide +kernel
theorem dX7_seen_38 : decode cX7_seen 38 = .ok (.iload_n 1, 1) := by decide +kernel
theorem dX7_seen_39 : decode cX7_seen 39 = .ok (.iaload, 1) := by decide +kernel
theorem dX7_seen_40 : decode cX7_seen 40 = .ok (.ifCond .ne 7, 3) := by decide +kernel
theorem dX7_seen_43 : decode cX7_seen 43 = .ok (.iconst 0, 1) := by decide +kernel
theorem dX7_seen_44 : decode cX7_seen 44 = .ok (.goto 9, 3) := by decide +kernel
theorem dX7_seen_47 : decode cX7_seen 47 = .ok (.aload_n 0, 1) := by decide +kernel
theorem dX7_seen_48 : decode cX7_seen 48 = .ok (.getfield 66, 3) := by decide +kernel
theorem dX7_seen_51 : decode cX7_seen 51 = .ok (.iload_n 1, 1) := by decide +kernel
theorem dX7_seen_52 : decode cX7_seen 52 = .ok (.iaload, 1) := by decide +kernel
theorem dX7_seen_53 : decode cX7_seen 53 = .ok (.ireturn, 1) := by decide +kernel
theorem dX7_seen_54 : decode cX7_seen 54 = .ok (.iload_n 2, 1) := by decide +kernel
theorem dX7_seen_55 : decode cX7_seen 55 = .ok (.iconst 2, 1) := by decide +kernel
theorem dX7_seen_56 : decode cX7_seen 56 = .ok (.if_icmp .ge 36, 3) := by decide +kernel
theorem dX7_seen_59 : decode cX7_seen 59 = .ok (.iload_n 2, 1) := by decide +kernel
theorem dX7_seen_60 : decode cX7_seen 60 = .ok (.ifCond .ne 12, 3) := by decide +kernel
theorem dX7_seen_63 : decode cX7_seen 63 = .ok (.aload_n 0, 1) := by decide +kernel
theorem dX7_seen_64 : decode cX7_seen 64 = .ok (.getfield 42, 3) := by decide +kernel
theorem dX7_seen_67 : decode cX7_seen 67 = .ok (.iload_n 1, 1) := by decide +kernel
theorem dX7_seen_68 : decode cX7_seen 68 = .ok (.iaload, 1) := by decide +kernel
theorem dX7_seen_69 : decode cX7_seen 69 = .ok (.goto 22, 3) := by decide +kernel
theorem dX7_seen_72 : decode cX7_seen 72 = .ok (.aload_n 0, 1) := by decide +kernel
theorem dX7_seen_73 : decode cX7_seen 73 = .ok (.getfield 42, 3) := by decide +kernel
theorem dX7_seen_76 : decode cX7_seen 76 = .ok (.iload_n 1, 1) := by decide +kernel
theorem dX7_seen_77 : decode cX7_seen 77 = .ok (.iaload, 1) := by decide +kernel
theorem dX7_seen_78 : decode cX7_seen 78 = .ok (.ifCond .ne 7, 3) := by decide +kernel
theorem dX7_seen_81 : decode cX7_seen 81 = .ok (.iconst (-1), 1) := by decide +kernel
theorem dX7_seen_82 : decode cX7_seen 82 = .ok (.goto 9, 3) := by decide +kernel
theorem dX7_seen_85 : decode cX7_seen 85 = .ok (.aload_n 0, 1) := by decide +kernel
theorem dX7_seen_86 : decode cX7_seen 86 = .ok (.getfield 45, 3) := by decide +kernel
theorem dX7_seen_89 : decode cX7_seen 89 = .ok (.iload_n 1, 1) := by decide +kernel
theorem dX7_seen_90 : decode cX7_seen 90 = .ok (.iaload, 1) := by decide +kernel
theorem dX7_seen_91 : decode cX7_seen 91 = .ok (.ireturn, 1) := by decide +kernel
theorem dX7_seen_92 : decode cX7_seen 92 = .ok (.iload_n 2, 1) := by decide +kernel
theorem dX7_seen_93 : decode cX7_seen 93 = .ok (.iconst 3, 1) := by decide +kernel
theorem dX7_seen_94 : decode cX7_seen 94 = .ok (.if_icmp .ne 12, 3) := by decide +kernel
theorem dX7_seen_97 : decode cX7_seen 97 = .ok (.aload_n 0, 1) := by decide +kernel
theorem dX7_seen_98 : decode cX7_seen 98 = .ok (.getfield 69, 3) := by decide +kernel
theorem dX7_seen_101 : decode cX7_seen 101 = .ok (.iload_n 1, 1) := by decide +kernel
theorem dX7_seen_102 : decode cX7_seen 102 = .ok (.iaload, 1) := by decide +kernel
theorem dX7_seen_103 : decode cX7_seen 103 = .ok (.goto 82, 3) := by decide +kernel
theorem dX7_seen_106 : decode cX7_seen 106 = .ok (.iload_n 2, 1) := by decide +kernel
theorem dX7_seen_107 : decode cX7_seen 107 = .ok (.iconst 4, 1) := by decide +kernel
theorem dX7_seen_108 : decode cX7_seen 108 = .ok (.if_icmp .ne 12, 3) := by decide +kernel
theorem dX7_seen_111 : decode cX7_seen 111 = .ok (.aload_n 0, 1) := by decide +kernel
theorem dX7_seen_112 : decode cX7_seen 112 = .ok (.getfield 72, 3) := by decide +kernel
theorem dX7_seen_115 : decode cX7_seen 115 = .ok (.iload_n 1, 1) := by decide +kernel
theorem dX7_seen_116 : decode cX7_seen 116 = .ok (.iaload, 1) := by decide +kernel
theorem dX7_seen_117 : decode cX7_seen 117 = .ok (.goto 68, 3) := by decide +kernel
theorem dX7_seen_120 : decode cX7_seen 120 = .ok (.iload_n 2, 1) := by decide +kernel
theorem dX7_seen_121 : decode cX7_seen 121 = .ok (.iconst 5, 1) := by decide +kernel
theorem dX7_seen_122 : decode cX7_seen 122 = .ok (.if_icmp .ne 12, 3) := by decide +kernel
theorem dX7_seen_125 : decode cX7_seen 125 = .ok (.aload_n 0, 1) := by decide +kernel
theorem dX7_seen_126 : decode cX7_seen 126 = .ok (.getfield 75, 3) := by decide +kernel
theorem dX7_seen_129 : decode cX7_seen 129 = .ok (.iload_n 1, 1) := by decide +kernel
theorem dX7_seen_130 : decode cX7_seen 130 = .ok (.iaload, 1) := by decide +kernel
theorem dX7_seen_131 : decode cX7_seen 131 = .ok (.goto 54, 3) := by decide +kernel
theorem dX7_seen_134 : decode cX7_seen 134 = .ok (.iload_n 2, 1) := by decide +kernel
theorem dX7_seen_135 : decode cX7_seen 135 = .ok (.bipush 6, 2) := by decide +kernel
theorem dX7_seen_137 : decode cX7_seen 137 = .ok (.if_icmp .ne 12, 3) := by decide +kernel
theorem dX7_seen_140 : decode cX7_seen 140 = .ok (.aload_n 0, 1) := by decide +kernel
theorem dX7_seen_141 : decode cX7_seen 141 = .ok (.getfield 78, 3) := by decide +kernel
theorem dX7_seen_144 : decode cX7_seen 144 = .ok (.iload_n 1, 1) := by decide +kernel
theorem dX7_seen_145 : decode cX7_seen 145 = .ok (.iaload, 1) := by decide +kernel
theorem dX7_seen_146 : decode cX7_seen 146 = .ok (.goto 39, 3) := by decide +kernel
theorem dX7_seen_149 : decode cX7_seen 149 = .ok (.iload_n 2, 1) := by decide +kernel
theorem dX7_seen_150 : decode cX7_seen 150 = .ok (.bipush 7, 2) := by decide +kernel
theorem dX7_seen_152 : decode cX7_seen 152 = .ok (.if_icmp .ne 12, 3) := by decide +kernel
theorem dX7_seen_155 : decode cX7_seen 155 = .ok (.aload_n 0, 1) := by decide +kernel
theorem dX7_seen_156 : decode cX7_seen 156 = .ok (.getfield 81, 3) := by decide +kernel
theorem dX7_seen_159 : decode cX7_seen 159 = .ok (.iload_n 1, 1) := by decide +kernel
theorem dX7_seen_160 : decode cX7_seen 160 = .ok (.iaload, 1) := by decide +kernel
theorem dX7_seen_161 : decode cX7_seen 161 = .ok (.goto 24, 3) := by decide +kernel
theorem dX7_seen_164 : decode cX7_seen 164 = .ok (.iload_n 2, 1) := by decide +kernel
theorem dX7_seen_165 : decode cX7_seen 165 = .ok (.bipush 8, 2) := by decide +kernel
theorem dX7_seen_167 : decode cX7_seen 167 = .ok (.if_icmp .ne 12, 3) := by decide +kernel
theorem dX7_seen_170 : decode cX7_seen 170 = .ok (.aload_n 0, 1) := by decide +kernel
theorem dX7_seen_171 : decode cX7_seen 171 = .ok (.getfield 84, 3) := by decide +kernel
theorem dX7_seen_174 : decode cX7_seen 174 = .ok (.iload_n 1, 1) := by decide +kernel
theorem dX7_seen_175 : decode cX7_seen 175 = .ok (.iaload, 1) := by decide +kernel
theorem dX7_seen_176 : decode cX7_seen 176 = .ok (.goto 9, 3) := by decide +kernel
theorem dX7_seen_179 : decode cX7_seen 179 = .ok (.aload_n 0, 1) := by decide +kernel
theorem dX7_seen_180 : decode cX7_seen 180 = .ok (.getfield 60, 3) := by decide +kernel
theorem dX7_seen_183 : decode cX7_seen 183 = .ok (.iload_n 1, 1) := by decide +kernel
theorem dX7_seen_184 : decode cX7_seen 184 = .ok (.iaload, 1) := by decide +kernel
theorem dX7_seen_185 : decode cX7_seen 185 = .ok (.ireturn, 1) := by decide +kernel
theorem dX7_ceil_0 : decode cX7_ceil 0 = .ok (.iconst 0, 1) := by decide +kernel
theorem dX7_ceil_1 : decode cX7_ceil 1 = .ok (.istore_n 2, 1) := by decide +kernel
theorem dX7_ceil_2 : decode cX7_ceil 2 = .ok (.iconst 0, 1) := by decide +kernel
theorem dX7_ceil_3 : decode cX7_ceil 3 = .ok (.istore_n 3, 1) := by decide +kernel
theorem dX7_ceil_4 : decode cX7_ceil 4 = .ok (.iload_n 3, 1) := by decide +kernel
theorem dX7_ceil_5 : decode cX7_ceil 5 = .ok (.aload_n 0, 1) := by decide +kernel
theorem dX7_ceil_6 : decode cX7_ceil 6 = .ok (.getfield 112, 3) := by decide +kernel
theorem dX7_ceil_9 : decode cX7_ceil 9 = .ok (.if_icmp .ge 94, 3) := by decide +kernel
theorem dX7_ceil_12 : decode cX7_ceil 12 = .ok (.iconst 0, 1) := by decide +kernel
theorem dX7_ceil_13 : decode cX7_ceil 13 = .ok (.istore 4, 2) := by decide +kernel
theorem dX7_ceil_15 : decode cX7_ceil 15 = .ok (.iload 4, 2) := by decide +kernel
theorem dX7_ceil_17 : decode cX7_ceil 17 = .ok (.aload_n 0, 1) := by decide +kernel
theorem dX7_ceil_18 : decode cX7_ceil 18 = .ok (.getfield 33, 3) := by decide +kernel
theorem dX7_ceil_21 : decode cX7_ceil 21 = .ok (.iload_n 3, 1) := by decide +kernel
theorem dX7_ceil_22 : decode cX7_ceil 22 = .ok (.iaload, 1) := by decide +kernel
theorem dX7_ceil_23 : decode cX7_ceil 23 = .ok (.if_icmp .ge 74, 3) := by decide +kernel
theorem dX7_ceil_26 : decode cX7_ceil 26 = .ok (.aload_n 0, 1) := by decide +kernel
theorem dX7_ceil_27 : decode cX7_ceil 27 = .ok (.getfield 36, 3) := by decide +kernel
theorem dX7_ceil_30 : decode cX7_ceil 30 = .ok (.bipush 10, 2) := by decide +kernel
theorem dX7_ceil_32 : decode cX7_ceil 32 = .ok (.iload_n 3, 1) := by decide +kernel
theorem dX7_ceil_33 : decode cX7_ceil 33 = .ok (.imul, 1) := by decide +kernel
theorem dX7_ceil_34 : decode cX7_ceil 34 = .ok (.iload 4, 2) := by decide +kernel
theorem dX7_ceil_36 : decode cX7_ceil 36 = .ok (.iadd, 1) := by decide +kernel
theorem dX7_ceil_37 : decode cX7_ceil 37 = .ok (.iaload, 1) := by decide +kernel
theorem dX7_ceil_38 : decode cX7_ceil 38 = .ok (.iconst 1, 1) := by decide +kernel
theorem dX7_ceil_39 : decode cX7_ceil 39 = .ok (.if_icmp .ne 23, 3) := by decide +kernel
theorem dX7_ceil_42 : decode cX7_ceil 42 = .ok (.aload_n 0, 1) := by decide +kernel
theorem dX7_ceil_43 : decode cX7_ceil 43 = .ok (.getfield 39, 3) := by decide +kernel
theorem dX7_ceil_46 : decode cX7_ceil 46 = .ok (.bipush 10, 2) := by decide +kernel
theorem dX7_ceil_48 : decode cX7_ceil 48 = .ok (.iload_n 3, 1) := by decide +kernel
theorem dX7_ceil_49 : decode cX7_ceil 49 = .ok (.imul, 1) := by decide +kernel
theorem dX7_ceil_50 : decode cX7_ceil 50 = .ok (.iload 4, 2) := by decide +kernel
theorem dX7_ceil_52 : decode cX7_ceil 52 = .ok (.iadd, 1) := by decide +kernel
theorem dX7_ceil_53 : decode cX7_ceil 53 = .ok (.iaload, 1) := by decide +kernel
theorem dX7_ceil_54 : decode cX7_ceil 54 = .ok (.iload_n 1, 1) := by decide +kernel
theorem dX7_ceil_55 : decode cX7_ceil 55 = .ok (.if_icmp .ne 7, 3) := by decide +kernel
theorem dX7_ceil_58 : decode cX7_ceil 58 = .ok (.iconst 1, 1) := by decide +kernel
theorem dX7_ceil_59 : decode cX7_ceil 59 = .ok (.goto 4, 3) := by decide +kernel
theorem dX7_ceil_62 : decode cX7_ceil 62 = .ok (.iconst 0, 1) := by decide +kernel
theorem dX7_ceil_63 : decode cX7_ceil 63 = .ok (.istore 5, 2) := by decide +kernel
theorem dX7_ceil_65 : decode cX7_ceil 65 = .ok (.iload 5, 2) := by decide +kernel
theorem dX7_ceil_67 : decode cX7_ceil 67 = .ok (.ifCond .eq 22, 3) := by decide +kernel
theorem dX7_ceil_70 : decode cX7_ceil 70 = .ok (.aload_n 0, 1) := by decide +kernel
theorem dX7_ceil_71 : decode cX7_ceil 71 = .ok (.getfield 13, 3) := by decide +kernel
theorem dX7_ceil_74 : decode cX7_ceil 74 = .ok (.iload_n 3, 1) := by decide +kernel
theorem dX7_ceil_75 : decode cX7_ceil 75 = .ok (.iaload, 1) := by decide +kernel
theorem dX7_ceil_76 : decode cX7_ceil 76 = .ok (.iload_n 2, 1) := by decide +kernel
theorem dX7_ceil_77 : decode cX7_ceil 77 = .ok (.if_icmp .le 12, 3) := by decide +kernel
theorem dX7_ceil_80 : decode cX7_ceil 80 = .ok (.aload_n 0, 1) := by decide +kernel
theorem dX7_ceil_81 : decode cX7_ceil 81 = .ok (.getfield 13, 3) := by decide +kernel
theorem dX7_ceil_84 : decode cX7_ceil 84 = .ok (.iload_n 3, 1) := by decide +kernel
theorem dX7_ceil_85 : decode cX7_ceil 85 = .ok (.iaload, 1) := by decide +kernel
theorem dX7_ceil_86 : decode cX7_ceil 86 = .ok (.goto 4, 3) := by decide +kernel
theorem dX7_ceil_89 : decode cX7_ceil 89 = .ok (.iload_n 2, 1) := by decide +kernel
theorem dX7_ceil_90 : decode cX7_ceil 90 = .ok (.istore_n 2, 1) := by decide +kernel
theorem dX7_ceil_91 : decode cX7_ceil 91 = .ok (.iinc 4 1, 3) := by decide +kernel
theorem dX7_ceil_94 : decode cX7_ceil 94 = .ok (.goto (-79), 3) := by decide +kernel
theorem dX7_ceil_97 : decode cX7_ceil 97 = .ok (.iinc 3 1, 3) := by decide +kernel
theorem dX7_ceil_100 : decode cX7_ceil 100 = .ok (.goto (-96), 3) := by decide +kernel
theorem dX7_ceil_103 : decode cX7_ceil 103 = .ok (.iload_n 2, 1) := by decide +kernel
theorem dX7_ceil_104 : decode cX7_ceil 104 = .ok (.ireturn, 1) := by decide +kernel
theorem dX7_held_0 : decode cX7_held 0 = .ok (.aload_n 0, 1) := by decide +kernel
theorem dX7_held_1 : decode cX7_held 1 = .ok (.iconst 0, 1) := by decide +kernel
theorem dX7_held_2 : decode cX7_held 2 = .ok (.putfield 109, 3) := by decide +kernel
theorem dX7_held_5 : decode cX7_held 5 = .ok (.iload_n 1, 1) := by decide +kernel
theorem dX7_held_6 : decode cX7_held 6 = .ok (.ifCond .lt 20, 3) := by decide +kernel
theorem dX7_held_9 : decode cX7_held 9 = .ok (.iload_n 1, 1) := by decide +kernel
theorem dX7_held_10 : decode cX7_held 10 = .ok (.aload_n 0, 1) := by decide +kernel
theorem dX7_held_11 : decode cX7_held 11 = .ok (.getfield 126, 3) := by decide +kernel
theorem dX7_held_14 : decode cX7_held 14 = .ok (.if_icmp .ge 12, 3) := by decide +kernel
theorem dX7_held_17 : decode cX7_held 17 = .ok (.iload_n 2, 1) := by decide +kernel
theorem dX7_held_18 : decode cX7_held 18 = .ok (.ifCond .lt 8, 3) := by decide +kernel
theorem dX7_held_21 : decode cX7_held 21 = .ok (.iload_n 2, 1) := by decide +kernel
theorem dX7_held_22 : decode cX7_held 22 = .ok (.iconst 2, 1) := by decide +kernel
theorem dX7_held_23 : decode cX7_held 23 = .ok (.if_icmp .le 5, 3) := by decide +kernel
theorem dX7_held_26 : decode cX7_held 26 = .ok (.iconst (-1), 1) := by decide +kernel
theorem dX7_held_27 : decode cX7_held 27 = .ok (.ireturn, 1) := by decide +kernel
theorem dX7_held_28 : decode cX7_held 28 = .ok (.iconst 0, 1) := by decide +kernel
theorem dX7_held_29 : decode cX7_held 29 = .ok (.istore_n 3, 1) := by decide +kernel
theorem dX7_held_30 : decode cX7_held 30 = .ok (.iconst 0, 1) := by decide +kernel
theorem dX7_held_31 : decode cX7_held 31 = .ok (.istore 4, 2) := by decide +kernel
theorem dX7_held_33 : decode cX7_held 33 = .ok (.iload 4, 2) := by decide +kernel
theorem dX7_held_35 : decode cX7_held 35 = .ok (.aload_n 0, 1) := by decide +kernel
theorem dX7_held_36 : decode cX7_held 36 = .ok (.getfield 112, 3) := by decide +kernel
theorem dX7_held_39 : decode cX7_held 39 = .ok (.if_icmp .ge 39, 3) := by decide +kernel
theorem dX7_held_42 : decode cX7_held 42 = .ok (.iload_n 3, 1) := by decide +kernel
theorem dX7_held_43 : decode cX7_held 43 = .ok (.aload_n 0, 1) := by decide +kernel
theorem dX7_held_44 : decode cX7_held 44 = .ok (.getfield 42, 3) := by decide +kernel
theorem dX7_held_47 : decode cX7_held 47 = .ok (.iload 4, 2) := by decide +kernel
theorem dX7_held_49 : decode cX7_held 49 = .ok (.iaload, 1) := by decide +kernel
theorem dX7_held_50 : decode cX7_held 50 = .ok (.iconst 2, 1) := by decide +kernel
theorem dX7_held_51 : decode cX7_held 51 = .ok (.if_icmp .ne 18, 3) := by decide +kernel
theorem dX7_held_54 : decode cX7_held 54 = .ok (.aload_n 0, 1) := by decide +kernel
theorem dX7_held_55 : decode cX7_held 55 = .ok (.getfield 60, 3) := by decide +kernel
theorem dX7_held_58 : decode cX7_held 58 = .ok (.iload 4, 2) := by decide +kernel
theorem dX7_held_60 : decode cX7_held 60 = .ok (.iaload, 1) := by decide +kernel
theorem dX7_held_61 : decode cX7_held 61 = .ok (.iload_n 1, 1) := by decide +kernel
theorem dX7_held_62 : decode cX7_held 62 = .ok (.if_icmp .ne 7, 3) := by decide +kernel
theorem dX7_held_65 : decode cX7_held 65 = .ok (.iconst 1, 1) := by decide +kernel
theorem dX7_held_66 : decode cX7_held 66 = .ok (.goto 4, 3) := by decide +kernel
theorem dX7_held_69 : decode cX7_held 69 = .ok (.iconst 0, 1) := by decide +kernel
theorem dX7_held_70 : decode cX7_held 70 = .ok (.iadd, 1) := by decide +kernel
theorem dX7_held_71 : decode cX7_held 71 = .ok (.istore_n 3, 1) := by decide +kernel
theorem dX7_held_72 : decode cX7_held 72 = .ok (.iinc 4 1, 3) := by decide +kernel
theorem dX7_held_75 : decode cX7_held 75 = .ok (.goto (-42), 3) := by decide +kernel
theorem dX7_held_78 : decode cX7_held 78 = .ok (.iload_n 2, 1) := by decide +kernel
theorem dX7_held_79 : decode cX7_held 79 = .ok (.ifCond .ne 12, 3) := by decide +kernel
theorem dX7_held_82 : decode cX7_held 82 = .ok (.aload_n 0, 1) := by decide +kernel
theorem dX7_held_83 : decode cX7_held 83 = .ok (.getfield 93, 3) := by decide +kernel
theorem dX7_held_86 : decode cX7_held 86 = .ok (.iload_n 1, 1) := by decide +kernel
theorem dX7_held_87 : decode cX7_held 87 = .ok (.iaload, 1) := by decide +kernel
theorem dX7_held_88 : decode cX7_held 88 = .ok (.goto 17, 3) := by decide +kernel
theorem dX7_held_91 : decode cX7_held 91 = .ok (.iload_n 2, 1) := by decide +kernel
theorem dX7_held_92 : decode cX7_held 92 = .ok (.iconst 1, 1) := by decide +kernel
theorem dX7_held_93 : decode cX7_held 93 = .ok (.if_icmp .ne 7, 3) := by decide +kernel
theorem dX7_held_96 : decode cX7_held 96 = .ok (.iload_n 3, 1) := by decide +kernel
theorem dX7_held_97 : decode cX7_held 97 = .ok (.goto 8, 3) := by decide +kernel
theorem dX7_held_100 : decode cX7_held 100 = .ok (.aload_n 0, 1) := by decide +kernel
theorem dX7_held_101 : decode cX7_held 101 = .ok (.iload_n 1, 1) := by decide +kernel
theorem dX7_held_102 : decode cX7_held 102 = .ok (.invokevirtual 187, 3) := by decide +kernel
theorem dX7_held_105 : decode cX7_held 105 = .ok (.ireturn, 1) := by decide +kernel
theorem dX7_event_0 : decode cX7_event 0 = .ok (.aload_n 0, 1) := by decide +kernel
theorem dX7_event_1 : decode cX7_event 1 = .ok (.iconst 0, 1) := by decide +kernel
theorem dX7_event_2 : decode cX7_event 2 = .ok (.putfield 109, 3) := by decide +kernel
theorem dX7_event_5 : decode cX7_event 5 = .ok (.iload_n 1, 1) := by decide +kernel
theorem dX7_event_6 : decode cX7_event 6 = .ok (.ifCond .lt 26, 3) := by decide +kernel
theorem dX7_event_9 : decode cX7_event 9 = .ok (.iload_n 1, 1) := by decide +kernel
theorem dX7_event_10 : decode cX7_event 10 = .ok (.bipush 40, 2) := by decide +kernel
theorem dX7_event_12 : decode cX7_event 12 = .ok (.if_icmp .ge 20, 3) := by decide +kernel
theorem dX7_event_15 : decode cX7_event 15 = .ok (.iload_n 1, 1) := by decide +kernel
theorem dX7_event_16 : decode cX7_event 16 = .ok (.aload_n 0, 1) := by decide +kernel
theorem dX7_event_17 : decode cX7_event 17 = .ok (.getfield 136, 3) := by decide +kernel
theorem dX7_event_20 : decode cX7_event 20 = .ok (.if_icmp .ge 12, 3) := by decide +kernel
theorem dX7_event_23 : decode cX7_event 23 = .ok (.iload_n 2, 1) := by decide +kernel
theorem dX7_event_24 : decode cX7_event 24 = .ok (.ifCond .lt 8, 3) := by decide +kernel
theorem dX7_event_27 : decode cX7_event 27 = .ok (.iload_n 2, 1) := by decide +kernel
theorem dX7_event_28 : decode cX7_event 28 = .ok (.iconst 2, 1) := by decide +kernel
theorem dX7_event_29 : decode cX7_event 29 = .ok (.if_icmp .le 5, 3) := by decide +kernel
theorem dX7_event_32 : decode cX7_event 32 = .ok (.iconst (-1), 1) := by decide +kernel
theorem dX7_event_33 : decode cX7_event 33 = .ok (.ireturn, 1) := by decide +kernel
theorem dX7_event_34 : decode cX7_event 34 = .ok (.aload_n 0, 1) := by decide +kernel
theorem dX7_event_35 : decode cX7_event 35 = .ok (.getfield 136, 3) := by decide +kernel
theorem dX7_event_38 : decode cX7_event 38 = .ok (.iconst 1, 1) := by decide +kernel
theorem dX7_event_39 : decode cX7_event 39 = .ok (.isub, 1) := by decide +kernel
theorem dX7_event_40 : decode cX7_event 40 = .ok (.iload_n 1, 1) := by decide +kernel
theorem dX7_event_41 : decode cX7_event 41 = .ok (.isub, 1) := by decide +kernel
theorem dX7_event_42 : decode cX7_event 42 = .ok (.bipush 40, 2) := by decide +kernel
theorem dX7_event_44 : decode cX7_event 44 = .ok (.irem, 1) := by decide +kernel
theorem dX7_event_45 : decode cX7_event 45 = .ok (.istore_n 3, 1) := by decide +kernel
theorem dX7_event_46 : decode cX7_event 46 = .ok (.iload_n 2, 1) := by decide +kernel
theorem dX7_event_47 : decode cX7_event 47 = .ok (.ifCond .ne 12, 3) := by decide +kernel
theorem dX7_event_50 : decode cX7_event 50 = .ok (.aload_n 0, 1) := by decide +kernel
theorem dX7_event_51 : decode cX7_event 51 = .ok (.getfield 96, 3) := by decide +kernel
theorem dX7_event_54 : decode cX7_event 54 = .ok (.iload_n 3, 1) := by decide +kernel
theorem dX7_event_55 : decode cX7_event 55 = .ok (.iaload, 1) := by decide +kernel
theorem dX7_event_56 : decode cX7_event 56 = .ok (.goto 23, 3) := by decide +kernel
theorem dX7_event_59 : decode cX7_event 59 = .ok (.iload_n 2, 1) := by decide +kernel
theorem dX7_event_60 : decode cX7_event 60 = .ok (.iconst 1, 1) := by decide +kernel
theorem dX7_event_61 : decode cX7_event 61 = .ok (.if_icmp .ne 12, 3) := by decide +kernel
theorem dX7_event_64 : decode cX7_event 64 = .ok (.aload_n 0, 1) := by decide +kernel
theorem dX7_event_65 : decode cX7_event 65 = .ok (.getfield 99, 3) := by decide +kernel
theorem dX7_event_68 : decode cX7_event 68 = .ok (.iload_n 3, 1) := by decide +kernel
theorem dX7_event_69 : decode cX7_event 69 = .ok (.iaload, 1) := by decide +kernel
theorem dX7_event_70 : decode cX7_event 70 = .ok (.goto 9, 3) := by decide +kernel
theorem dX7_event_73 : decode cX7_event 73 = .ok (.aload_n 0, 1) := by decide +kernel
theorem dX7_event_74 : decode cX7_event 74 = .ok (.getfield 102, 3) := by decide +kernel
theorem dX7_event_77 : decode cX7_event 77 = .ok (.iload_n 3, 1) := by decide +kernel
theorem dX7_event_78 : decode cX7_event 78 = .ok (.iaload, 1) := by decide +kernel
theorem dX7_event_79 : decode cX7_event 79 = .ok (.ireturn, 1) := by decide +kernel
theorem dX7_cost_0 : decode cX7_cost 0 = .ok (.iconst 0, 1) := by decide +kernel
theorem dX7_cost_1 : decode cX7_cost 1 = .ok (.istore_n 2, 1) := by decide +kernel
theorem dX7_cost_2 : decode cX7_cost 2 = .ok (.iconst 0, 1) := by decide +kernel
theorem dX7_cost_3 : decode cX7_cost 3 = .ok (.istore_n 3, 1) := by decide +kernel
theorem dX7_cost_4 : decode cX7_cost 4 = .ok (.iload_n 3, 1) := by decide +kernel
theorem dX7_cost_5 : decode cX7_cost 5 = .ok (.aload_n 0, 1) := by decide +kernel
theorem dX7_cost_6 : decode cX7_cost 6 = .ok (.getfield 33, 3) := by decide +kernel
theorem dX7_cost_9 : decode cX7_cost 9 = .ok (.iload_n 1, 1) := by decide +kernel
theorem dX7_cost_10 : decode cX7_cost 10 = .ok (.iaload, 1) := by decide +kernel
theorem dX7_cost_11 : decode cX7_cost 11 = .ok (.if_icmp .ge 41, 3) := by decide +kernel
theorem dX7_cost_14 : decode cX7_cost 14 = .ok (.iload_n 2, 1) := by decide +kernel
theorem dX7_cost_15 : decode cX7_cost 15 = .ok (.aload_n 0, 1) := by decide +kernel
theorem dX7_cost_16 : decode cX7_cost 16 = .ok (.getfield 36, 3) := by decide +kernel
theorem dX7_cost_19 : decode cX7_cost 19 = .ok (.bipush 10, 2) := by decide +kernel
theorem dX7_cost_21 : decode cX7_cost 21 = .ok (.iload_n 1, 1) := by decide +kernel
theorem dX7_cost_22 : decode cX7_cost 22 = .ok (.imul, 1) := by decide +kernel
theorem dX7_cost_23 : decode cX7_cost 23 = .ok (.iload_n 3, 1) := by decide +kernel
theorem dX7_cost_24 : decode cX7_cost 24 = .ok (.iadd, 1) := by decide +kernel
theorem dX7_cost_25 : decode cX7_cost 25 = .ok (.iaload, 1) := by decide +kernel
theorem dX7_cost_26 : decode cX7_cost 26 = .ok (.ifCond .ne 17, 3) := by decide +kernel
theorem dX7_cost_29 : decode cX7_cost 29 = .ok (.aload_n 0, 1) := by decide +kernel
theorem dX7_cost_30 : decode cX7_cost 30 = .ok (.getfield 39, 3) := by decide +kernel
theorem dX7_cost_33 : decode cX7_cost 33 = .ok (.bipush 10, 2) := by decide +kernel
theorem dX7_cost_35 : decode cX7_cost 35 = .ok (.iload_n 1, 1) := by decide +kernel
theorem dX7_cost_36 : decode cX7_cost 36 = .ok (.imul, 1) := by decide +kernel
theorem dX7_cost_37 : decode cX7_cost 37 = .ok (.iload_n 3, 1) := by decide +kernel
theorem dX7_cost_38 : decode cX7_cost 38 = .ok (.iadd, 1) := by decide +kernel
theorem dX7_cost_39 : decode cX7_cost 39 = .ok (.iaload, 1) := by decide +kernel
theorem dX7_cost_40 : decode cX7_cost 40 = .ok (.goto 4, 3) := by decide +kernel
theorem dX7_cost_43 : decode cX7_cost 43 = .ok (.iconst 0, 1) := by decide +kernel
theorem dX7_cost_44 : decode cX7_cost 44 = .ok (.iadd, 1) := by decide +kernel
theorem dX7_cost_45 : decode cX7_cost 45 = .ok (.istore_n 2, 1) := by decide +kernel
theorem dX7_cost_46 : decode cX7_cost 46 = .ok (.iinc 3 1, 3) := by decide +kernel
theorem dX7_cost_49 : decode cX7_cost 49 = .ok (.goto (-45), 3) := by decide +kernel
theorem dX7_cost_52 : decode cX7_cost 52 = .ok (.iload_n 2, 1) := by decide +kernel
theorem dX7_cost_53 : decode cX7_cost 53 = .ok (.ireturn, 1) := by decide +kernel
theorem dX7_section_0 : decode cX7_section 0 = .ok (.aload_n 0, 1) := by decide +kernel
theorem dX7_section_1 : decode cX7_section 1 = .ok (.getfield 39, 3) := by decide +kernel
theorem dX7_section_4 : decode cX7_section 4 = .ok (.bipush 10, 2) := by decide +kernel
theorem dX7_section_6 : decode cX7_section 6 = .ok (.iload_n 1, 1) := by decide +kernel
theorem dX7_section_7 : decode cX7_section 7 = .ok (.imul, 1) := by decide +kernel
theorem dX7_section_8 : decode cX7_section 8 = .ok (.iload_n 2, 1) := by decide +kernel
theorem dX7_section_9 : decode cX7_section 9 = .ok (.iadd, 1) := by decide +kernel
theorem dX7_section_10 : decode cX7_section 10 = .ok (.iaload, 1) := by decide +kernel
theorem dX7_section_11 : decode cX7_section 11 = .ok (.istore_n 3, 1) := by decide +kernel
theorem dX7_section_12 : decode cX7_section 12 = .ok (.iconst 0, 1) := by decide +kernel
theorem dX7_section_13 : decode cX7_section 13 = .ok (.istore 4, 2) := by decide +kernel
theorem dX7_section_15 : decode cX7_section 15 = .ok (.iload_n 2, 1) := by decide +kernel
theorem dX7_section_16 : decode cX7_section 16 = .ok (.iconst 1, 1) := by decide +kernel
theorem dX7_section_17 : decode cX7_section 17 = .ok (.iadd, 1) := by decide +kernel
theorem dX7_section_18 : decode cX7_section 18 = .ok (.istore 5, 2) := by decide +kernel
theorem dX7_section_20 : decode cX7_section 20 = .ok (.iload 5, 2) := by decide +kernel
theorem dX7_section_22 : decode cX7_section 22 = .ok (.aload_n 0, 1) := by decide +kernel
theorem dX7_section_23 : decode cX7_section 23 = .ok (.getfield 33, 3) := by decide +kernel
theorem dX7_section_26 : decode cX7_section 26 = .ok (.iload_n 1, 1) := by decide +kernel
theorem dX7_section_27 : decode cX7_section 27 = .ok (.iaload, 1) := by decide +kernel
theorem dX7_section_28 : decode cX7_section 28 = .ok (.if_icmp .ge 69, 3) := by decide +kernel
theorem dX7_section_31 : decode cX7_section 31 = .ok (.bipush 10, 2) := by decide +kernel
theorem dX7_section_33 : decode cX7_section 33 = .ok (.iload_n 1, 1) := by decide +kernel
theorem dX7_section_34 : decode cX7_section 34 = .ok (.imul, 1) := by decide +kernel
theorem dX7_section_35 : decode cX7_section 35 = .ok (.iload 5, 2) := by decide +kernel
theorem dX7_section_37 : decode cX7_section 37 = .ok (.iadd, 1) := by decide +kernel
theorem dX7_section_38 : decode cX7_section 38 = .ok (.istore 6, 2) := by decide +kernel
theorem dX7_section_40 : decode cX7_section 40 = .ok (.aload_n 0, 1) := by decide +kernel
theorem dX7_section_41 : decode cX7_section 41 = .ok (.getfield 36, 3) := by decide +kernel
theorem dX7_section_44 : decode cX7_section 44 = .ok (.iload 6, 2) := by decide +kernel
theorem dX7_section_46 : decode cX7_section 46 = .ok (.iaload, 1) := by decide +kernel
theorem dX7_section_47 : decode cX7_section 47 = .ok (.iconst 2, 1) := by decide +kernel
theorem dX7_section_48 : decode cX7_section 48 = .ok (.if_icmp .ne 17, 3) := by decide +kernel
theorem dX7_section_51 : decode cX7_section 51 = .ok (.aload_n 0, 1) := by decide +kernel
theorem dX7_section_52 : decode cX7_section 52 = .ok (.getfield 39, 3) := by decide +kernel
theorem dX7_section_55 : decode cX7_section 55 = .ok (.iload 6, 2) := by decide +kernel
theorem dX7_section_57 : decode cX7_section 57 = .ok (.iaload, 1) := by decide +kernel
theorem dX7_section_58 : decode cX7_section 58 = .ok (.iload_n 3, 1) := by decide +kernel
theorem dX7_section_59 : decode cX7_section 59 = .ok (.if_icmp .ne 6, 3) := by decide +kernel
theorem dX7_section_62 : decode cX7_section 62 = .ok (.iload 4, 2) := by decide +kernel
theorem dX7_section_64 : decode cX7_section 64 = .ok (.ireturn, 1) := by decide +kernel
theorem dX7_section_65 : decode cX7_section 65 = .ok (.iload 4, 2) := by decide +kernel
theorem dX7_section_67 : decode cX7_section 67 = .ok (.aload_n 0, 1) := by decide +kernel
theorem dX7_section_68 : decode cX7_section 68 = .ok (.getfield 36, 3) := by decide +kernel
theorem dX7_section_71 : decode cX7_section 71 = .ok (.iload 6, 2) := by decide +kernel
theorem dX7_section_73 : decode cX7_section 73 = .ok (.iaload, 1) := by decide +kernel
theorem dX7_section_74 : decode cX7_section 74 = .ok (.ifCond .ne 13, 3) := by decide +kernel
theorem dX7_section_77 : decode cX7_section 77 = .ok (.aload_n 0, 1) := by decide +kernel
theorem dX7_section_78 : decode cX7_section 78 = .ok (.getfield 39, 3) := by decide +kernel
theorem dX7_section_81 : decode cX7_section 81 = .ok (.iload 6, 2) := by decide +kernel
theorem dX7_section_83 : decode cX7_section 83 = .ok (.iaload, 1) := by decide +kernel
theorem dX7_section_84 : decode cX7_section 84 = .ok (.goto 4, 3) := by decide +kernel
theorem dX7_section_87 : decode cX7_section 87 = .ok (.iconst 0, 1) := by decide +kernel
theorem dX7_section_88 : decode cX7_section 88 = .ok (.iadd, 1) := by decide +kernel
theorem dX7_section_89 : decode cX7_section 89 = .ok (.istore 4, 2) := by decide +kernel
theorem dX7_section_91 : decode cX7_section 91 = .ok (.iinc 5 1, 3) := by decide +kernel
theorem dX7_section_94 : decode cX7_section 94 = .ok (.goto (-74), 3) := by decide +kernel
theorem dX7_section_97 : decode cX7_section 97 = .ok (.iload 4, 2) := by decide +kernel
theorem dX7_section_99 : decode cX7_section 99 = .ok (.ireturn, 1) := by decide +kernel
theorem dX7_blocking_0 : decode cX7_blocking 0 = .ok (.iconst 0, 1) := by decide +kernel
theorem dX7_blocking_1 : decode cX7_blocking 1 = .ok (.istore_n 2, 1) := by decide +kernel
theorem dX7_blocking_2 : decode cX7_blocking 2 = .ok (.iconst 0, 1) := by decide +kernel
theorem dX7_blocking_3 : decode cX7_blocking 3 = .ok (.istore_n 3, 1) := by decide +kernel
theorem dX7_blocking_4 : decode cX7_blocking 4 = .ok (.iload_n 3, 1) := by decide +kernel
theorem dX7_blocking_5 : decode cX7_blocking 5 = .ok (.aload_n 0, 1) := by decide +kernel
theorem dX7_blocking_6 : decode cX7_blocking 6 = .ok (.getfield 112, 3) := by decide +kernel
theorem dX7_blocking_9 : decode cX7_blocking 9 = .ok (.if_icmp .ge 107, 3) := by decide +kernel
theorem dX7_blocking_12 : decode cX7_blocking 12 = .ok (.iconst 0, 1) := by decide +kernel
theorem dX7_blocking_13 : decode cX7_blocking 13 = .ok (.istore 4, 2) := by decide +kernel
theorem dX7_blocking_15 : decode cX7_blocking 15 = .ok (.iload 4, 2) := by decide +kernel
theorem dX7_blocking_17 : decode cX7_blocking 17 = .ok (.aload_n 0, 1) := by decide +kernel
theorem dX7_blocking_18 : decode cX7_blocking 18 = .ok (.getfield 33, 3) := by decide +kernel
theorem dX7_blocking_21 : decode cX7_blocking 21 = .ok (.iload_n 3, 1) := by decide +kernel
theorem dX7_blocking_22 : decode cX7_blocking 22 = .ok (.iaload, 1) := by decide +kernel
theorem dX7_blocking_23 : decode cX7_blocking 23 = .ok (.if_icmp .ge 87, 3) := by decide +kernel
theorem dX7_blocking_26 : decode cX7_blocking 26 = .ok (.aload_n 0, 1) := by decide +kernel
theorem dX7_blocking_27 : decode cX7_blocking 27 = .ok (.getfield 13, 3) := by decide +kernel
theorem dX7_blocking_30 : decode cX7_blocking 30 = .ok (.iload_n 3, 1) := by decide +kernel
theorem dX7_blocking_31 : decode cX7_blocking 31 = .ok (.iaload, 1) := by decide +kernel
theorem dX7_blocking_32 : decode cX7_blocking 32 = .ok (.aload_n 0, 1) := by decide +kernel
theorem dX7_blocking_33 : decode cX7_blocking 33 = .ok (.getfield 13, 3) := by decide +kernel
theorem dX7_blocking_36 : decode cX7_blocking 36 = .ok (.iload_n 1, 1) := by decide +kernel
theorem dX7_blocking_37 : decode cX7_blocking 37 = .ok (.iaload, 1) := by decide +kernel
theorem dX7_blocking_38 : decode cX7_blocking 38 = .ok (.if_icmp .ge 72, 3) := by decide +kernel
theorem dX7_blocking_41 : decode cX7_blocking 41 = .ok (.aload_n 0, 1) := by decide +kernel
theorem dX7_blocking_42 : decode cX7_blocking 42 = .ok (.getfield 36, 3) := by decide +kernel
theorem dX7_blocking_45 : decode cX7_blocking 45 = .ok (.bipush 10, 2) := by decide +kernel
theorem dX7_blocking_47 : decode cX7_blocking 47 = .ok (.iload_n 3, 1) := by decide +kernel
theorem dX7_blocking_48 : decode cX7_blocking 48 = .ok (.imul, 1) := by decide +kernel
theorem dX7_blocking_49 : decode cX7_blocking 49 = .ok (.iload 4, 2) := by decide +kernel
theorem dX7_blocking_51 : decode cX7_blocking 51 = .ok (.iadd, 1) := by decide +kernel
theorem dX7_blocking_52 : decode cX7_blocking 52 = .ok (.iaload, 1) := by decide +kernel
theorem dX7_blocking_53 : decode cX7_blocking 53 = .ok (.iconst 1, 1) := by decide +kernel
theorem dX7_blocking_54 : decode cX7_blocking 54 = .ok (.if_icmp .ne 50, 3) := by decide +kernel
theorem dX7_blocking_57 : decode cX7_blocking 57 = .ok (.aload_n 0, 1) := by decide +kernel
theorem dX7_blocking_58 : decode cX7_blocking 58 = .ok (.aload_n 0, 1) := by decide +kernel
theorem dX7_blocking_59 : decode cX7_blocking 59 = .ok (.getfield 39, 3) := by decide +kernel
theorem dX7_blocking_62 : decode cX7_blocking 62 = .ok (.bipush 10, 2) := by decide +kernel
theorem dX7_blocking_64 : decode cX7_blocking 64 = .ok (.iload_n 3, 1) := by decide +kernel
theorem dX7_blocking_65 : decode cX7_blocking 65 = .ok (.imul, 1) := by decide +kernel
theorem dX7_blocking_66 : decode cX7_blocking 66 = .ok (.iload 4, 2) := by decide +kernel
theorem dX7_blocking_68 : decode cX7_blocking 68 = .ok (.iadd, 1) := by decide +kernel
theorem dX7_blocking_69 : decode cX7_blocking 69 = .ok (.iaload, 1) := by decide +kernel
theorem dX7_blocking_70 : decode cX7_blocking 70 = .ok (.invokevirtual 187, 3) := by decide +kernel
theorem dX7_blocking_73 : decode cX7_blocking 73 = .ok (.aload_n 0, 1) := by decide +kernel
theorem dX7_blocking_74 : decode cX7_blocking 74 = .ok (.getfield 13, 3) := by decide +kernel
theorem dX7_blocking_77 : decode cX7_blocking 77 = .ok (.iload_n 1, 1) := by decide +kernel
theorem dX7_blocking_78 : decode cX7_blocking 78 = .ok (.iaload, 1) := by decide +kernel
theorem dX7_blocking_79 : decode cX7_blocking 79 = .ok (.if_icmp .lt 25, 3) := by decide +kernel
theorem dX7_blocking_82 : decode cX7_blocking 82 = .ok (.aload_n 0, 1) := by decide +kernel
theorem dX7_blocking_83 : decode cX7_blocking 83 = .ok (.iload_n 3, 1) := by decide +kernel
theorem dX7_blocking_84 : decode cX7_blocking 84 = .ok (.iload 4, 2) := by decide +kernel
theorem dX7_blocking_86 : decode cX7_blocking 86 = .ok (.invokevirtual 191, 3) := by decide +kernel
theorem dX7_blocking_89 : decode cX7_blocking 89 = .ok (.istore 5, 2) := by decide +kernel
theorem dX7_blocking_91 : decode cX7_blocking 91 = .ok (.iload 5, 2) := by decide +kernel
theorem dX7_blocking_93 : decode cX7_blocking 93 = .ok (.iload_n 2, 1) := by decide +kernel
theorem dX7_blocking_94 : decode cX7_blocking 94 = .ok (.if_icmp .le 8, 3) := by decide +kernel
theorem dX7_blocking_97 : decode cX7_blocking 97 = .ok (.iload 5, 2) := by decide +kernel
theorem dX7_blocking_99 : decode cX7_blocking 99 = .ok (.goto 4, 3) := by decide +kernel
theorem dX7_blocking_102 : decode cX7_blocking 102 = .ok (.iload_n 2, 1) := by decide +kernel
theorem dX7_blocking_103 : decode cX7_blocking 103 = .ok (.istore_n 2, 1) := by decide +kernel
theorem dX7_blocking_104 : decode cX7_blocking 104 = .ok (.iinc 4 1, 3) := by decide +kernel
theorem dX7_blocking_107 : decode cX7_blocking 107 = .ok (.goto (-92), 3) := by decide +kernel
theorem dX7_blocking_110 : decode cX7_blocking 110 = .ok (.iinc 3 1, 3) := by decide +kernel
theorem dX7_blocking_113 : decode cX7_blocking 113 = .ok (.goto (-109), 3) := by decide +kernel
theorem dX7_blocking_116 : decode cX7_blocking 116 = .ok (.iload_n 2, 1) := by decide +kernel
theorem dX7_blocking_117 : decode cX7_blocking 117 = .ok (.ireturn, 1) := by decide +kernel
theorem dX7_response_0 : decode cX7_response 0 = .ok (.aload_n 0, 1) := by decide +kernel
theorem dX7_response_1 : decode cX7_response 1 = .ok (.aload_n 0, 1) := by decide +kernel
theorem dX7_response_2 : decode cX7_response 2 = .ok (.iload_n 1, 1) := by decide +kernel
theorem dX7_response_3 : decode cX7_response 3 = .ok (.invokevirtual 122, 3) := by decide +kernel
theorem dX7_response_6 : decode cX7_response 6 = .ok (.ifCond .eq 7, 3) := by decide +kernel
theorem dX7_response_9 : decode cX7_response 9 = .ok (.iconst 0, 1) := by decide +kernel
theorem dX7_response_10 : decode cX7_response 10 = .ok (.goto 4, 3) := by decide +kernel
theorem dX7_response_13 : decode cX7_response 13 = .ok (.iconst 1, 1) := by decide +kernel
theorem dX7_response_14 : decode cX7_response 14 = .ok (.putfield 109, 3) := by decide +kernel
theorem dX7_response_17 : decode cX7_response 17 = .ok (.aload_n 0, 1) := by decide +kernel
theorem dX7_response_18 : decode cX7_response 18 = .ok (.getfield 109, 3) := by decide +kernel
theorem dX7_response_21 : decode cX7_response 21 = .ok (.ifCond .le 5, 3) := by decide +kernel
theorem dX7_response_24 : decode cX7_response 24 = .ok (.iconst 0, 1) := by decide +kernel
theorem dX7_response_25 : decode cX7_response 25 = .ok (.ireturn, 1) := by decide +kernel
theorem dX7_response_26 : decode cX7_response 26 = .ok (.aload_n 0, 1) := by decide +kernel
theorem dX7_response_27 : decode cX7_response 27 = .ok (.iload_n 1, 1) := by decide +kernel
theorem dX7_response_28 : decode cX7_response 28 = .ok (.invokevirtual 195, 3) := by decide +kernel
theorem dX7_response_31 : decode cX7_response 31 = .ok (.aload_n 0, 1) := by decide +kernel
theorem dX7_response_32 : decode cX7_response 32 = .ok (.iload_n 1, 1) := by decide +kernel
theorem dX7_response_33 : decode cX7_response 33 = .ok (.invokevirtual 198, 3) := by decide +kernel
theorem dX7_response_36 : decode cX7_response 36 = .ok (.iadd, 1) := by decide +kernel
theorem dX7_response_37 : decode cX7_response 37 = .ok (.istore_n 2, 1) := by decide +kernel
theorem dX7_response_38 : decode cX7_response 38 = .ok (.iload_n 2, 1) := by decide +kernel
theorem dX7_response_39 : decode cX7_response 39 = .ok (.istore_n 3, 1) := by decide +kernel
theorem dX7_response_40 : decode cX7_response 40 = .ok (.iconst (-1), 1) := by decide +kernel
theorem dX7_response_41 : decode cX7_response 41 = .ok (.istore 4, 2) := by decide +kernel
theorem dX7_response_43 : decode cX7_response 43 = .ok (.iload_n 3, 1) := by decide +kernel
theorem dX7_response_44 : decode cX7_response 44 = .ok (.iload 4, 2) := by decide +kernel
theorem dX7_response_46 : decode cX7_response 46 = .ok (.if_icmp .eq 123, 3) := by decide +kernel
theorem dX7_response_49 : decode cX7_response 49 = .ok (.iload_n 3, 1) := by decide +kernel
theorem dX7_response_50 : decode cX7_response 50 = .ok (.sipush 1000, 3) := by decide +kernel
theorem dX7_response_53 : decode cX7_response 53 = .ok (.if_icmp .gt 116, 3) := by decide +kernel
theorem dX7_response_56 : decode cX7_response 56 = .ok (.iload_n 3, 1) := by decide +kernel
theorem dX7_response_57 : decode cX7_response 57 = .ok (.istore 4, 2) := by decide +kernel
theorem dX7_response_59 : decode cX7_response 59 = .ok (.iload_n 2, 1) := by decide +kernel
theorem dX7_response_60 : decode cX7_response 60 = .ok (.istore_n 3, 1) := by decide +kernel
theorem dX7_response_61 : decode cX7_response 61 = .ok (.iconst 0, 1) := by decide +kernel
theorem dX7_response_62 : decode cX7_response 62 = .ok (.istore 5, 2) := by decide +kernel
theorem dX7_response_64 : decode cX7_response 64 = .ok (.iload 5, 2) := by decide +kernel
theorem dX7_response_66 : decode cX7_response 66 = .ok (.aload_n 0, 1) := by decide +kernel
theorem dX7_response_67 : decode cX7_response 67 = .ok (.getfield 112, 3) := by decide +kernel
theorem dX7_response_70 : decode cX7_response 70 = .ok (.if_icmp .ge 96, 3) := by decide +kernel
theorem dX7_response_73 : decode cX7_response 73 = .ok (.iload 5, 2) := by decide +kernel
theorem dX7_response_75 : decode cX7_response 75 = .ok (.iload_n 1, 1) := by decide +kernel
theorem dX7_response_76 : decode cX7_response 76 = .ok (.if_icmp .eq 33, 3) := by decide +kernel
theorem dX7_response_79 : decode cX7_response 79 = .ok (.aload_n 0, 1) := by decide +kernel
theorem dX7_response_80 : decode cX7_response 80 = .ok (.getfield 17, 3) := by decide +kernel
theorem dX7_response_83 : decode cX7_response 83 = .ok (.iload 5, 2) := by decide +kernel
theorem dX7_response_85 : decode cX7_response 85 = .ok (.iaload, 1) := by decide +kernel
theorem dX7_response_86 : decode cX7_response 86 = .ok (.ifCond .le 23, 3) := by decide +kernel
theorem dX7_response_89 : decode cX7_response 89 = .ok (.aload_n 0, 1) := by decide +kernel
theorem dX7_response_90 : decode cX7_response 90 = .ok (.getfield 13, 3) := by decide +kernel
theorem dX7_response_93 : decode cX7_response 93 = .ok (.iload 5, 2) := by decide +kernel
theorem dX7_response_95 : decode cX7_response 95 = .ok (.iaload, 1) := by decide +kernel
theorem dX7_response_96 : decode cX7_response 96 = .ok (.aload_n 0, 1) := by decide +kernel
theorem dX7_response_97 : decode cX7_response 97 = .ok (.getfield 13, 3) := by decide +kernel
theorem dX7_response_100 : decode cX7_response 100 = .ok (.iload_n 1, 1) := by decide +kernel
theorem dX7_response_101 : decode cX7_response 101 = .ok (.iaload, 1) := by decide +kernel
theorem dX7_response_102 : decode cX7_response 102 = .ok (.if_icmp .lt 7, 3) := by decide +kernel
theorem dX7_response_105 : decode cX7_response 105 = .ok (.iconst 1, 1) := by decide +kernel
theorem dX7_response_106 : decode cX7_response 106 = .ok (.goto 4, 3) := by decide +kernel
theorem dX7_response_109 : decode cX7_response 109 = .ok (.iconst 0, 1) := by decide +kernel
theorem dX7_response_110 : decode cX7_response 110 = .ok (.istore 6, 2) := by decide +kernel
theorem dX7_response_112 : decode cX7_response 112 = .ok (.iload_n 3, 1) := by decide +kernel
theorem dX7_response_113 : decode cX7_response 113 = .ok (.iload 6, 2) := by decide +kernel
theorem dX7_response_115 : decode cX7_response 115 = .ok (.ifCond .eq 42, 3) := by decide +kernel
theorem dX7_response_118 : decode cX7_response 118 = .ok (.iload 4, 2) := by decide +kernel
theorem dX7_response_120 : decode cX7_response 120 = .ok (.aload_n 0, 1) := by decide +kernel
theorem dX7_response_121 : decode cX7_response 121 = .ok (.getfield 17, 3) := by decide +kernel
theorem dX7_response_124 : decode cX7_response 124 = .ok (.iload 5, 2) := by decide +kernel
theorem dX7_response_126 : decode cX7_response 126 = .ok (.iaload, 1) := by decide +kernel
theorem dX7_response_127 : decode cX7_response 127 = .ok (.iadd, 1) := by decide +kernel
theorem dX7_response_128 : decode cX7_response 128 = .ok (.iconst 1, 1) := by decide +kernel
theorem dX7_response_129 : decode cX7_response 129 = .ok (.isub, 1) := by decide +kernel
theorem dX7_response_130 : decode cX7_response 130 = .ok (.iload 6, 2) := by decide +kernel
theorem dX7_response_132 : decode cX7_response 132 = .ok (.ifCond .eq 13, 3) := by decide +kernel
theorem dX7_response_135 : decode cX7_response 135 = .ok (.aload_n 0, 1) := by decide +kernel
theorem dX7_response_136 : decode cX7_response 136 = .ok (.getfield 17, 3) := by decide +kernel
theorem dX7_response_139 : decode cX7_response 139 = .ok (.iload 5, 2) := by decide +kernel
theorem dX7_response_141 : decode cX7_response 141 = .ok (.iaload, 1) := by decide +kernel
theorem dX7_response_142 : decode cX7_response 142 = .ok (.goto 4, 3) := by decide +kernel
theorem dX7_response_145 : decode cX7_response 145 = .ok (.iconst 1, 1) := by decide +kernel
theorem dX7_response_146 : decode cX7_response 146 = .ok (.idiv, 1) := by decide +kernel
theorem dX7_response_147 : decode cX7_response 147 = .ok (.aload_n 0, 1) := by decide +kernel
theorem dX7_response_148 : decode cX7_response 148 = .ok (.iload 5, 2) := by decide +kernel
theorem dX7_response_150 : decode cX7_response 150 = .ok (.invokevirtual 195, 3) := by decide +kernel
theorem dX7_response_153 : decode cX7_response 153 = .ok (.imul, 1) := by decide +kernel
theorem dX7_response_154 : decode cX7_response 154 = .ok (.goto 4, 3) := by decide +kernel
theorem dX7_response_157 : decode cX7_response 157 = .ok (.iconst 0, 1) := by decide +kernel
theorem dX7_response_158 : decode cX7_response 158 = .ok (.iadd, 1) := by decide +kernel
theorem dX7_response_159 : decode cX7_response 159 = .ok (.istore_n 3, 1) := by decide +kernel
theorem dX7_response_160 : decode cX7_response 160 = .ok (.iinc 5 1, 3) := by decide +kernel
theorem dX7_response_163 : decode cX7_response 163 = .ok (.goto (-99), 3) := by decide +kernel
theorem dX7_response_166 : decode cX7_response 166 = .ok (.goto (-123), 3) := by decide +kernel
theorem dX7_response_169 : decode cX7_response 169 = .ok (.iload_n 3, 1) := by decide +kernel
theorem dX7_response_170 : decode cX7_response 170 = .ok (.sipush 1000, 3) := by decide +kernel
theorem dX7_response_173 : decode cX7_response 173 = .ok (.if_icmp .le 7, 3) := by decide +kernel
theorem dX7_response_176 : decode cX7_response 176 = .ok (.iconst (-1), 1) := by decide +kernel
theorem dX7_response_177 : decode cX7_response 177 = .ok (.goto 4, 3) := by decide +kernel
theorem dX7_response_180 : decode cX7_response 180 = .ok (.iload_n 3, 1) := by decide +kernel
theorem dX7_response_181 : decode cX7_response 181 = .ok (.ireturn, 1) := by decide +kernel
theorem dX7_load_0 : decode cX7_load 0 = .ok (.aload_n 0, 1) := by decide +kernel
theorem dX7_load_1 : decode cX7_load 1 = .ok (.iconst 0, 1) := by decide +kernel
theorem dX7_load_2 : decode cX7_load 2 = .ok (.putfield 109, 3) := by decide +kernel
theorem dX7_load_5 : decode cX7_load 5 = .ok (.dconst 0, 1) := by decide +kernel
theorem dX7_load_6 : decode cX7_load 6 = .ok (.dstore_n 1, 1) := by decide +kernel
theorem dX7_load_7 : decode cX7_load 7 = .ok (.iconst 0, 1) := by decide +kernel
theorem dX7_load_8 : decode cX7_load 8 = .ok (.istore_n 3, 1) := by decide +kernel
theorem dX7_load_9 : decode cX7_load 9 = .ok (.iload_n 3, 1) := by decide +kernel
theorem dX7_load_10 : decode cX7_load 10 = .ok (.aload_n 0, 1) := by decide +kernel
theorem dX7_load_11 : decode cX7_load 11 = .ok (.getfield 112, 3) := by decide +kernel
theorem dX7_load_14 : decode cX7_load 14 = .ok (.if_icmp .ge 39, 3) := by decide +kernel
theorem dX7_load_17 : decode cX7_load 17 = .ok (.aload_n 0, 1) := by decide +kernel
theorem dX7_load_18 : decode cX7_load 18 = .ok (.getfield 17, 3) := by decide +kernel
theorem dX7_load_21 : decode cX7_load 21 = .ok (.iload_n 3, 1) := by decide +kernel
theorem dX7_load_22 : decode cX7_load 22 = .ok (.iaload, 1) := by decide +kernel
theorem dX7_load_23 : decode cX7_load 23 = .ok (.ifCond .le 22, 3) := by decide +kernel
theorem dX7_load_26 : decode cX7_load 26 = .ok (.dload_n 1, 1) := by decide +kernel
theorem dX7_load_27 : decode cX7_load 27 = .ok (.aload_n 0, 1) := by decide +kernel
theorem dX7_load_28 : decode cX7_load 28 = .ok (.iload_n 3, 1) := by decide +kernel
theorem dX7_load_29 : decode cX7_load 29 = .ok (.invokevirtual 195, 3) := by decide +kernel
theorem dX7_load_32 : decode cX7_load 32 = .ok (.i2d, 1) := by decide +kernel
theorem dX7_load_33 : decode cX7_load 33 = .ok (.aload_n 0, 1) := by decide +kernel
theorem dX7_load_34 : decode cX7_load 34 = .ok (.getfield 17, 3) := by decide +kernel
theorem dX7_load_37 : decode cX7_load 37 = .ok (.iload_n 3, 1) := by decide +kernel
theorem dX7_load_38 : decode cX7_load 38 = .ok (.iaload, 1) := by decide +kernel
theorem dX7_load_39 : decode cX7_load 39 = .ok (.i2d, 1) := by decide +kernel
theorem dX7_load_40 : decode cX7_load 40 = .ok (.ddiv, 1) := by decide +kernel
theorem dX7_load_41 : decode cX7_load 41 = .ok (.dadd, 1) := by decide +kernel
theorem dX7_load_42 : decode cX7_load 42 = .ok (.goto 4, 3) := by decide +kernel
theorem dX7_load_45 : decode cX7_load 45 = .ok (.dload_n 1, 1) := by decide +kernel
theorem dX7_load_46 : decode cX7_load 46 = .ok (.dstore_n 1, 1) := by decide +kernel
theorem dX7_load_47 : decode cX7_load 47 = .ok (.iinc 3 1, 3) := by decide +kernel
theorem dX7_load_50 : decode cX7_load 50 = .ok (.goto (-41), 3) := by decide +kernel
theorem dX7_load_53 : decode cX7_load 53 = .ok (.dload_n 1, 1) := by decide +kernel
theorem dX7_load_54 : decode cX7_load 54 = .ok (.dreturn, 1) := by decide +kernel
theorem dX7_look_0 : decode cX7_look 0 = .ok (.aload_n 0, 1) := by decide +kernel
theorem dX7_look_1 : decode cX7_look 1 = .ok (.iconst 0, 1) := by decide +kernel
theorem dX7_look_2 : decode cX7_look 2 = .ok (.putfield 109, 3) := by decide +kernel
theorem dX7_look_5 : decode cX7_look 5 = .ok (.iload_n 1, 1) := by decide +kernel
theorem dX7_look_6 : decode cX7_look 6 = .ok (.ifCond .ne 10, 3) := by decide +kernel
theorem dX7_look_9 : decode cX7_look 9 = .ok (.aload_n 0, 1) := by decide +kernel
theorem dX7_look_10 : decode cX7_look 10 = .ok (.getfield 139, 3) := by decide +kernel
theorem dX7_look_13 : decode cX7_look 13 = .ok (.goto 72, 3) := by decide +kernel
theorem dX7_look_16 : decode cX7_look 16 = .ok (.iload_n 1, 1) := by decide +kernel
theorem dX7_look_17 : decode cX7_look 17 = .ok (.iconst 1, 1) := by decide +kernel
theorem dX7_look_18 : decode cX7_look 18 = .ok (.if_icmp .ne 10, 3) := by decide +kernel
theorem dX7_look_21 : decode cX7_look 21 = .ok (.aload_n 0, 1) := by decide +kernel
theorem dX7_look_22 : decode cX7_look 22 = .ok (.getfield 112, 3) := by decide +kernel
theorem dX7_look_25 : decode cX7_look 25 = .ok (.goto 60, 3) := by decide +kernel
theorem dX7_look_28 : decode cX7_look 28 = .ok (.iload_n 1, 1) := by decide +kernel
theorem dX7_look_29 : decode cX7_look 29 = .ok (.iconst 2, 1) := by decide +kernel
theorem dX7_look_30 : decode cX7_look 30 = .ok (.if_icmp .ne 10, 3) := by decide +kernel
theorem dX7_look_33 : decode cX7_look 33 = .ok (.aload_n 0, 1) := by decide +kernel
theorem dX7_look_34 : decode cX7_look 34 = .ok (.getfield 126, 3) := by decide +kernel
theorem dX7_look_37 : decode cX7_look 37 = .ok (.goto 48, 3) := by decide +kernel
theorem dX7_look_40 : decode cX7_look 40 = .ok (.iload_n 1, 1) := by decide +kernel
theorem dX7_look_41 : decode cX7_look 41 = .ok (.iconst 3, 1) := by decide +kernel
theorem dX7_look_42 : decode cX7_look 42 = .ok (.if_icmp .ne 18, 3) := by decide +kernel
theorem dX7_look_45 : decode cX7_look 45 = .ok (.aload_n 0, 1) := by decide +kernel
theorem dX7_look_46 : decode cX7_look 46 = .ok (.getfield 119, 3) := by decide +kernel
theorem dX7_look_49 : decode cX7_look 49 = .ok (.ifCond .eq 7, 3) := by decide +kernel
theorem dX7_look_52 : decode cX7_look 52 = .ok (.iconst 1, 1) := by decide +kernel
theorem dX7_look_53 : decode cX7_look 53 = .ok (.goto 32, 3) := by decide +kernel
theorem dX7_look_56 : decode cX7_look 56 = .ok (.iconst 0, 1) := by decide +kernel
theorem dX7_look_57 : decode cX7_look 57 = .ok (.goto 28, 3) := by decide +kernel
theorem dX7_look_60 : decode cX7_look 60 = .ok (.iload_n 1, 1) := by decide +kernel
theorem dX7_look_61 : decode cX7_look 61 = .ok (.iconst 4, 1) := by decide +kernel
theorem dX7_look_62 : decode cX7_look 62 = .ok (.if_icmp .ne 10, 3) := by decide +kernel
theorem dX7_look_65 : decode cX7_look 65 = .ok (.aload_n 0, 1) := by decide +kernel
theorem dX7_look_66 : decode cX7_look 66 = .ok (.getfield 7, 3) := by decide +kernel
theorem dX7_look_69 : decode cX7_look 69 = .ok (.goto 16, 3) := by decide +kernel
theorem dX7_look_72 : decode cX7_look 72 = .ok (.iload_n 1, 1) := by decide +kernel
theorem dX7_look_73 : decode cX7_look 73 = .ok (.iconst 5, 1) := by decide +kernel
theorem dX7_look_74 : decode cX7_look 74 = .ok (.if_icmp .ne 10, 3) := by decide +kernel
theorem dX7_look_77 : decode cX7_look 77 = .ok (.aload_n 0, 1) := by decide +kernel
theorem dX7_look_78 : decode cX7_look 78 = .ok (.getfield 136, 3) := by decide +kernel
theorem dX7_look_81 : decode cX7_look 81 = .ok (.goto 4, 3) := by decide +kernel
theorem dX7_look_84 : decode cX7_look 84 = .ok (.iconst (-1), 1) := by decide +kernel
theorem dX7_look_85 : decode cX7_look 85 = .ok (.ireturn, 1) := by decide +kernel
end
section
theorem dL_law_0 : decode cL_law 0 = .ok (.new 8, 3) := by decide +kernel
theorem dL_law_3 : decode cL_law 3 = .ok (.dup, 1) := by decide +kernel
theorem dL_law_4 : decode cL_law 4 = .ok (.aload_n 0, 1) := by decide +kernel
theorem dL_law_5 : decode cL_law 5 = .ok (.iconst 0, 1) := by decide +kernel
theorem dL_law_6 : decode cL_law 6 = .ok (.invokestatic 35, 3) := by decide +kernel
theorem dL_law_9 : decode cL_law 9 = .ok (.invokespecial 41, 3) := by decide +kernel
theorem dL_law_12 : decode cL_law 12 = .ok (.astore_n 1, 1) := by decide +kernel
theorem dL_law_13 : decode cL_law 13 = .ok (.new 44, 3) := by decide +kernel
theorem dL_law_16 : decode cL_law 16 = .ok (.dup, 1) := by decide +kernel
theorem dL_law_17 : decode cL_law 17 = .ok (.aload_n 0, 1) := by decide +kernel
theorem dL_law_18 : decode cL_law 18 = .ok (.iconst 0, 1) := by decide +kernel
theorem dL_law_19 : decode cL_law 19 = .ok (.invokestatic 35, 3) := by decide +kernel
theorem dL_law_22 : decode cL_law 22 = .ok (.invokespecial 46, 3) := by decide +kernel
theorem dL_law_25 : decode cL_law 25 = .ok (.astore_n 2, 1) := by decide +kernel
theorem dL_law_26 : decode cL_law 26 = .ok (.iconst 1, 1) := by decide +kernel
theorem dL_law_27 : decode cL_law 27 = .ok (.newarray .long, 2) := by decide +kernel
theorem dL_law_29 : decode cL_law 29 = .ok (.astore_n 3, 1) := by decide +kernel
theorem dL_law_30 : decode cL_law 30 = .ok (.iconst 1, 1) := by decide +kernel
theorem dL_law_31 : decode cL_law 31 = .ok (.istore 4, 2) := by decide +kernel
theorem dL_law_33 : decode cL_law 33 = .ok (.iload 4, 2) := by decide +kernel
theorem dL_law_35 : decode cL_law 35 = .ok (.aload_n 0, 1) := by decide +kernel
theorem dL_law_36 : decode cL_law 36 = .ok (.arraylength, 1) := by decide +kernel
theorem dL_law_37 : decode cL_law 37 = .ok (.bipush 6, 2) := by decide +kernel
theorem dL_law_39 : decode cL_law 39 = .ok (.isub, 1) := by decide +kernel
theorem dL_law_40 : decode cL_law 40 = .ok (.if_icmp .gt 725, 3) := by decide +kernel
theorem dL_law_43 : decode cL_law 43 = .ok (.aload_n 0, 1) := by decide +kernel
theorem dL_law_44 : decode cL_law 44 = .ok (.iload 4, 2) := by decide +kernel
theorem dL_law_46 : decode cL_law 46 = .ok (.iaload, 1) := by decide +kernel
theorem dL_law_47 : decode cL_law 47 = .ok (.bipush 15, 2) := by decide +kernel
theorem dL_law_49 : decode cL_law 49 = .ok (.iand, 1) := by decide +kernel
theorem dL_law_50 : decode cL_law 50 = .ok (.tableswitch 709 0 12 #[66, 170, 223, 291, 371, 395, 420, 476, 513, 550, 587, 643, 684], 66) := by decide +kernel
theorem dL_law_116 : decode cL_law 116 = .ok (.aload_n 1, 1) := by decide +kernel
theorem dL_law_117 : decode cL_law 117 = .ok (.aload_n 0, 1) := by decide +kernel
theorem dL_law_118 : decode cL_law 118 = .ok (.iload 4, 2) := by decide +kernel
theorem dL_law_120 : decode cL_law 120 = .ok (.iconst 1, 1) := by decide +kernel
theorem dL_law_121 : decode cL_law 121 = .ok (.iadd, 1) := by decide +kernel
theorem dL_law_122 : decode cL_law 122 = .ok (.iaload, 1) := by decide +kernel
theorem dL_law_123 : decode cL_law 123 = .ok (.aload_n 0, 1) := by decide +kernel
theorem dL_law_124 : decode cL_law 124 = .ok (.iload 4, 2) := by decide +kernel
theorem dL_law_126 : decode cL_law 126 = .ok (.iconst 2, 1) := by decide +kernel
theorem dL_law_127 : decode cL_law 127 = .ok (.iadd, 1) := by decide +kernel
theorem dL_law_128 : decode cL_law 128 = .ok (.iaload, 1) := by decide +kernel
theorem dL_law_129 : decode cL_law 129 = .ok (.aload_n 0, 1) := by decide +kernel
theorem dL_law_130 : decode cL_law 130 = .ok (.iload 4, 2) := by decide +kernel
theorem dL_law_132 : decode cL_law 132 = .ok (.iconst 3, 1) := by decide +kernel
theorem dL_law_133 : decode cL_law 133 = .ok (.iadd, 1) := by decide +kernel
theorem dL_law_134 : decode cL_law 134 = .ok (.iaload, 1) := by decide +kernel
theorem dL_law_135 : decode cL_law 135 = .ok (.aload_n 0, 1) := by decide +kernel
theorem dL_law_136 : decode cL_law 136 = .ok (.iload 4, 2) := by decide +kernel
theorem dL_law_138 : decode cL_law 138 = .ok (.iconst 4, 1) := by decide +kernel
theorem dL_law_139 : decode cL_law 139 = .ok (.iadd, 1) := by decide +kernel
theorem dL_law_140 : decode cL_law 140 = .ok (.iaload, 1) := by decide +kernel
theorem dL_law_141 : decode cL_law 141 = .ok (.aload_n 0, 1) := by decide +kernel
theorem dL_law_142 : decode cL_law 142 = .ok (.iload 4, 2) := by decide +kernel
theorem dL_law_144 : decode cL_law 144 = .ok (.iconst 5, 1) := by decide +kernel
theorem dL_law_145 : decode cL_law 145 = .ok (.iadd, 1) := by decide +kernel
theorem dL_law_146 : decode cL_law 146 = .ok (.iaload, 1) := by decide +kernel
theorem dL_law_147 : decode cL_law 147 = .ok (.aload_n 3, 1) := by decide +kernel
theorem dL_law_148 : decode cL_law 148 = .ok (.invokestatic 47, 3) := by decide +kernel
theorem dL_law_151 : decode cL_law 151 = .ok (.istore 5, 2) := by decide +kernel
theorem dL_law_153 : decode cL_law 153 = .ok (.aload_n 2, 1) := by decide +kernel
theorem dL_law_154 : decode cL_law 154 = .ok (.aload_n 0, 1) := by decide +kernel
theorem dL_law_155 : decode cL_law 155 = .ok (.iload 4, 2) := by decide +kernel
theorem dL_law_157 : decode cL_law 157 = .ok (.iconst 1, 1) := by decide +kernel
theorem dL_law_158 : decode cL_law 158 = .ok (.iadd, 1) := by decide +kernel
theorem dL_law_159 : decode cL_law 159 = .ok (.iaload, 1) := by decide +kernel
theorem dL_law_160 : decode cL_law 160 = .ok (.aload_n 0, 1) := by decide +kernel
theorem dL_law_161 : decode cL_law 161 = .ok (.iload 4, 2) := by decide +kernel
theorem dL_law_163 : decode cL_law 163 = .ok (.iconst 2, 1) := by decide +kernel
theorem dL_law_164 : decode cL_law 164 = .ok (.iadd, 1) := by decide +kernel
theorem dL_law_165 : decode cL_law 165 = .ok (.iaload, 1) := by decide +kernel
theorem dL_law_166 : decode cL_law 166 = .ok (.aload_n 0, 1) := by decide +kernel
theorem dL_law_167 : decode cL_law 167 = .ok (.iload 4, 2) := by decide +kernel
theorem dL_law_169 : decode cL_law 169 = .ok (.iconst 3, 1) := by decide +kernel
theorem dL_law_170 : decode cL_law 170 = .ok (.iadd, 1) := by decide +kernel
theorem dL_law_171 : decode cL_law 171 = .ok (.iaload, 1) := by decide +kernel
theorem dL_law_172 : decode cL_law 172 = .ok (.aload_n 0, 1) := by decide +kernel
theorem dL_law_173 : decode cL_law 173 = .ok (.iload 4, 2) := by decide +kernel
theorem dL_law_175 : decode cL_law 175 = .ok (.iconst 4, 1) := by decide +kernel
theorem dL_law_176 : decode cL_law 176 = .ok (.iadd, 1) := by decide +kernel
theorem dL_law_177 : decode cL_law 177 = .ok (.iaload, 1) := by decide +kernel
theorem dL_law_178 : decode cL_law 178 = .ok (.aload_n 0, 1) := by decide +kernel
theorem dL_law_179 : decode cL_law 179 = .ok (.iload 4, 2) := by decide +kernel
theorem dL_law_181 : decode cL_law 181 = .ok (.iconst 5, 1) := by decide +kernel
theorem dL_law_182 : decode cL_law 182 = .ok (.iadd, 1) := by decide +kernel
theorem dL_law_183 : decode cL_law 183 = .ok (.iaload, 1) := by decide +kernel
theorem dL_law_184 : decode cL_law 184 = .ok (.invokevirtual 50, 3) := by decide +kernel
theorem dL_law_187 : decode cL_law 187 = .ok (.istore 6, 2) := by decide +kernel
theorem dL_law_189 : decode cL_law 189 = .ok (.aload_n 2, 1) := by decide +kernel
theorem dL_law_190 : decode cL_law 190 = .ok (.invokevirtual 51, 3) := by decide +kernel
theorem dL_law_193 : decode cL_law 193 = .ok (.iload 5, 2) := by decide +kernel
theorem dL_law_195 : decode cL_law 195 = .ok (.if_icmp .eq 5, 3) := by decide +kernel
theorem dL_law_198 : decode cL_law 198 = .ok (.iconst 0, 1) := by decide +kernel
theorem dL_law_199 : decode cL_law 199 = .ok (.ireturn, 1) := by decide +kernel
theorem dL_law_200 : decode cL_law 200 = .ok (.iload 5, 2) := by decide +kernel
theorem dL_law_202 : decode cL_law 202 = .ok (.ifCond .ne 15, 3) := by decide +kernel
theorem dL_law_205 : decode cL_law 205 = .ok (.aload_n 3, 1) := by decide +kernel
theorem dL_law_206 : decode cL_law 206 = .ok (.iconst 0, 1) := by decide +kernel
theorem dL_law_207 : decode cL_law 207 = .ok (.laload, 1) := by decide +kernel
theorem dL_law_208 : decode cL_law 208 = .ok (.iload 6, 2) := by decide +kernel
theorem dL_law_210 : decode cL_law 210 = .ok (.i2l, 1) := by decide +kernel
theorem dL_law_211 : decode cL_law 211 = .ok (.lcmp, 1) := by decide +kernel
theorem dL_law_212 : decode cL_law 212 = .ok (.ifCond .eq 5, 3) := by decide +kernel
theorem dL_law_215 : decode cL_law 215 = .ok (.iconst 0, 1) := by decide +kernel
theorem dL_law_216 : decode cL_law 216 = .ok (.ireturn, 1) := by decide +kernel
theorem dL_law_217 : decode cL_law 217 = .ok (.goto 542, 3) := by decide +kernel
theorem dL_law_220 : decode cL_law 220 = .ok (.aload_n 1, 1) := by decide +kernel
theorem dL_law_221 : decode cL_law 221 = .ok (.aload_n 0, 1) := by decide +kernel
theorem dL_law_222 : decode cL_law 222 = .ok (.iload 4, 2) := by decide +kernel
theorem dL_law_224 : decode cL_law 224 = .ok (.iconst 1, 1) := by decide +kernel
theorem dL_law_225 : decode cL_law 225 = .ok (.iadd, 1) := by decide +kernel
theorem dL_law_226 : decode cL_law 226 = .ok (.iaload, 1) := by decide +kernel
theorem dL_law_227 : decode cL_law 227 = .ok (.aload_n 0, 1) := by decide +kernel
theorem dL_law_228 : decode cL_law 228 = .ok (.iload 4, 2) := by decide +kernel
theorem dL_law_230 : decode cL_law 230 = .ok (.iconst 2, 1) := by decide +kernel
theorem dL_law_231 : decode cL_law 231 = .ok (.iadd, 1) := by decide +kernel
theorem dL_law_232 : decode cL_law 232 = .ok (.iaload, 1) := by decide +kernel
theorem dL_law_233 : decode cL_law 233 = .ok (.ifCond .eq 7, 3) := by decide +kernel
theorem dL_law_236 : decode cL_law 236 = .ok (.iconst 1, 1) := by decide +kernel
theorem dL_law_237 : decode cL_law 237 = .ok (.goto 4, 3) := by decide +kernel
theorem dL_law_240 : decode cL_law 240 = .ok (.iconst 0, 1) := by decide +kernel
theorem dL_law_241 : decode cL_law 241 = .ok (.invokevirtual 55, 3) := by decide +kernel
theorem dL_law_244 : decode cL_law 244 = .ok (.aload_n 2, 1) := by decide +kernel
theorem dL_law_245 : decode cL_law 245 = .ok (.aload_n 0, 1) := by decide +kernel
theorem dL_law_246 : decode cL_law 246 = .ok (.iload 4, 2) := by decide +kernel
theorem dL_law_248 : decode cL_law 248 = .ok (.iconst 1, 1) := by decide +kernel
theorem dL_law_249 : decode cL_law 249 = .ok (.iadd, 1) := by decide +kernel
theorem dL_law_250 : decode cL_law 250 = .ok (.iaload, 1) := by decide +kernel
theorem dL_law_251 : decode cL_law 251 = .ok (.aload_n 0, 1) := by decide +kernel
theorem dL_law_252 : decode cL_law 252 = .ok (.iload 4, 2) := by decide +kernel
theorem dL_law_254 : decode cL_law 254 = .ok (.iconst 2, 1) := by decide +kernel
theorem dL_law_255 : decode cL_law 255 = .ok (.iadd, 1) := by decide +kernel
theorem dL_law_256 : decode cL_law 256 = .ok (.iaload, 1) := by decide +kernel
theorem dL_law_257 : decode cL_law 257 = .ok (.ifCond .eq 7, 3) := by decide +kernel
theorem dL_law_260 : decode cL_law 260 = .ok (.iconst 1, 1) := by decide +kernel
theorem dL_law_261 : decode cL_law 261 = .ok (.goto 4, 3) := by decide +kernel
theorem dL_law_264 : decode cL_law 264 = .ok (.iconst 0, 1) := by decide +kernel
theorem dL_law_265 : decode cL_law 265 = .ok (.invokevirtual 59, 3) := by decide +kernel
theorem dL_law_268 : decode cL_law 268 = .ok (.if_icmp .eq 491, 3) := by decide +kernel
theorem dL_law_271 : decode cL_law 271 = .ok (.iconst 0, 1) := by decide +kernel
theorem dL_law_272 : decode cL_law 272 = .ok (.ireturn, 1) := by decide +kernel
theorem dL_law_273 : decode cL_law 273 = .ok (.aload_n 1, 1) := by decide +kernel
theorem dL_law_274 : decode cL_law 274 = .ok (.aload_n 0, 1) := by decide +kernel
theorem dL_law_275 : decode cL_law 275 = .ok (.iload 4, 2) := by decide +kernel
theorem dL_law_277 : decode cL_law 277 = .ok (.iconst 1, 1) := by decide +kernel
theorem dL_law_278 : decode cL_law 278 = .ok (.iadd, 1) := by decide +kernel
theorem dL_law_279 : decode cL_law 279 = .ok (.iaload, 1) := by decide +kernel
theorem dL_law_280 : decode cL_law 280 = .ok (.aload_n 0, 1) := by decide +kernel
theorem dL_law_281 : decode cL_law 281 = .ok (.iload 4, 2) := by decide +kernel
theorem dL_law_283 : decode cL_law 283 = .ok (.iconst 2, 1) := by decide +kernel
theorem dL_law_284 : decode cL_law 284 = .ok (.iadd, 1) := by decide +kernel
theorem dL_law_285 : decode cL_law 285 = .ok (.iaload, 1) := by decide +kernel
theorem dL_law_286 : decode cL_law 286 = .ok (.aload_n 3, 1) := by decide +kernel
theorem dL_law_287 : decode cL_law 287 = .ok (.invokestatic 60, 3) := by decide +kernel
theorem dL_law_290 : decode cL_law 290 = .ok (.istore 5, 2) := by decide +kernel
theorem dL_law_292 : decode cL_law 292 = .ok (.aload_n 2, 1) := by decide +kernel
theorem dL_law_293 : decode cL_law 293 = .ok (.aload_n 0, 1) := by decide +kernel
theorem dL_law_294 : decode cL_law 294 = .ok (.iload 4, 2) := by decide +kernel
theorem dL_law_296 : decode cL_law 296 = .ok (.iconst 1, 1) := by decide +kernel
theorem dL_law_297 : decode cL_law 297 = .ok (.iadd, 1) := by decide +kernel
theorem dL_law_298 : decode cL_law 298 = .ok (.iaload, 1) := by decide +kernel
theorem dL_law_299 : decode cL_law 299 = .ok (.aload_n 0, 1) := by decide +kernel
theorem dL_law_300 : decode cL_law 300 = .ok (.iload 4, 2) := by decide +kernel
theorem dL_law_302 : decode cL_law 302 = .ok (.iconst 2, 1) := by decide +kernel
theorem dL_law_303 : decode cL_law 303 = .ok (.iadd, 1) := by decide +kernel
theorem dL_law_304 : decode cL_law 304 = .ok (.iaload, 1) := by decide +kernel
theorem dL_law_305 : decode cL_law 305 = .ok (.invokevirtual 63, 3) := by decide +kernel
theorem dL_law_308 : decode cL_law 308 = .ok (.istore 6, 2) := by decide +kernel
theorem dL_law_310 : decode cL_law 310 = .ok (.aload_n 2, 1) := by decide +kernel
theorem dL_law_311 : decode cL_law 311 = .ok (.invokevirtual 51, 3) := by decide +kernel
theorem dL_law_314 : decode cL_law 314 = .ok (.iload 5, 2) := by decide +kernel
theorem dL_law_316 : decode cL_law 316 = .ok (.if_icmp .eq 5, 3) := by decide +kernel
theorem dL_law_319 : decode cL_law 319 = .ok (.iconst 0, 1) := by decide +kernel
theorem dL_law_320 : decode cL_law 320 = .ok (.ireturn, 1) := by decide +kernel
theorem dL_law_321 : decode cL_law 321 = .ok (.iload 5, 2) := by decide +kernel
theorem dL_law_323 : decode cL_law 323 = .ok (.ifCond .ne 15, 3) := by decide +kernel
theorem dL_law_326 : decode cL_law 326 = .ok (.aload_n 3, 1) := by decide +kernel
theorem dL_law_327 : decode cL_law 327 = .ok (.iconst 0, 1) := by decide +kernel
theorem dL_law_328 : decode cL_law 328 = .ok (.laload, 1) := by decide +kernel
theorem dL_law_329 : decode cL_law 329 = .ok (.iload 6, 2) := by decide +kernel
theorem dL_law_331 : decode cL_law 331 = .ok (.i2l, 1) := by decide +kernel
theorem dL_law_332 : decode cL_law 332 = .ok (.lcmp, 1) := by decide +kernel
theorem dL_law_333 : decode cL_law 333 = .ok (.ifCond .eq 5, 3) := by decide +kernel
theorem dL_law_336 : decode cL_law 336 = .ok (.iconst 0, 1) := by decide +kernel
theorem dL_law_337 : decode cL_law 337 = .ok (.ireturn, 1) := by decide +kernel
theorem dL_law_338 : decode cL_law 338 = .ok (.goto 421, 3) := by decide +kernel
theorem dL_law_341 : decode cL_law 341 = .ok (.aload_n 1, 1) := by decide +kernel
theorem dL_law_342 : decode cL_law 342 = .ok (.aload_n 0, 1) := by decide +kernel
theorem dL_law_343 : decode cL_law 343 = .ok (.iload 4, 2) := by decide +kernel
theorem dL_law_345 : decode cL_law 345 = .ok (.iconst 1, 1) := by decide +kernel
theorem dL_law_346 : decode cL_law 346 = .ok (.iadd, 1) := by decide +kernel
theorem dL_law_347 : decode cL_law 347 = .ok (.iaload, 1) := by decide +kernel
theorem dL_law_348 : decode cL_law 348 = .ok (.aload_n 0, 1) := by decide +kernel
theorem dL_law_349 : decode cL_law 349 = .ok (.iload 4, 2) := by decide +kernel
theorem dL_law_351 : decode cL_law 351 = .ok (.iconst 2, 1) := by decide +kernel
theorem dL_law_352 : decode cL_law 352 = .ok (.iadd, 1) := by decide +kernel
theorem dL_law_353 : decode cL_law 353 = .ok (.iaload, 1) := by decide +kernel
theorem dL_law_354 : decode cL_law 354 = .ok (.aload_n 0, 1) := by decide +kernel
theorem dL_law_355 : decode cL_law 355 = .ok (.iload 4, 2) := by decide +kernel
theorem dL_law_357 : decode cL_law 357 = .ok (.iconst 3, 1) := by decide +kernel
theorem dL_law_358 : decode cL_law 358 = .ok (.iadd, 1) := by decide +kernel
theorem dL_law_359 : decode cL_law 359 = .ok (.iaload, 1) := by decide +kernel
theorem dL_law_360 : decode cL_law 360 = .ok (.aload_n 3, 1) := by decide +kernel
theorem dL_law_361 : decode cL_law 361 = .ok (.invokestatic 64, 3) := by decide +kernel
theorem dL_law_364 : decode cL_law 364 = .ok (.istore 5, 2) := by decide +kernel
theorem dL_law_366 : decode cL_law 366 = .ok (.aload_n 2, 1) := by decide +kernel
theorem dL_law_367 : decode cL_law 367 = .ok (.aload_n 0, 1) := by decide +kernel
theorem dL_law_368 : decode cL_law 368 = .ok (.iload 4, 2) := by decide +kernel
theorem dL_law_370 : decode cL_law 370 = .ok (.iconst 1, 1) := by decide +kernel
theorem dL_law_371 : decode cL_law 371 = .ok (.iadd, 1) := by decide +kernel
theorem dL_law_372 : decode cL_law 372 = .ok (.iaload, 1) := by decide +kernel
theorem dL_law_373 : decode cL_law 373 = .ok (.aload_n 0, 1) := by decide +kernel
theorem dL_law_374 : decode cL_law 374 = .ok (.iload 4, 2) := by decide +kernel
theorem dL_law_376 : decode cL_law 376 = .ok (.iconst 2, 1) := by decide +kernel
theorem dL_law_377 : decode cL_law 377 = .ok (.iadd, 1) := by decide +kernel
theorem dL_law_378 : decode cL_law 378 = .ok (.iaload, 1) := by decide +kernel
theorem dL_law_379 : decode cL_law 379 = .ok (.aload_n 0, 1) := by decide +kernel
theorem dL_law_380 : decode cL_law 380 = .ok (.iload 4, 2) := by decide +kernel
theorem dL_law_382 : decode cL_law 382 = .ok (.iconst 3, 1) := by decide +kernel
theorem dL_law_383 : decode cL_law 383 = .ok (.iadd, 1) := by decide +kernel
theorem dL_law_384 : decode cL_law 384 = .ok (.iaload, 1) := by decide +kernel
theorem dL_law_385 : decode cL_law 385 = .ok (.invokevirtual 67, 3) := by decide +kernel
theorem dL_law_388 : decode cL_law 388 = .ok (.istore 6, 2) := by decide +kernel
theorem dL_law_390 : decode cL_law 390 = .ok (.aload_n 2, 1) := by decide +kernel
theorem dL_law_391 : decode cL_law 391 = .ok (.invokevirtual 51, 3) := by decide +kernel
theorem dL_law_394 : decode cL_law 394 = .ok (.iload 5, 2) := by decide +kernel
theorem dL_law_396 : decode cL_law 396 = .ok (.if_icmp .eq 5, 3) := by decide +kernel
theorem dL_law_399 : decode cL_law 399 = .ok (.iconst 0, 1) := by decide +kernel
theorem dL_law_400 : decode cL_law 400 = .ok (.ireturn, 1) := by decide +kernel
theorem dL_law_401 : decode cL_law 401 = .ok (.iload 5, 2) := by decide +kernel
theorem dL_law_403 : decode cL_law 403 = .ok (.ifCond .ne 15, 3) := by decide +kernel
theorem dL_law_406 : decode cL_law 406 = .ok (.aload_n 3, 1) := by decide +kernel
theorem dL_law_407 : decode cL_law 407 = .ok (.iconst 0, 1) := by decide +kernel
theorem dL_law_408 : decode cL_law 408 = .ok (.laload, 1) := by decide +kernel
theorem dL_law_409 : decode cL_law 409 = .ok (.iload 6, 2) := by decide +kernel
theorem dL_law_411 : decode cL_law 411 = .ok (.i2l, 1) := by decide +kernel
theorem dL_law_412 : decode cL_law 412 = .ok (.lcmp, 1) := by decide +kernel
theorem dL_law_413 : decode cL_law 413 = .ok (.ifCond .eq 5, 3) := by decide +kernel
theorem dL_law_416 : decode cL_law 416 = .ok (.iconst 0, 1) := by decide +kernel
theorem dL_law_417 : decode cL_law 417 = .ok (.ireturn, 1) := by decide +kernel
theorem dL_law_418 : decode cL_law 418 = .ok (.goto 341, 3) := by decide +kernel
theorem dL_law_421 : decode cL_law 421 = .ok (.aload_n 1, 1) := by decide +kernel
theorem dL_law_422 : decode cL_law 422 = .ok (.invokestatic 68, 3) := by decide +kernel
theorem dL_law_425 : decode cL_law 425 = .ok (.istore 5, 2) := by decide +kernel
theorem dL_law_427 : decode cL_law 427 = .ok (.aload_n 2, 1) := by decide +kernel
theorem dL_law_428 : decode cL_law 428 = .ok (.invokevirtual 71, 3) := by decide +kernel
theorem dL_law_431 : decode cL_law 431 = .ok (.aload_n 2, 1) := by decide +kernel
theorem dL_law_432 : decode cL_law 432 = .ok (.invokevirtual 51, 3) := by decide +kernel
theorem dL_law_435 : decode cL_law 435 = .ok (.iload 5, 2) := by decide +kernel
theorem dL_law_437 : decode cL_law 437 = .ok (.if_icmp .eq 5, 3) := by decide +kernel
theorem dL_law_440 : decode cL_law 440 = .ok (.iconst 0, 1) := by decide +kernel
theorem dL_law_441 : decode cL_law 441 = .ok (.ireturn, 1) := by decide +kernel
theorem dL_law_442 : decode cL_law 442 = .ok (.goto 317, 3) := by decide +kernel
theorem dL_law_445 : decode cL_law 445 = .ok (.aload_n 1, 1) := by decide +kernel
theorem dL_law_446 : decode cL_law 446 = .ok (.aload_n 0, 1) := by decide +kernel
theorem dL_law_447 : decode cL_law 447 = .ok (.iload 4, 2) := by decide +kernel
theorem dL_law_449 : decode cL_law 449 = .ok (.iconst 1, 1) := by decide +kernel
theorem dL_law_450 : decode cL_law 450 = .ok (.iadd, 1) := by decide +kernel
theorem dL_law_451 : decode cL_law 451 = .ok (.iaload, 1) := by decide +kernel
theorem dL_law_452 : decode cL_law 452 = .ok (.invokevirtual 72, 3) := by decide +kernel
theorem dL_law_455 : decode cL_law 455 = .ok (.aload_n 2, 1) := by decide +kernel
theorem dL_law_456 : decode cL_law 456 = .ok (.aload_n 0, 1) := by decide +kernel
theorem dL_law_457 : decode cL_law 457 = .ok (.iload 4, 2) := by decide +kernel
theorem dL_law_459 : decode cL_law 459 = .ok (.iconst 1, 1) := by decide +kernel
theorem dL_law_460 : decode cL_law 460 = .ok (.iadd, 1) := by decide +kernel
theorem dL_law_461 : decode cL_law 461 = .ok (.iaload, 1) := by decide +kernel
theorem dL_law_462 : decode cL_law 462 = .ok (.invokevirtual 76, 3) := by decide +kernel
theorem dL_law_465 : decode cL_law 465 = .ok (.if_icmp .eq 294, 3) := by decide +kernel
theorem dL_law_468 : decode cL_law 468 = .ok (.iconst 0, 1) := by decide +kernel
theorem dL_law_469 : decode cL_law 469 = .ok (.ireturn, 1) := by decide +kernel
theorem dL_law_470 : decode cL_law 470 = .ok (.aload_n 1, 1) := by decide +kernel
theorem dL_law_471 : decode cL_law 471 = .ok (.aload_n 0, 1) := by decide +kernel
theorem dL_law_472 : decode cL_law 472 = .ok (.iload 4, 2) := by decide +kernel
theorem dL_law_474 : decode cL_law 474 = .ok (.iconst 1, 1) := by decide +kernel
theorem dL_law_475 : decode cL_law 475 = .ok (.iadd, 1) := by decide +kernel
theorem dL_law_476 : decode cL_law 476 = .ok (.iaload, 1) := by decide +kernel
theorem dL_law_477 : decode cL_law 477 = .ok (.aload_n 3, 1) := by decide +kernel
theorem dL_law_478 : decode cL_law 478 = .ok (.invokestatic 77, 3) := by decide +kernel
theorem dL_law_481 : decode cL_law 481 = .ok (.istore 5, 2) := by decide +kernel
theorem dL_law_483 : decode cL_law 483 = .ok (.aload_n 2, 1) := by decide +kernel
theorem dL_law_484 : decode cL_law 484 = .ok (.aload_n 0, 1) := by decide +kernel
theorem dL_law_485 : decode cL_law 485 = .ok (.iload 4, 2) := by decide +kernel
theorem dL_law_487 : decode cL_law 487 = .ok (.iconst 1, 1) := by decide +kernel
theorem dL_law_488 : decode cL_law 488 = .ok (.iadd, 1) := by decide +kernel
theorem dL_law_489 : decode cL_law 489 = .ok (.iaload, 1) := by decide +kernel
theorem dL_law_490 : decode cL_law 490 = .ok (.invokevirtual 80, 3) := by decide +kernel
theorem dL_law_493 : decode cL_law 493 = .ok (.istore 6, 2) := by decide +kernel
theorem dL_law_495 : decode cL_law 495 = .ok (.aload_n 2, 1) := by decide +kernel
theorem dL_law_496 : decode cL_law 496 = .ok (.invokevirtual 51, 3) := by decide +kernel
theorem dL_law_499 : decode cL_law 499 = .ok (.iload 5, 2) := by decide +kernel
theorem dL_law_501 : decode cL_law 501 = .ok (.if_icmp .eq 5, 3) := by decide +kernel
theorem dL_law_504 : decode cL_law 504 = .ok (.iconst 0, 1) := by decide +kernel
theorem dL_law_505 : decode cL_law 505 = .ok (.ireturn, 1) := by decide +kernel
theorem dL_law_506 : decode cL_law 506 = .ok (.iload 5, 2) := by decide +kernel
theorem dL_law_508 : decode cL_law 508 = .ok (.ifCond .ne 15, 3) := by decide +kernel
theorem dL_law_511 : decode cL_law 511 = .ok (.aload_n 3, 1) := by decide +kernel
theorem dL_law_512 : decode cL_law 512 = .ok (.iconst 0, 1) := by decide +kernel
theorem dL_law_513 : decode cL_law 513 = .ok (.laload, 1) := by decide +kernel
theorem dL_law_514 : decode cL_law 514 = .ok (.iload 6, 2) := by decide +kernel
theorem dL_law_516 : decode cL_law 516 = .ok (.i2l, 1) := by decide +kernel
theorem dL_law_517 : decode cL_law 517 = .ok (.lcmp, 1) := by decide +kernel
theorem dL_law_518 : decode cL_law 518 = .ok (.ifCond .eq 5, 3) := by decide +kernel
theorem dL_law_521 : decode cL_law 521 = .ok (.iconst 0, 1) := by decide +kernel
theorem dL_law_522 : decode cL_law 522 = .ok (.ireturn, 1) := by decide +kernel
theorem dL_law_523 : decode cL_law 523 = .ok (.goto 236, 3) := by decide +kernel
theorem dL_law_526 : decode cL_law 526 = .ok (.aload_n 1, 1) := by decide +kernel
theorem dL_law_527 : decode cL_law 527 = .ok (.aload_n 0, 1) := by decide +kernel
theorem dL_law_528 : decode cL_law 528 = .ok (.iload 4, 2) := by decide +kernel
theorem dL_law_530 : decode cL_law 530 = .ok (.iconst 1, 1) := by decide +kernel
theorem dL_law_531 : decode cL_law 531 = .ok (.iadd, 1) := by decide +kernel
theorem dL_law_532 : decode cL_law 532 = .ok (.iaload, 1) := by decide +kernel
theorem dL_law_533 : decode cL_law 533 = .ok (.aload_n 0, 1) := by decide +kernel
theorem dL_law_534 : decode cL_law 534 = .ok (.iload 4, 2) := by decide +kernel
theorem dL_law_536 : decode cL_law 536 = .ok (.iconst 2, 1) := by decide +kernel
theorem dL_law_537 : decode cL_law 537 = .ok (.iadd, 1) := by decide +kernel
theorem dL_law_538 : decode cL_law 538 = .ok (.iaload, 1) := by decide +kernel
theorem dL_law_539 : decode cL_law 539 = .ok (.invokevirtual 81, 3) := by decide +kernel
theorem dL_law_542 : decode cL_law 542 = .ok (.aload_n 2, 1) := by decide +kernel
theorem dL_law_543 : decode cL_law 543 = .ok (.aload_n 0, 1) := by decide +kernel
theorem dL_law_544 : decode cL_law 544 = .ok (.iload 4, 2) := by decide +kernel
theorem dL_law_546 : decode cL_law 546 = .ok (.iconst 1, 1) := by decide +kernel
theorem dL_law_547 : decode cL_law 547 = .ok (.iadd, 1) := by decide +kernel
theorem dL_law_548 : decode cL_law 548 = .ok (.iaload, 1) := by decide +kernel
theorem dL_law_549 : decode cL_law 549 = .ok (.aload_n 0, 1) := by decide +kernel
theorem dL_law_550 : decode cL_law 550 = .ok (.iload 4, 2) := by decide +kernel
theorem dL_law_552 : decode cL_law 552 = .ok (.iconst 2, 1) := by decide +kernel
theorem dL_law_553 : decode cL_law 553 = .ok (.iadd, 1) := by decide +kernel
theorem dL_law_554 : decode cL_law 554 = .ok (.iaload, 1) := by decide +kernel
theorem dL_law_555 : decode cL_law 555 = .ok (.invokevirtual 84, 3) := by decide +kernel
theorem dL_law_558 : decode cL_law 558 = .ok (.if_icmp .eq 201, 3) := by decide +kernel
theorem dL_law_561 : decode cL_law 561 = .ok (.iconst 0, 1) := by decide +kernel
theorem dL_law_562 : decode cL_law 562 = .ok (.ireturn, 1) := by decide +kernel
theorem dL_law_563 : decode cL_law 563 = .ok (.aload_n 1, 1) := by decide +kernel
theorem dL_law_564 : decode cL_law 564 = .ok (.aload_n 0, 1) := by decide +kernel
theorem dL_law_565 : decode cL_law 565 = .ok (.iload 4, 2) := by decide +kernel
theorem dL_law_567 : decode cL_law 567 = .ok (.iconst 1, 1) := by decide +kernel
theorem dL_law_568 : decode cL_law 568 = .ok (.iadd, 1) := by decide +kernel
theorem dL_law_569 : decode cL_law 569 = .ok (.iaload, 1) := by decide +kernel
theorem dL_law_570 : decode cL_law 570 = .ok (.aload_n 0, 1) := by decide +kernel
theorem dL_law_571 : decode cL_law 571 = .ok (.iload 4, 2) := by decide +kernel
theorem dL_law_573 : decode cL_law 573 = .ok (.iconst 2, 1) := by decide +kernel
theorem dL_law_574 : decode cL_law 574 = .ok (.iadd, 1) := by decide +kernel
theorem dL_law_575 : decode cL_law 575 = .ok (.iaload, 1) := by decide +kernel
theorem dL_law_576 : decode cL_law 576 = .ok (.invokevirtual 85, 3) := by decide +kernel
theorem dL_law_579 : decode cL_law 579 = .ok (.aload_n 2, 1) := by decide +kernel
theorem dL_law_580 : decode cL_law 580 = .ok (.aload_n 0, 1) := by decide +kernel
theorem dL_law_581 : decode cL_law 581 = .ok (.iload 4, 2) := by decide +kernel
theorem dL_law_583 : decode cL_law 583 = .ok (.iconst 1, 1) := by decide +kernel
theorem dL_law_584 : decode cL_law 584 = .ok (.iadd, 1) := by decide +kernel
theorem dL_law_585 : decode cL_law 585 = .ok (.iaload, 1) := by decide +kernel
theorem dL_law_586 : decode cL_law 586 = .ok (.aload_n 0, 1) := by decide +kernel
theorem dL_law_587 : decode cL_law 587 = .ok (.iload 4, 2) := by decide +kernel
theorem dL_law_589 : decode cL_law 589 = .ok (.iconst 2, 1) := by decide +kernel
theorem dL_law_590 : decode cL_law 590 = .ok (.iadd, 1) := by decide +kernel
theorem dL_law_591 : decode cL_law 591 = .ok (.iaload, 1) := by decide +kernel
theorem dL_law_592 : decode cL_law 592 = .ok (.invokevirtual 88, 3) := by decide +kernel
theorem dL_law_595 : decode cL_law 595 = .ok (.if_icmp .eq 164, 3) := by decide +kernel
theorem dL_law_598 : decode cL_law 598 = .ok (.iconst 0, 1) := by decide +kernel
theorem dL_law_599 : decode cL_law 599 = .ok (.ireturn, 1) := by decide +kernel
theorem dL_law_600 : decode cL_law 600 = .ok (.aload_n 1, 1) := by decide +kernel
theorem dL_law_601 : decode cL_law 601 = .ok (.aload_n 0, 1) := by decide +kernel
theorem dL_law_602 : decode cL_law 602 = .ok (.iload 4, 2) := by decide +kernel
theorem dL_law_604 : decode cL_law 604 = .ok (.iconst 1, 1) := by decide +kernel
theorem dL_law_605 : decode cL_law 605 = .ok (.iadd, 1) := by decide +kernel
theorem dL_law_606 : decode cL_law 606 = .ok (.iaload, 1) := by decide +kernel
theorem dL_law_607 : decode cL_law 607 = .ok (.aload_n 0, 1) := by decide +kernel
theorem dL_law_608 : decode cL_law 608 = .ok (.iload 4, 2) := by decide +kernel
theorem dL_law_610 : decode cL_law 610 = .ok (.iconst 2, 1) := by decide +kernel
theorem dL_law_611 : decode cL_law 611 = .ok (.iadd, 1) := by decide +kernel
theorem dL_law_612 : decode cL_law 612 = .ok (.iaload, 1) := by decide +kernel
theorem dL_law_613 : decode cL_law 613 = .ok (.invokevirtual 89, 3) := by decide +kernel
theorem dL_law_616 : decode cL_law 616 = .ok (.aload_n 2, 1) := by decide +kernel
theorem dL_law_617 : decode cL_law 617 = .ok (.aload_n 0, 1) := by decide +kernel
theorem dL_law_618 : decode cL_law 618 = .ok (.iload 4, 2) := by decide +kernel
theorem dL_law_620 : decode cL_law 620 = .ok (.iconst 1, 1) := by decide +kernel
theorem dL_law_621 : decode cL_law 621 = .ok (.iadd, 1) := by decide +kernel
theorem dL_law_622 : decode cL_law 622 = .ok (.iaload, 1) := by decide +kernel
theorem dL_law_623 : decode cL_law 623 = .ok (.aload_n 0, 1) := by decide +kernel
theorem dL_law_624 : decode cL_law 624 = .ok (.iload 4, 2) := by decide +kernel
theorem dL_law_626 : decode cL_law 626 = .ok (.iconst 2, 1) := by decide +kernel
theorem dL_law_627 : decode cL_law 627 = .ok (.iadd, 1) := by decide +kernel
theorem dL_law_628 : decode cL_law 628 = .ok (.iaload, 1) := by decide +kernel
theorem dL_law_629 : decode cL_law 629 = .ok (.invokevirtual 92, 3) := by decide +kernel
theorem dL_law_632 : decode cL_law 632 = .ok (.if_icmp .eq 127, 3) := by decide +kernel
theorem dL_law_635 : decode cL_law 635 = .ok (.iconst 0, 1) := by decide +kernel
theorem dL_law_636 : decode cL_law 636 = .ok (.ireturn, 1) := by decide +kernel
theorem dL_law_637 : decode cL_law 637 = .ok (.aload_n 1, 1) := by decide +kernel
theorem dL_law_638 : decode cL_law 638 = .ok (.aload_n 0, 1) := by decide +kernel
theorem dL_law_639 : decode cL_law 639 = .ok (.iload 4, 2) := by decide +kernel
theorem dL_law_641 : decode cL_law 641 = .ok (.iconst 1, 1) := by decide +kernel
theorem dL_law_642 : decode cL_law 642 = .ok (.iadd, 1) := by decide +kernel
theorem dL_law_643 : decode cL_law 643 = .ok (.iaload, 1) := by decide +kernel
theorem dL_law_644 : decode cL_law 644 = .ok (.aload_n 3, 1) := by decide +kernel
theorem dL_law_645 : decode cL_law 645 = .ok (.invokestatic 93, 3) := by decide +kernel
theorem dL_law_648 : decode cL_law 648 = .ok (.istore 5, 2) := by decide +kernel
theorem dL_law_650 : decode cL_law 650 = .ok (.aload_n 2, 1) := by decide +kernel
theorem dL_law_651 : decode cL_law 651 = .ok (.aload_n 0, 1) := by decide +kernel
theorem dL_law_652 : decode cL_law 652 = .ok (.iload 4, 2) := by decide +kernel
theorem dL_law_654 : decode cL_law 654 = .ok (.iconst 1, 1) := by decide +kernel
theorem dL_law_655 : decode cL_law 655 = .ok (.iadd, 1) := by decide +kernel
theorem dL_law_656 : decode cL_law 656 = .ok (.iaload, 1) := by decide +kernel
theorem dL_law_657 : decode cL_law 657 = .ok (.invokevirtual 95, 3) := by decide +kernel
theorem dL_law_660 : decode cL_law 660 = .ok (.istore 6, 2) := by decide +kernel
theorem dL_law_662 : decode cL_law 662 = .ok (.aload_n 2, 1) := by decide +kernel
theorem dL_law_663 : decode cL_law 663 = .ok (.invokevirtual 51, 3) := by decide +kernel
theorem dL_law_666 : decode cL_law 666 = .ok (.iload 5, 2) := by decide +kernel
theorem dL_law_668 : decode cL_law 668 = .ok (.if_icmp .eq 5, 3) := by decide +kernel
theorem dL_law_671 : decode cL_law 671 = .ok (.iconst 0, 1) := by decide +kernel
theorem dL_law_672 : decode cL_law 672 = .ok (.ireturn, 1) := by decide +kernel
theorem dL_law_673 : decode cL_law 673 = .ok (.iload 5, 2) := by decide +kernel
theorem dL_law_675 : decode cL_law 675 = .ok (.ifCond .ne 15, 3) := by decide +kernel
theorem dL_law_678 : decode cL_law 678 = .ok (.aload_n 3, 1) := by decide +kernel
theorem dL_law_679 : decode cL_law 679 = .ok (.iconst 0, 1) := by decide +kernel
theorem dL_law_680 : decode cL_law 680 = .ok (.laload, 1) := by decide +kernel
theorem dL_law_681 : decode cL_law 681 = .ok (.iload 6, 2) := by decide +kernel
theorem dL_law_683 : decode cL_law 683 = .ok (.i2l, 1) := by decide +kernel
theorem dL_law_684 : decode cL_law 684 = .ok (.lcmp, 1) := by decide +kernel
theorem dL_law_685 : decode cL_law 685 = .ok (.ifCond .eq 5, 3) := by decide +kernel
theorem dL_law_688 : decode cL_law 688 = .ok (.iconst 0, 1) := by decide +kernel
theorem dL_law_689 : decode cL_law 689 = .ok (.ireturn, 1) := by decide +kernel
theorem dL_law_690 : decode cL_law 690 = .ok (.goto 69, 3) := by decide +kernel
theorem dL_law_693 : decode cL_law 693 = .ok (.aload_n 1, 1) := by decide +kernel
theorem dL_law_694 : decode cL_law 694 = .ok (.invokevirtual 96, 3) := by decide +kernel
theorem dL_law_697 : decode cL_law 697 = .ok (.dstore 5, 2) := by decide +kernel
theorem dL_law_699 : decode cL_law 699 = .ok (.aload_n 2, 1) := by decide +kernel
theorem dL_law_700 : decode cL_law 700 = .ok (.invokevirtual 100, 3) := by decide +kernel
theorem dL_law_703 : decode cL_law 703 = .ok (.dstore 7, 2) := by decide +kernel
theorem dL_law_705 : decode cL_law 705 = .ok (.dload 5, 2) := by decide +kernel
theorem dL_law_707 : decode cL_law 707 = .ok (.dload 7, 2) := by decide +kernel
theorem dL_law_709 : decode cL_law 709 = .ok (.dcmp .l, 1) := by decide +kernel
theorem dL_law_710 : decode cL_law 710 = .ok (.ifCond .eq 21, 3) := by decide +kernel
theorem dL_law_713 : decode cL_law 713 = .ok (.dload 5, 2) := by decide +kernel
theorem dL_law_715 : decode cL_law 715 = .ok (.dload 5, 2) := by decide +kernel
theorem dL_law_717 : decode cL_law 717 = .ok (.dcmp .l, 1) := by decide +kernel
theorem dL_law_718 : decode cL_law 718 = .ok (.ifCond .eq 11, 3) := by decide +kernel
theorem dL_law_721 : decode cL_law 721 = .ok (.dload 7, 2) := by decide +kernel
theorem dL_law_723 : decode cL_law 723 = .ok (.dload 7, 2) := by decide +kernel
theorem dL_law_725 : decode cL_law 725 = .ok (.dcmp .l, 1) := by decide +kernel
theorem dL_law_726 : decode cL_law 726 = .ok (.ifCond .ne 5, 3) := by decide +kernel
theorem dL_law_729 : decode cL_law 729 = .ok (.iconst 0, 1) := by decide +kernel
theorem dL_law_730 : decode cL_law 730 = .ok (.ireturn, 1) := by decide +kernel
theorem dL_law_731 : decode cL_law 731 = .ok (.goto 28, 3) := by decide +kernel
theorem dL_law_734 : decode cL_law 734 = .ok (.aload_n 1, 1) := by decide +kernel
theorem dL_law_735 : decode cL_law 735 = .ok (.aload_n 0, 1) := by decide +kernel
theorem dL_law_736 : decode cL_law 736 = .ok (.iload 4, 2) := by decide +kernel
theorem dL_law_738 : decode cL_law 738 = .ok (.iconst 1, 1) := by decide +kernel
theorem dL_law_739 : decode cL_law 739 = .ok (.iadd, 1) := by decide +kernel
theorem dL_law_740 : decode cL_law 740 = .ok (.iaload, 1) := by decide +kernel
theorem dL_law_741 : decode cL_law 741 = .ok (.invokevirtual 101, 3) := by decide +kernel
theorem dL_law_744 : decode cL_law 744 = .ok (.aload_n 2, 1) := by decide +kernel
theorem dL_law_745 : decode cL_law 745 = .ok (.aload_n 0, 1) := by decide +kernel
theorem dL_law_746 : decode cL_law 746 = .ok (.iload 4, 2) := by decide +kernel
theorem dL_law_748 : decode cL_law 748 = .ok (.iconst 1, 1) := by decide +kernel
theorem dL_law_749 : decode cL_law 749 = .ok (.iadd, 1) := by decide +kernel
theorem dL_law_750 : decode cL_law 750 = .ok (.iaload, 1) := by decide +kernel
theorem dL_law_751 : decode cL_law 751 = .ok (.invokevirtual 104, 3) := by decide +kernel
theorem dL_law_754 : decode cL_law 754 = .ok (.if_icmp .eq 5, 3) := by decide +kernel
theorem dL_law_757 : decode cL_law 757 = .ok (.iconst 0, 1) := by decide +kernel
theorem dL_law_758 : decode cL_law 758 = .ok (.ireturn, 1) := by decide +kernel
theorem dL_law_759 : decode cL_law 759 = .ok (.iinc 4 6, 3) := by decide +kernel
theorem dL_law_762 : decode cL_law 762 = .ok (.goto (-729), 3) := by decide +kernel
theorem dL_law_765 : decode cL_law 765 = .ok (.iconst 1, 1) := by decide +kernel
theorem dL_law_766 : decode cL_law 766 = .ok (.ireturn, 1) := by decide +kernel
end
section
/-! THE ABSTRACT MACHINE: values, the store by tags, the rules; Ev is the least relation closed under the rules -/
abbrev AV : Type := Value ⊕ (Nat × Nat)
abbrev vI (x : Int32) : AV := .inl (.int x)
abbrev vL (x : Int64) : AV := .inl (.long x)
abbrev vD (x : UInt64) : AV := .inl (.double x)
abbrev vN : AV := .inl .null
abbrev vR (t i : Nat) : AV := .inr (t, i)
abbrev vU : AV := .inl (.retAddr 0)
abbrev vU2 : AV := .inl (.retAddr 1)
abbrev Sto : Type := (Nat → Nat → Nat → AV) × (Nat → Nat)
abbrev Res : Type := Nat × Option AV × Sto
/-- a method: name, bytes, own class, locals, what it returns, handlers, arguments (with the receiver), has a receiver, frames, words -/
abbrev MT : Type := MethodName × ByteArray × Nat × Nat × Option FieldType × List (Nat × Nat × Nat × Nat) × Nat × Bool × Nat × Nat
abbrev mY (M : MT) : MethodName := M.1
abbrev mB (M : MT) : ByteArray := M.2.1
abbrev mO (M : MT) : Nat := M.2.2.1
abbrev mL (M : MT) : Nat := M.2.2.2.1
abbrev mR (M : MT) : Option FieldType := M.2.2.2.2.1
abbrev mH (M : MT) : List (Nat × Nat × Nat × Nat) := M.2.2.2.2.2.1
abbrev mA (M : MT) : Nat := M.2.2.2.2.2.2.1
abbrev mV (M : MT) : Bool := M.2.2.2.2.2.2.2.1
abbrev mF (M : MT) : Nat := M.2.2.2.2.2.2.2.2.1
abbrev mQ (M : MT) : Nat := M.2.2.2.2.2.2.2.2.2
def setS (S : Sto) (t i k : Nat) (v : AV) : Sto := (fun t' i' k' => if t' = t ∧ i' = i ∧ k' = k then v else S.1 t' i' k', S.2)
def avC (v : AV) : Nat := match v with
  | .inl x => x.category
  | .inr _ => 1
def isRf (v : AV) : Bool := match v with
  | .inl .null => true
  | .inr _ => true
  | _ => false
def nU2 (o : Option AV) : Bool := match o with
  | some (.inl (.retAddr _)) => decide (o = some vU)
  | some _ => true
  | none => false
def wsum (st : List AV) : Nat := (st.map avC).sum
def RN (o : Nat) : String := match o with
  | 0 => RX0 | 1 => RX1 | 2 => RX2 | 3 => RX3 | 4 => RX4 | 5 => RX5 | 6 => RX6 | 7 => RX7 | _ => RL
/-- the fields of the class of a tag: tag t is class t - 1 -/
def TT (t : Nat) : u_T := match t with
  | 1 => TX0 | 2 => TX1 | 3 => TX2 | 4 => TX3 | 5 => TX4 | 6 => TX5 | 7 => TX6 | _ => TX7
def tyT (t : Nat) : Nat → FieldType := match t with
  | 1 => tyX0 | 2 => tyX1 | 3 => tyX2 | 4 => tyX3 | 5 => tyX4 | 6 => tyX5 | 7 => tyX6 | _ => tyX7
def NN (t : Nat) : Nat := match t with
  | 1 => 3 | 2 => 9 | 3 => 5 | 4 => 4 | 5 => 6 | 6 => 10 | 7 => 10 | 8 => 39 | _ => 0
/-- arrays: what they hold, and how many. 10, 11 a body's; 12 .. 14 the journal's; 15 tasks; 16 mutexes; 17 the law's long; 18 the script; 20 + k the reference's field k -/
def aTy (t : Nat) : Option FieldType := match t with
  | 10 => some .int | 11 => some .int | 12 => some .int | 13 => some .int | 14 => some .int
  | 15 => some (.object "TaskKernel$Task") | 16 => some (.object "TaskKernel$Mutex") | 17 => some .long | 18 => some .int
  | 27 => some .int | 28 => some .int | 29 => some .int | 30 => some .int | 31 => some .int | 32 => some .boolean | 33 => some .int | 34 => some .int | 35 => some .int | 36 => some .int | 37 => some .int | 38 => some .int | 39 => some .int
  | 40 => some .int | 41 => some .int | 42 => some .int | 43 => some .int | 44 => some .int | 45 => some .int | 46 => some .int | 47 => some .int | 48 => some .int | 49 => some .int | 50 => some .int
  | 52 => some .int | 53 => some .int | 54 => some .int | 56 => some .int | 57 => some .int | 58 => some .int
  | _ => none
def alen (t : Nat) : Nat := match t with
  | 10 => 10 | 11 => 10 | 12 => 40 | 13 => 40 | 14 => 40 | 15 => 8 | 16 => 4 | 17 => 1
  | 34 => 80 | 35 => 80 | 52 => 4 | 53 => 4 | 54 => 4 | 56 => 40 | 57 => 40 | 58 => 40
  | _ => 8
def lenA (S : Sto) (t : Nat) : Nat := if t = 18 then S.2 102 else alen t
def aEl (t t2 : Nat) : Bool := (t == 15 && t2 == 6) || (t == 16 && t2 == 4)
/-- a field takes a value -/
def fitV (ty : FieldType) (v : AV) : Bool := match ty, v with
  | .int, .inl (.int _) => true
  | .boolean, .inl (.int x) => x == 0 || x == 1
  | .object _, .inl .null => true
  | .object _, .inr _ => true
  | .array _, .inl .null => true
  | .array _, .inr _ => true
  | _, _ => false
def fitF (t k : Nat) (v : AV) : Bool := fitV (tyT t k) v
def finOk (M : MT) (t k : Nat) : Bool := !(TT t k).2.2.2 || (decide ((mY M).name = "<init>") && decide (mO M + 1 = t))
def FieldOk (o idx t k : Nat) : Prop := Cond.fieldLink (RN o) idx (TT t k).1 (TT t k).2.1 (TT t k).2.2.1 ∈ wsL_law ∧ k < NN t ∧ 1 ≤ t ∧ t ≤ 8
def NewOk (o idx t : Nat) : Prop := Cond.classLink (RN o) idx (RN (t - 1)) ∈ wsL_law ∧ Cond.instantiable (RN (t - 1)) (NN t) ∈ wsL_law ∧ Cond.initialized (RN (t - 1)) ∈ wsL_law ∧ 1 ≤ t ∧ t ≤ 8
def AnewOk (o idx t : Nat) : Prop := (t = 15 ∧ Cond.classLink (RN o) idx RX5 ∈ wsL_law) ∨ (t = 16 ∧ Cond.classLink (RN o) idx RX3 ∈ wsL_law)
/-- what a new object's, a new array's places hold -/
def dflt (ty : FieldType) : AV := match ty with
  | .int => vI 0 | .boolean => vI 0 | .long => vL 0 | _ => vN
def cntU (c : Nat → Nat) (t n : Nat) : Nat → Nat := fun j => if j = t then n else c j
def bump (c : Nat → Nat) (t w : Nat) : Nat → Nat := fun j => if j = t then c t + 1 else if j = 100 then c 100 + 1 else if j = 101 then c 101 + w else c j
def newO (S : Sto) (t : Nat) : Sto := (fun t' i' k' => if t' = t ∧ i' = S.2 t then dflt (tyT t k') else S.1 t' i' k', bump S.2 t (NN t))
def newA (S : Sto) (t : Nat) : Sto := (fun t' i' k' => if t' = t ∧ i' = S.2 t then dflt ((aTy t).getD .int) else S.1 t' i' k', bump S.2 t (alen t))
def newX (S : Sto) : Sto := (S.1, bump S.2 19 6)
def wid (t : Nat) (S : Sto) : Nat := if t ≤ 8 then NN t else lenA S t
/-- two stores that hold the same where something lies -/
def EqS (S S2 : Sto) : Prop := S.2 = S2.2 ∧ ∀ t i k, i < S.2 t → k < wid t S → S.1 t i k = S2.1 t i k
def Forg (ls ls2 : List AV) : Prop := ls2.length = ls.length ∧ ∀ (k : Nat) (w : AV), ls2[k]? = some w → w = vU ∨ (ls[k]? = some w ∧ avC w = 1)
def ent (N : MT) (as : List AV) : List AV := as ++ List.replicate (mL N - as.length) vU
def argB (v : AV) : Bool := match v with
  | .inl (.int _) => true
  | .inl .null => true
  | .inr _ => true
  | _ => false
def argsOk (N : MT) (as : List AV) : Prop := as.length = mA N ∧ as.all argB = true ∧ (mV N = true → ∃ i, as[0]? = some (vR (mO N + 1) i))
/-- the callee's frames and words fit into the caller's -/
def fitsIn (M N : MT) : Bool := decide (mF N + 1 ≤ mF M) && decide (8 + (mL N + 11) + mQ N ≤ mQ M) && decide (mA N ≤ mL N)
def codeOk (N : MT) : Prop := (mH N = [] ∧ Cond.code (mY N) (mB N) (mL N) (mR N) ∈ wsL_law) ∨ (mH N ≠ [] ∧ Cond.codeWith (mY N) (mB N) (mL N) (mR N) (mH N) ∈ wsL_law)
def CalV (N : MT) : Prop := Cond.instanceMethod (mY N) ∈ wsL_law ∧ Cond.selects (RN (mO N)) (mY N) (mY N) ∈ wsL_law ∧ Cond.initialized (RN (mO N)) ∈ wsL_law ∧ Cond.code (mY N) (mB N) (mL N) (mR N) ∈ wsL_law ∧ mH N = [] ∧ (mY N).cls = RN (mO N) ∧ (mO N ≤ 7) ∧ mV N = true ∧ (parseMethodDescriptor (mY N).desc).map (fun d => d.parameters.length) = some (mA N - 1) ∧ 1 ≤ mA N
def CallV (M : MT) (idx : Nat) (N : MT) : Prop := Cond.methodLink (RN (mO M)) idx (mY N) ∈ wsL_law ∧ CalV N ∧ fitsIn M N = true
def CalS (N : MT) : Prop := Cond.static (mY N) ∈ wsL_law ∧ Cond.initialized (RN (mO N)) ∈ wsL_law ∧ codeOk N ∧ (mY N).cls = RN (mO N) ∧ (mO N ≤ 8) ∧ mV N = false ∧ (parseMethodDescriptor (mY N).desc).map (fun d => d.parameters.length) = some (mA N)
def CallS (M : MT) (idx : Nat) (N : MT) : Prop := Cond.methodLink (RN (mO M)) idx (mY N) ∈ wsL_law ∧ CalS N ∧ fitsIn M N = true
/-- constructors: four of them are private and called by a nest mate -/
def nestL : List Cond := [.methodLinkNest RX6 23 yX2_init RX6, .methodLinkNest RX5 11 yX0_init RX6, .methodLinkNest RX5 20 yX1_init RX6, .methodLinkNest RX5 27 yX4_init RX6]
def CalI (N : MT) : Prop := Cond.instanceMethod (mY N) ∈ wsL_law ∧ Cond.initialized (RN (mO N)) ∈ wsL_law ∧ Cond.code (mY N) (mB N) (mL N) (mR N) ∈ wsL_law ∧ mH N = [] ∧ mR N = none ∧ (mY N).cls = RN (mO N) ∧ (mY N).name = "<init>" ∧ (mO N ≤ 7) ∧ mV N = true ∧ (parseMethodDescriptor (mY N).desc).map (fun d => d.parameters.length) = some (mA N - 1) ∧ 1 ≤ mA N
def CallI (M : MT) (idx : Nat) (N : MT) : Prop := (Cond.methodLink (RN (mO M)) idx (mY N) ∈ wsL_law ∨ Cond.methodLinkNest (RN (mO M)) idx (mY N) RX6 ∈ nestL) ∧ CalI N ∧ fitsIn M N = true
/-- exceptions: 1 IllegalArgumentException, 2 IllegalStateException -/
def EN (E : Nat) : String := if E = 1 then "java/lang/IllegalArgumentException" else "java/lang/IllegalStateException"
def Hnd (M : MT) (pc E hpc : Nat) : Prop := mO M = 8 ∧ ((E = 1 ∧ ∃ a b tl, mH M = (a, b, hpc, 13) :: tl ∧ a ≤ pc ∧ pc < b) ∨ (E = 2 ∧ ∃ a b tl, mH M = (a, b, hpc, 15) :: tl ∧ a ≤ pc ∧ pc < b) ∨ (E = 2 ∧ ∃ a b h0 a2 b2 tl, mH M = (a, b, h0, 13) :: (a2, b2, hpc, 15) :: tl ∧ a2 ≤ pc ∧ pc < b2))
/-- throw new E("text"): ik the class, ic its constructor, is the text's place -/
def thrL : List (Nat × String) := [(38, "a number of the task is out of its range"), (52, "no more tasks can be given"), (65, "the protocol or its ceiling is out of its range"), (70, "no more mutexes can be given"), (79, "no such task, kind or mutex, or units out of their range"), (90, "no more steps can be given"), (96, "started before, or without a task"), (108, "so many ticks can not be asked for"), (110, "not started yet"), (316, "no such task")]
def ThrowAt (M : MT) (pc E : Nat) : Prop := mO M = 6 ∧ mH M = [] ∧ 6 ≤ mF M ∧ 90 ≤ mQ M ∧ ((E = 1 ∧ decode (mB M) pc = .ok (.new 36, 3)) ∨ (E = 2 ∧ decode (mB M) pc = .ok (.new 50, 3))) ∧ decode (mB M) (pc + 3) = .ok (.dup, 1) ∧
  ∃ (is : Nat) (text : String) (w : Nat), (is, text) ∈ thrL ∧ ((w = 2 ∧ decode (mB M) (pc + 4) = .ok (.ldc is, 2)) ∨ (w = 3 ∧ decode (mB M) (pc + 4) = .ok (.ldc_w is, 3))) ∧ ((E = 1 ∧ decode (mB M) (pc + 4 + w) = .ok (.invokespecial 40, 3)) ∨ (E = 2 ∧ decode (mB M) (pc + 4 + w) = .ok (.invokespecial 54, 3))) ∧ decode (mB M) (pc + 7 + w) = .ok (.athrow, 1)
abbrev PT : Type := MT → Nat → List AV → List AV → Sto → Res → Prop

def Rl_iconst (P : PT) : Prop := ∀ (M : MT) (pc : Nat) (ls st : List AV) (S : Sto) (r : Res) (n : Int) (v : Int32), decode (mB M) pc = .ok (.iconst n, 1) → Int32.ofInt n = v → P M (pc + 1) ls (vI v :: st) S r → P M pc ls st S r
def Rl_bipush (P : PT) : Prop := ∀ (M : MT) (pc : Nat) (ls st : List AV) (S : Sto) (r : Res) (n : Int) (v : Int32), decode (mB M) pc = .ok (.bipush n, 2) → (Int8.ofInt n).toInt32 = v → P M (pc + 2) ls (vI v :: st) S r → P M pc ls st S r
def Rl_sipush (P : PT) : Prop := ∀ (M : MT) (pc : Nat) (ls st : List AV) (S : Sto) (r : Res) (n : Int) (v : Int32), decode (mB M) pc = .ok (.sipush n, 3) → (Int16.ofInt n).toInt32 = v → P M (pc + 3) ls (vI v :: st) S r → P M pc ls st S r
def Rl_null (P : PT) : Prop := ∀ (M : MT) (pc : Nat) (ls st : List AV) (S : Sto) (r : Res) , decode (mB M) pc = .ok (.aconst_null, 1) → P M (pc + 1) ls (vN :: st) S r → P M pc ls st S r
def Rl_dconst (P : PT) : Prop := ∀ (M : MT) (pc : Nat) (ls st : List AV) (S : Sto) (r : Res) , decode (mB M) pc = .ok (.dconst 0, 1) → P M (pc + 1) ls (vD FP.dconst0 :: st) S r → P M pc ls st S r
def Rl_iload_n (P : PT) : Prop := ∀ (M : MT) (pc : Nat) (ls st : List AV) (S : Sto) (r : Res) (k : Fin 4) (x : Int32), decode (mB M) pc = .ok (.iload_n k, 1) → ls[k.val]? = some (vI x) → P M (pc + 1) ls (vI x :: st) S r → P M pc ls st S r
def Rl_iload (P : PT) : Prop := ∀ (M : MT) (pc : Nat) (ls st : List AV) (S : Sto) (r : Res) (k : Nat) (x : Int32), decode (mB M) pc = .ok (.iload k, 2) → ls[k]? = some (vI x) → P M (pc + 2) ls (vI x :: st) S r → P M pc ls st S r
def Rl_aload_n (P : PT) : Prop := ∀ (M : MT) (pc : Nat) (ls st : List AV) (S : Sto) (r : Res) (k : Fin 4) (v : AV), decode (mB M) pc = .ok (.aload_n k, 1) → ls[k.val]? = some v → isRf v = true → P M (pc + 1) ls (v :: st) S r → P M pc ls st S r
def Rl_aload (P : PT) : Prop := ∀ (M : MT) (pc : Nat) (ls st : List AV) (S : Sto) (r : Res) (k : Nat) (v : AV), decode (mB M) pc = .ok (.aload k, 2) → ls[k]? = some v → isRf v = true → P M (pc + 2) ls (v :: st) S r → P M pc ls st S r
def Rl_dload_n (P : PT) : Prop := ∀ (M : MT) (pc : Nat) (ls st : List AV) (S : Sto) (r : Res) (k : Fin 4) (x : UInt64), decode (mB M) pc = .ok (.dload_n k, 1) → ls[k.val]? = some (vD x) → P M (pc + 1) ls (vD x :: st) S r → P M pc ls st S r
def Rl_dload (P : PT) : Prop := ∀ (M : MT) (pc : Nat) (ls st : List AV) (S : Sto) (r : Res) (k : Nat) (x : UInt64), decode (mB M) pc = .ok (.dload k, 2) → ls[k]? = some (vD x) → P M (pc + 2) ls (vD x :: st) S r → P M pc ls st S r
def Rl_istore_n (P : PT) : Prop := ∀ (M : MT) (pc : Nat) (ls st : List AV) (S : Sto) (r : Res) (k : Fin 4) (x : Int32), decode (mB M) pc = .ok (.istore_n k, 1) → nU2 ls[k.val]? = true → P M (pc + 1) (ls.set k.val (vI x)) st S r → P M pc ls (vI x :: st) S r
def Rl_istore (P : PT) : Prop := ∀ (M : MT) (pc : Nat) (ls st : List AV) (S : Sto) (r : Res) (k : Nat) (x : Int32), decode (mB M) pc = .ok (.istore k, 2) → nU2 ls[k]? = true → P M (pc + 2) (ls.set k (vI x)) st S r → P M pc ls (vI x :: st) S r
def Rl_astore_n (P : PT) : Prop := ∀ (M : MT) (pc : Nat) (ls st : List AV) (S : Sto) (r : Res) (k : Fin 4) (v : AV), decode (mB M) pc = .ok (.astore_n k, 1) → nU2 ls[k.val]? = true → isRf v = true → P M (pc + 1) (ls.set k.val v) st S r → P M pc ls (v :: st) S r
def Rl_astore (P : PT) : Prop := ∀ (M : MT) (pc : Nat) (ls st : List AV) (S : Sto) (r : Res) (k : Nat) (v : AV), decode (mB M) pc = .ok (.astore k, 2) → nU2 ls[k]? = true → isRf v = true → P M (pc + 2) (ls.set k v) st S r → P M pc ls (v :: st) S r
def Rl_dstore_n (P : PT) : Prop := ∀ (M : MT) (pc : Nat) (ls st : List AV) (S : Sto) (r : Res) (k : Fin 4) (x : UInt64), decode (mB M) pc = .ok (.dstore_n k, 1) → nU2 ls[k.val]? = true → k.val + 1 < ls.length → P M (pc + 1) ((ls.set k.val (vD x)).set (k.val + 1) vU2) st S r → P M pc ls (vD x :: st) S r
def Rl_dstore (P : PT) : Prop := ∀ (M : MT) (pc : Nat) (ls st : List AV) (S : Sto) (r : Res) (k : Nat) (x : UInt64), decode (mB M) pc = .ok (.dstore k, 2) → nU2 ls[k]? = true → k + 1 < ls.length → P M (pc + 2) ((ls.set k (vD x)).set (k + 1) vU2) st S r → P M pc ls (vD x :: st) S r
def Rl_iinc (P : PT) : Prop := ∀ (M : MT) (pc : Nat) (ls st : List AV) (S : Sto) (r : Res) (k : Nat) (n : Int) (x : Int32), decode (mB M) pc = .ok (.iinc k n, 3) → ls[k]? = some (vI x) → P M (pc + 3) (ls.set k (vI (x + Int32.ofInt n))) st S r → P M pc ls st S r
def Rl_iadd (P : PT) : Prop := ∀ (M : MT) (pc : Nat) (ls st : List AV) (S : Sto) (r : Res) (a b : Int32), decode (mB M) pc = .ok (.iadd, 1) → P M (pc + 1) ls (vI (a + b) :: st) S r → P M pc ls (vI b :: vI a :: st) S r
def Rl_isub (P : PT) : Prop := ∀ (M : MT) (pc : Nat) (ls st : List AV) (S : Sto) (r : Res) (a b : Int32), decode (mB M) pc = .ok (.isub, 1) → P M (pc + 1) ls (vI (a - b) :: st) S r → P M pc ls (vI b :: vI a :: st) S r
def Rl_imul (P : PT) : Prop := ∀ (M : MT) (pc : Nat) (ls st : List AV) (S : Sto) (r : Res) (a b : Int32), decode (mB M) pc = .ok (.imul, 1) → P M (pc + 1) ls (vI (a * b) :: st) S r → P M pc ls (vI b :: vI a :: st) S r
def Rl_iand (P : PT) : Prop := ∀ (M : MT) (pc : Nat) (ls st : List AV) (S : Sto) (r : Res) (a b : Int32), decode (mB M) pc = .ok (.iand, 1) → P M (pc + 1) ls (vI (a &&& b) :: st) S r → P M pc ls (vI b :: vI a :: st) S r
def Rl_idiv (P : PT) : Prop := ∀ (M : MT) (pc : Nat) (ls st : List AV) (S : Sto) (r : Res) (a b : Int32), decode (mB M) pc = .ok (.idiv, 1) → ¬ b = 0 → P M (pc + 1) ls (vI (a / b) :: st) S r → P M pc ls (vI b :: vI a :: st) S r
def Rl_irem (P : PT) : Prop := ∀ (M : MT) (pc : Nat) (ls st : List AV) (S : Sto) (r : Res) (a b : Int32), decode (mB M) pc = .ok (.irem, 1) → ¬ b = 0 → P M (pc + 1) ls (vI (a - a / b * b) :: st) S r → P M pc ls (vI b :: vI a :: st) S r
def Rl_ineg (P : PT) : Prop := ∀ (M : MT) (pc : Nat) (ls st : List AV) (S : Sto) (r : Res) (a : Int32), decode (mB M) pc = .ok (.ineg, 1) → P M (pc + 1) ls (vI (-a) :: st) S r → P M pc ls (vI a :: st) S r
def Rl_i2l (P : PT) : Prop := ∀ (M : MT) (pc : Nat) (ls st : List AV) (S : Sto) (r : Res) (a : Int32), decode (mB M) pc = .ok (.i2l, 1) → P M (pc + 1) ls (vL a.toInt64 :: st) S r → P M pc ls (vI a :: st) S r
def Rl_i2d (P : PT) : Prop := ∀ (M : MT) (pc : Nat) (ls st : List AV) (S : Sto) (r : Res) (a : Int32), decode (mB M) pc = .ok (.i2d, 1) → P M (pc + 1) ls (vD (FP.i2d a) :: st) S r → P M pc ls (vI a :: st) S r
def Rl_dadd (P : PT) : Prop := ∀ (M : MT) (pc : Nat) (ls st : List AV) (S : Sto) (r : Res) (a b : UInt64), decode (mB M) pc = .ok (.dadd, 1) → vf_n64 (FP.dadd a b) → P M (pc + 1) ls (vD (FP.dadd a b) :: st) S r → P M pc ls (vD b :: vD a :: st) S r
def Rl_ddiv (P : PT) : Prop := ∀ (M : MT) (pc : Nat) (ls st : List AV) (S : Sto) (r : Res) (a b : UInt64), decode (mB M) pc = .ok (.ddiv, 1) → vf_n64 (FP.ddiv a b) → P M (pc + 1) ls (vD (FP.ddiv a b) :: st) S r → P M pc ls (vD b :: vD a :: st) S r
def Rl_lcmp (P : PT) : Prop := ∀ (M : MT) (pc : Nat) (ls st : List AV) (S : Sto) (r : Res) (a b : Int64), decode (mB M) pc = .ok (.lcmp, 1) → P M (pc + 1) ls (vI (lg_cmp a b) :: st) S r → P M pc ls (vL b :: vL a :: st) S r
def Rl_dcmp (P : PT) : Prop := ∀ (M : MT) (pc : Nat) (ls st : List AV) (S : Sto) (r : Res) (a b : UInt64) (op : CmpOp), decode (mB M) pc = .ok (.dcmp op, 1) → P M (pc + 1) ls (vI (Op.cmpValue (FP.dcmp a b) op) :: st) S r → P M pc ls (vD b :: vD a :: st) S r
def Rl_dup (P : PT) : Prop := ∀ (M : MT) (pc : Nat) (ls st : List AV) (S : Sto) (r : Res) (v : AV), decode (mB M) pc = .ok (.dup, 1) → avC v = 1 → P M (pc + 1) ls (v :: v :: st) S r → P M pc ls (v :: st) S r
def Rl_dup2 (P : PT) : Prop := ∀ (M : MT) (pc : Nat) (ls st : List AV) (S : Sto) (r : Res) (v w : AV), decode (mB M) pc = .ok (.dup2, 1) → avC v = 1 → avC w = 1 → P M (pc + 1) ls (v :: w :: v :: w :: st) S r → P M pc ls (v :: w :: st) S r
def Rl_if_eq (P : PT) : Prop := ∀ (M : MT) (pc : Nat) (ls st : List AV) (S : Sto) (r : Res) (x : Int32) (off : Int) (tgt : Nat), decode (mB M) pc = .ok (.ifCond .eq off, 3) → (pc : Int) + off = (tgt : Int) → ((x = 0) → P M tgt ls st S r) → ((¬ (x = 0)) → P M (pc + 3) ls st S r) → P M pc ls (vI x :: st) S r
def Rl_if_ne (P : PT) : Prop := ∀ (M : MT) (pc : Nat) (ls st : List AV) (S : Sto) (r : Res) (x : Int32) (off : Int) (tgt : Nat), decode (mB M) pc = .ok (.ifCond .ne off, 3) → (pc : Int) + off = (tgt : Int) → ((¬ x = 0) → P M tgt ls st S r) → ((¬ (¬ x = 0)) → P M (pc + 3) ls st S r) → P M pc ls (vI x :: st) S r
def Rl_if_lt (P : PT) : Prop := ∀ (M : MT) (pc : Nat) (ls st : List AV) (S : Sto) (r : Res) (x : Int32) (off : Int) (tgt : Nat), decode (mB M) pc = .ok (.ifCond .lt off, 3) → (pc : Int) + off = (tgt : Int) → ((x < 0) → P M tgt ls st S r) → ((¬ (x < 0)) → P M (pc + 3) ls st S r) → P M pc ls (vI x :: st) S r
def Rl_if_ge (P : PT) : Prop := ∀ (M : MT) (pc : Nat) (ls st : List AV) (S : Sto) (r : Res) (x : Int32) (off : Int) (tgt : Nat), decode (mB M) pc = .ok (.ifCond .ge off, 3) → (pc : Int) + off = (tgt : Int) → ((0 ≤ x) → P M tgt ls st S r) → ((¬ (0 ≤ x)) → P M (pc + 3) ls st S r) → P M pc ls (vI x :: st) S r
def Rl_if_gt (P : PT) : Prop := ∀ (M : MT) (pc : Nat) (ls st : List AV) (S : Sto) (r : Res) (x : Int32) (off : Int) (tgt : Nat), decode (mB M) pc = .ok (.ifCond .gt off, 3) → (pc : Int) + off = (tgt : Int) → ((0 < x) → P M tgt ls st S r) → ((¬ (0 < x)) → P M (pc + 3) ls st S r) → P M pc ls (vI x :: st) S r
def Rl_if_le (P : PT) : Prop := ∀ (M : MT) (pc : Nat) (ls st : List AV) (S : Sto) (r : Res) (x : Int32) (off : Int) (tgt : Nat), decode (mB M) pc = .ok (.ifCond .le off, 3) → (pc : Int) + off = (tgt : Int) → ((x ≤ 0) → P M tgt ls st S r) → ((¬ (x ≤ 0)) → P M (pc + 3) ls st S r) → P M pc ls (vI x :: st) S r
def Rl_icmp_eq (P : PT) : Prop := ∀ (M : MT) (pc : Nat) (ls st : List AV) (S : Sto) (r : Res) (x y : Int32) (off : Int) (tgt : Nat), decode (mB M) pc = .ok (.if_icmp .eq off, 3) → (pc : Int) + off = (tgt : Int) → ((x = y) → P M tgt ls st S r) → ((¬ (x = y)) → P M (pc + 3) ls st S r) → P M pc ls (vI y :: vI x :: st) S r
def Rl_icmp_ne (P : PT) : Prop := ∀ (M : MT) (pc : Nat) (ls st : List AV) (S : Sto) (r : Res) (x y : Int32) (off : Int) (tgt : Nat), decode (mB M) pc = .ok (.if_icmp .ne off, 3) → (pc : Int) + off = (tgt : Int) → ((¬ x = y) → P M tgt ls st S r) → ((¬ (¬ x = y)) → P M (pc + 3) ls st S r) → P M pc ls (vI y :: vI x :: st) S r
def Rl_icmp_lt (P : PT) : Prop := ∀ (M : MT) (pc : Nat) (ls st : List AV) (S : Sto) (r : Res) (x y : Int32) (off : Int) (tgt : Nat), decode (mB M) pc = .ok (.if_icmp .lt off, 3) → (pc : Int) + off = (tgt : Int) → ((x < y) → P M tgt ls st S r) → ((¬ (x < y)) → P M (pc + 3) ls st S r) → P M pc ls (vI y :: vI x :: st) S r
def Rl_icmp_ge (P : PT) : Prop := ∀ (M : MT) (pc : Nat) (ls st : List AV) (S : Sto) (r : Res) (x y : Int32) (off : Int) (tgt : Nat), decode (mB M) pc = .ok (.if_icmp .ge off, 3) → (pc : Int) + off = (tgt : Int) → ((y ≤ x) → P M tgt ls st S r) → ((¬ (y ≤ x)) → P M (pc + 3) ls st S r) → P M pc ls (vI y :: vI x :: st) S r
def Rl_icmp_gt (P : PT) : Prop := ∀ (M : MT) (pc : Nat) (ls st : List AV) (S : Sto) (r : Res) (x y : Int32) (off : Int) (tgt : Nat), decode (mB M) pc = .ok (.if_icmp .gt off, 3) → (pc : Int) + off = (tgt : Int) → ((y < x) → P M tgt ls st S r) → ((¬ (y < x)) → P M (pc + 3) ls st S r) → P M pc ls (vI y :: vI x :: st) S r
def Rl_icmp_le (P : PT) : Prop := ∀ (M : MT) (pc : Nat) (ls st : List AV) (S : Sto) (r : Res) (x y : Int32) (off : Int) (tgt : Nat), decode (mB M) pc = .ok (.if_icmp .le off, 3) → (pc : Int) + off = (tgt : Int) → ((x ≤ y) → P M tgt ls st S r) → ((¬ (x ≤ y)) → P M (pc + 3) ls st S r) → P M pc ls (vI y :: vI x :: st) S r
def Rl_acmp_eq (P : PT) : Prop := ∀ (M : MT) (pc : Nat) (ls st : List AV) (S : Sto) (r : Res) (x y : AV) (off : Int) (tgt : Nat), decode (mB M) pc = .ok (.if_acmp .eq off, 3) → (pc : Int) + off = (tgt : Int) → isRf x = true → isRf y = true → ((x = y) → P M tgt ls st S r) → ((¬ (x = y)) → P M (pc + 3) ls st S r) → P M pc ls (y :: x :: st) S r
def Rl_acmp_ne (P : PT) : Prop := ∀ (M : MT) (pc : Nat) (ls st : List AV) (S : Sto) (r : Res) (x y : AV) (off : Int) (tgt : Nat), decode (mB M) pc = .ok (.if_acmp .ne off, 3) → (pc : Int) + off = (tgt : Int) → isRf x = true → isRf y = true → ((¬ (x = y)) → P M tgt ls st S r) → ((x = y) → P M (pc + 3) ls st S r) → P M pc ls (y :: x :: st) S r
def Rl_ifnull (P : PT) : Prop := ∀ (M : MT) (pc : Nat) (ls st : List AV) (S : Sto) (r : Res) (x : AV) (off : Int) (tgt : Nat), decode (mB M) pc = .ok (.ifnull off, 3) → (pc : Int) + off = (tgt : Int) → isRf x = true → ((x = vN) → P M tgt ls st S r) → ((¬ (x = vN)) → P M (pc + 3) ls st S r) → P M pc ls (x :: st) S r
def Rl_ifnonnull (P : PT) : Prop := ∀ (M : MT) (pc : Nat) (ls st : List AV) (S : Sto) (r : Res) (x : AV) (off : Int) (tgt : Nat), decode (mB M) pc = .ok (.ifnonnull off, 3) → (pc : Int) + off = (tgt : Int) → isRf x = true → ((¬ (x = vN)) → P M tgt ls st S r) → ((x = vN) → P M (pc + 3) ls st S r) → P M pc ls (x :: st) S r
def Rl_goto (P : PT) : Prop := ∀ (M : MT) (pc : Nat) (ls st : List AV) (S : Sto) (r : Res) (off : Int) (tgt : Nat), decode (mB M) pc = .ok (.goto off, 3) → (pc : Int) + off = (tgt : Int) → P M tgt ls st S r → P M pc ls st S r
def Rl_tsIn (P : PT) : Prop := ∀ (M : MT) (pc : Nat) (ls st : List AV) (S : Sto) (r : Res) (x : Int32) (dflt lo hi : Int) (offs : Array Int) (len : Nat) (off : Int) (tgt : Nat), decode (mB M) pc = .ok (.tableswitch dflt lo hi offs, len) → ¬ x.toInt < lo → ¬ hi < x.toInt → offs[(x.toInt - lo).toNat]? = some off → (pc : Int) + off = (tgt : Int) → P M tgt ls st S r → P M pc ls (vI x :: st) S r
def Rl_tsOut (P : PT) : Prop := ∀ (M : MT) (pc : Nat) (ls st : List AV) (S : Sto) (r : Res) (x : Int32) (dflt lo hi : Int) (offs : Array Int) (len : Nat) (tgt : Nat), decode (mB M) pc = .ok (.tableswitch dflt lo hi offs, len) → (x.toInt < lo ∨ hi < x.toInt) → (pc : Int) + dflt = (tgt : Int) → P M tgt ls st S r → P M pc ls (vI x :: st) S r
def Rl_getf (P : PT) : Prop := ∀ (M : MT) (pc : Nat) (ls st : List AV) (S : Sto) (r : Res) (idx t i k : Nat), decode (mB M) pc = .ok (.getfield idx, 3) → FieldOk (mO M) idx t k → P M (pc + 3) ls (S.1 t i k :: st) S r → P M pc ls (vR t i :: st) S r
def Rl_putf (P : PT) : Prop := ∀ (M : MT) (pc : Nat) (ls st : List AV) (S : Sto) (r : Res) (idx t i k : Nat) (v : AV), decode (mB M) pc = .ok (.putfield idx, 3) → FieldOk (mO M) idx t k → fitF t k v = true → finOk M t k = true → P M (pc + 3) ls st (setS S t i k v) r → P M pc ls (v :: vR t i :: st) S r
def Rl_iald (P : PT) : Prop := ∀ (M : MT) (pc : Nat) (ls st : List AV) (S : Sto) (r : Res) (t i j : Nat) (x : Int32), decode (mB M) pc = .ok (.iaload, 1) → aTy t = some .int → x = nI j → j < lenA S t → P M (pc + 1) ls (S.1 t i j :: st) S r → P M pc ls (vI x :: vR t i :: st) S r
def Rl_iast (P : PT) : Prop := ∀ (M : MT) (pc : Nat) (ls st : List AV) (S : Sto) (r : Res) (t i j : Nat) (x v : Int32), decode (mB M) pc = .ok (.iastore, 1) → aTy t = some .int → t ≠ 18 → x = nI j → j < lenA S t → P M (pc + 1) ls st (setS S t i j (vI v)) r → P M pc ls (vI v :: vI x :: vR t i :: st) S r
def Rl_zald (P : PT) : Prop := ∀ (M : MT) (pc : Nat) (ls st : List AV) (S : Sto) (r : Res) (t i j : Nat) (x : Int32), decode (mB M) pc = .ok (.baload, 1) → aTy t = some .boolean → x = nI j → j < lenA S t → P M (pc + 1) ls (S.1 t i j :: st) S r → P M pc ls (vI x :: vR t i :: st) S r
def Rl_zast (P : PT) : Prop := ∀ (M : MT) (pc : Nat) (ls st : List AV) (S : Sto) (r : Res) (t i j : Nat) (x v : Int32), decode (mB M) pc = .ok (.bastore, 1) → aTy t = some .boolean → x = nI j → j < lenA S t → v &&& 1 = v → P M (pc + 1) ls st (setS S t i j (vI v)) r → P M pc ls (vI v :: vI x :: vR t i :: st) S r
def Rl_aald (P : PT) : Prop := ∀ (M : MT) (pc : Nat) (ls st : List AV) (S : Sto) (r : Res) (t i j : Nat) (x : Int32) (C : String), decode (mB M) pc = .ok (.aaload, 1) → aTy t = some (.object C) → x = nI j → j < lenA S t → P M (pc + 1) ls (S.1 t i j :: st) S r → P M pc ls (vI x :: vR t i :: st) S r
def Rl_aast (P : PT) : Prop := ∀ (M : MT) (pc : Nat) (ls st : List AV) (S : Sto) (r : Res) (t i j t2 i2 : Nat) (x : Int32), decode (mB M) pc = .ok (.aastore, 1) → aEl t t2 = true → x = nI j → j < lenA S t → P M (pc + 1) ls st (setS S t i j (vR t2 i2)) r → P M pc ls (vR t2 i2 :: vI x :: vR t i :: st) S r
def Rl_lald (P : PT) : Prop := ∀ (M : MT) (pc : Nat) (ls st : List AV) (S : Sto) (r : Res) (t i j : Nat) (x : Int32), decode (mB M) pc = .ok (.laload, 1) → aTy t = some .long → x = nI j → j < lenA S t → P M (pc + 1) ls (S.1 t i j :: st) S r → P M pc ls (vI x :: vR t i :: st) S r
def Rl_last (P : PT) : Prop := ∀ (M : MT) (pc : Nat) (ls st : List AV) (S : Sto) (r : Res) (t i j : Nat) (x : Int32) (v : Int64), decode (mB M) pc = .ok (.lastore, 1) → aTy t = some .long → x = nI j → j < lenA S t → P M (pc + 1) ls st (setS S t i j (vL v)) r → P M pc ls (vL v :: vI x :: vR t i :: st) S r
def Rl_alen (P : PT) : Prop := ∀ (M : MT) (pc : Nat) (ls st : List AV) (S : Sto) (r : Res) (t i : Nat), decode (mB M) pc = .ok (.arraylength, 1) → (aTy t).isSome = true → P M (pc + 1) ls (vI (nI (lenA S t)) :: st) S r → P M pc ls (vR t i :: st) S r
def Rl_new (P : PT) : Prop := ∀ (M : MT) (pc : Nat) (ls st : List AV) (S : Sto) (r : Res) (idx t : Nat), decode (mB M) pc = .ok (.new idx, 3) → NewOk (mO M) idx t → P M (pc + 3) ls (vR t (S.2 t) :: st) (newO S t) r → P M pc ls st S r
def Rl_newa (P : PT) : Prop := ∀ (M : MT) (pc : Nat) (ls st : List AV) (S : Sto) (r : Res) (t : Nat) (a : ArrayType) (n : Int32), decode (mB M) pc = .ok (.newarray a, 2) → aTy t = some (newarray.typeOf a) → t ≠ 18 → n = nI (alen t) → P M (pc + 2) ls (vR t (S.2 t) :: st) (newA S t) r → P M pc ls (vI n :: st) S r
def Rl_anew (P : PT) : Prop := ∀ (M : MT) (pc : Nat) (ls st : List AV) (S : Sto) (r : Res) (idx t : Nat) (n : Int32), decode (mB M) pc = .ok (.anewarray idx, 3) → AnewOk (mO M) idx t → n = nI (alen t) → P M (pc + 3) ls (vR t (S.2 t) :: st) (newA S t) r → P M pc ls (vI n :: st) S r
def Rl_objinit (P : PT) : Prop := ∀ (M : MT) (pc : Nat) (ls st : List AV) (S : Sto) (r : Res) (idx t i : Nat), decode (mB M) pc = .ok (.invokespecial idx, 3) → Cond.methodLink (RN (mO M)) idx objectInit ∈ wsL_law → wsum st ≤ 8 → P M (pc + 3) ls st S r → P M pc ls (vR t i :: st) S r
def Rl_mmax (P : PT) : Prop := ∀ (M : MT) (pc : Nat) (ls st : List AV) (S : Sto) (r : Res) (idx : Nat) (x y : Int32), decode (mB M) pc = .ok (.invokestatic idx, 3) → Cond.methodLink (RN (mO M)) idx Lib.Math.max.name ∈ wsL_law → wsum st ≤ 8 → P M (pc + 3) ls (vI (if x < y then y else x) :: st) S r → P M pc ls (vI y :: vI x :: st) S r
def Rl_mmin (P : PT) : Prop := ∀ (M : MT) (pc : Nat) (ls st : List AV) (S : Sto) (r : Res) (idx : Nat) (x y : Int32), decode (mB M) pc = .ok (.invokestatic idx, 3) → Cond.methodLink (RN (mO M)) idx Lib.Math.min.name ∈ wsL_law → wsum st ≤ 8 → P M (pc + 3) ls (vI (if y < x then y else x) :: st) S r → P M pc ls (vI y :: vI x :: st) S r
def Rl_callV (P : PT) : Prop := ∀ (M : MT) (pc : Nat) (ls st : List AV) (S : Sto) (r : Res) (idx : Nat) (N : MT) (as : List AV) (S1 : Sto) (v : Option AV), decode (mB M) pc = .ok (.invokevirtual idx, 3) → CallV M idx N → argsOk N as → wsum st ≤ 8 → P N 0 (ent N as) [] S (0, v, S1) → P M (pc + 3) ls (v.toList ++ st) S1 r → P M pc ls (as.reverse ++ st) S r
def Rl_callS (P : PT) : Prop := ∀ (M : MT) (pc : Nat) (ls st : List AV) (S : Sto) (r : Res) (idx : Nat) (N : MT) (as : List AV) (S1 : Sto) (v : Option AV), decode (mB M) pc = .ok (.invokestatic idx, 3) → CallS M idx N → argsOk N as → wsum st ≤ 8 → P N 0 (ent N as) [] S (0, v, S1) → P M (pc + 3) ls (v.toList ++ st) S1 r → P M pc ls (as.reverse ++ st) S r
def Rl_callI (P : PT) : Prop := ∀ (M : MT) (pc : Nat) (ls st : List AV) (S : Sto) (r : Res) (idx : Nat) (N : MT) (as : List AV) (S1 : Sto) (v : Option AV), decode (mB M) pc = .ok (.invokespecial idx, 3) → CallI M idx N → argsOk N as → wsum st ≤ 8 → P N 0 (ent N as) [] S (0, v, S1) → P M (pc + 3) ls (v.toList ++ st) S1 r → P M pc ls (as.reverse ++ st) S r
def Rl_callVX (P : PT) : Prop := ∀ (M : MT) (pc : Nat) (ls st : List AV) (S : Sto) (r : Res) (idx : Nat) (N : MT) (as : List AV) (S1 : Sto) (v : AV) (E hpc : Nat), decode (mB M) pc = .ok (.invokevirtual idx, 3) → CallV M idx N → argsOk N as → wsum st ≤ 8 → Hnd M pc E hpc → P N 0 (ent N as) [] S (E, some v, S1) → P M hpc ls [v] S1 r → P M pc ls (as.reverse ++ st) S r
def Rl_iret (P : PT) : Prop := ∀ (M : MT) (pc : Nat) (ls st : List AV) (S : Sto) (r : Res) (x : Int32), decode (mB M) pc = .ok (.ireturn, 1) → (mR M = some .int ∨ (mR M = some .boolean ∧ x &&& 1 = x)) → P M pc ls [vI x] S (0, some (vI x), S)
def Rl_aret (P : PT) : Prop := ∀ (M : MT) (pc : Nat) (ls st : List AV) (S : Sto) (r : Res) (v : AV) (C : String), decode (mB M) pc = .ok (.areturn, 1) → mR M = some (.object C) → isRf v = true → P M pc ls [v] S (0, some v, S)
def Rl_dret (P : PT) : Prop := ∀ (M : MT) (pc : Nat) (ls st : List AV) (S : Sto) (r : Res) (x : UInt64), decode (mB M) pc = .ok (.dreturn, 1) → mR M = some .double → P M pc ls [vD x] S (0, some (vD x), S)
def Rl_vret (P : PT) : Prop := ∀ (M : MT) (pc : Nat) (ls st : List AV) (S : Sto) (r : Res) , decode (mB M) pc = .ok (.return_, 1) → mR M = none → P M pc ls [] S (0, none, S)
def Rl_throw (P : PT) : Prop := ∀ (M : MT) (pc : Nat) (ls st : List AV) (S : Sto) (r : Res) (E : Nat), ThrowAt M pc E → wsum st ≤ 8 → P M pc ls st S (E, some (vR 19 (S.2 19)), newX S)
def Rl_forget (P : PT) : Prop := ∀ (M : MT) (pc : Nat) (ls st : List AV) (S : Sto) (r : Res) (ls2 : List AV), Forg ls ls2 → P M pc ls2 st S r → P M pc ls st S r
def Rl_eqv (P : PT) : Prop := ∀ (M : MT) (pc : Nat) (ls st : List AV) (S : Sto) (r : Res) (S2 : Sto), EqS S S2 → P M pc ls st S2 r → P M pc ls st S r
def Clos (P : PT) : Prop := Rl_iconst P ∧ Rl_bipush P ∧ Rl_sipush P ∧ Rl_null P ∧ Rl_dconst P ∧ Rl_iload_n P ∧ Rl_iload P ∧ Rl_aload_n P ∧ Rl_aload P ∧ Rl_dload_n P ∧ Rl_dload P ∧ Rl_istore_n P ∧ Rl_istore P ∧ Rl_astore_n P ∧ Rl_astore P ∧ Rl_dstore_n P ∧ Rl_dstore P ∧ Rl_iinc P ∧ Rl_iadd P ∧ Rl_isub P ∧ Rl_imul P ∧ Rl_iand P ∧ Rl_idiv P ∧ Rl_irem P ∧ Rl_ineg P ∧ Rl_i2l P ∧ Rl_i2d P ∧ Rl_dadd P ∧ Rl_ddiv P ∧ Rl_lcmp P ∧ Rl_dcmp P ∧ Rl_dup P ∧ Rl_dup2 P ∧ Rl_if_eq P ∧ Rl_if_ne P ∧ Rl_if_lt P ∧ Rl_if_ge P ∧ Rl_if_gt P ∧ Rl_if_le P ∧ Rl_icmp_eq P ∧ Rl_icmp_ne P ∧ Rl_icmp_lt P ∧ Rl_icmp_ge P ∧ Rl_icmp_gt P ∧ Rl_icmp_le P ∧ Rl_acmp_eq P ∧ Rl_acmp_ne P ∧ Rl_ifnull P ∧ Rl_ifnonnull P ∧ Rl_goto P ∧ Rl_tsIn P ∧ Rl_tsOut P ∧ Rl_getf P ∧ Rl_putf P ∧ Rl_iald P ∧ Rl_iast P ∧ Rl_zald P ∧ Rl_zast P ∧ Rl_aald P ∧ Rl_aast P ∧ Rl_lald P ∧ Rl_last P ∧ Rl_alen P ∧ Rl_new P ∧ Rl_newa P ∧ Rl_anew P ∧ Rl_objinit P ∧ Rl_mmax P ∧ Rl_mmin P ∧ Rl_callV P ∧ Rl_callS P ∧ Rl_callI P ∧ Rl_callVX P ∧ Rl_iret P ∧ Rl_aret P ∧ Rl_dret P ∧ Rl_vret P ∧ Rl_throw P ∧ Rl_forget P ∧ Rl_eqv P
def Ev : PT := fun M pc ls st S r => ∀ P : PT, Clos P → P M pc ls st S r
theorem ev_iconst {M : MT} {pc : Nat} {ls st : List AV} {S : Sto} {r : Res} {n : Int} {v : Int32} (h0 : decode (mB M) pc = .ok (.iconst n, 1)) (h1 : Int32.ofInt n = v) (k0 : Ev M (pc + 1) ls (vI v :: st) S r) : Ev M pc ls st S r := fun P h => h.1 M pc ls st S r n v h0 h1 (k0 P h)
theorem ev_bipush {M : MT} {pc : Nat} {ls st : List AV} {S : Sto} {r : Res} {n : Int} {v : Int32} (h0 : decode (mB M) pc = .ok (.bipush n, 2)) (h1 : (Int8.ofInt n).toInt32 = v) (k0 : Ev M (pc + 2) ls (vI v :: st) S r) : Ev M pc ls st S r := fun P h => h.2.1 M pc ls st S r n v h0 h1 (k0 P h)
theorem ev_sipush {M : MT} {pc : Nat} {ls st : List AV} {S : Sto} {r : Res} {n : Int} {v : Int32} (h0 : decode (mB M) pc = .ok (.sipush n, 3)) (h1 : (Int16.ofInt n).toInt32 = v) (k0 : Ev M (pc + 3) ls (vI v :: st) S r) : Ev M pc ls st S r := fun P h => h.2.2.1 M pc ls st S r n v h0 h1 (k0 P h)
theorem ev_null {M : MT} {pc : Nat} {ls st : List AV} {S : Sto} {r : Res}  (h0 : decode (mB M) pc = .ok (.aconst_null, 1)) (k0 : Ev M (pc + 1) ls (vN :: st) S r) : Ev M pc ls st S r := fun P h => h.2.2.2.1 M pc ls st S r  h0 (k0 P h)
theorem ev_dconst {M : MT} {pc : Nat} {ls st : List AV} {S : Sto} {r : Res}  (h0 : decode (mB M) pc = .ok (.dconst 0, 1)) (k0 : Ev M (pc + 1) ls (vD FP.dconst0 :: st) S r) : Ev M pc ls st S r := fun P h => h.2.2.2.2.1 M pc ls st S r  h0 (k0 P h)
theorem ev_iload_n {M : MT} {pc : Nat} {ls st : List AV} {S : Sto} {r : Res} {k : Fin 4} {x : Int32} (h0 : decode (mB M) pc = .ok (.iload_n k, 1)) (h1 : ls[k.val]? = some (vI x)) (k0 : Ev M (pc + 1) ls (vI x :: st) S r) : Ev M pc ls st S r := fun P h => h.2.2.2.2.2.1 M pc ls st S r k x h0 h1 (k0 P h)
theorem ev_iload {M : MT} {pc : Nat} {ls st : List AV} {S : Sto} {r : Res} {k : Nat} {x : Int32} (h0 : decode (mB M) pc = .ok (.iload k, 2)) (h1 : ls[k]? = some (vI x)) (k0 : Ev M (pc + 2) ls (vI x :: st) S r) : Ev M pc ls st S r := fun P h => h.2.2.2.2.2.2.1 M pc ls st S r k x h0 h1 (k0 P h)
theorem ev_aload_n {M : MT} {pc : Nat} {ls st : List AV} {S : Sto} {r : Res} {k : Fin 4} {v : AV} (h0 : decode (mB M) pc = .ok (.aload_n k, 1)) (h1 : ls[k.val]? = some v) (h2 : isRf v = true) (k0 : Ev M (pc + 1) ls (v :: st) S r) : Ev M pc ls st S r := fun P h => h.2.2.2.2.2.2.2.1 M pc ls st S r k v h0 h1 h2 (k0 P h)
theorem ev_aload {M : MT} {pc : Nat} {ls st : List AV} {S : Sto} {r : Res} {k : Nat} {v : AV} (h0 : decode (mB M) pc = .ok (.aload k, 2)) (h1 : ls[k]? = some v) (h2 : isRf v = true) (k0 : Ev M (pc + 2) ls (v :: st) S r) : Ev M pc ls st S r := fun P h => h.2.2.2.2.2.2.2.2.1 M pc ls st S r k v h0 h1 h2 (k0 P h)
theorem ev_dload_n {M : MT} {pc : Nat} {ls st : List AV} {S : Sto} {r : Res} {k : Fin 4} {x : UInt64} (h0 : decode (mB M) pc = .ok (.dload_n k, 1)) (h1 : ls[k.val]? = some (vD x)) (k0 : Ev M (pc + 1) ls (vD x :: st) S r) : Ev M pc ls st S r := fun P h => h.2.2.2.2.2.2.2.2.2.1 M pc ls st S r k x h0 h1 (k0 P h)
theorem ev_dload {M : MT} {pc : Nat} {ls st : List AV} {S : Sto} {r : Res} {k : Nat} {x : UInt64} (h0 : decode (mB M) pc = .ok (.dload k, 2)) (h1 : ls[k]? = some (vD x)) (k0 : Ev M (pc + 2) ls (vD x :: st) S r) : Ev M pc ls st S r := fun P h => h.2.2.2.2.2.2.2.2.2.2.1 M pc ls st S r k x h0 h1 (k0 P h)
theorem ev_istore_n {M : MT} {pc : Nat} {ls st : List AV} {S : Sto} {r : Res} {k : Fin 4} {x : Int32} (h0 : decode (mB M) pc = .ok (.istore_n k, 1)) (h1 : nU2 ls[k.val]? = true) (k0 : Ev M (pc + 1) (ls.set k.val (vI x)) st S r) : Ev M pc ls (vI x :: st) S r := fun P h => h.2.2.2.2.2.2.2.2.2.2.2.1 M pc ls st S r k x h0 h1 (k0 P h)
theorem ev_istore {M : MT} {pc : Nat} {ls st : List AV} {S : Sto} {r : Res} {k : Nat} {x : Int32} (h0 : decode (mB M) pc = .ok (.istore k, 2)) (h1 : nU2 ls[k]? = true) (k0 : Ev M (pc + 2) (ls.set k (vI x)) st S r) : Ev M pc ls (vI x :: st) S r := fun P h => h.2.2.2.2.2.2.2.2.2.2.2.2.1 M pc ls st S r k x h0 h1 (k0 P h)
theorem ev_astore_n {M : MT} {pc : Nat} {ls st : List AV} {S : Sto} {r : Res} {k : Fin 4} {v : AV} (h0 : decode (mB M) pc = .ok (.astore_n k, 1)) (h1 : nU2 ls[k.val]? = true) (h2 : isRf v = true) (k0 : Ev M (pc + 1) (ls.set k.val v) st S r) : Ev M pc ls (v :: st) S r := fun P h => h.2.2.2.2.2.2.2.2.2.2.2.2.2.1 M pc ls st S r k v h0 h1 h2 (k0 P h)
theorem ev_astore {M : MT} {pc : Nat} {ls st : List AV} {S : Sto} {r : Res} {k : Nat} {v : AV} (h0 : decode (mB M) pc = .ok (.astore k, 2)) (h1 : nU2 ls[k]? = true) (h2 : isRf v = true) (k0 : Ev M (pc + 2) (ls.set k v) st S r) : Ev M pc ls (v :: st) S r := fun P h => h.2.2.2.2.2.2.2.2.2.2.2.2.2.2.1 M pc ls st S r k v h0 h1 h2 (k0 P h)
theorem ev_dstore_n {M : MT} {pc : Nat} {ls st : List AV} {S : Sto} {r : Res} {k : Fin 4} {x : UInt64} (h0 : decode (mB M) pc = .ok (.dstore_n k, 1)) (h1 : nU2 ls[k.val]? = true) (h2 : k.val + 1 < ls.length) (k0 : Ev M (pc + 1) ((ls.set k.val (vD x)).set (k.val + 1) vU2) st S r) : Ev M pc ls (vD x :: st) S r := fun P h => h.2.2.2.2.2.2.2.2.2.2.2.2.2.2.2.1 M pc ls st S r k x h0 h1 h2 (k0 P h)
theorem ev_dstore {M : MT} {pc : Nat} {ls st : List AV} {S : Sto} {r : Res} {k : Nat} {x : UInt64} (h0 : decode (mB M) pc = .ok (.dstore k, 2)) (h1 : nU2 ls[k]? = true) (h2 : k + 1 < ls.length) (k0 : Ev M (pc + 2) ((ls.set k (vD x)).set (k + 1) vU2) st S r) : Ev M pc ls (vD x :: st) S r := fun P h => h.2.2.2.2.2.2.2.2.2.2.2.2.2.2.2.2.1 M pc ls st S r k x h0 h1 h2 (k0 P h)
theorem ev_iinc {M : MT} {pc : Nat} {ls st : List AV} {S : Sto} {r : Res} {k : Nat} {n : Int} {x : Int32} (h0 : decode (mB M) pc = .ok (.iinc k n, 3)) (h1 : ls[k]? = some (vI x)) (k0 : Ev M (pc + 3) (ls.set k (vI (x + Int32.ofInt n))) st S r) : Ev M pc ls st S r := fun P h => h.2.2.2.2.2.2.2.2.2.2.2.2.2.2.2.2.2.1 M pc ls st S r k n x h0 h1 (k0 P h)
theorem ev_iadd {M : MT} {pc : Nat} {ls st : List AV} {S : Sto} {r : Res} {a b : Int32} (h0 : decode (mB M) pc = .ok (.iadd, 1)) (k0 : Ev M (pc + 1) ls (vI (a + b) :: st) S r) : Ev M pc ls (vI b :: vI a :: st) S r := fun P h => h.2.2.2.2.2.2.2.2.2.2.2.2.2.2.2.2.2.2.1 M pc ls st S r a b h0 (k0 P h)
theorem ev_isub {M : MT} {pc : Nat} {ls st : List AV} {S : Sto} {r : Res} {a b : Int32} (h0 : decode (mB M) pc = .ok (.isub, 1)) (k0 : Ev M (pc + 1) ls (vI (a - b) :: st) S r) : Ev M pc ls (vI b :: vI a :: st) S r := fun P h => h.2.2.2.2.2.2.2.2.2.2.2.2.2.2.2.2.2.2.2.1 M pc ls st S r a b h0 (k0 P h)
theorem ev_imul {M : MT} {pc : Nat} {ls st : List AV} {S : Sto} {r : Res} {a b : Int32} (h0 : decode (mB M) pc = .ok (.imul, 1)) (k0 : Ev M (pc + 1) ls (vI (a * b) :: st) S r) : Ev M pc ls (vI b :: vI a :: st) S r := fun P h => h.2.2.2.2.2.2.2.2.2.2.2.2.2.2.2.2.2.2.2.2.1 M pc ls st S r a b h0 (k0 P h)
theorem ev_iand {M : MT} {pc : Nat} {ls st : List AV} {S : Sto} {r : Res} {a b : Int32} (h0 : decode (mB M) pc = .ok (.iand, 1)) (k0 : Ev M (pc + 1) ls (vI (a &&& b) :: st) S r) : Ev M pc ls (vI b :: vI a :: st) S r := fun P h => h.2.2.2.2.2.2.2.2.2.2.2.2.2.2.2.2.2.2.2.2.2.1 M pc ls st S r a b h0 (k0 P h)
theorem ev_idiv {M : MT} {pc : Nat} {ls st : List AV} {S : Sto} {r : Res} {a b : Int32} (h0 : decode (mB M) pc = .ok (.idiv, 1)) (h1 : ¬ b = 0) (k0 : Ev M (pc + 1) ls (vI (a / b) :: st) S r) : Ev M pc ls (vI b :: vI a :: st) S r := fun P h => h.2.2.2.2.2.2.2.2.2.2.2.2.2.2.2.2.2.2.2.2.2.2.1 M pc ls st S r a b h0 h1 (k0 P h)
theorem ev_irem {M : MT} {pc : Nat} {ls st : List AV} {S : Sto} {r : Res} {a b : Int32} (h0 : decode (mB M) pc = .ok (.irem, 1)) (h1 : ¬ b = 0) (k0 : Ev M (pc + 1) ls (vI (a - a / b * b) :: st) S r) : Ev M pc ls (vI b :: vI a :: st) S r := fun P h => h.2.2.2.2.2.2.2.2.2.2.2.2.2.2.2.2.2.2.2.2.2.2.2.1 M pc ls st S r a b h0 h1 (k0 P h)
theorem ev_ineg {M : MT} {pc : Nat} {ls st : List AV} {S : Sto} {r : Res} {a : Int32} (h0 : decode (mB M) pc = .ok (.ineg, 1)) (k0 : Ev M (pc + 1) ls (vI (-a) :: st) S r) : Ev M pc ls (vI a :: st) S r := fun P h => h.2.2.2.2.2.2.2.2.2.2.2.2.2.2.2.2.2.2.2.2.2.2.2.2.1 M pc ls st S r a h0 (k0 P h)
theorem ev_i2l {M : MT} {pc : Nat} {ls st : List AV} {S : Sto} {r : Res} {a : Int32} (h0 : decode (mB M) pc = .ok (.i2l, 1)) (k0 : Ev M (pc + 1) ls (vL a.toInt64 :: st) S r) : Ev M pc ls (vI a :: st) S r := fun P h => h.2.2.2.2.2.2.2.2.2.2.2.2.2.2.2.2.2.2.2.2.2.2.2.2.2.1 M pc ls st S r a h0 (k0 P h)
theorem ev_i2d {M : MT} {pc : Nat} {ls st : List AV} {S : Sto} {r : Res} {a : Int32} (h0 : decode (mB M) pc = .ok (.i2d, 1)) (k0 : Ev M (pc + 1) ls (vD (FP.i2d a) :: st) S r) : Ev M pc ls (vI a :: st) S r := fun P h => h.2.2.2.2.2.2.2.2.2.2.2.2.2.2.2.2.2.2.2.2.2.2.2.2.2.2.1 M pc ls st S r a h0 (k0 P h)
theorem ev_dadd {M : MT} {pc : Nat} {ls st : List AV} {S : Sto} {r : Res} {a b : UInt64} (h0 : decode (mB M) pc = .ok (.dadd, 1)) (h1 : vf_n64 (FP.dadd a b)) (k0 : Ev M (pc + 1) ls (vD (FP.dadd a b) :: st) S r) : Ev M pc ls (vD b :: vD a :: st) S r := fun P h => h.2.2.2.2.2.2.2.2.2.2.2.2.2.2.2.2.2.2.2.2.2.2.2.2.2.2.2.1 M pc ls st S r a b h0 h1 (k0 P h)
theorem ev_ddiv {M : MT} {pc : Nat} {ls st : List AV} {S : Sto} {r : Res} {a b : UInt64} (h0 : decode (mB M) pc = .ok (.ddiv, 1)) (h1 : vf_n64 (FP.ddiv a b)) (k0 : Ev M (pc + 1) ls (vD (FP.ddiv a b) :: st) S r) : Ev M pc ls (vD b :: vD a :: st) S r := fun P h => h.2.2.2.2.2.2.2.2.2.2.2.2.2.2.2.2.2.2.2.2.2.2.2.2.2.2.2.2.1 M pc ls st S r a b h0 h1 (k0 P h)
theorem ev_lcmp {M : MT} {pc : Nat} {ls st : List AV} {S : Sto} {r : Res} {a b : Int64} (h0 : decode (mB M) pc = .ok (.lcmp, 1)) (k0 : Ev M (pc + 1) ls (vI (lg_cmp a b) :: st) S r) : Ev M pc ls (vL b :: vL a :: st) S r := fun P h => h.2.2.2.2.2.2.2.2.2.2.2.2.2.2.2.2.2.2.2.2.2.2.2.2.2.2.2.2.2.1 M pc ls st S r a b h0 (k0 P h)
theorem ev_dcmp {M : MT} {pc : Nat} {ls st : List AV} {S : Sto} {r : Res} {a b : UInt64} {op : CmpOp} (h0 : decode (mB M) pc = .ok (.dcmp op, 1)) (k0 : Ev M (pc + 1) ls (vI (Op.cmpValue (FP.dcmp a b) op) :: st) S r) : Ev M pc ls (vD b :: vD a :: st) S r := fun P h => h.2.2.2.2.2.2.2.2.2.2.2.2.2.2.2.2.2.2.2.2.2.2.2.2.2.2.2.2.2.2.1 M pc ls st S r a b op h0 (k0 P h)
theorem ev_dup {M : MT} {pc : Nat} {ls st : List AV} {S : Sto} {r : Res} {v : AV} (h0 : decode (mB M) pc = .ok (.dup, 1)) (h1 : avC v = 1) (k0 : Ev M (pc + 1) ls (v :: v :: st) S r) : Ev M pc ls (v :: st) S r := fun P h => h.2.2.2.2.2.2.2.2.2.2.2.2.2.2.2.2.2.2.2.2.2.2.2.2.2.2.2.2.2.2.2.1 M pc ls st S r v h0 h1 (k0 P h)
theorem ev_dup2 {M : MT} {pc : Nat} {ls st : List AV} {S : Sto} {r : Res} {v w : AV} (h0 : decode (mB M) pc = .ok (.dup2, 1)) (h1 : avC v = 1) (h2 : avC w = 1) (k0 : Ev M (pc + 1) ls (v :: w :: v :: w :: st) S r) : Ev M pc ls (v :: w :: st) S r := fun P h => h.2.2.2.2.2.2.2.2.2.2.2.2.2.2.2.2.2.2.2.2.2.2.2.2.2.2.2.2.2.2.2.2.1 M pc ls st S r v w h0 h1 h2 (k0 P h)
theorem ev_if_eq {M : MT} {pc : Nat} {ls st : List AV} {S : Sto} {r : Res} {x : Int32} {off : Int} {tgt : Nat} (h0 : decode (mB M) pc = .ok (.ifCond .eq off, 3)) (h1 : (pc : Int) + off = (tgt : Int)) (k0 : (x = 0) → Ev M tgt ls st S r) (k1 : (¬ (x = 0)) → Ev M (pc + 3) ls st S r) : Ev M pc ls (vI x :: st) S r := fun P h => h.2.2.2.2.2.2.2.2.2.2.2.2.2.2.2.2.2.2.2.2.2.2.2.2.2.2.2.2.2.2.2.2.2.1 M pc ls st S r x off tgt h0 h1 (fun c => k0 c P h) (fun c => k1 c P h)
theorem ev_if_ne {M : MT} {pc : Nat} {ls st : List AV} {S : Sto} {r : Res} {x : Int32} {off : Int} {tgt : Nat} (h0 : decode (mB M) pc = .ok (.ifCond .ne off, 3)) (h1 : (pc : Int) + off = (tgt : Int)) (k0 : (¬ x = 0) → Ev M tgt ls st S r) (k1 : (¬ (¬ x = 0)) → Ev M (pc + 3) ls st S r) : Ev M pc ls (vI x :: st) S r := fun P h => h.2.2.2.2.2.2.2.2.2.2.2.2.2.2.2.2.2.2.2.2.2.2.2.2.2.2.2.2.2.2.2.2.2.2.1 M pc ls st S r x off tgt h0 h1 (fun c => k0 c P h) (fun c => k1 c P h)
theorem ev_if_lt {M : MT} {pc : Nat} {ls st : List AV} {S : Sto} {r : Res} {x : Int32} {off : Int} {tgt : Nat} (h0 : decode (mB M) pc = .ok (.ifCond .lt off, 3)) (h1 : (pc : Int) + off = (tgt : Int)) (k0 : (x < 0) → Ev M tgt ls st S r) (k1 : (¬ (x < 0)) → Ev M (pc + 3) ls st S r) : Ev M pc ls (vI x :: st) S r := fun P h => h.2.2.2.2.2.2.2.2.2.2.2.2.2.2.2.2.2.2.2.2.2.2.2.2.2.2.2.2.2.2.2.2.2.2.2.1 M pc ls st S r x off tgt h0 h1 (fun c => k0 c P h) (fun c => k1 c P h)
theorem ev_if_ge {M : MT} {pc : Nat} {ls st : List AV} {S : Sto} {r : Res} {x : Int32} {off : Int} {tgt : Nat} (h0 : decode (mB M) pc = .ok (.ifCond .ge off, 3)) (h1 : (pc : Int) + off = (tgt : Int)) (k0 : (0 ≤ x) → Ev M tgt ls st S r) (k1 : (¬ (0 ≤ x)) → Ev M (pc + 3) ls st S r) : Ev M pc ls (vI x :: st) S r := fun P h => h.2.2.2.2.2.2.2.2.2.2.2.2.2.2.2.2.2.2.2.2.2.2.2.2.2.2.2.2.2.2.2.2.2.2.2.2.1 M pc ls st S r x off tgt h0 h1 (fun c => k0 c P h) (fun c => k1 c P h)
theorem ev_if_gt {M : MT} {pc : Nat} {ls st : List AV} {S : Sto} {r : Res} {x : Int32} {off : Int} {tgt : Nat} (h0 : decode (mB M) pc = .ok (.ifCond .gt off, 3)) (h1 : (pc : Int) + off = (tgt : Int)) (k0 : (0 < x) → Ev M tgt ls st S r) (k1 : (¬ (0 < x)) → Ev M (pc + 3) ls st S r) : Ev M pc ls (vI x :: st) S r := fun P h => h.2.2.2.2.2.2.2.2.2.2.2.2.2.2.2.2.2.2.2.2.2.2.2.2.2.2.2.2.2.2.2.2.2.2.2.2.2.1 M pc ls st S r x off tgt h0 h1 (fun c => k0 c P h) (fun c => k1 c P h)
theorem ev_if_le {M : MT} {pc : Nat} {ls st : List AV} {S : Sto} {r : Res} {x : Int32} {off : Int} {tgt : Nat} (h0 : decode (mB M) pc = .ok (.ifCond .le off, 3)) (h1 : (pc : Int) + off = (tgt : Int)) (k0 : (x ≤ 0) → Ev M tgt ls st S r) (k1 : (¬ (x ≤ 0)) → Ev M (pc + 3) ls st S r) : Ev M pc ls (vI x :: st) S r := fun P h => h.2.2.2.2.2.2.2.2.2.2.2.2.2.2.2.2.2.2.2.2.2.2.2.2.2.2.2.2.2.2.2.2.2.2.2.2.2.2.1 M pc ls st S r x off tgt h0 h1 (fun c => k0 c P h) (fun c => k1 c P h)
theorem ev_icmp_eq {M : MT} {pc : Nat} {ls st : List AV} {S : Sto} {r : Res} {x y : Int32} {off : Int} {tgt : Nat} (h0 : decode (mB M) pc = .ok (.if_icmp .eq off, 3)) (h1 : (pc : Int) + off = (tgt : Int)) (k0 : (x = y) → Ev M tgt ls st S r) (k1 : (¬ (x = y)) → Ev M (pc + 3) ls st S r) : Ev M pc ls (vI y :: vI x :: st) S r := fun P h => h.2.2.2.2.2.2.2.2.2.2.2.2.2.2.2.2.2.2.2.2.2.2.2.2.2.2.2.2.2.2.2.2.2.2.2.2.2.2.2.1 M pc ls st S r x y off tgt h0 h1 (fun c => k0 c P h) (fun c => k1 c P h)
theorem ev_icmp_ne {M : MT} {pc : Nat} {ls st : List AV} {S : Sto} {r : Res} {x y : Int32} {off : Int} {tgt : Nat} (h0 : decode (mB M) pc = .ok (.if_icmp .ne off, 3)) (h1 : (pc : Int) + off = (tgt : Int)) (k0 : (¬ x = y) → Ev M tgt ls st S r) (k1 : (¬ (¬ x = y)) → Ev M (pc + 3) ls st S r) : Ev M pc ls (vI y :: vI x :: st) S r := fun P h => h.2.2.2.2.2.2.2.2.2.2.2.2.2.2.2.2.2.2.2.2.2.2.2.2.2.2.2.2.2.2.2.2.2.2.2.2.2.2.2.2.1 M pc ls st S r x y off tgt h0 h1 (fun c => k0 c P h) (fun c => k1 c P h)
theorem ev_icmp_lt {M : MT} {pc : Nat} {ls st : List AV} {S : Sto} {r : Res} {x y : Int32} {off : Int} {tgt : Nat} (h0 : decode (mB M) pc = .ok (.if_icmp .lt off, 3)) (h1 : (pc : Int) + off = (tgt : Int)) (k0 : (x < y) → Ev M tgt ls st S r) (k1 : (¬ (x < y)) → Ev M (pc + 3) ls st S r) : Ev M pc ls (vI y :: vI x :: st) S r := fun P h => h.2.2.2.2.2.2.2.2.2.2.2.2.2.2.2.2.2.2.2.2.2.2.2.2.2.2.2.2.2.2.2.2.2.2.2.2.2.2.2.2.2.1 M pc ls st S r x y off tgt h0 h1 (fun c => k0 c P h) (fun c => k1 c P h)
theorem ev_icmp_ge {M : MT} {pc : Nat} {ls st : List AV} {S : Sto} {r : Res} {x y : Int32} {off : Int} {tgt : Nat} (h0 : decode (mB M) pc = .ok (.if_icmp .ge off, 3)) (h1 : (pc : Int) + off = (tgt : Int)) (k0 : (y ≤ x) → Ev M tgt ls st S r) (k1 : (¬ (y ≤ x)) → Ev M (pc + 3) ls st S r) : Ev M pc ls (vI y :: vI x :: st) S r := fun P h => h.2.2.2.2.2.2.2.2.2.2.2.2.2.2.2.2.2.2.2.2.2.2.2.2.2.2.2.2.2.2.2.2.2.2.2.2.2.2.2.2.2.2.1 M pc ls st S r x y off tgt h0 h1 (fun c => k0 c P h) (fun c => k1 c P h)
theorem ev_icmp_gt {M : MT} {pc : Nat} {ls st : List AV} {S : Sto} {r : Res} {x y : Int32} {off : Int} {tgt : Nat} (h0 : decode (mB M) pc = .ok (.if_icmp .gt off, 3)) (h1 : (pc : Int) + off = (tgt : Int)) (k0 : (y < x) → Ev M tgt ls st S r) (k1 : (¬ (y < x)) → Ev M (pc + 3) ls st S r) : Ev M pc ls (vI y :: vI x :: st) S r := fun P h => h.2.2.2.2.2.2.2.2.2.2.2.2.2.2.2.2.2.2.2.2.2.2.2.2.2.2.2.2.2.2.2.2.2.2.2.2.2.2.2.2.2.2.2.1 M pc ls st S r x y off tgt h0 h1 (fun c => k0 c P h) (fun c => k1 c P h)
theorem ev_icmp_le {M : MT} {pc : Nat} {ls st : List AV} {S : Sto} {r : Res} {x y : Int32} {off : Int} {tgt : Nat} (h0 : decode (mB M) pc = .ok (.if_icmp .le off, 3)) (h1 : (pc : Int) + off = (tgt : Int)) (k0 : (x ≤ y) → Ev M tgt ls st S r) (k1 : (¬ (x ≤ y)) → Ev M (pc + 3) ls st S r) : Ev M pc ls (vI y :: vI x :: st) S r := fun P h => h.2.2.2.2.2.2.2.2.2.2.2.2.2.2.2.2.2.2.2.2.2.2.2.2.2.2.2.2.2.2.2.2.2.2.2.2.2.2.2.2.2.2.2.2.1 M pc ls st S r x y off tgt h0 h1 (fun c => k0 c P h) (fun c => k1 c P h)
theorem ev_acmp_eq {M : MT} {pc : Nat} {ls st : List AV} {S : Sto} {r : Res} {x y : AV} {off : Int} {tgt : Nat} (h0 : decode (mB M) pc = .ok (.if_acmp .eq off, 3)) (h1 : (pc : Int) + off = (tgt : Int)) (h2 : isRf x = true) (h3 : isRf y = true) (k0 : (x = y) → Ev M tgt ls st S r) (k1 : (¬ (x = y)) → Ev M (pc + 3) ls st S r) : Ev M pc ls (y :: x :: st) S r := fun P h => h.2.2.2.2.2.2.2.2.2.2.2.2.2.2.2.2.2.2.2.2.2.2.2.2.2.2.2.2.2.2.2.2.2.2.2.2.2.2.2.2.2.2.2.2.2.1 M pc ls st S r x y off tgt h0 h1 h2 h3 (fun c => k0 c P h) (fun c => k1 c P h)
theorem ev_acmp_ne {M : MT} {pc : Nat} {ls st : List AV} {S : Sto} {r : Res} {x y : AV} {off : Int} {tgt : Nat} (h0 : decode (mB M) pc = .ok (.if_acmp .ne off, 3)) (h1 : (pc : Int) + off = (tgt : Int)) (h2 : isRf x = true) (h3 : isRf y = true) (k0 : (¬ (x = y)) → Ev M tgt ls st S r) (k1 : (x = y) → Ev M (pc + 3) ls st S r) : Ev M pc ls (y :: x :: st) S r := fun P h => h.2.2.2.2.2.2.2.2.2.2.2.2.2.2.2.2.2.2.2.2.2.2.2.2.2.2.2.2.2.2.2.2.2.2.2.2.2.2.2.2.2.2.2.2.2.2.1 M pc ls st S r x y off tgt h0 h1 h2 h3 (fun c => k0 c P h) (fun c => k1 c P h)
theorem ev_ifnull {M : MT} {pc : Nat} {ls st : List AV} {S : Sto} {r : Res} {x : AV} {off : Int} {tgt : Nat} (h0 : decode (mB M) pc = .ok (.ifnull off, 3)) (h1 : (pc : Int) + off = (tgt : Int)) (h2 : isRf x = true) (k0 : (x = vN) → Ev M tgt ls st S r) (k1 : (¬ (x = vN)) → Ev M (pc + 3) ls st S r) : Ev M pc ls (x :: st) S r := fun P h => h.2.2.2.2.2.2.2.2.2.2.2.2.2.2.2.2.2.2.2.2.2.2.2.2.2.2.2.2.2.2.2.2.2.2.2.2.2.2.2.2.2.2.2.2.2.2.2.1 M pc ls st S r x off tgt h0 h1 h2 (fun c => k0 c P h) (fun c => k1 c P h)
theorem ev_ifnonnull {M : MT} {pc : Nat} {ls st : List AV} {S : Sto} {r : Res} {x : AV} {off : Int} {tgt : Nat} (h0 : decode (mB M) pc = .ok (.ifnonnull off, 3)) (h1 : (pc : Int) + off = (tgt : Int)) (h2 : isRf x = true) (k0 : (¬ (x = vN)) → Ev M tgt ls st S r) (k1 : (x = vN) → Ev M (pc + 3) ls st S r) : Ev M pc ls (x :: st) S r := fun P h => h.2.2.2.2.2.2.2.2.2.2.2.2.2.2.2.2.2.2.2.2.2.2.2.2.2.2.2.2.2.2.2.2.2.2.2.2.2.2.2.2.2.2.2.2.2.2.2.2.1 M pc ls st S r x off tgt h0 h1 h2 (fun c => k0 c P h) (fun c => k1 c P h)
theorem ev_goto {M : MT} {pc : Nat} {ls st : List AV} {S : Sto} {r : Res} {off : Int} {tgt : Nat} (h0 : decode (mB M) pc = .ok (.goto off, 3)) (h1 : (pc : Int) + off = (tgt : Int)) (k0 : Ev M tgt ls st S r) : Ev M pc ls st S r := fun P h => h.2.2.2.2.2.2.2.2.2.2.2.2.2.2.2.2.2.2.2.2.2.2.2.2.2.2.2.2.2.2.2.2.2.2.2.2.2.2.2.2.2.2.2.2.2.2.2.2.2.1 M pc ls st S r off tgt h0 h1 (k0 P h)
theorem ev_tsIn {M : MT} {pc : Nat} {ls st : List AV} {S : Sto} {r : Res} {x : Int32} {dflt lo hi : Int} {offs : Array Int} {len : Nat} {off : Int} {tgt : Nat} (h0 : decode (mB M) pc = .ok (.tableswitch dflt lo hi offs, len)) (h1 : ¬ x.toInt < lo) (h2 : ¬ hi < x.toInt) (h3 : offs[(x.toInt - lo).toNat]? = some off) (h4 : (pc : Int) + off = (tgt : Int)) (k0 : Ev M tgt ls st S r) : Ev M pc ls (vI x :: st) S r := fun P h => h.2.2.2.2.2.2.2.2.2.2.2.2.2.2.2.2.2.2.2.2.2.2.2.2.2.2.2.2.2.2.2.2.2.2.2.2.2.2.2.2.2.2.2.2.2.2.2.2.2.2.1 M pc ls st S r x dflt lo hi offs len off tgt h0 h1 h2 h3 h4 (k0 P h)
theorem ev_tsOut {M : MT} {pc : Nat} {ls st : List AV} {S : Sto} {r : Res} {x : Int32} {dflt lo hi : Int} {offs : Array Int} {len : Nat} {tgt : Nat} (h0 : decode (mB M) pc = .ok (.tableswitch dflt lo hi offs, len)) (h1 : x.toInt < lo ∨ hi < x.toInt) (h2 : (pc : Int) + dflt = (tgt : Int)) (k0 : Ev M tgt ls st S r) : Ev M pc ls (vI x :: st) S r := fun P h => h.2.2.2.2.2.2.2.2.2.2.2.2.2.2.2.2.2.2.2.2.2.2.2.2.2.2.2.2.2.2.2.2.2.2.2.2.2.2.2.2.2.2.2.2.2.2.2.2.2.2.2.1 M pc ls st S r x dflt lo hi offs len tgt h0 h1 h2 (k0 P h)
theorem ev_getf {M : MT} {pc : Nat} {ls st : List AV} {S : Sto} {r : Res} {idx t i k : Nat} (h0 : decode (mB M) pc = .ok (.getfield idx, 3)) (h1 : FieldOk (mO M) idx t k) (k0 : Ev M (pc + 3) ls (S.1 t i k :: st) S r) : Ev M pc ls (vR t i :: st) S r := fun P h => h.2.2.2.2.2.2.2.2.2.2.2.2.2.2.2.2.2.2.2.2.2.2.2.2.2.2.2.2.2.2.2.2.2.2.2.2.2.2.2.2.2.2.2.2.2.2.2.2.2.2.2.2.1 M pc ls st S r idx t i k h0 h1 (k0 P h)
theorem ev_putf {M : MT} {pc : Nat} {ls st : List AV} {S : Sto} {r : Res} {idx t i k : Nat} {v : AV} (h0 : decode (mB M) pc = .ok (.putfield idx, 3)) (h1 : FieldOk (mO M) idx t k) (h2 : fitF t k v = true) (h3 : finOk M t k = true) (k0 : Ev M (pc + 3) ls st (setS S t i k v) r) : Ev M pc ls (v :: vR t i :: st) S r := fun P h => h.2.2.2.2.2.2.2.2.2.2.2.2.2.2.2.2.2.2.2.2.2.2.2.2.2.2.2.2.2.2.2.2.2.2.2.2.2.2.2.2.2.2.2.2.2.2.2.2.2.2.2.2.2.1 M pc ls st S r idx t i k v h0 h1 h2 h3 (k0 P h)
theorem ev_iald {M : MT} {pc : Nat} {ls st : List AV} {S : Sto} {r : Res} {t i j : Nat} {x : Int32} (h0 : decode (mB M) pc = .ok (.iaload, 1)) (h1 : aTy t = some .int) (h2 : x = nI j) (h3 : j < lenA S t) (k0 : Ev M (pc + 1) ls (S.1 t i j :: st) S r) : Ev M pc ls (vI x :: vR t i :: st) S r := fun P h => h.2.2.2.2.2.2.2.2.2.2.2.2.2.2.2.2.2.2.2.2.2.2.2.2.2.2.2.2.2.2.2.2.2.2.2.2.2.2.2.2.2.2.2.2.2.2.2.2.2.2.2.2.2.2.1 M pc ls st S r t i j x h0 h1 h2 h3 (k0 P h)
theorem ev_iast {M : MT} {pc : Nat} {ls st : List AV} {S : Sto} {r : Res} {t i j : Nat} {x v : Int32} (h0 : decode (mB M) pc = .ok (.iastore, 1)) (h1 : aTy t = some .int) (h2 : t ≠ 18) (h3 : x = nI j) (h4 : j < lenA S t) (k0 : Ev M (pc + 1) ls st (setS S t i j (vI v)) r) : Ev M pc ls (vI v :: vI x :: vR t i :: st) S r := fun P h => h.2.2.2.2.2.2.2.2.2.2.2.2.2.2.2.2.2.2.2.2.2.2.2.2.2.2.2.2.2.2.2.2.2.2.2.2.2.2.2.2.2.2.2.2.2.2.2.2.2.2.2.2.2.2.2.1 M pc ls st S r t i j x v h0 h1 h2 h3 h4 (k0 P h)
theorem ev_zald {M : MT} {pc : Nat} {ls st : List AV} {S : Sto} {r : Res} {t i j : Nat} {x : Int32} (h0 : decode (mB M) pc = .ok (.baload, 1)) (h1 : aTy t = some .boolean) (h2 : x = nI j) (h3 : j < lenA S t) (k0 : Ev M (pc + 1) ls (S.1 t i j :: st) S r) : Ev M pc ls (vI x :: vR t i :: st) S r := fun P h => h.2.2.2.2.2.2.2.2.2.2.2.2.2.2.2.2.2.2.2.2.2.2.2.2.2.2.2.2.2.2.2.2.2.2.2.2.2.2.2.2.2.2.2.2.2.2.2.2.2.2.2.2.2.2.2.2.1 M pc ls st S r t i j x h0 h1 h2 h3 (k0 P h)
theorem ev_zast {M : MT} {pc : Nat} {ls st : List AV} {S : Sto} {r : Res} {t i j : Nat} {x v : Int32} (h0 : decode (mB M) pc = .ok (.bastore, 1)) (h1 : aTy t = some .boolean) (h2 : x = nI j) (h3 : j < lenA S t) (h4 : v &&& 1 = v) (k0 : Ev M (pc + 1) ls st (setS S t i j (vI v)) r) : Ev M pc ls (vI v :: vI x :: vR t i :: st) S r := fun P h => h.2.2.2.2.2.2.2.2.2.2.2.2.2.2.2.2.2.2.2.2.2.2.2.2.2.2.2.2.2.2.2.2.2.2.2.2.2.2.2.2.2.2.2.2.2.2.2.2.2.2.2.2.2.2.2.2.2.1 M pc ls st S r t i j x v h0 h1 h2 h3 h4 (k0 P h)
theorem ev_aald {M : MT} {pc : Nat} {ls st : List AV} {S : Sto} {r : Res} {t i j : Nat} {x : Int32} {C : String} (h0 : decode (mB M) pc = .ok (.aaload, 1)) (h1 : aTy t = some (.object C)) (h2 : x = nI j) (h3 : j < lenA S t) (k0 : Ev M (pc + 1) ls (S.1 t i j :: st) S r) : Ev M pc ls (vI x :: vR t i :: st) S r := fun P h => h.2.2.2.2.2.2.2.2.2.2.2.2.2.2.2.2.2.2.2.2.2.2.2.2.2.2.2.2.2.2.2.2.2.2.2.2.2.2.2.2.2.2.2.2.2.2.2.2.2.2.2.2.2.2.2.2.2.2.1 M pc ls st S r t i j x C h0 h1 h2 h3 (k0 P h)
theorem ev_aast {M : MT} {pc : Nat} {ls st : List AV} {S : Sto} {r : Res} {t i j t2 i2 : Nat} {x : Int32} (h0 : decode (mB M) pc = .ok (.aastore, 1)) (h1 : aEl t t2 = true) (h2 : x = nI j) (h3 : j < lenA S t) (k0 : Ev M (pc + 1) ls st (setS S t i j (vR t2 i2)) r) : Ev M pc ls (vR t2 i2 :: vI x :: vR t i :: st) S r := fun P h => h.2.2.2.2.2.2.2.2.2.2.2.2.2.2.2.2.2.2.2.2.2.2.2.2.2.2.2.2.2.2.2.2.2.2.2.2.2.2.2.2.2.2.2.2.2.2.2.2.2.2.2.2.2.2.2.2.2.2.2.1 M pc ls st S r t i j t2 i2 x h0 h1 h2 h3 (k0 P h)
theorem ev_lald {M : MT} {pc : Nat} {ls st : List AV} {S : Sto} {r : Res} {t i j : Nat} {x : Int32} (h0 : decode (mB M) pc = .ok (.laload, 1)) (h1 : aTy t = some .long) (h2 : x = nI j) (h3 : j < lenA S t) (k0 : Ev M (pc + 1) ls (S.1 t i j :: st) S r) : Ev M pc ls (vI x :: vR t i :: st) S r := fun P h => h.2.2.2.2.2.2.2.2.2.2.2.2.2.2.2.2.2.2.2.2.2.2.2.2.2.2.2.2.2.2.2.2.2.2.2.2.2.2.2.2.2.2.2.2.2.2.2.2.2.2.2.2.2.2.2.2.2.2.2.2.1 M pc ls st S r t i j x h0 h1 h2 h3 (k0 P h)
theorem ev_last {M : MT} {pc : Nat} {ls st : List AV} {S : Sto} {r : Res} {t i j : Nat} {x : Int32} {v : Int64} (h0 : decode (mB M) pc = .ok (.lastore, 1)) (h1 : aTy t = some .long) (h2 : x = nI j) (h3 : j < lenA S t) (k0 : Ev M (pc + 1) ls st (setS S t i j (vL v)) r) : Ev M pc ls (vL v :: vI x :: vR t i :: st) S r := fun P h => h.2.2.2.2.2.2.2.2.2.2.2.2.2.2.2.2.2.2.2.2.2.2.2.2.2.2.2.2.2.2.2.2.2.2.2.2.2.2.2.2.2.2.2.2.2.2.2.2.2.2.2.2.2.2.2.2.2.2.2.2.2.1 M pc ls st S r t i j x v h0 h1 h2 h3 (k0 P h)
theorem ev_alen {M : MT} {pc : Nat} {ls st : List AV} {S : Sto} {r : Res} {t i : Nat} (h0 : decode (mB M) pc = .ok (.arraylength, 1)) (h1 : (aTy t).isSome = true) (k0 : Ev M (pc + 1) ls (vI (nI (lenA S t)) :: st) S r) : Ev M pc ls (vR t i :: st) S r := fun P h => h.2.2.2.2.2.2.2.2.2.2.2.2.2.2.2.2.2.2.2.2.2.2.2.2.2.2.2.2.2.2.2.2.2.2.2.2.2.2.2.2.2.2.2.2.2.2.2.2.2.2.2.2.2.2.2.2.2.2.2.2.2.2.1 M pc ls st S r t i h0 h1 (k0 P h)
theorem ev_new {M : MT} {pc : Nat} {ls st : List AV} {S : Sto} {r : Res} {idx t : Nat} (h0 : decode (mB M) pc = .ok (.new idx, 3)) (h1 : NewOk (mO M) idx t) (k0 : Ev M (pc + 3) ls (vR t (S.2 t) :: st) (newO S t) r) : Ev M pc ls st S r := fun P h => h.2.2.2.2.2.2.2.2.2.2.2.2.2.2.2.2.2.2.2.2.2.2.2.2.2.2.2.2.2.2.2.2.2.2.2.2.2.2.2.2.2.2.2.2.2.2.2.2.2.2.2.2.2.2.2.2.2.2.2.2.2.2.2.1 M pc ls st S r idx t h0 h1 (k0 P h)
theorem ev_newa {M : MT} {pc : Nat} {ls st : List AV} {S : Sto} {r : Res} {t : Nat} {a : ArrayType} {n : Int32} (h0 : decode (mB M) pc = .ok (.newarray a, 2)) (h1 : aTy t = some (newarray.typeOf a)) (h2 : t ≠ 18) (h3 : n = nI (alen t)) (k0 : Ev M (pc + 2) ls (vR t (S.2 t) :: st) (newA S t) r) : Ev M pc ls (vI n :: st) S r := fun P h => h.2.2.2.2.2.2.2.2.2.2.2.2.2.2.2.2.2.2.2.2.2.2.2.2.2.2.2.2.2.2.2.2.2.2.2.2.2.2.2.2.2.2.2.2.2.2.2.2.2.2.2.2.2.2.2.2.2.2.2.2.2.2.2.2.1 M pc ls st S r t a n h0 h1 h2 h3 (k0 P h)
theorem ev_anew {M : MT} {pc : Nat} {ls st : List AV} {S : Sto} {r : Res} {idx t : Nat} {n : Int32} (h0 : decode (mB M) pc = .ok (.anewarray idx, 3)) (h1 : AnewOk (mO M) idx t) (h2 : n = nI (alen t)) (k0 : Ev M (pc + 3) ls (vR t (S.2 t) :: st) (newA S t) r) : Ev M pc ls (vI n :: st) S r := fun P h => h.2.2.2.2.2.2.2.2.2.2.2.2.2.2.2.2.2.2.2.2.2.2.2.2.2.2.2.2.2.2.2.2.2.2.2.2.2.2.2.2.2.2.2.2.2.2.2.2.2.2.2.2.2.2.2.2.2.2.2.2.2.2.2.2.2.1 M pc ls st S r idx t n h0 h1 h2 (k0 P h)
theorem ev_objinit {M : MT} {pc : Nat} {ls st : List AV} {S : Sto} {r : Res} {idx t i : Nat} (h0 : decode (mB M) pc = .ok (.invokespecial idx, 3)) (h1 : Cond.methodLink (RN (mO M)) idx objectInit ∈ wsL_law) (h2 : wsum st ≤ 8) (k0 : Ev M (pc + 3) ls st S r) : Ev M pc ls (vR t i :: st) S r := fun P h => h.2.2.2.2.2.2.2.2.2.2.2.2.2.2.2.2.2.2.2.2.2.2.2.2.2.2.2.2.2.2.2.2.2.2.2.2.2.2.2.2.2.2.2.2.2.2.2.2.2.2.2.2.2.2.2.2.2.2.2.2.2.2.2.2.2.2.1 M pc ls st S r idx t i h0 h1 h2 (k0 P h)
theorem ev_mmax {M : MT} {pc : Nat} {ls st : List AV} {S : Sto} {r : Res} {idx : Nat} {x y : Int32} (h0 : decode (mB M) pc = .ok (.invokestatic idx, 3)) (h1 : Cond.methodLink (RN (mO M)) idx Lib.Math.max.name ∈ wsL_law) (h2 : wsum st ≤ 8) (k0 : Ev M (pc + 3) ls (vI (if x < y then y else x) :: st) S r) : Ev M pc ls (vI y :: vI x :: st) S r := fun P h => h.2.2.2.2.2.2.2.2.2.2.2.2.2.2.2.2.2.2.2.2.2.2.2.2.2.2.2.2.2.2.2.2.2.2.2.2.2.2.2.2.2.2.2.2.2.2.2.2.2.2.2.2.2.2.2.2.2.2.2.2.2.2.2.2.2.2.2.1 M pc ls st S r idx x y h0 h1 h2 (k0 P h)
theorem ev_mmin {M : MT} {pc : Nat} {ls st : List AV} {S : Sto} {r : Res} {idx : Nat} {x y : Int32} (h0 : decode (mB M) pc = .ok (.invokestatic idx, 3)) (h1 : Cond.methodLink (RN (mO M)) idx Lib.Math.min.name ∈ wsL_law) (h2 : wsum st ≤ 8) (k0 : Ev M (pc + 3) ls (vI (if y < x then y else x) :: st) S r) : Ev M pc ls (vI y :: vI x :: st) S r := fun P h => h.2.2.2.2.2.2.2.2.2.2.2.2.2.2.2.2.2.2.2.2.2.2.2.2.2.2.2.2.2.2.2.2.2.2.2.2.2.2.2.2.2.2.2.2.2.2.2.2.2.2.2.2.2.2.2.2.2.2.2.2.2.2.2.2.2.2.2.2.1 M pc ls st S r idx x y h0 h1 h2 (k0 P h)
theorem ev_callV {M : MT} {pc : Nat} {ls st : List AV} {S : Sto} {r : Res} {idx : Nat} {N : MT} {as : List AV} {S1 : Sto} {v : Option AV} (h0 : decode (mB M) pc = .ok (.invokevirtual idx, 3)) (h1 : CallV M idx N) (h2 : argsOk N as) (h3 : wsum st ≤ 8) (k0 : Ev N 0 (ent N as) [] S (0, v, S1)) (k1 : Ev M (pc + 3) ls (v.toList ++ st) S1 r) : Ev M pc ls (as.reverse ++ st) S r := fun P h => h.2.2.2.2.2.2.2.2.2.2.2.2.2.2.2.2.2.2.2.2.2.2.2.2.2.2.2.2.2.2.2.2.2.2.2.2.2.2.2.2.2.2.2.2.2.2.2.2.2.2.2.2.2.2.2.2.2.2.2.2.2.2.2.2.2.2.2.2.2.1 M pc ls st S r idx N as S1 v h0 h1 h2 h3 (k0 P h) (k1 P h)
theorem ev_callS {M : MT} {pc : Nat} {ls st : List AV} {S : Sto} {r : Res} {idx : Nat} {N : MT} {as : List AV} {S1 : Sto} {v : Option AV} (h0 : decode (mB M) pc = .ok (.invokestatic idx, 3)) (h1 : CallS M idx N) (h2 : argsOk N as) (h3 : wsum st ≤ 8) (k0 : Ev N 0 (ent N as) [] S (0, v, S1)) (k1 : Ev M (pc + 3) ls (v.toList ++ st) S1 r) : Ev M pc ls (as.reverse ++ st) S r := fun P h => h.2.2.2.2.2.2.2.2.2.2.2.2.2.2.2.2.2.2.2.2.2.2.2.2.2.2.2.2.2.2.2.2.2.2.2.2.2.2.2.2.2.2.2.2.2.2.2.2.2.2.2.2.2.2.2.2.2.2.2.2.2.2.2.2.2.2.2.2.2.2.1 M pc ls st S r idx N as S1 v h0 h1 h2 h3 (k0 P h) (k1 P h)
theorem ev_callI {M : MT} {pc : Nat} {ls st : List AV} {S : Sto} {r : Res} {idx : Nat} {N : MT} {as : List AV} {S1 : Sto} {v : Option AV} (h0 : decode (mB M) pc = .ok (.invokespecial idx, 3)) (h1 : CallI M idx N) (h2 : argsOk N as) (h3 : wsum st ≤ 8) (k0 : Ev N 0 (ent N as) [] S (0, v, S1)) (k1 : Ev M (pc + 3) ls (v.toList ++ st) S1 r) : Ev M pc ls (as.reverse ++ st) S r := fun P h => h.2.2.2.2.2.2.2.2.2.2.2.2.2.2.2.2.2.2.2.2.2.2.2.2.2.2.2.2.2.2.2.2.2.2.2.2.2.2.2.2.2.2.2.2.2.2.2.2.2.2.2.2.2.2.2.2.2.2.2.2.2.2.2.2.2.2.2.2.2.2.2.1 M pc ls st S r idx N as S1 v h0 h1 h2 h3 (k0 P h) (k1 P h)
theorem ev_callVX {M : MT} {pc : Nat} {ls st : List AV} {S : Sto} {r : Res} {idx : Nat} {N : MT} {as : List AV} {S1 : Sto} {v : AV} {E hpc : Nat} (h0 : decode (mB M) pc = .ok (.invokevirtual idx, 3)) (h1 : CallV M idx N) (h2 : argsOk N as) (h3 : wsum st ≤ 8) (h4 : Hnd M pc E hpc) (k0 : Ev N 0 (ent N as) [] S (E, some v, S1)) (k1 : Ev M hpc ls [v] S1 r) : Ev M pc ls (as.reverse ++ st) S r := fun P h => h.2.2.2.2.2.2.2.2.2.2.2.2.2.2.2.2.2.2.2.2.2.2.2.2.2.2.2.2.2.2.2.2.2.2.2.2.2.2.2.2.2.2.2.2.2.2.2.2.2.2.2.2.2.2.2.2.2.2.2.2.2.2.2.2.2.2.2.2.2.2.2.2.1 M pc ls st S r idx N as S1 v E hpc h0 h1 h2 h3 h4 (k0 P h) (k1 P h)
theorem ev_iret {M : MT} {pc : Nat} {ls : List AV} {S : Sto} {x : Int32} (h0 : decode (mB M) pc = .ok (.ireturn, 1)) (h1 : mR M = some .int ∨ (mR M = some .boolean ∧ x &&& 1 = x))  : Ev M pc ls [vI x] S (0, some (vI x), S) := fun P h => h.2.2.2.2.2.2.2.2.2.2.2.2.2.2.2.2.2.2.2.2.2.2.2.2.2.2.2.2.2.2.2.2.2.2.2.2.2.2.2.2.2.2.2.2.2.2.2.2.2.2.2.2.2.2.2.2.2.2.2.2.2.2.2.2.2.2.2.2.2.2.2.2.2.1 M pc ls [] S (0, none, S) x h0 h1 
theorem ev_aret {M : MT} {pc : Nat} {ls : List AV} {S : Sto} {v : AV} {C : String} (h0 : decode (mB M) pc = .ok (.areturn, 1)) (h1 : mR M = some (.object C)) (h2 : isRf v = true)  : Ev M pc ls [v] S (0, some v, S) := fun P h => h.2.2.2.2.2.2.2.2.2.2.2.2.2.2.2.2.2.2.2.2.2.2.2.2.2.2.2.2.2.2.2.2.2.2.2.2.2.2.2.2.2.2.2.2.2.2.2.2.2.2.2.2.2.2.2.2.2.2.2.2.2.2.2.2.2.2.2.2.2.2.2.2.2.2.1 M pc ls [] S (0, none, S) v C h0 h1 h2 
theorem ev_dret {M : MT} {pc : Nat} {ls : List AV} {S : Sto} {x : UInt64} (h0 : decode (mB M) pc = .ok (.dreturn, 1)) (h1 : mR M = some .double)  : Ev M pc ls [vD x] S (0, some (vD x), S) := fun P h => h.2.2.2.2.2.2.2.2.2.2.2.2.2.2.2.2.2.2.2.2.2.2.2.2.2.2.2.2.2.2.2.2.2.2.2.2.2.2.2.2.2.2.2.2.2.2.2.2.2.2.2.2.2.2.2.2.2.2.2.2.2.2.2.2.2.2.2.2.2.2.2.2.2.2.2.1 M pc ls [] S (0, none, S) x h0 h1 
theorem ev_vret {M : MT} {pc : Nat} {ls : List AV} {S : Sto}  (h0 : decode (mB M) pc = .ok (.return_, 1)) (h1 : mR M = none)  : Ev M pc ls [] S (0, none, S) := fun P h => h.2.2.2.2.2.2.2.2.2.2.2.2.2.2.2.2.2.2.2.2.2.2.2.2.2.2.2.2.2.2.2.2.2.2.2.2.2.2.2.2.2.2.2.2.2.2.2.2.2.2.2.2.2.2.2.2.2.2.2.2.2.2.2.2.2.2.2.2.2.2.2.2.2.2.2.2.1 M pc ls [] S (0, none, S)  h0 h1 
theorem ev_throw {M : MT} {pc : Nat} {ls st : List AV} {S : Sto} {E : Nat} (h0 : ThrowAt M pc E) (h1 : wsum st ≤ 8)  : Ev M pc ls st S (E, some (vR 19 (S.2 19)), newX S) := fun P h => h.2.2.2.2.2.2.2.2.2.2.2.2.2.2.2.2.2.2.2.2.2.2.2.2.2.2.2.2.2.2.2.2.2.2.2.2.2.2.2.2.2.2.2.2.2.2.2.2.2.2.2.2.2.2.2.2.2.2.2.2.2.2.2.2.2.2.2.2.2.2.2.2.2.2.2.2.2.1 M pc ls st S (0, none, S) E h0 h1 
theorem ev_forget {M : MT} {pc : Nat} {ls st : List AV} {S : Sto} {r : Res} {ls2 : List AV} (h0 : Forg ls ls2) (k0 : Ev M pc ls2 st S r) : Ev M pc ls st S r := fun P h => h.2.2.2.2.2.2.2.2.2.2.2.2.2.2.2.2.2.2.2.2.2.2.2.2.2.2.2.2.2.2.2.2.2.2.2.2.2.2.2.2.2.2.2.2.2.2.2.2.2.2.2.2.2.2.2.2.2.2.2.2.2.2.2.2.2.2.2.2.2.2.2.2.2.2.2.2.2.2.1 M pc ls st S r ls2 h0 (k0 P h)
theorem ev_eqv {M : MT} {pc : Nat} {ls st : List AV} {S : Sto} {r : Res} {S2 : Sto} (h0 : EqS S S2) (k0 : Ev M pc ls st S2 r) : Ev M pc ls st S r := fun P h => h.2.2.2.2.2.2.2.2.2.2.2.2.2.2.2.2.2.2.2.2.2.2.2.2.2.2.2.2.2.2.2.2.2.2.2.2.2.2.2.2.2.2.2.2.2.2.2.2.2.2.2.2.2.2.2.2.2.2.2.2.2.2.2.2.2.2.2.2.2.2.2.2.2.2.2.2.2.2.2 M pc ls st S r S2 h0 (k0 P h)
theorem evV1 {M : MT} {pc : Nat} {ls st : List AV} {S : Sto} {r : Res} {idx : Nat} {N : MT} {S1 : Sto} {v : Option AV} {a0 : AV} (d : decode (mB M) pc = .ok (.invokevirtual idx, 3)) (c : CallV M idx N) (ha : argsOk N [a0]) (hw : wsum st ≤ 8) (k0 : Ev N 0 (ent N [a0]) [] S (0, v, S1)) (k1 : Ev M (pc + 3) ls (v.toList ++ st) S1 r) : Ev M pc ls (a0 :: st) S r := ev_callV (as := [a0]) d c ha hw k0 k1
theorem evV2 {M : MT} {pc : Nat} {ls st : List AV} {S : Sto} {r : Res} {idx : Nat} {N : MT} {S1 : Sto} {v : Option AV} {a0 a1 : AV} (d : decode (mB M) pc = .ok (.invokevirtual idx, 3)) (c : CallV M idx N) (ha : argsOk N [a0, a1]) (hw : wsum st ≤ 8) (k0 : Ev N 0 (ent N [a0, a1]) [] S (0, v, S1)) (k1 : Ev M (pc + 3) ls (v.toList ++ st) S1 r) : Ev M pc ls (a1 :: a0 :: st) S r := ev_callV (as := [a0, a1]) d c ha hw k0 k1
theorem evV3 {M : MT} {pc : Nat} {ls st : List AV} {S : Sto} {r : Res} {idx : Nat} {N : MT} {S1 : Sto} {v : Option AV} {a0 a1 a2 : AV} (d : decode (mB M) pc = .ok (.invokevirtual idx, 3)) (c : CallV M idx N) (ha : argsOk N [a0, a1, a2]) (hw : wsum st ≤ 8) (k0 : Ev N 0 (ent N [a0, a1, a2]) [] S (0, v, S1)) (k1 : Ev M (pc + 3) ls (v.toList ++ st) S1 r) : Ev M pc ls (a2 :: a1 :: a0 :: st) S r := ev_callV (as := [a0, a1, a2]) d c ha hw k0 k1
theorem evV4 {M : MT} {pc : Nat} {ls st : List AV} {S : Sto} {r : Res} {idx : Nat} {N : MT} {S1 : Sto} {v : Option AV} {a0 a1 a2 a3 : AV} (d : decode (mB M) pc = .ok (.invokevirtual idx, 3)) (c : CallV M idx N) (ha : argsOk N [a0, a1, a2, a3]) (hw : wsum st ≤ 8) (k0 : Ev N 0 (ent N [a0, a1, a2, a3]) [] S (0, v, S1)) (k1 : Ev M (pc + 3) ls (v.toList ++ st) S1 r) : Ev M pc ls (a3 :: a2 :: a1 :: a0 :: st) S r := ev_callV (as := [a0, a1, a2, a3]) d c ha hw k0 k1
theorem evV5 {M : MT} {pc : Nat} {ls st : List AV} {S : Sto} {r : Res} {idx : Nat} {N : MT} {S1 : Sto} {v : Option AV} {a0 a1 a2 a3 a4 : AV} (d : decode (mB M) pc = .ok (.invokevirtual idx, 3)) (c : CallV M idx N) (ha : argsOk N [a0, a1, a2, a3, a4]) (hw : wsum st ≤ 8) (k0 : Ev N 0 (ent N [a0, a1, a2, a3, a4]) [] S (0, v, S1)) (k1 : Ev M (pc + 3) ls (v.toList ++ st) S1 r) : Ev M pc ls (a4 :: a3 :: a2 :: a1 :: a0 :: st) S r := ev_callV (as := [a0, a1, a2, a3, a4]) d c ha hw k0 k1
theorem evV6 {M : MT} {pc : Nat} {ls st : List AV} {S : Sto} {r : Res} {idx : Nat} {N : MT} {S1 : Sto} {v : Option AV} {a0 a1 a2 a3 a4 a5 : AV} (d : decode (mB M) pc = .ok (.invokevirtual idx, 3)) (c : CallV M idx N) (ha : argsOk N [a0, a1, a2, a3, a4, a5]) (hw : wsum st ≤ 8) (k0 : Ev N 0 (ent N [a0, a1, a2, a3, a4, a5]) [] S (0, v, S1)) (k1 : Ev M (pc + 3) ls (v.toList ++ st) S1 r) : Ev M pc ls (a5 :: a4 :: a3 :: a2 :: a1 :: a0 :: st) S r := ev_callV (as := [a0, a1, a2, a3, a4, a5]) d c ha hw k0 k1
theorem evV7 {M : MT} {pc : Nat} {ls st : List AV} {S : Sto} {r : Res} {idx : Nat} {N : MT} {S1 : Sto} {v : Option AV} {a0 a1 a2 a3 a4 a5 a6 : AV} (d : decode (mB M) pc = .ok (.invokevirtual idx, 3)) (c : CallV M idx N) (ha : argsOk N [a0, a1, a2, a3, a4, a5, a6]) (hw : wsum st ≤ 8) (k0 : Ev N 0 (ent N [a0, a1, a2, a3, a4, a5, a6]) [] S (0, v, S1)) (k1 : Ev M (pc + 3) ls (v.toList ++ st) S1 r) : Ev M pc ls (a6 :: a5 :: a4 :: a3 :: a2 :: a1 :: a0 :: st) S r := ev_callV (as := [a0, a1, a2, a3, a4, a5, a6]) d c ha hw k0 k1
theorem evX1 {M : MT} {pc : Nat} {ls st : List AV} {S : Sto} {r : Res} {idx : Nat} {N : MT} {S1 : Sto} {v : AV} {E hpc : Nat} {a0 : AV} (d : decode (mB M) pc = .ok (.invokevirtual idx, 3)) (c : CallV M idx N) (ha : argsOk N [a0]) (hw : wsum st ≤ 8) (hh : Hnd M pc E hpc) (k0 : Ev N 0 (ent N [a0]) [] S (E, some v, S1)) (k1 : Ev M hpc ls [v] S1 r) : Ev M pc ls (a0 :: st) S r := ev_callVX (as := [a0]) d c ha hw hh k0 k1
theorem evX2 {M : MT} {pc : Nat} {ls st : List AV} {S : Sto} {r : Res} {idx : Nat} {N : MT} {S1 : Sto} {v : AV} {E hpc : Nat} {a0 a1 : AV} (d : decode (mB M) pc = .ok (.invokevirtual idx, 3)) (c : CallV M idx N) (ha : argsOk N [a0, a1]) (hw : wsum st ≤ 8) (hh : Hnd M pc E hpc) (k0 : Ev N 0 (ent N [a0, a1]) [] S (E, some v, S1)) (k1 : Ev M hpc ls [v] S1 r) : Ev M pc ls (a1 :: a0 :: st) S r := ev_callVX (as := [a0, a1]) d c ha hw hh k0 k1
theorem evX3 {M : MT} {pc : Nat} {ls st : List AV} {S : Sto} {r : Res} {idx : Nat} {N : MT} {S1 : Sto} {v : AV} {E hpc : Nat} {a0 a1 a2 : AV} (d : decode (mB M) pc = .ok (.invokevirtual idx, 3)) (c : CallV M idx N) (ha : argsOk N [a0, a1, a2]) (hw : wsum st ≤ 8) (hh : Hnd M pc E hpc) (k0 : Ev N 0 (ent N [a0, a1, a2]) [] S (E, some v, S1)) (k1 : Ev M hpc ls [v] S1 r) : Ev M pc ls (a2 :: a1 :: a0 :: st) S r := ev_callVX (as := [a0, a1, a2]) d c ha hw hh k0 k1
theorem evX4 {M : MT} {pc : Nat} {ls st : List AV} {S : Sto} {r : Res} {idx : Nat} {N : MT} {S1 : Sto} {v : AV} {E hpc : Nat} {a0 a1 a2 a3 : AV} (d : decode (mB M) pc = .ok (.invokevirtual idx, 3)) (c : CallV M idx N) (ha : argsOk N [a0, a1, a2, a3]) (hw : wsum st ≤ 8) (hh : Hnd M pc E hpc) (k0 : Ev N 0 (ent N [a0, a1, a2, a3]) [] S (E, some v, S1)) (k1 : Ev M hpc ls [v] S1 r) : Ev M pc ls (a3 :: a2 :: a1 :: a0 :: st) S r := ev_callVX (as := [a0, a1, a2, a3]) d c ha hw hh k0 k1
theorem evX5 {M : MT} {pc : Nat} {ls st : List AV} {S : Sto} {r : Res} {idx : Nat} {N : MT} {S1 : Sto} {v : AV} {E hpc : Nat} {a0 a1 a2 a3 a4 : AV} (d : decode (mB M) pc = .ok (.invokevirtual idx, 3)) (c : CallV M idx N) (ha : argsOk N [a0, a1, a2, a3, a4]) (hw : wsum st ≤ 8) (hh : Hnd M pc E hpc) (k0 : Ev N 0 (ent N [a0, a1, a2, a3, a4]) [] S (E, some v, S1)) (k1 : Ev M hpc ls [v] S1 r) : Ev M pc ls (a4 :: a3 :: a2 :: a1 :: a0 :: st) S r := ev_callVX (as := [a0, a1, a2, a3, a4]) d c ha hw hh k0 k1
theorem evX6 {M : MT} {pc : Nat} {ls st : List AV} {S : Sto} {r : Res} {idx : Nat} {N : MT} {S1 : Sto} {v : AV} {E hpc : Nat} {a0 a1 a2 a3 a4 a5 : AV} (d : decode (mB M) pc = .ok (.invokevirtual idx, 3)) (c : CallV M idx N) (ha : argsOk N [a0, a1, a2, a3, a4, a5]) (hw : wsum st ≤ 8) (hh : Hnd M pc E hpc) (k0 : Ev N 0 (ent N [a0, a1, a2, a3, a4, a5]) [] S (E, some v, S1)) (k1 : Ev M hpc ls [v] S1 r) : Ev M pc ls (a5 :: a4 :: a3 :: a2 :: a1 :: a0 :: st) S r := ev_callVX (as := [a0, a1, a2, a3, a4, a5]) d c ha hw hh k0 k1
theorem evX7 {M : MT} {pc : Nat} {ls st : List AV} {S : Sto} {r : Res} {idx : Nat} {N : MT} {S1 : Sto} {v : AV} {E hpc : Nat} {a0 a1 a2 a3 a4 a5 a6 : AV} (d : decode (mB M) pc = .ok (.invokevirtual idx, 3)) (c : CallV M idx N) (ha : argsOk N [a0, a1, a2, a3, a4, a5, a6]) (hw : wsum st ≤ 8) (hh : Hnd M pc E hpc) (k0 : Ev N 0 (ent N [a0, a1, a2, a3, a4, a5, a6]) [] S (E, some v, S1)) (k1 : Ev M hpc ls [v] S1 r) : Ev M pc ls (a6 :: a5 :: a4 :: a3 :: a2 :: a1 :: a0 :: st) S r := ev_callVX (as := [a0, a1, a2, a3, a4, a5, a6]) d c ha hw hh k0 k1
theorem evS0 {M : MT} {pc : Nat} {ls st : List AV} {S : Sto} {r : Res} {idx : Nat} {N : MT} {S1 : Sto} {v : Option AV} (d : decode (mB M) pc = .ok (.invokestatic idx, 3)) (c : CallS M idx N) (ha : argsOk N []) (hw : wsum st ≤ 8) (k0 : Ev N 0 (ent N []) [] S (0, v, S1)) (k1 : Ev M (pc + 3) ls (v.toList ++ st) S1 r) : Ev M pc ls (st) S r := ev_callS (as := []) d c ha hw k0 k1
theorem evS1 {M : MT} {pc : Nat} {ls st : List AV} {S : Sto} {r : Res} {idx : Nat} {N : MT} {S1 : Sto} {v : Option AV} {a0 : AV} (d : decode (mB M) pc = .ok (.invokestatic idx, 3)) (c : CallS M idx N) (ha : argsOk N [a0]) (hw : wsum st ≤ 8) (k0 : Ev N 0 (ent N [a0]) [] S (0, v, S1)) (k1 : Ev M (pc + 3) ls (v.toList ++ st) S1 r) : Ev M pc ls (a0 :: st) S r := ev_callS (as := [a0]) d c ha hw k0 k1
theorem evS2 {M : MT} {pc : Nat} {ls st : List AV} {S : Sto} {r : Res} {idx : Nat} {N : MT} {S1 : Sto} {v : Option AV} {a0 a1 : AV} (d : decode (mB M) pc = .ok (.invokestatic idx, 3)) (c : CallS M idx N) (ha : argsOk N [a0, a1]) (hw : wsum st ≤ 8) (k0 : Ev N 0 (ent N [a0, a1]) [] S (0, v, S1)) (k1 : Ev M (pc + 3) ls (v.toList ++ st) S1 r) : Ev M pc ls (a1 :: a0 :: st) S r := ev_callS (as := [a0, a1]) d c ha hw k0 k1
theorem evS3 {M : MT} {pc : Nat} {ls st : List AV} {S : Sto} {r : Res} {idx : Nat} {N : MT} {S1 : Sto} {v : Option AV} {a0 a1 a2 : AV} (d : decode (mB M) pc = .ok (.invokestatic idx, 3)) (c : CallS M idx N) (ha : argsOk N [a0, a1, a2]) (hw : wsum st ≤ 8) (k0 : Ev N 0 (ent N [a0, a1, a2]) [] S (0, v, S1)) (k1 : Ev M (pc + 3) ls (v.toList ++ st) S1 r) : Ev M pc ls (a2 :: a1 :: a0 :: st) S r := ev_callS (as := [a0, a1, a2]) d c ha hw k0 k1
theorem evS4 {M : MT} {pc : Nat} {ls st : List AV} {S : Sto} {r : Res} {idx : Nat} {N : MT} {S1 : Sto} {v : Option AV} {a0 a1 a2 a3 : AV} (d : decode (mB M) pc = .ok (.invokestatic idx, 3)) (c : CallS M idx N) (ha : argsOk N [a0, a1, a2, a3]) (hw : wsum st ≤ 8) (k0 : Ev N 0 (ent N [a0, a1, a2, a3]) [] S (0, v, S1)) (k1 : Ev M (pc + 3) ls (v.toList ++ st) S1 r) : Ev M pc ls (a3 :: a2 :: a1 :: a0 :: st) S r := ev_callS (as := [a0, a1, a2, a3]) d c ha hw k0 k1
theorem evS5 {M : MT} {pc : Nat} {ls st : List AV} {S : Sto} {r : Res} {idx : Nat} {N : MT} {S1 : Sto} {v : Option AV} {a0 a1 a2 a3 a4 : AV} (d : decode (mB M) pc = .ok (.invokestatic idx, 3)) (c : CallS M idx N) (ha : argsOk N [a0, a1, a2, a3, a4]) (hw : wsum st ≤ 8) (k0 : Ev N 0 (ent N [a0, a1, a2, a3, a4]) [] S (0, v, S1)) (k1 : Ev M (pc + 3) ls (v.toList ++ st) S1 r) : Ev M pc ls (a4 :: a3 :: a2 :: a1 :: a0 :: st) S r := ev_callS (as := [a0, a1, a2, a3, a4]) d c ha hw k0 k1
theorem evS6 {M : MT} {pc : Nat} {ls st : List AV} {S : Sto} {r : Res} {idx : Nat} {N : MT} {S1 : Sto} {v : Option AV} {a0 a1 a2 a3 a4 a5 : AV} (d : decode (mB M) pc = .ok (.invokestatic idx, 3)) (c : CallS M idx N) (ha : argsOk N [a0, a1, a2, a3, a4, a5]) (hw : wsum st ≤ 8) (k0 : Ev N 0 (ent N [a0, a1, a2, a3, a4, a5]) [] S (0, v, S1)) (k1 : Ev M (pc + 3) ls (v.toList ++ st) S1 r) : Ev M pc ls (a5 :: a4 :: a3 :: a2 :: a1 :: a0 :: st) S r := ev_callS (as := [a0, a1, a2, a3, a4, a5]) d c ha hw k0 k1
theorem evS7 {M : MT} {pc : Nat} {ls st : List AV} {S : Sto} {r : Res} {idx : Nat} {N : MT} {S1 : Sto} {v : Option AV} {a0 a1 a2 a3 a4 a5 a6 : AV} (d : decode (mB M) pc = .ok (.invokestatic idx, 3)) (c : CallS M idx N) (ha : argsOk N [a0, a1, a2, a3, a4, a5, a6]) (hw : wsum st ≤ 8) (k0 : Ev N 0 (ent N [a0, a1, a2, a3, a4, a5, a6]) [] S (0, v, S1)) (k1 : Ev M (pc + 3) ls (v.toList ++ st) S1 r) : Ev M pc ls (a6 :: a5 :: a4 :: a3 :: a2 :: a1 :: a0 :: st) S r := ev_callS (as := [a0, a1, a2, a3, a4, a5, a6]) d c ha hw k0 k1
theorem evI1 {M : MT} {pc : Nat} {ls st : List AV} {S : Sto} {r : Res} {idx : Nat} {N : MT} {S1 : Sto} {v : Option AV} {a0 : AV} (d : decode (mB M) pc = .ok (.invokespecial idx, 3)) (c : CallI M idx N) (ha : argsOk N [a0]) (hw : wsum st ≤ 8) (k0 : Ev N 0 (ent N [a0]) [] S (0, v, S1)) (k1 : Ev M (pc + 3) ls (v.toList ++ st) S1 r) : Ev M pc ls (a0 :: st) S r := ev_callI (as := [a0]) d c ha hw k0 k1
theorem evI2 {M : MT} {pc : Nat} {ls st : List AV} {S : Sto} {r : Res} {idx : Nat} {N : MT} {S1 : Sto} {v : Option AV} {a0 a1 : AV} (d : decode (mB M) pc = .ok (.invokespecial idx, 3)) (c : CallI M idx N) (ha : argsOk N [a0, a1]) (hw : wsum st ≤ 8) (k0 : Ev N 0 (ent N [a0, a1]) [] S (0, v, S1)) (k1 : Ev M (pc + 3) ls (v.toList ++ st) S1 r) : Ev M pc ls (a1 :: a0 :: st) S r := ev_callI (as := [a0, a1]) d c ha hw k0 k1
theorem evI3 {M : MT} {pc : Nat} {ls st : List AV} {S : Sto} {r : Res} {idx : Nat} {N : MT} {S1 : Sto} {v : Option AV} {a0 a1 a2 : AV} (d : decode (mB M) pc = .ok (.invokespecial idx, 3)) (c : CallI M idx N) (ha : argsOk N [a0, a1, a2]) (hw : wsum st ≤ 8) (k0 : Ev N 0 (ent N [a0, a1, a2]) [] S (0, v, S1)) (k1 : Ev M (pc + 3) ls (v.toList ++ st) S1 r) : Ev M pc ls (a2 :: a1 :: a0 :: st) S r := ev_callI (as := [a0, a1, a2]) d c ha hw k0 k1
theorem evI4 {M : MT} {pc : Nat} {ls st : List AV} {S : Sto} {r : Res} {idx : Nat} {N : MT} {S1 : Sto} {v : Option AV} {a0 a1 a2 a3 : AV} (d : decode (mB M) pc = .ok (.invokespecial idx, 3)) (c : CallI M idx N) (ha : argsOk N [a0, a1, a2, a3]) (hw : wsum st ≤ 8) (k0 : Ev N 0 (ent N [a0, a1, a2, a3]) [] S (0, v, S1)) (k1 : Ev M (pc + 3) ls (v.toList ++ st) S1 r) : Ev M pc ls (a3 :: a2 :: a1 :: a0 :: st) S r := ev_callI (as := [a0, a1, a2, a3]) d c ha hw k0 k1
theorem evI5 {M : MT} {pc : Nat} {ls st : List AV} {S : Sto} {r : Res} {idx : Nat} {N : MT} {S1 : Sto} {v : Option AV} {a0 a1 a2 a3 a4 : AV} (d : decode (mB M) pc = .ok (.invokespecial idx, 3)) (c : CallI M idx N) (ha : argsOk N [a0, a1, a2, a3, a4]) (hw : wsum st ≤ 8) (k0 : Ev N 0 (ent N [a0, a1, a2, a3, a4]) [] S (0, v, S1)) (k1 : Ev M (pc + 3) ls (v.toList ++ st) S1 r) : Ev M pc ls (a4 :: a3 :: a2 :: a1 :: a0 :: st) S r := ev_callI (as := [a0, a1, a2, a3, a4]) d c ha hw k0 k1
theorem evI6 {M : MT} {pc : Nat} {ls st : List AV} {S : Sto} {r : Res} {idx : Nat} {N : MT} {S1 : Sto} {v : Option AV} {a0 a1 a2 a3 a4 a5 : AV} (d : decode (mB M) pc = .ok (.invokespecial idx, 3)) (c : CallI M idx N) (ha : argsOk N [a0, a1, a2, a3, a4, a5]) (hw : wsum st ≤ 8) (k0 : Ev N 0 (ent N [a0, a1, a2, a3, a4, a5]) [] S (0, v, S1)) (k1 : Ev M (pc + 3) ls (v.toList ++ st) S1 r) : Ev M pc ls (a5 :: a4 :: a3 :: a2 :: a1 :: a0 :: st) S r := ev_callI (as := [a0, a1, a2, a3, a4, a5]) d c ha hw k0 k1
theorem evI7 {M : MT} {pc : Nat} {ls st : List AV} {S : Sto} {r : Res} {idx : Nat} {N : MT} {S1 : Sto} {v : Option AV} {a0 a1 a2 a3 a4 a5 a6 : AV} (d : decode (mB M) pc = .ok (.invokespecial idx, 3)) (c : CallI M idx N) (ha : argsOk N [a0, a1, a2, a3, a4, a5, a6]) (hw : wsum st ≤ 8) (k0 : Ev N 0 (ent N [a0, a1, a2, a3, a4, a5, a6]) [] S (0, v, S1)) (k1 : Ev M (pc + 3) ls (v.toList ++ st) S1 r) : Ev M pc ls (a6 :: a5 :: a4 :: a3 :: a2 :: a1 :: a0 :: st) S r := ev_callI (as := [a0, a1, a2, a3, a4, a5, a6]) d c ha hw k0 k1
theorem ev_getfv {M : MT} {pc : Nat} {ls st : List AV} {S : Sto} {r : Res} {idx t i k : Nat} {v : AV} (h0 : decode (mB M) pc = .ok (.getfield idx, 3)) (h1 : FieldOk (mO M) idx t k) (hv : S.1 t i k = v) (k0 : Ev M (pc + 3) ls (v :: st) S r) : Ev M pc ls (vR t i :: st) S r := ev_getf h0 h1 (by rw [hv]; exact k0)
theorem ev_aaldv {M : MT} {pc : Nat} {ls st : List AV} {S : Sto} {r : Res} {t i j : Nat} {x : Int32} {C : String} {v : AV} (h0 : decode (mB M) pc = .ok (.aaload, 1)) (h1 : aTy t = some (.object C)) (h2 : x = nI j) (h3 : j < lenA S t) (hv : S.1 t i j = v) (k0 : Ev M (pc + 1) ls (v :: st) S r) : Ev M pc ls (vI x :: vR t i :: st) S r := ev_aald h0 h1 h2 h3 (by rw [hv]; exact k0)
theorem ev_ialdv {M : MT} {pc : Nat} {ls st : List AV} {S : Sto} {r : Res} {t i j : Nat} {x : Int32} {v : AV} (h0 : decode (mB M) pc = .ok (.iaload, 1)) (h1 : aTy t = some .int) (h2 : x = nI j) (h3 : j < lenA S t) (hv : S.1 t i j = v) (k0 : Ev M (pc + 1) ls (v :: st) S r) : Ev M pc ls (vI x :: vR t i :: st) S r := ev_iald h0 h1 h2 h3 (by rw [hv]; exact k0)
theorem ev_putfS {M : MT} {pc : Nat} {ls st : List AV} {S : Sto} {r : Res} {idx t i k : Nat} {v : AV} {S1 : Sto} (h0 : decode (mB M) pc = .ok (.putfield idx, 3)) (h1 : FieldOk (mO M) idx t k) (h2 : fitF t k v = true) (h3 : finOk M t k = true) (hs : setS S t i k v = S1) (k0 : Ev M (pc + 3) ls st S1 r) : Ev M pc ls (v :: vR t i :: st) S r := ev_putf h0 h1 h2 h3 (by rw [hs]; exact k0)
theorem ev_iastS {M : MT} {pc : Nat} {ls st : List AV} {S : Sto} {r : Res} {t i j : Nat} {x v : Int32} {S1 : Sto} (h0 : decode (mB M) pc = .ok (.iastore, 1)) (h1 : aTy t = some .int) (h2 : t ≠ 18) (h3 : x = nI j) (h4 : j < lenA S t) (hs : setS S t i j (vI v) = S1) (k0 : Ev M (pc + 1) ls st S1 r) : Ev M pc ls (vI v :: vI x :: vR t i :: st) S r := ev_iast h0 h1 h2 h3 h4 (by rw [hs]; exact k0)
theorem ev_zastS {M : MT} {pc : Nat} {ls st : List AV} {S : Sto} {r : Res} {t i j : Nat} {x v : Int32} {S1 : Sto} (h0 : decode (mB M) pc = .ok (.bastore, 1)) (h1 : aTy t = some .boolean) (h2 : x = nI j) (h3 : j < lenA S t) (h4 : v &&& 1 = v) (hs : setS S t i j (vI v) = S1) (k0 : Ev M (pc + 1) ls st S1 r) : Ev M pc ls (vI v :: vI x :: vR t i :: st) S r := ev_zast h0 h1 h2 h3 h4 (by rw [hs]; exact k0)
theorem ev_lastS {M : MT} {pc : Nat} {ls st : List AV} {S : Sto} {r : Res} {t i j : Nat} {x : Int32} {v : Int64} {S1 : Sto} (h0 : decode (mB M) pc = .ok (.lastore, 1)) (h1 : aTy t = some .long) (h2 : x = nI j) (h3 : j < lenA S t) (hs : setS S t i j (vL v) = S1) (k0 : Ev M (pc + 1) ls st S1 r) : Ev M pc ls (vL v :: vI x :: vR t i :: st) S r := ev_last h0 h1 h2 h3 (by rw [hs]; exact k0)
def Fg : List AV → List AV → Prop
  | [], [] => True
  | a :: l, b :: l2 => (b = vU ∨ (a = b ∧ avC b = 1)) ∧ Fg l l2
  | _, _ => False
theorem Fg_to : ∀ {l l2 : List AV}, Fg l l2 → Forg l l2
  | [], [], _ => ⟨rfl, fun k w h => by simp at h⟩
  | a :: l, b :: l2, ⟨h1, h2⟩ => by
    obtain ⟨e1, e2⟩ := Fg_to h2
    refine ⟨by simp [e1], fun k w h => ?_⟩
    cases k with
    | zero =>
      simp at h
      subst h
      rcases h1 with h1 | ⟨h1, h3⟩
      · exact Or.inl h1
      · exact Or.inr ⟨by simp [h1], h3⟩
    | succ k => simpa using e2 k w (by simpa using h)
  | [], _ :: _, h => h.elim
  | _ :: _, [], h => h.elim
def bI (p : Prop) [Decidable p] : Int32 := if p then 1 else 0
theorem bI_t {p : Prop} [Decidable p] (h : p) : bI p = 1 := if_pos h
theorem bI_f {p : Prop} [Decidable p] (h : ¬ p) : bI p = 0 := if_neg h
theorem bI_0 {p : Prop} [Decidable p] : bI p = 0 ↔ ¬ p := by unfold bI; split <;> simp_all
theorem bI_1 {p : Prop} [Decidable p] : bI p = 1 ↔ p := by unfold bI; split <;> simp_all
theorem bI_and {p : Prop} [Decidable p] : bI p &&& 1 = bI p := by unfold bI; split <;> rfl
end
section
/-! THE METHODS, their fields and calls by the constant pool numbers -/
theorem wr_1 : ∀ w ∈ wsL_law0_r1, w ∈ wsL_law := fun _ h => (List.mem_append_left _ (List.mem_append_left _ (List.mem_append_left _ (List.mem_append_left _ (List.mem_append_left _ (List.mem_append_left _ (List.mem_append_left _ (List.mem_append_left _ (List.mem_append_left _ (List.mem_append_left _ (List.mem_append_left _ (List.mem_append_left _ h))))))))))))
theorem wr_2 : ∀ w ∈ wsL_law0_r2, w ∈ wsL_law := fun _ h => (List.mem_append_left _ (List.mem_append_left _ (List.mem_append_left _ (List.mem_append_left _ (List.mem_append_left _ (List.mem_append_left _ (List.mem_append_left _ (List.mem_append_left _ (List.mem_append_left _ (List.mem_append_left _ (List.mem_append_left _ (List.mem_append_right _ (List.mem_append_left _ h)))))))))))))
theorem wr_3 : ∀ w ∈ wsL_law0_r3, w ∈ wsL_law := fun _ h => (List.mem_append_left _ (List.mem_append_left _ (List.mem_append_left _ (List.mem_append_left _ (List.mem_append_left _ (List.mem_append_left _ (List.mem_append_left _ (List.mem_append_left _ (List.mem_append_left _ (List.mem_append_left _ (List.mem_append_left _ (List.mem_append_right _ (List.mem_append_right _ (List.mem_append_left _ h))))))))))))))
theorem wr_4 : ∀ w ∈ wsL_law0_r4, w ∈ wsL_law := fun _ h => (List.mem_append_left _ (List.mem_append_left _ (List.mem_append_left _ (List.mem_append_left _ (List.mem_append_left _ (List.mem_append_left _ (List.mem_append_left _ (List.mem_append_left _ (List.mem_append_left _ (List.mem_append_left _ (List.mem_append_left _ (List.mem_append_right _ (List.mem_append_right _ (List.mem_append_right _ (List.mem_append_left _ h)))))))))))))))
theorem wr_5 : ∀ w ∈ wsL_law0_r5, w ∈ wsL_law := fun _ h => (List.mem_append_left _ (List.mem_append_left _ (List.mem_append_left _ (List.mem_append_left _ (List.mem_append_left _ (List.mem_append_left _ (List.mem_append_left _ (List.mem_append_left _ (List.mem_append_left _ (List.mem_append_left _ (List.mem_append_left _ (List.mem_append_right _ (List.mem_append_right _ (List.mem_append_right _ (List.mem_append_right _ (List.mem_append_left _ h))))))))))))))))
theorem wr_6 : ∀ w ∈ wsL_law0_r6, w ∈ wsL_law := fun _ h => (List.mem_append_left _ (List.mem_append_left _ (List.mem_append_left _ (List.mem_append_left _ (List.mem_append_left _ (List.mem_append_left _ (List.mem_append_left _ (List.mem_append_left _ (List.mem_append_left _ (List.mem_append_left _ (List.mem_append_left _ (List.mem_append_right _ (List.mem_append_right _ (List.mem_append_right _ (List.mem_append_right _ (List.mem_append_right _ (List.mem_append_left _ h)))))))))))))))))
theorem wr_7 : ∀ w ∈ wsL_law0_r7, w ∈ wsL_law := fun _ h => (List.mem_append_left _ (List.mem_append_left _ (List.mem_append_left _ (List.mem_append_left _ (List.mem_append_left _ (List.mem_append_left _ (List.mem_append_left _ (List.mem_append_left _ (List.mem_append_left _ (List.mem_append_left _ (List.mem_append_left _ (List.mem_append_right _ (List.mem_append_right _ (List.mem_append_right _ (List.mem_append_right _ (List.mem_append_right _ (List.mem_append_right _ (List.mem_append_left _ h))))))))))))))))))
theorem wr_8 : ∀ w ∈ wsL_law0_r8, w ∈ wsL_law := fun _ h => (List.mem_append_left _ (List.mem_append_left _ (List.mem_append_left _ (List.mem_append_left _ (List.mem_append_left _ (List.mem_append_left _ (List.mem_append_left _ (List.mem_append_left _ (List.mem_append_left _ (List.mem_append_left _ (List.mem_append_left _ (List.mem_append_right _ (List.mem_append_right _ (List.mem_append_right _ (List.mem_append_right _ (List.mem_append_right _ (List.mem_append_right _ (List.mem_append_right _ (List.mem_append_left _ h)))))))))))))))))))
theorem wr_9 : ∀ w ∈ wsL_law0_r9, w ∈ wsL_law := fun _ h => (List.mem_append_left _ (List.mem_append_left _ (List.mem_append_left _ (List.mem_append_left _ (List.mem_append_left _ (List.mem_append_left _ (List.mem_append_left _ (List.mem_append_left _ (List.mem_append_left _ (List.mem_append_left _ (List.mem_append_left _ (List.mem_append_right _ (List.mem_append_right _ (List.mem_append_right _ (List.mem_append_right _ (List.mem_append_right _ (List.mem_append_right _ (List.mem_append_right _ (List.mem_append_right _ (List.mem_append_left _ h))))))))))))))))))))
theorem wr_10 : ∀ w ∈ wsL_law0_r10, w ∈ wsL_law := fun _ h => (List.mem_append_left _ (List.mem_append_left _ (List.mem_append_left _ (List.mem_append_left _ (List.mem_append_left _ (List.mem_append_left _ (List.mem_append_left _ (List.mem_append_left _ (List.mem_append_left _ (List.mem_append_left _ (List.mem_append_left _ (List.mem_append_right _ (List.mem_append_right _ (List.mem_append_right _ (List.mem_append_right _ (List.mem_append_right _ (List.mem_append_right _ (List.mem_append_right _ (List.mem_append_right _ (List.mem_append_right _ (List.mem_append_left _ h)))))))))))))))))))))
theorem wr_11 : ∀ w ∈ wsL_law0_r11, w ∈ wsL_law := fun _ h => (List.mem_append_left _ (List.mem_append_left _ (List.mem_append_left _ (List.mem_append_left _ (List.mem_append_left _ (List.mem_append_left _ (List.mem_append_left _ (List.mem_append_left _ (List.mem_append_left _ (List.mem_append_left _ (List.mem_append_left _ (List.mem_append_right _ (List.mem_append_right _ (List.mem_append_right _ (List.mem_append_right _ (List.mem_append_right _ (List.mem_append_right _ (List.mem_append_right _ (List.mem_append_right _ (List.mem_append_right _ (List.mem_append_right _ (List.mem_append_left _ h))))))))))))))))))))))
theorem wr_12 : ∀ w ∈ wsL_law0_r12, w ∈ wsL_law := fun _ h => (List.mem_append_left _ (List.mem_append_left _ (List.mem_append_left _ (List.mem_append_left _ (List.mem_append_left _ (List.mem_append_left _ (List.mem_append_left _ (List.mem_append_left _ (List.mem_append_left _ (List.mem_append_left _ (List.mem_append_left _ (List.mem_append_right _ (List.mem_append_right _ (List.mem_append_right _ (List.mem_append_right _ (List.mem_append_right _ (List.mem_append_right _ (List.mem_append_right _ (List.mem_append_right _ (List.mem_append_right _ (List.mem_append_right _ (List.mem_append_right _ (List.mem_append_left _ h)))))))))))))))))))))))
theorem wr_13 : ∀ w ∈ wsL_law0_r13, w ∈ wsL_law := fun _ h => (List.mem_append_left _ (List.mem_append_left _ (List.mem_append_left _ (List.mem_append_left _ (List.mem_append_left _ (List.mem_append_left _ (List.mem_append_left _ (List.mem_append_left _ (List.mem_append_left _ (List.mem_append_left _ (List.mem_append_left _ (List.mem_append_right _ (List.mem_append_right _ (List.mem_append_right _ (List.mem_append_right _ (List.mem_append_right _ (List.mem_append_right _ (List.mem_append_right _ (List.mem_append_right _ (List.mem_append_right _ (List.mem_append_right _ (List.mem_append_right _ (List.mem_append_right _ (List.mem_append_left _ h))))))))))))))))))))))))
theorem wr_14 : ∀ w ∈ wsL_law0_r14, w ∈ wsL_law := fun _ h => (List.mem_append_left _ (List.mem_append_left _ (List.mem_append_left _ (List.mem_append_left _ (List.mem_append_left _ (List.mem_append_left _ (List.mem_append_left _ (List.mem_append_left _ (List.mem_append_left _ (List.mem_append_left _ (List.mem_append_left _ (List.mem_append_right _ (List.mem_append_right _ (List.mem_append_right _ (List.mem_append_right _ (List.mem_append_right _ (List.mem_append_right _ (List.mem_append_right _ (List.mem_append_right _ (List.mem_append_right _ (List.mem_append_right _ (List.mem_append_right _ (List.mem_append_right _ (List.mem_append_right _ (List.mem_append_left _ h)))))))))))))))))))))))))
theorem wr_15 : ∀ w ∈ wsL_law0_r15, w ∈ wsL_law := fun _ h => (List.mem_append_left _ (List.mem_append_left _ (List.mem_append_left _ (List.mem_append_left _ (List.mem_append_left _ (List.mem_append_left _ (List.mem_append_left _ (List.mem_append_left _ (List.mem_append_left _ (List.mem_append_left _ (List.mem_append_left _ (List.mem_append_right _ (List.mem_append_right _ (List.mem_append_right _ (List.mem_append_right _ (List.mem_append_right _ (List.mem_append_right _ (List.mem_append_right _ (List.mem_append_right _ (List.mem_append_right _ (List.mem_append_right _ (List.mem_append_right _ (List.mem_append_right _ (List.mem_append_right _ (List.mem_append_right _ (List.mem_append_left _ h))))))))))))))))))))))))))
theorem wr_16 : ∀ w ∈ wsL_law0_r16, w ∈ wsL_law := fun _ h => (List.mem_append_left _ (List.mem_append_left _ (List.mem_append_left _ (List.mem_append_left _ (List.mem_append_left _ (List.mem_append_left _ (List.mem_append_left _ (List.mem_append_left _ (List.mem_append_left _ (List.mem_append_left _ (List.mem_append_left _ (List.mem_append_right _ (List.mem_append_right _ (List.mem_append_right _ (List.mem_append_right _ (List.mem_append_right _ (List.mem_append_right _ (List.mem_append_right _ (List.mem_append_right _ (List.mem_append_right _ (List.mem_append_right _ (List.mem_append_right _ (List.mem_append_right _ (List.mem_append_right _ (List.mem_append_right _ (List.mem_append_right _ (List.mem_append_left _ h)))))))))))))))))))))))))))
theorem wr_17 : ∀ w ∈ wsL_law0_r17, w ∈ wsL_law := fun _ h => (List.mem_append_left _ (List.mem_append_left _ (List.mem_append_left _ (List.mem_append_left _ (List.mem_append_left _ (List.mem_append_left _ (List.mem_append_left _ (List.mem_append_left _ (List.mem_append_left _ (List.mem_append_left _ (List.mem_append_left _ (List.mem_append_right _ (List.mem_append_right _ (List.mem_append_right _ (List.mem_append_right _ (List.mem_append_right _ (List.mem_append_right _ (List.mem_append_right _ (List.mem_append_right _ (List.mem_append_right _ (List.mem_append_right _ (List.mem_append_right _ (List.mem_append_right _ (List.mem_append_right _ (List.mem_append_right _ (List.mem_append_right _ (List.mem_append_right _ (List.mem_append_left _ h))))))))))))))))))))))))))))
theorem wr_18 : ∀ w ∈ wsL_law0_r18, w ∈ wsL_law := fun _ h => (List.mem_append_left _ (List.mem_append_left _ (List.mem_append_left _ (List.mem_append_left _ (List.mem_append_left _ (List.mem_append_left _ (List.mem_append_left _ (List.mem_append_left _ (List.mem_append_left _ (List.mem_append_left _ (List.mem_append_left _ (List.mem_append_right _ (List.mem_append_right _ (List.mem_append_right _ (List.mem_append_right _ (List.mem_append_right _ (List.mem_append_right _ (List.mem_append_right _ (List.mem_append_right _ (List.mem_append_right _ (List.mem_append_right _ (List.mem_append_right _ (List.mem_append_right _ (List.mem_append_right _ (List.mem_append_right _ (List.mem_append_right _ (List.mem_append_right _ (List.mem_append_right _ (List.mem_append_left _ h)))))))))))))))))))))))))))))
theorem wr_19 : ∀ w ∈ wsL_law0_r19, w ∈ wsL_law := fun _ h => (List.mem_append_left _ (List.mem_append_left _ (List.mem_append_left _ (List.mem_append_left _ (List.mem_append_left _ (List.mem_append_left _ (List.mem_append_left _ (List.mem_append_left _ (List.mem_append_left _ (List.mem_append_left _ (List.mem_append_left _ (List.mem_append_right _ (List.mem_append_right _ (List.mem_append_right _ (List.mem_append_right _ (List.mem_append_right _ (List.mem_append_right _ (List.mem_append_right _ (List.mem_append_right _ (List.mem_append_right _ (List.mem_append_right _ (List.mem_append_right _ (List.mem_append_right _ (List.mem_append_right _ (List.mem_append_right _ (List.mem_append_right _ (List.mem_append_right _ (List.mem_append_right _ (List.mem_append_right _ (List.mem_append_left _ h))))))))))))))))))))))))))))))
theorem wr_20 : ∀ w ∈ wsL_law0_r20, w ∈ wsL_law := fun _ h => (List.mem_append_left _ (List.mem_append_left _ (List.mem_append_left _ (List.mem_append_left _ (List.mem_append_left _ (List.mem_append_left _ (List.mem_append_left _ (List.mem_append_left _ (List.mem_append_left _ (List.mem_append_left _ (List.mem_append_left _ (List.mem_append_right _ (List.mem_append_right _ (List.mem_append_right _ (List.mem_append_right _ (List.mem_append_right _ (List.mem_append_right _ (List.mem_append_right _ (List.mem_append_right _ (List.mem_append_right _ (List.mem_append_right _ (List.mem_append_right _ (List.mem_append_right _ (List.mem_append_right _ (List.mem_append_right _ (List.mem_append_right _ (List.mem_append_right _ (List.mem_append_right _ (List.mem_append_right _ (List.mem_append_right _ (List.mem_append_left _ h)))))))))))))))))))))))))))))))
theorem wr_21 : ∀ w ∈ wsL_law0_r21, w ∈ wsL_law := fun _ h => (List.mem_append_left _ (List.mem_append_left _ (List.mem_append_left _ (List.mem_append_left _ (List.mem_append_left _ (List.mem_append_left _ (List.mem_append_left _ (List.mem_append_left _ (List.mem_append_left _ (List.mem_append_left _ (List.mem_append_left _ (List.mem_append_right _ (List.mem_append_right _ (List.mem_append_right _ (List.mem_append_right _ (List.mem_append_right _ (List.mem_append_right _ (List.mem_append_right _ (List.mem_append_right _ (List.mem_append_right _ (List.mem_append_right _ (List.mem_append_right _ (List.mem_append_right _ (List.mem_append_right _ (List.mem_append_right _ (List.mem_append_right _ (List.mem_append_right _ (List.mem_append_right _ (List.mem_append_right _ (List.mem_append_right _ (List.mem_append_right _ (List.mem_append_left _ h))))))))))))))))))))))))))))))))
theorem wr_22 : ∀ w ∈ wsL_law0_r22, w ∈ wsL_law := fun _ h => (List.mem_append_left _ (List.mem_append_left _ (List.mem_append_left _ (List.mem_append_left _ (List.mem_append_left _ (List.mem_append_left _ (List.mem_append_left _ (List.mem_append_left _ (List.mem_append_left _ (List.mem_append_left _ (List.mem_append_left _ (List.mem_append_right _ (List.mem_append_right _ (List.mem_append_right _ (List.mem_append_right _ (List.mem_append_right _ (List.mem_append_right _ (List.mem_append_right _ (List.mem_append_right _ (List.mem_append_right _ (List.mem_append_right _ (List.mem_append_right _ (List.mem_append_right _ (List.mem_append_right _ (List.mem_append_right _ (List.mem_append_right _ (List.mem_append_right _ (List.mem_append_right _ (List.mem_append_right _ (List.mem_append_right _ (List.mem_append_right _ (List.mem_append_right _ (List.mem_append_left _ h)))))))))))))))))))))))))))))))))
theorem wr_23 : ∀ w ∈ wsL_law0_r23, w ∈ wsL_law := fun _ h => (List.mem_append_left _ (List.mem_append_left _ (List.mem_append_left _ (List.mem_append_left _ (List.mem_append_left _ (List.mem_append_left _ (List.mem_append_left _ (List.mem_append_left _ (List.mem_append_left _ (List.mem_append_left _ (List.mem_append_left _ (List.mem_append_right _ (List.mem_append_right _ (List.mem_append_right _ (List.mem_append_right _ (List.mem_append_right _ (List.mem_append_right _ (List.mem_append_right _ (List.mem_append_right _ (List.mem_append_right _ (List.mem_append_right _ (List.mem_append_right _ (List.mem_append_right _ (List.mem_append_right _ (List.mem_append_right _ (List.mem_append_right _ (List.mem_append_right _ (List.mem_append_right _ (List.mem_append_right _ (List.mem_append_right _ (List.mem_append_right _ (List.mem_append_right _ (List.mem_append_right _ (List.mem_append_left _ h))))))))))))))))))))))))))))))))))
theorem wr_24 : ∀ w ∈ wsL_law0_r24, w ∈ wsL_law := fun _ h => (List.mem_append_left _ (List.mem_append_left _ (List.mem_append_left _ (List.mem_append_left _ (List.mem_append_left _ (List.mem_append_left _ (List.mem_append_left _ (List.mem_append_left _ (List.mem_append_left _ (List.mem_append_left _ (List.mem_append_left _ (List.mem_append_right _ (List.mem_append_right _ (List.mem_append_right _ (List.mem_append_right _ (List.mem_append_right _ (List.mem_append_right _ (List.mem_append_right _ (List.mem_append_right _ (List.mem_append_right _ (List.mem_append_right _ (List.mem_append_right _ (List.mem_append_right _ (List.mem_append_right _ (List.mem_append_right _ (List.mem_append_right _ (List.mem_append_right _ (List.mem_append_right _ (List.mem_append_right _ (List.mem_append_right _ (List.mem_append_right _ (List.mem_append_right _ (List.mem_append_right _ (List.mem_append_right _ h))))))))))))))))))))))))))))))))))
abbrev M_X0_init : MT := (yX0_init, cX0_init, 0, 1, none, [], 1, true, 1, 20)
abbrev M_X0_append : MT := (yX0_append, cX0_append, 0, 3, none, [], 3, true, 0, 0)
abbrev M_X0_cost : MT := (yX0_cost, cX0_cost, 0, 3, (some .int), [], 1, true, 0, 0)
abbrev M_X0_hasLockOf : MT := (yX0_hasLockOf, cX0_hasLockOf, 0, 3, (some .boolean), [], 2, true, 0, 0)
abbrev M_X0_greatestSection : MT := (yX0_greatestSection, cX0_greatestSection, 0, 4, (some .int), [], 2, true, 1, 24)
abbrev M_X0_sectionFrom : MT := (yX0_sectionFrom, cX0_sectionFrom, 0, 5, (some .int), [], 3, true, 0, 0)
abbrev M_X1_init : MT := (yX1_init, cX1_init, 1, 1, none, [], 1, true, 1, 20)
abbrev M_X1_begin : MT := (yX1_begin, cX1_begin, 1, 4, none, [], 4, true, 0, 0)
abbrev M_X1_passStep : MT := (yX1_passStep, cX1_passStep, 1, 1, none, [], 1, true, 0, 0)
abbrev M_X1_blockAt : MT := (yX1_blockAt, cX1_blockAt, 1, 3, none, [], 3, true, 0, 0)
abbrev M_X1_resume : MT := (yX1_resume, cX1_resume, 1, 2, none, [], 2, true, 1, 20)
abbrev M_X1_end : MT := (yX1_end, cX1_end, 1, 1, none, [], 1, true, 0, 0)
abbrev M_X1_inheritsAhead : MT := (yX1_inheritsAhead, cX1_inheritsAhead, 1, 2, (some .boolean), [], 2, true, 0, 0)
abbrev M_X2_init : MT := (yX2_init, cX2_init, 2, 1, none, [], 1, true, 1, 20)
abbrev M_X2_add : MT := (yX2_add, cX2_add, 2, 4, none, [], 4, true, 0, 0)
abbrev M_X2_answer : MT := (yX2_answer, cX2_answer, 2, 4, (some .int), [], 3, true, 1, 21)
abbrev M_X3_init : MT := (yX3_init, cX3_init, 3, 4, none, [], 4, true, 1, 20)
abbrev M_X4_init : MT := (yX4_init, cX4_init, 4, 1, none, [], 1, true, 1, 20)
abbrev M_X4_addDone : MT := (yX4_addDone, cX4_addDone, 4, 2, none, [], 2, true, 1, 21)
abbrev M_X5_init : MT := (yX5_init, cX5_init, 5, 7, none, [], 7, true, 2, 40)
abbrev M_X5_isPeriodicAt : MT := (yX5_isPeriodicAt, cX5_isPeriodicAt, 5, 2, (some .boolean), [], 2, true, 0, 0)
abbrev M_X5_isAtWork : MT := (yX5_isAtWork, cX5_isAtWork, 5, 1, (some .boolean), [], 1, true, 0, 0)
abbrev M_X6_init : MT := (yX6_init, cX6_init, 6, 2, none, [], 2, true, 2, 40)
abbrev M_X6_task : MT := (yX6_task, cX6_task, 6, 8, (some .int), [], 6, true, 6, 90)
abbrev M_X6_strict : MT := (yX6_strict, cX6_strict, 6, 3, (some .boolean), [], 3, true, 2, 43)
abbrev M_X6_mutex : MT := (yX6_mutex, cX6_mutex, 6, 5, (some .int), [], 3, true, 6, 90)
abbrev M_X6_step : MT := (yX6_step, cX6_step, 6, 5, (some .int), [], 4, true, 6, 90)
abbrev M_X6_start : MT := (yX6_start, cX6_start, 6, 1, none, [], 1, true, 6, 90)
abbrev M_X6_isTask : MT := (yX6_isTask, cX6_isTask, 6, 2, (some .boolean), [], 2, true, 1, 22)
abbrev M_X6_isMutex : MT := (yX6_isMutex, cX6_isMutex, 6, 2, (some .boolean), [], 2, true, 1, 22)
abbrev M_X6_isStep : MT := (yX6_isStep, cX6_isStep, 6, 3, (some .boolean), [], 3, true, 2, 43)
abbrev M_X6_within : MT := (yX6_within, cX6_within, 6, 3, (some .boolean), [], 3, false, 0, 0)
abbrev M_X6_release : MT := (yX6_release, cX6_release, 6, 2, (some .boolean), [], 2, true, 3, 66)
abbrev M_X6_tick : MT := (yX6_tick, cX6_tick, 6, 5, (some .int), [], 2, true, 6, 140)
abbrev M_X6_noteMisses : MT := (yX6_noteMisses, cX6_noteMisses, 6, 3, none, [], 1, true, 4, 91)
abbrev M_X6_releasePeriodic : MT := (yX6_releasePeriodic, cX6_releasePeriodic, 6, 2, none, [], 1, true, 3, 66)
abbrev M_X6_beginJob : MT := (yX6_beginJob, cX6_beginJob, 6, 2, none, [], 2, true, 2, 45)
abbrev M_X6_settle : MT := (yX6_settle, cX6_settle, 6, 3, (some (.object "TaskKernel$Task")), [], 1, true, 5, 118)
abbrev M_X6_workOneUnit : MT := (yX6_workOneUnit, cX6_workOneUnit, 6, 3, none, [], 2, true, 5, 118)
abbrev M_X6_goOn : MT := (yX6_goOn, cX6_goOn, 6, 8, none, [], 3, true, 4, 91)
abbrev M_X6_stepFails : MT := (yX6_stepFails, cX6_stepFails, 6, 5, (some .boolean), [], 4, true, 0, 0)
abbrev M_X6_endJob : MT := (yX6_endJob, cX6_endJob, 6, 4, none, [], 3, true, 3, 68)
abbrev M_X6_giveAway : MT := (yX6_giveAway, cX6_giveAway, 6, 3, none, [], 2, true, 2, 46)
abbrev M_X6_heirOf : MT := (yX6_heirOf, cX6_heirOf, 6, 5, (some (.object "TaskKernel$Task")), [], 2, true, 1, 21)
abbrev M_X6_nextChange : MT := (yX6_nextChange, cX6_nextChange, 6, 1, (some .int), [], 1, true, 0, 0)
abbrev M_X6_note : MT := (yX6_note, cX6_note, 6, 3, none, [], 3, true, 1, 23)
abbrev M_X6_mostUrgentReady : MT := (yX6_mostUrgentReady, cX6_mostUrgentReady, 6, 4, (some (.object "TaskKernel$Task")), [], 1, true, 2, 46)
abbrev M_X6_goesAhead : MT := (yX6_goesAhead, cX6_goesAhead, 6, 3, (some .boolean), [], 3, true, 0, 0)
abbrev M_X6_rankTasks : MT := (yX6_rankTasks, cX6_rankTasks, 6, 3, none, [], 1, true, 1, 24)
abbrev M_X6_liftToCeilings : MT := (yX6_liftToCeilings, cX6_liftToCeilings, 6, 3, none, [], 1, true, 0, 0)
abbrev M_X6_lendOnce : MT := (yX6_lendOnce, cX6_lendOnce, 6, 5, (some .boolean), [], 1, true, 0, 0)
abbrev M_X6_urgencyOf : MT := (yX6_urgencyOf, cX6_urgencyOf, 6, 2, (some .int), [], 2, true, 2, 46)
abbrev M_X6_seen : MT := (yX6_seen, cX6_seen, 6, 4, (some .int), [], 3, true, 3, 67)
abbrev M_X6_held : MT := (yX6_held, cX6_held, 6, 4, (some .int), [], 3, true, 2, 45)
abbrev M_X6_event : MT := (yX6_event, cX6_event, 6, 3, (some .int), [], 3, true, 2, 44)
abbrev M_X6_look : MT := (yX6_look, cX6_look, 6, 2, (some .int), [], 2, true, 0, 0)
abbrev M_X6_countBlockedAt : MT := (yX6_countBlockedAt, cX6_countBlockedAt, 6, 4, (some .int), [], 2, true, 0, 0)
abbrev M_X6_response : MT := (yX6_response, cX6_response, 6, 7, (some .int), [], 2, true, 6, 94)
abbrev M_X6_load : MT := (yX6_load, cX6_load, 6, 5, (some .double), [], 1, true, 1, 22)
abbrev M_X6_blockingOf : MT := (yX6_blockingOf, cX6_blockingOf, 6, 4, (some .int), [], 2, true, 3, 71)
abbrev M_X6_greatestSectionBelow : MT := (yX6_greatestSectionBelow, cX6_greatestSectionBelow, 6, 5, (some .int), [], 3, true, 2, 47)
abbrev M_X6_interferenceWith : MT := (yX6_interferenceWith, cX6_interferenceWith, 6, 6, (some .int), [], 3, true, 1, 22)
abbrev M_X6_ceilOf : MT := (yX6_ceilOf, cX6_ceilOf, 6, 4, (some .int), [], 2, true, 1, 22)
abbrev M_X7_init : MT := (yX7_init, cX7_init, 7, 2, none, [], 2, true, 1, 20)
abbrev M_X7_thrown : MT := (yX7_thrown, cX7_thrown, 7, 1, (some .int), [], 1, true, 0, 0)
abbrev M_X7_in : MT := (yX7_in, cX7_in, 7, 3, (some .boolean), [], 3, false, 0, 0)
abbrev M_X7_isTask : MT := (yX7_isTask, cX7_isTask, 7, 2, (some .boolean), [], 2, true, 0, 0)
abbrev M_X7_task : MT := (yX7_task, cX7_task, 7, 7, (some .int), [], 6, true, 1, 22)
abbrev M_X7_strict : MT := (yX7_strict, cX7_strict, 7, 3, (some .boolean), [], 3, true, 1, 21)
abbrev M_X7_mutex : MT := (yX7_mutex, cX7_mutex, 7, 4, (some .int), [], 3, true, 1, 22)
abbrev M_X7_step : MT := (yX7_step, cX7_step, 7, 5, (some .int), [], 4, true, 1, 22)
abbrev M_X7_start : MT := (yX7_start, cX7_start, 7, 1, none, [], 1, true, 0, 0)
abbrev M_X7_better : MT := (yX7_better, cX7_better, 7, 3, (some .boolean), [], 3, true, 0, 0)
abbrev M_X7_weigh : MT := (yX7_weigh, cX7_weigh, 7, 5, none, [], 1, true, 1, 22)
abbrev M_X7_first : MT := (yX7_first, cX7_first, 7, 4, (some .int), [], 1, true, 2, 46)
abbrev M_X7_note : MT := (yX7_note, cX7_note, 7, 3, none, [], 3, true, 0, 0)
abbrev M_X7_ready : MT := (yX7_ready, cX7_ready, 7, 2, none, [], 2, true, 0, 0)
abbrev M_X7_begin : MT := (yX7_begin, cX7_begin, 7, 2, none, [], 2, true, 1, 22)
abbrev M_X7_give : MT := (yX7_give, cX7_give, 7, 5, none, [], 2, true, 2, 46)
abbrev M_X7_over : MT := (yX7_over, cX7_over, 7, 5, none, [], 4, true, 3, 70)
abbrev M_X7_atWork : MT := (yX7_atWork, cX7_atWork, 7, 2, (some .boolean), [], 2, true, 0, 0)
abbrev M_X7_goOn : MT := (yX7_goOn, cX7_goOn, 7, 4, none, [], 3, true, 5, 117)
abbrev M_X7_lock : MT := (yX7_lock, cX7_lock, 7, 4, none, [], 4, true, 4, 94)
abbrev M_X7_release : MT := (yX7_release, cX7_release, 7, 2, (some .boolean), [], 2, true, 2, 43)
abbrev M_X7_arrivals : MT := (yX7_arrivals, cX7_arrivals, 7, 2, none, [], 1, true, 4, 94)
abbrev M_X7_work : MT := (yX7_work, cX7_work, 7, 3, none, [], 2, true, 6, 140)
abbrev M_X7_pass : MT := (yX7_pass, cX7_pass, 7, 2, (some .boolean), [], 1, true, 7, 162)
abbrev M_X7_tick : MT := (yX7_tick, cX7_tick, 7, 4, (some .int), [], 2, true, 8, 183)
abbrev M_X7_seen : MT := (yX7_seen, cX7_seen, 7, 3, (some .int), [], 3, true, 2, 46)
abbrev M_X7_ceil : MT := (yX7_ceil, cX7_ceil, 7, 6, (some .int), [], 2, true, 0, 0)
abbrev M_X7_held : MT := (yX7_held, cX7_held, 7, 5, (some .int), [], 3, true, 1, 25)
abbrev M_X7_event : MT := (yX7_event, cX7_event, 7, 4, (some .int), [], 3, true, 0, 0)
abbrev M_X7_cost : MT := (yX7_cost, cX7_cost, 7, 4, (some .int), [], 2, true, 0, 0)
abbrev M_X7_section : MT := (yX7_section, cX7_section, 7, 7, (some .int), [], 3, true, 0, 0)
abbrev M_X7_blocking : MT := (yX7_blocking, cX7_blocking, 7, 6, (some .int), [], 2, true, 1, 26)
abbrev M_X7_response : MT := (yX7_response, cX7_response, 7, 7, (some .int), [], 2, true, 2, 51)
abbrev M_X7_load : MT := (yX7_load, cX7_load, 7, 4, (some .double), [], 1, true, 1, 23)
abbrev M_X7_look : MT := (yX7_look, cX7_look, 7, 2, (some .int), [], 2, true, 0, 0)
abbrev M_L_cell : MT := (yL_cell, cL_cell, 8, 2, (some .int), [], 2, false, 0, 0)
abbrev M_L_task : MT := (yL_task, cL_task, 8, 8, (some .int), [(0, 16, 19, 13), (0, 16, 23, 15)], 7, false, 7, 117)
abbrev M_L_mutex : MT := (yL_mutex, cL_mutex, 8, 5, (some .int), [(0, 10, 13, 13), (0, 10, 17, 15)], 4, false, 7, 114)
abbrev M_L_step : MT := (yL_step, cL_step, 8, 6, (some .int), [(0, 12, 15, 13), (0, 12, 19, 15)], 5, false, 7, 114)
abbrev M_L_start : MT := (yL_start, cL_start, 8, 2, (some .int), [(0, 4, 7, 15)], 1, false, 7, 110)
abbrev M_L_tick : MT := (yL_tick, cL_tick, 8, 4, (some .int), [(0, 9, 12, 13), (0, 9, 15, 15)], 3, false, 7, 164)
abbrev M_L_response : MT := (yL_response, cL_response, 8, 4, (some .int), [(0, 9, 12, 13)], 3, false, 7, 120)
abbrev M_L_law : MT := (yL_law, cL_law, 8, 9, (some .boolean), [], 1, false, 11, 412)
theorem fl_0_9 : FieldOk 0 9 1 0 := ⟨(wr_5 _ (List.mem_of_getElem? (i := 19) rfl)), by decide, by decide, by decide⟩
theorem fl_0_15 : FieldOk 0 15 1 1 := ⟨(wr_5 _ (List.mem_of_getElem? (i := 20) rfl)), by decide, by decide, by decide⟩
theorem fl_0_18 : FieldOk 0 18 1 2 := ⟨(wr_9 _ (List.mem_of_getElem? (i := 6) rfl)), by decide, by decide, by decide⟩
theorem fl_1_9 : FieldOk 1 9 2 0 := ⟨(wr_6 _ (List.mem_of_getElem? (i := 0) rfl)), by decide, by decide, by decide⟩
theorem fl_1_15 : FieldOk 1 15 2 1 := ⟨(wr_11 _ (List.mem_of_getElem? (i := 9) rfl)), by decide, by decide, by decide⟩
theorem fl_1_18 : FieldOk 1 18 2 2 := ⟨(wr_11 _ (List.mem_of_getElem? (i := 10) rfl)), by decide, by decide, by decide⟩
theorem fl_1_21 : FieldOk 1 21 2 3 := ⟨(wr_11 _ (List.mem_of_getElem? (i := 11) rfl)), by decide, by decide, by decide⟩
theorem fl_1_24 : FieldOk 1 24 2 4 := ⟨(wr_11 _ (List.mem_of_getElem? (i := 12) rfl)), by decide, by decide, by decide⟩
theorem fl_1_27 : FieldOk 1 27 2 5 := ⟨(wr_11 _ (List.mem_of_getElem? (i := 13) rfl)), by decide, by decide, by decide⟩
theorem fl_1_30 : FieldOk 1 30 2 6 := ⟨(wr_11 _ (List.mem_of_getElem? (i := 14) rfl)), by decide, by decide, by decide⟩
theorem fl_1_33 : FieldOk 1 33 2 7 := ⟨(wr_13 _ (List.mem_of_getElem? (i := 9) rfl)), by decide, by decide, by decide⟩
theorem fl_1_40 : FieldOk 1 40 2 8 := ⟨(wr_14 _ (List.mem_of_getElem? (i := 15) rfl)), by decide, by decide, by decide⟩
theorem fl_2_9 : FieldOk 2 9 3 0 := ⟨(wr_2 _ (List.mem_of_getElem? (i := 6) rfl)), by decide, by decide, by decide⟩
theorem fl_2_15 : FieldOk 2 15 3 1 := ⟨(wr_2 _ (List.mem_of_getElem? (i := 7) rfl)), by decide, by decide, by decide⟩
theorem fl_2_18 : FieldOk 2 18 3 2 := ⟨(wr_2 _ (List.mem_of_getElem? (i := 8) rfl)), by decide, by decide, by decide⟩
theorem fl_2_21 : FieldOk 2 21 3 4 := ⟨(wr_10 _ (List.mem_of_getElem? (i := 22) rfl)), by decide, by decide, by decide⟩
theorem fl_2_25 : FieldOk 2 25 3 3 := ⟨(wr_10 _ (List.mem_of_getElem? (i := 23) rfl)), by decide, by decide, by decide⟩
theorem fl_3_7 : FieldOk 3 7 4 0 := ⟨(wr_8 _ (List.mem_of_getElem? (i := 1) rfl)), by decide, by decide, by decide⟩
theorem fl_3_13 : FieldOk 3 13 4 1 := ⟨(wr_8 _ (List.mem_of_getElem? (i := 2) rfl)), by decide, by decide, by decide⟩
theorem fl_3_16 : FieldOk 3 16 4 2 := ⟨(wr_8 _ (List.mem_of_getElem? (i := 3) rfl)), by decide, by decide, by decide⟩
theorem fl_4_7 : FieldOk 4 7 5 0 := ⟨(wr_17 _ (List.mem_of_getElem? (i := 2) rfl)), by decide, by decide, by decide⟩
theorem fl_4_13 : FieldOk 4 13 5 5 := ⟨(wr_17 _ (List.mem_of_getElem? (i := 3) rfl)), by decide, by decide, by decide⟩
theorem fl_5_12 : FieldOk 5 12 6 6 := ⟨(wr_5 _ (List.mem_of_getElem? (i := 1) rfl)), by decide, by decide, by decide⟩
theorem fl_5_21 : FieldOk 5 21 6 7 := ⟨(wr_5 _ (List.mem_of_getElem? (i := 5) rfl)), by decide, by decide, by decide⟩
theorem fl_5_28 : FieldOk 5 28 6 8 := ⟨(wr_5 _ (List.mem_of_getElem? (i := 9) rfl)), by decide, by decide, by decide⟩
theorem fl_5_32 : FieldOk 5 32 6 0 := ⟨(wr_5 _ (List.mem_of_getElem? (i := 10) rfl)), by decide, by decide, by decide⟩
theorem fl_5_36 : FieldOk 5 36 6 1 := ⟨(wr_5 _ (List.mem_of_getElem? (i := 11) rfl)), by decide, by decide, by decide⟩
theorem fl_5_39 : FieldOk 5 39 6 2 := ⟨(wr_5 _ (List.mem_of_getElem? (i := 12) rfl)), by decide, by decide, by decide⟩
theorem fl_5_42 : FieldOk 5 42 6 3 := ⟨(wr_5 _ (List.mem_of_getElem? (i := 13) rfl)), by decide, by decide, by decide⟩
theorem fl_5_45 : FieldOk 5 45 6 4 := ⟨(wr_5 _ (List.mem_of_getElem? (i := 14) rfl)), by decide, by decide, by decide⟩
theorem fl_5_48 : FieldOk 5 48 6 5 := ⟨(wr_5 _ (List.mem_of_getElem? (i := 15) rfl)), by decide, by decide, by decide⟩
theorem fl_5_51 : FieldOk 5 51 2 1 := ⟨(wr_16 _ (List.mem_of_getElem? (i := 2) rfl)), by decide, by decide, by decide⟩
theorem fl_5_54 : FieldOk 5 54 1 2 := ⟨(wr_16 _ (List.mem_of_getElem? (i := 3) rfl)), by decide, by decide, by decide⟩
theorem fl_5_57 : FieldOk 5 57 1 0 := ⟨(wr_16 _ (List.mem_of_getElem? (i := 4) rfl)), by decide, by decide, by decide⟩
theorem fl_6_11 : FieldOk 6 11 7 1 := ⟨(wr_1 _ (List.mem_of_getElem? (i := 18) rfl)), by decide, by decide, by decide⟩
theorem fl_6_17 : FieldOk 6 17 7 2 := ⟨(wr_1 _ (List.mem_of_getElem? (i := 20) rfl)), by decide, by decide, by decide⟩
theorem fl_6_24 : FieldOk 6 24 7 3 := ⟨(wr_2 _ (List.mem_of_getElem? (i := 0) rfl)), by decide, by decide, by decide⟩
theorem fl_6_28 : FieldOk 6 28 7 0 := ⟨(wr_2 _ (List.mem_of_getElem? (i := 1) rfl)), by decide, by decide, by decide⟩
theorem fl_6_43 : FieldOk 6 43 7 6 := ⟨(wr_4 _ (List.mem_of_getElem? (i := 11) rfl)), by decide, by decide, by decide⟩
theorem fl_6_46 : FieldOk 6 46 7 4 := ⟨(wr_4 _ (List.mem_of_getElem? (i := 12) rfl)), by decide, by decide, by decide⟩
theorem fl_6_62 : FieldOk 6 62 6 9 := ⟨(wr_6 _ (List.mem_of_getElem? (i := 22) rfl)), by decide, by decide, by decide⟩
theorem fl_6_67 : FieldOk 6 67 7 5 := ⟨(wr_7 _ (List.mem_of_getElem? (i := 18) rfl)), by decide, by decide, by decide⟩
theorem fl_6_81 : FieldOk 6 81 6 6 := ⟨(wr_8 _ (List.mem_of_getElem? (i := 16) rfl)), by decide, by decide, by decide⟩
theorem fl_6_85 : FieldOk 6 85 1 2 := ⟨(wr_8 _ (List.mem_of_getElem? (i := 17) rfl)), by decide, by decide, by decide⟩
theorem fl_6_101 : FieldOk 6 101 6 2 := ⟨(wr_10 _ (List.mem_of_getElem? (i := 2) rfl)), by decide, by decide, by decide⟩
theorem fl_6_125 : FieldOk 6 125 7 7 := ⟨(wr_10 _ (List.mem_of_getElem? (i := 11) rfl)), by decide, by decide, by decide⟩
theorem fl_6_128 : FieldOk 6 128 6 7 := ⟨(wr_10 _ (List.mem_of_getElem? (i := 7) rfl)), by decide, by decide, by decide⟩
theorem fl_6_132 : FieldOk 6 132 2 0 := ⟨(wr_10 _ (List.mem_of_getElem? (i := 8) rfl)), by decide, by decide, by decide⟩
theorem fl_6_137 : FieldOk 6 137 2 5 := ⟨(wr_12 _ (List.mem_of_getElem? (i := 21) rfl)), by decide, by decide, by decide⟩
theorem fl_6_140 : FieldOk 6 140 6 8 := ⟨(wr_10 _ (List.mem_of_getElem? (i := 9) rfl)), by decide, by decide, by decide⟩
theorem fl_6_144 : FieldOk 6 144 5 2 := ⟨(wr_12 _ (List.mem_of_getElem? (i := 22) rfl)), by decide, by decide, by decide⟩
theorem fl_6_153 : FieldOk 6 153 5 1 := ⟨(wr_12 _ (List.mem_of_getElem? (i := 23) rfl)), by decide, by decide, by decide⟩
theorem fl_6_163 : FieldOk 6 163 5 3 := ⟨(wr_10 _ (List.mem_of_getElem? (i := 10) rfl)), by decide, by decide, by decide⟩
theorem fl_6_166 : FieldOk 6 166 6 4 := ⟨(wr_10 _ (List.mem_of_getElem? (i := 12) rfl)), by decide, by decide, by decide⟩
theorem fl_6_186 : FieldOk 6 186 7 8 := ⟨(wr_15 _ (List.mem_of_getElem? (i := 20) rfl)), by decide, by decide, by decide⟩
theorem fl_6_190 : FieldOk 6 190 2 3 := ⟨(wr_17 _ (List.mem_of_getElem? (i := 12) rfl)), by decide, by decide, by decide⟩
theorem fl_6_193 : FieldOk 6 193 2 2 := ⟨(wr_17 _ (List.mem_of_getElem? (i := 13) rfl)), by decide, by decide, by decide⟩
theorem fl_6_196 : FieldOk 6 196 5 4 := ⟨(wr_17 _ (List.mem_of_getElem? (i := 14) rfl)), by decide, by decide, by decide⟩
theorem fl_6_197 : FieldOk 6 197 6 5 := ⟨(wr_17 _ (List.mem_of_getElem? (i := 15) rfl)), by decide, by decide, by decide⟩
theorem fl_6_200 : FieldOk 6 200 1 1 := ⟨(wr_16 _ (List.mem_of_getElem? (i := 11) rfl)), by decide, by decide, by decide⟩
theorem fl_6_204 : FieldOk 6 204 2 1 := ⟨(wr_16 _ (List.mem_of_getElem? (i := 9) rfl)), by decide, by decide, by decide⟩
theorem fl_6_210 : FieldOk 6 210 1 0 := ⟨(wr_16 _ (List.mem_of_getElem? (i := 10) rfl)), by decide, by decide, by decide⟩
theorem fl_6_221 : FieldOk 6 221 4 3 := ⟨(wr_13 _ (List.mem_of_getElem? (i := 4) rfl)), by decide, by decide, by decide⟩
theorem fl_6_228 : FieldOk 6 228 2 4 := ⟨(wr_16 _ (List.mem_of_getElem? (i := 12) rfl)), by decide, by decide, by decide⟩
theorem fl_6_235 : FieldOk 6 235 4 1 := ⟨(wr_14 _ (List.mem_of_getElem? (i := 0) rfl)), by decide, by decide, by decide⟩
theorem fl_6_238 : FieldOk 6 238 6 1 := ⟨(wr_13 _ (List.mem_of_getElem? (i := 18) rfl)), by decide, by decide, by decide⟩
theorem fl_6_241 : FieldOk 6 241 4 2 := ⟨(wr_14 _ (List.mem_of_getElem? (i := 1) rfl)), by decide, by decide, by decide⟩
theorem fl_6_257 : FieldOk 6 257 2 7 := ⟨(wr_14 _ (List.mem_of_getElem? (i := 6) rfl)), by decide, by decide, by decide⟩
theorem fl_6_265 : FieldOk 6 265 7 9 := ⟨(wr_11 _ (List.mem_of_getElem? (i := 4) rfl)), by decide, by decide, by decide⟩
theorem fl_6_268 : FieldOk 6 268 6 0 := ⟨(wr_10 _ (List.mem_of_getElem? (i := 17) rfl)), by decide, by decide, by decide⟩
theorem fl_6_278 : FieldOk 6 278 2 8 := ⟨(wr_13 _ (List.mem_of_getElem? (i := 19) rfl)), by decide, by decide, by decide⟩
theorem fl_6_281 : FieldOk 6 281 2 6 := ⟨(wr_15 _ (List.mem_of_getElem? (i := 21) rfl)), by decide, by decide, by decide⟩
theorem fl_6_294 : FieldOk 6 294 5 0 := ⟨(wr_19 _ (List.mem_of_getElem? (i := 20) rfl)), by decide, by decide, by decide⟩
theorem fl_6_297 : FieldOk 6 297 5 5 := ⟨(wr_19 _ (List.mem_of_getElem? (i := 21) rfl)), by decide, by decide, by decide⟩
theorem fl_6_300 : FieldOk 6 300 4 0 := ⟨(wr_19 _ (List.mem_of_getElem? (i := 22) rfl)), by decide, by decide, by decide⟩
theorem fl_6_313 : FieldOk 6 313 3 3 := ⟨(wr_24 _ (List.mem_of_getElem? (i := 11) rfl)), by decide, by decide, by decide⟩
theorem fl_7_7 : FieldOk 7 7 8 4 := ⟨(wr_2 _ (List.mem_of_getElem? (i := 13) rfl)), by decide, by decide, by decide⟩
theorem fl_7_13 : FieldOk 7 13 8 7 := ⟨(wr_2 _ (List.mem_of_getElem? (i := 14) rfl)), by decide, by decide, by decide⟩
theorem fl_7_17 : FieldOk 7 17 8 8 := ⟨(wr_2 _ (List.mem_of_getElem? (i := 15) rfl)), by decide, by decide, by decide⟩
theorem fl_7_20 : FieldOk 7 20 8 9 := ⟨(wr_2 _ (List.mem_of_getElem? (i := 16) rfl)), by decide, by decide, by decide⟩
theorem fl_7_23 : FieldOk 7 23 8 10 := ⟨(wr_2 _ (List.mem_of_getElem? (i := 17) rfl)), by decide, by decide, by decide⟩
theorem fl_7_26 : FieldOk 7 26 8 11 := ⟨(wr_2 _ (List.mem_of_getElem? (i := 18) rfl)), by decide, by decide, by decide⟩
theorem fl_7_29 : FieldOk 7 29 8 12 := ⟨(wr_2 _ (List.mem_of_getElem? (i := 20) rfl)), by decide, by decide, by decide⟩
theorem fl_7_33 : FieldOk 7 33 8 13 := ⟨(wr_2 _ (List.mem_of_getElem? (i := 21) rfl)), by decide, by decide, by decide⟩
theorem fl_7_36 : FieldOk 7 36 8 14 := ⟨(wr_2 _ (List.mem_of_getElem? (i := 22) rfl)), by decide, by decide, by decide⟩
theorem fl_7_39 : FieldOk 7 39 8 15 := ⟨(wr_2 _ (List.mem_of_getElem? (i := 23) rfl)), by decide, by decide, by decide⟩
theorem fl_7_42 : FieldOk 7 42 8 16 := ⟨(wr_3 _ (List.mem_of_getElem? (i := 0) rfl)), by decide, by decide, by decide⟩
theorem fl_7_45 : FieldOk 7 45 8 17 := ⟨(wr_3 _ (List.mem_of_getElem? (i := 1) rfl)), by decide, by decide, by decide⟩
theorem fl_7_48 : FieldOk 7 48 8 18 := ⟨(wr_3 _ (List.mem_of_getElem? (i := 2) rfl)), by decide, by decide, by decide⟩
theorem fl_7_51 : FieldOk 7 51 8 19 := ⟨(wr_3 _ (List.mem_of_getElem? (i := 3) rfl)), by decide, by decide, by decide⟩
theorem fl_7_54 : FieldOk 7 54 8 20 := ⟨(wr_3 _ (List.mem_of_getElem? (i := 4) rfl)), by decide, by decide, by decide⟩
theorem fl_7_57 : FieldOk 7 57 8 21 := ⟨(wr_3 _ (List.mem_of_getElem? (i := 5) rfl)), by decide, by decide, by decide⟩
theorem fl_7_60 : FieldOk 7 60 8 22 := ⟨(wr_3 _ (List.mem_of_getElem? (i := 6) rfl)), by decide, by decide, by decide⟩
theorem fl_7_63 : FieldOk 7 63 8 23 := ⟨(wr_3 _ (List.mem_of_getElem? (i := 7) rfl)), by decide, by decide, by decide⟩
theorem fl_7_66 : FieldOk 7 66 8 24 := ⟨(wr_3 _ (List.mem_of_getElem? (i := 8) rfl)), by decide, by decide, by decide⟩
theorem fl_7_69 : FieldOk 7 69 8 25 := ⟨(wr_3 _ (List.mem_of_getElem? (i := 9) rfl)), by decide, by decide, by decide⟩
theorem fl_7_72 : FieldOk 7 72 8 26 := ⟨(wr_3 _ (List.mem_of_getElem? (i := 10) rfl)), by decide, by decide, by decide⟩
theorem fl_7_75 : FieldOk 7 75 8 27 := ⟨(wr_3 _ (List.mem_of_getElem? (i := 11) rfl)), by decide, by decide, by decide⟩
theorem fl_7_78 : FieldOk 7 78 8 28 := ⟨(wr_3 _ (List.mem_of_getElem? (i := 12) rfl)), by decide, by decide, by decide⟩
theorem fl_7_81 : FieldOk 7 81 8 29 := ⟨(wr_3 _ (List.mem_of_getElem? (i := 13) rfl)), by decide, by decide, by decide⟩
theorem fl_7_84 : FieldOk 7 84 8 30 := ⟨(wr_3 _ (List.mem_of_getElem? (i := 14) rfl)), by decide, by decide, by decide⟩
theorem fl_7_87 : FieldOk 7 87 8 32 := ⟨(wr_3 _ (List.mem_of_getElem? (i := 15) rfl)), by decide, by decide, by decide⟩
theorem fl_7_90 : FieldOk 7 90 8 33 := ⟨(wr_3 _ (List.mem_of_getElem? (i := 16) rfl)), by decide, by decide, by decide⟩
theorem fl_7_93 : FieldOk 7 93 8 34 := ⟨(wr_3 _ (List.mem_of_getElem? (i := 17) rfl)), by decide, by decide, by decide⟩
theorem fl_7_96 : FieldOk 7 96 8 36 := ⟨(wr_3 _ (List.mem_of_getElem? (i := 18) rfl)), by decide, by decide, by decide⟩
theorem fl_7_99 : FieldOk 7 99 8 37 := ⟨(wr_3 _ (List.mem_of_getElem? (i := 19) rfl)), by decide, by decide, by decide⟩
theorem fl_7_102 : FieldOk 7 102 8 38 := ⟨(wr_3 _ (List.mem_of_getElem? (i := 20) rfl)), by decide, by decide, by decide⟩
theorem fl_7_105 : FieldOk 7 105 8 1 := ⟨(wr_3 _ (List.mem_of_getElem? (i := 21) rfl)), by decide, by decide, by decide⟩
theorem fl_7_109 : FieldOk 7 109 8 0 := ⟨(wr_6 _ (List.mem_of_getElem? (i := 10) rfl)), by decide, by decide, by decide⟩
theorem fl_7_112 : FieldOk 7 112 8 6 := ⟨(wr_6 _ (List.mem_of_getElem? (i := 9) rfl)), by decide, by decide, by decide⟩
theorem fl_7_119 : FieldOk 7 119 8 2 := ⟨(wr_6 _ (List.mem_of_getElem? (i := 8) rfl)), by decide, by decide, by decide⟩
theorem fl_7_126 : FieldOk 7 126 8 31 := ⟨(wr_8 _ (List.mem_of_getElem? (i := 8) rfl)), by decide, by decide, by decide⟩
theorem fl_7_136 : FieldOk 7 136 8 35 := ⟨(wr_12 _ (List.mem_of_getElem? (i := 4) rfl)), by decide, by decide, by decide⟩
theorem fl_7_139 : FieldOk 7 139 8 3 := ⟨(wr_11 _ (List.mem_of_getElem? (i := 23) rfl)), by decide, by decide, by decide⟩
theorem fl_7_142 : FieldOk 7 142 8 5 := ⟨(wr_12 _ (List.mem_of_getElem? (i := 9) rfl)), by decide, by decide, by decide⟩
theorem ml_0_3 : Cond.methodLink (RN 0) 3 objectInit ∈ wsL_law := (wr_5 _ (List.mem_of_getElem? (i := 18) rfl))
theorem ml_0_22 : Cond.methodLink (RN 0) 22 yX0_sectionFrom ∈ wsL_law := (wr_22 _ (List.mem_of_getElem? (i := 23) rfl))
theorem ml_0_26 : Cond.methodLink (RN 0) 26 Lib.Math.max.name ∈ wsL_law := (wr_22 _ (List.mem_of_getElem? (i := 22) rfl))
theorem ml_1_3 : Cond.methodLink (RN 1) 3 objectInit ∈ wsL_law := (wr_5 _ (List.mem_of_getElem? (i := 23) rfl))
theorem ml_1_37 : Cond.methodLink (RN 1) 37 yX1_passStep ∈ wsL_law := (wr_14 _ (List.mem_of_getElem? (i := 20) rfl))
theorem ml_2_3 : Cond.methodLink (RN 2) 3 objectInit ∈ wsL_law := (wr_2 _ (List.mem_of_getElem? (i := 4) rfl))
theorem ml_2_28 : Cond.methodLink (RN 2) 28 Lib.Math.min.name ∈ wsL_law := (wr_21 _ (List.mem_of_getElem? (i := 16) rfl))
theorem ml_3_1 : Cond.methodLink (RN 3) 1 objectInit ∈ wsL_law := (wr_8 _ (List.mem_of_getElem? (i := 0) rfl))
theorem ml_4_1 : Cond.methodLink (RN 4) 1 objectInit ∈ wsL_law := (wr_6 _ (List.mem_of_getElem? (i := 3) rfl))
theorem ml_4_16 : Cond.methodLink (RN 4) 16 Lib.Math.max.name ∈ wsL_law := (wr_17 _ (List.mem_of_getElem? (i := 4) rfl))
theorem ml_5_3 : Cond.methodLink (RN 5) 3 objectInit ∈ wsL_law := (wr_4 _ (List.mem_of_getElem? (i := 21) rfl))
theorem ml_5_11 : Cond.methodLinkNest (RN 5) 11 yX0_init RX6 ∈ nestL := by simp [nestL, RN]
theorem ml_5_20 : Cond.methodLinkNest (RN 5) 20 yX1_init RX6 ∈ nestL := by simp [nestL, RN]
theorem ml_5_27 : Cond.methodLinkNest (RN 5) 27 yX4_init RX6 ∈ nestL := by simp [nestL, RN]
theorem ml_6_1 : Cond.methodLink (RN 6) 1 objectInit ∈ wsL_law := (wr_1 _ (List.mem_of_getElem? (i := 14) rfl))
theorem ml_6_23 : Cond.methodLinkNest (RN 6) 23 yX2_init RX6 ∈ nestL := by simp [nestL, RN]
theorem ml_6_32 : Cond.methodLink (RN 6) 32 yX6_within ∈ wsL_law := (wr_4 _ (List.mem_of_getElem? (i := 15) rfl))
theorem ml_6_55 : Cond.methodLink (RN 6) 55 yX5_init ∈ wsL_law := (wr_4 _ (List.mem_of_getElem? (i := 18) rfl))
theorem ml_6_58 : Cond.methodLink (RN 6) 58 yX6_isTask ∈ wsL_law := (wr_6 _ (List.mem_of_getElem? (i := 23) rfl))
theorem ml_6_72 : Cond.methodLink (RN 6) 72 yX3_init ∈ wsL_law := (wr_7 _ (List.mem_of_getElem? (i := 21) rfl))
theorem ml_6_75 : Cond.methodLink (RN 6) 75 yX6_isStep ∈ wsL_law := (wr_8 _ (List.mem_of_getElem? (i := 18) rfl))
theorem ml_6_92 : Cond.methodLink (RN 6) 92 yX0_append ∈ wsL_law := (wr_9 _ (List.mem_of_getElem? (i := 2) rfl))
theorem ml_6_98 : Cond.methodLink (RN 6) 98 yX6_isMutex ∈ wsL_law := (wr_8 _ (List.mem_of_getElem? (i := 22) rfl))
theorem ml_6_104 : Cond.methodLink (RN 6) 104 yX6_beginJob ∈ wsL_law := (wr_10 _ (List.mem_of_getElem? (i := 3) rfl))
theorem ml_6_112 : Cond.methodLink (RN 6) 112 yX6_noteMisses ∈ wsL_law := (wr_12 _ (List.mem_of_getElem? (i := 17) rfl))
theorem ml_6_115 : Cond.methodLink (RN 6) 115 yX6_releasePeriodic ∈ wsL_law := (wr_15 _ (List.mem_of_getElem? (i := 0) rfl))
theorem ml_6_118 : Cond.methodLink (RN 6) 118 yX6_settle ∈ wsL_law := (wr_15 _ (List.mem_of_getElem? (i := 8) rfl))
theorem ml_6_122 : Cond.methodLink (RN 6) 122 yX6_workOneUnit ∈ wsL_law := (wr_17 _ (List.mem_of_getElem? (i := 8) rfl))
theorem ml_6_149 : Cond.methodLink (RN 6) 149 yX6_note ∈ wsL_law := (wr_10 _ (List.mem_of_getElem? (i := 13) rfl))
theorem ml_6_156 : Cond.methodLink (RN 6) 156 yX6_endJob ∈ wsL_law := (wr_13 _ (List.mem_of_getElem? (i := 0) rfl))
theorem ml_6_160 : Cond.methodLink (RN 6) 160 yX5_isPeriodicAt ∈ wsL_law := (wr_15 _ (List.mem_of_getElem? (i := 4) rfl))
theorem ml_6_169 : Cond.methodLink (RN 6) 169 yX6_nextChange ∈ wsL_law := (wr_11 _ (List.mem_of_getElem? (i := 0) rfl))
theorem ml_6_173 : Cond.methodLink (RN 6) 173 yX1_begin ∈ wsL_law := (wr_11 _ (List.mem_of_getElem? (i := 5) rfl))
theorem ml_6_176 : Cond.methodLink (RN 6) 176 yX6_mostUrgentReady ∈ wsL_law := (wr_15 _ (List.mem_of_getElem? (i := 12) rfl))
theorem ml_6_179 : Cond.methodLink (RN 6) 179 yX5_isAtWork ∈ wsL_law := (wr_15 _ (List.mem_of_getElem? (i := 22) rfl))
theorem ml_6_183 : Cond.methodLink (RN 6) 183 yX6_goOn ∈ wsL_law := (wr_16 _ (List.mem_of_getElem? (i := 5) rfl))
theorem ml_6_207 : Cond.methodLink (RN 6) 207 yX1_passStep ∈ wsL_law := (wr_16 _ (List.mem_of_getElem? (i := 21) rfl))
theorem ml_6_213 : Cond.methodLink (RN 6) 213 yX6_stepFails ∈ wsL_law := (wr_16 _ (List.mem_of_getElem? (i := 13) rfl))
theorem ml_6_217 : Cond.methodLink (RN 6) 217 yX6_giveAway ∈ wsL_law := (wr_13 _ (List.mem_of_getElem? (i := 10) rfl))
theorem ml_6_224 : Cond.methodLink (RN 6) 224 yX1_blockAt ∈ wsL_law := (wr_16 _ (List.mem_of_getElem? (i := 17) rfl))
theorem ml_6_231 : Cond.methodLink (RN 6) 231 yX4_addDone ∈ wsL_law := (wr_16 _ (List.mem_of_getElem? (i := 22) rfl))
theorem ml_6_244 : Cond.methodLink (RN 6) 244 yX1_end ∈ wsL_law := (wr_13 _ (List.mem_of_getElem? (i := 5) rfl))
theorem ml_6_247 : Cond.methodLink (RN 6) 247 yX6_rankTasks ∈ wsL_law := (wr_13 _ (List.mem_of_getElem? (i := 14) rfl))
theorem ml_6_250 : Cond.methodLink (RN 6) 250 yX6_heirOf ∈ wsL_law := (wr_14 _ (List.mem_of_getElem? (i := 7) rfl))
theorem ml_6_254 : Cond.methodLink (RN 6) 254 yX1_resume ∈ wsL_law := (wr_14 _ (List.mem_of_getElem? (i := 16) rfl))
theorem ml_6_261 : Cond.methodLink (RN 6) 261 yX1_inheritsAhead ∈ wsL_law := (wr_14 _ (List.mem_of_getElem? (i := 11) rfl))
theorem ml_6_271 : Cond.methodLink (RN 6) 271 yX2_add ∈ wsL_law := (wr_10 _ (List.mem_of_getElem? (i := 18) rfl))
theorem ml_6_274 : Cond.methodLink (RN 6) 274 yX6_goesAhead ∈ wsL_law := (wr_15 _ (List.mem_of_getElem? (i := 16) rfl))
theorem ml_6_284 : Cond.methodLink (RN 6) 284 yX6_liftToCeilings ∈ wsL_law := (wr_13 _ (List.mem_of_getElem? (i := 20) rfl))
theorem ml_6_287 : Cond.methodLink (RN 6) 287 yX6_lendOnce ∈ wsL_law := (wr_14 _ (List.mem_of_getElem? (i := 2) rfl))
theorem ml_6_290 : Cond.methodLink (RN 6) 290 yX6_urgencyOf ∈ wsL_law := (wr_19 _ (List.mem_of_getElem? (i := 23) rfl))
theorem ml_6_301 : Cond.methodLink (RN 6) 301 yX6_countBlockedAt ∈ wsL_law := (wr_20 _ (List.mem_of_getElem? (i := 11) rfl))
theorem ml_6_305 : Cond.methodLink (RN 6) 305 yX6_ceilOf ∈ wsL_law := (wr_20 _ (List.mem_of_getElem? (i := 15) rfl))
theorem ml_6_309 : Cond.methodLink (RN 6) 309 yX2_answer ∈ wsL_law := (wr_21 _ (List.mem_of_getElem? (i := 12) rfl))
theorem ml_6_318 : Cond.methodLink (RN 6) 318 yX0_cost ∈ wsL_law := (wr_22 _ (List.mem_of_getElem? (i := 6) rfl))
theorem ml_6_321 : Cond.methodLink (RN 6) 321 yX6_blockingOf ∈ wsL_law := (wr_22 _ (List.mem_of_getElem? (i := 10) rfl))
theorem ml_6_324 : Cond.methodLink (RN 6) 324 yX6_interferenceWith ∈ wsL_law := (wr_23 _ (List.mem_of_getElem? (i := 3) rfl))
theorem ml_6_328 : Cond.methodLink (RN 6) 328 yX6_greatestSectionBelow ∈ wsL_law := (wr_22 _ (List.mem_of_getElem? (i := 14) rfl))
theorem ml_6_331 : Cond.methodLink (RN 6) 331 Lib.Math.max.name ∈ wsL_law := (wr_20 _ (List.mem_of_getElem? (i := 19) rfl))
theorem ml_6_336 : Cond.methodLink (RN 6) 336 yX0_greatestSection ∈ wsL_law := (wr_22 _ (List.mem_of_getElem? (i := 18) rfl))
theorem ml_6_339 : Cond.methodLink (RN 6) 339 yX0_hasLockOf ∈ wsL_law := (wr_20 _ (List.mem_of_getElem? (i := 20) rfl))
theorem ml_7_1 : Cond.methodLink (RN 7) 1 objectInit ∈ wsL_law := (wr_2 _ (List.mem_of_getElem? (i := 12) rfl))
theorem ml_7_115 : Cond.methodLink (RN 7) 115 yX7_in ∈ wsL_law := (wr_6 _ (List.mem_of_getElem? (i := 11) rfl))
theorem ml_7_122 : Cond.methodLink (RN 7) 122 yX7_isTask ∈ wsL_law := (wr_7 _ (List.mem_of_getElem? (i := 7) rfl))
theorem ml_7_129 : Cond.methodLink (RN 7) 129 yX7_better ∈ wsL_law := (wr_18 _ (List.mem_of_getElem? (i := 16) rfl))
theorem ml_7_133 : Cond.methodLink (RN 7) 133 yX7_weigh ∈ wsL_law := (wr_18 _ (List.mem_of_getElem? (i := 12) rfl))
theorem ml_7_145 : Cond.methodLink (RN 7) 145 yX7_note ∈ wsL_law := (wr_12 _ (List.mem_of_getElem? (i := 0) rfl))
theorem ml_7_149 : Cond.methodLink (RN 7) 149 yX7_ready ∈ wsL_law := (wr_12 _ (List.mem_of_getElem? (i := 5) rfl))
theorem ml_7_153 : Cond.methodLink (RN 7) 153 yX7_give ∈ wsL_law := (wr_18 _ (List.mem_of_getElem? (i := 8) rfl))
theorem ml_7_156 : Cond.methodLink (RN 7) 156 yX7_atWork ∈ wsL_law := (wr_19 _ (List.mem_of_getElem? (i := 0) rfl))
theorem ml_7_159 : Cond.methodLink (RN 7) 159 yX7_over ∈ wsL_law := (wr_18 _ (List.mem_of_getElem? (i := 4) rfl))
theorem ml_7_163 : Cond.methodLink (RN 7) 163 yX7_lock ∈ wsL_law := (wr_19 _ (List.mem_of_getElem? (i := 8) rfl))
theorem ml_7_167 : Cond.methodLink (RN 7) 167 yX7_begin ∈ wsL_law := (wr_11 _ (List.mem_of_getElem? (i := 19) rfl))
theorem ml_7_170 : Cond.methodLink (RN 7) 170 yX7_goOn ∈ wsL_law := (wr_19 _ (List.mem_of_getElem? (i := 4) rfl))
theorem ml_7_173 : Cond.methodLink (RN 7) 173 yX7_arrivals ∈ wsL_law := (wr_18 _ (List.mem_of_getElem? (i := 0) rfl))
theorem ml_7_176 : Cond.methodLink (RN 7) 176 yX7_first ∈ wsL_law := (wr_18 _ (List.mem_of_getElem? (i := 20) rfl))
theorem ml_7_180 : Cond.methodLink (RN 7) 180 yX7_work ∈ wsL_law := (wr_19 _ (List.mem_of_getElem? (i := 12) rfl))
theorem ml_7_183 : Cond.methodLink (RN 7) 183 yX7_pass ∈ wsL_law := (wr_17 _ (List.mem_of_getElem? (i := 20) rfl))
theorem ml_7_187 : Cond.methodLink (RN 7) 187 yX7_ceil ∈ wsL_law := (wr_21 _ (List.mem_of_getElem? (i := 4) rfl))
theorem ml_7_191 : Cond.methodLink (RN 7) 191 yX7_section ∈ wsL_law := (wr_23 _ (List.mem_of_getElem? (i := 19) rfl))
theorem ml_7_195 : Cond.methodLink (RN 7) 195 yX7_cost ∈ wsL_law := (wr_23 _ (List.mem_of_getElem? (i := 11) rfl))
theorem ml_7_198 : Cond.methodLink (RN 7) 198 yX7_blocking ∈ wsL_law := (wr_23 _ (List.mem_of_getElem? (i := 15) rfl))
theorem ml_8_7 : Cond.methodLink (RN 8) 7 yX6_task ∈ wsL_law := (wr_4 _ (List.mem_of_getElem? (i := 3) rfl))
theorem ml_8_17 : Cond.methodLink (RN 8) 17 yX6_mutex ∈ wsL_law := (wr_7 _ (List.mem_of_getElem? (i := 14) rfl))
theorem ml_8_21 : Cond.methodLink (RN 8) 21 yX6_step ∈ wsL_law := (wr_8 _ (List.mem_of_getElem? (i := 12) rfl))
theorem ml_8_25 : Cond.methodLink (RN 8) 25 yX6_start ∈ wsL_law := (wr_9 _ (List.mem_of_getElem? (i := 14) rfl))
theorem ml_8_28 : Cond.methodLink (RN 8) 28 yX6_tick ∈ wsL_law := (wr_12 _ (List.mem_of_getElem? (i := 13) rfl))
theorem ml_8_32 : Cond.methodLink (RN 8) 32 yX6_response ∈ wsL_law := (wr_22 _ (List.mem_of_getElem? (i := 2) rfl))
theorem ml_8_35 : Cond.methodLink (RN 8) 35 yL_cell ∈ wsL_law := (wr_1 _ (List.mem_of_getElem? (i := 7) rfl))
theorem ml_8_41 : Cond.methodLink (RN 8) 41 yX6_init ∈ wsL_law := (wr_1 _ (List.mem_of_getElem? (i := 11) rfl))
theorem ml_8_46 : Cond.methodLink (RN 8) 46 yX7_init ∈ wsL_law := (wr_2 _ (List.mem_of_getElem? (i := 9) rfl))
theorem ml_8_47 : Cond.methodLink (RN 8) 47 yL_task ∈ wsL_law := (wr_3 _ (List.mem_of_getElem? (i := 22) rfl))
theorem ml_8_50 : Cond.methodLink (RN 8) 50 yX7_task ∈ wsL_law := (wr_6 _ (List.mem_of_getElem? (i := 4) rfl))
theorem ml_8_51 : Cond.methodLink (RN 8) 51 yX7_thrown ∈ wsL_law := (wr_6 _ (List.mem_of_getElem? (i := 14) rfl))
theorem ml_8_55 : Cond.methodLink (RN 8) 55 yX6_strict ∈ wsL_law := (wr_6 _ (List.mem_of_getElem? (i := 18) rfl))
theorem ml_8_59 : Cond.methodLink (RN 8) 59 yX7_strict ∈ wsL_law := (wr_7 _ (List.mem_of_getElem? (i := 3) rfl))
theorem ml_8_60 : Cond.methodLink (RN 8) 60 yL_mutex ∈ wsL_law := (wr_7 _ (List.mem_of_getElem? (i := 11) rfl))
theorem ml_8_63 : Cond.methodLink (RN 8) 63 yX7_mutex ∈ wsL_law := (wr_8 _ (List.mem_of_getElem? (i := 4) rfl))
theorem ml_8_64 : Cond.methodLink (RN 8) 64 yL_step ∈ wsL_law := (wr_8 _ (List.mem_of_getElem? (i := 9) rfl))
theorem ml_8_67 : Cond.methodLink (RN 8) 67 yX7_step ∈ wsL_law := (wr_9 _ (List.mem_of_getElem? (i := 7) rfl))
theorem ml_8_68 : Cond.methodLink (RN 8) 68 yL_start ∈ wsL_law := (wr_9 _ (List.mem_of_getElem? (i := 11) rfl))
theorem ml_8_71 : Cond.methodLink (RN 8) 71 yX7_start ∈ wsL_law := (wr_9 _ (List.mem_of_getElem? (i := 18) rfl))
theorem ml_8_72 : Cond.methodLink (RN 8) 72 yX6_release ∈ wsL_law := (wr_9 _ (List.mem_of_getElem? (i := 22) rfl))
theorem ml_8_76 : Cond.methodLink (RN 8) 76 yX7_release ∈ wsL_law := (wr_11 _ (List.mem_of_getElem? (i := 15) rfl))
theorem ml_8_77 : Cond.methodLink (RN 8) 77 yL_tick ∈ wsL_law := (wr_12 _ (List.mem_of_getElem? (i := 10) rfl))
theorem ml_8_80 : Cond.methodLink (RN 8) 80 yX7_tick ∈ wsL_law := (wr_17 _ (List.mem_of_getElem? (i := 16) rfl))
theorem ml_8_81 : Cond.methodLink (RN 8) 81 yX6_seen ∈ wsL_law := (wr_19 _ (List.mem_of_getElem? (i := 16) rfl))
theorem ml_8_84 : Cond.methodLink (RN 8) 84 yX7_seen ∈ wsL_law := (wr_20 _ (List.mem_of_getElem? (i := 3) rfl))
theorem ml_8_85 : Cond.methodLink (RN 8) 85 yX6_held ∈ wsL_law := (wr_20 _ (List.mem_of_getElem? (i := 7) rfl))
theorem ml_8_88 : Cond.methodLink (RN 8) 88 yX7_held ∈ wsL_law := (wr_21 _ (List.mem_of_getElem? (i := 0) rfl))
theorem ml_8_89 : Cond.methodLink (RN 8) 89 yX6_event ∈ wsL_law := (wr_21 _ (List.mem_of_getElem? (i := 8) rfl))
theorem ml_8_92 : Cond.methodLink (RN 8) 92 yX7_event ∈ wsL_law := (wr_21 _ (List.mem_of_getElem? (i := 19) rfl))
theorem ml_8_93 : Cond.methodLink (RN 8) 93 yL_response ∈ wsL_law := (wr_21 _ (List.mem_of_getElem? (i := 23) rfl))
theorem ml_8_95 : Cond.methodLink (RN 8) 95 yX7_response ∈ wsL_law := (wr_23 _ (List.mem_of_getElem? (i := 7) rfl))
theorem ml_8_96 : Cond.methodLink (RN 8) 96 yX6_load ∈ wsL_law := (wr_23 _ (List.mem_of_getElem? (i := 23) rfl))
theorem ml_8_100 : Cond.methodLink (RN 8) 100 yX7_load ∈ wsL_law := (wr_24 _ (List.mem_of_getElem? (i := 3) rfl))
theorem ml_8_101 : Cond.methodLink (RN 8) 101 yX6_look ∈ wsL_law := (wr_24 _ (List.mem_of_getElem? (i := 7) rfl))
theorem ml_8_104 : Cond.methodLink (RN 8) 104 yX7_look ∈ wsL_law := (wr_24 _ (List.mem_of_getElem? (i := 12) rfl))
theorem cv_X0_sectionFrom : CalV M_X0_sectionFrom := ⟨(wr_23 _ (List.mem_of_getElem? (i := 0) rfl)), (wr_23 _ (List.mem_of_getElem? (i := 1) rfl)), (wr_5 _ (List.mem_of_getElem? (i := 0) rfl)), (wr_23 _ (List.mem_of_getElem? (i := 2) rfl)), rfl, rfl, by decide, rfl, by decide +kernel, by decide⟩
theorem cv_X1_passStep : CalV M_X1_passStep := ⟨(wr_14 _ (List.mem_of_getElem? (i := 21) rfl)), (wr_14 _ (List.mem_of_getElem? (i := 22) rfl)), (wr_5 _ (List.mem_of_getElem? (i := 4) rfl)), (wr_14 _ (List.mem_of_getElem? (i := 23) rfl)), rfl, rfl, by decide, rfl, by decide +kernel, by decide⟩
theorem ci_X0_init : CalI M_X0_init := ⟨(wr_5 _ (List.mem_of_getElem? (i := 16) rfl)), (wr_5 _ (List.mem_of_getElem? (i := 0) rfl)), (wr_5 _ (List.mem_of_getElem? (i := 17) rfl)), rfl, rfl, rfl, rfl, by decide, rfl, by decide +kernel, by decide⟩
theorem ci_X1_init : CalI M_X1_init := ⟨(wr_5 _ (List.mem_of_getElem? (i := 21) rfl)), (wr_5 _ (List.mem_of_getElem? (i := 4) rfl)), (wr_5 _ (List.mem_of_getElem? (i := 22) rfl)), rfl, rfl, rfl, rfl, by decide, rfl, by decide +kernel, by decide⟩
theorem ci_X4_init : CalI M_X4_init := ⟨(wr_6 _ (List.mem_of_getElem? (i := 1) rfl)), (wr_5 _ (List.mem_of_getElem? (i := 8) rfl)), (wr_6 _ (List.mem_of_getElem? (i := 2) rfl)), rfl, rfl, rfl, rfl, by decide, rfl, by decide +kernel, by decide⟩
theorem ci_X2_init : CalI M_X2_init := ⟨(wr_2 _ (List.mem_of_getElem? (i := 2) rfl)), (wr_1 _ (List.mem_of_getElem? (i := 23) rfl)), (wr_2 _ (List.mem_of_getElem? (i := 3) rfl)), rfl, rfl, rfl, rfl, by decide, rfl, by decide +kernel, by decide⟩
theorem cs_X6_within : CalS M_X6_within := ⟨(wr_4 _ (List.mem_of_getElem? (i := 16) rfl)), (wr_1 _ (List.mem_of_getElem? (i := 2) rfl)), Or.inl ⟨rfl, (wr_4 _ (List.mem_of_getElem? (i := 17) rfl))⟩, rfl, by decide, rfl, by decide +kernel⟩
theorem ci_X5_init : CalI M_X5_init := ⟨(wr_4 _ (List.mem_of_getElem? (i := 19) rfl)), (wr_4 _ (List.mem_of_getElem? (i := 14) rfl)), (wr_4 _ (List.mem_of_getElem? (i := 20) rfl)), rfl, rfl, rfl, rfl, by decide, rfl, by decide +kernel, by decide⟩
theorem cv_X6_isTask : CalV M_X6_isTask := ⟨(wr_7 _ (List.mem_of_getElem? (i := 0) rfl)), (wr_7 _ (List.mem_of_getElem? (i := 1) rfl)), (wr_1 _ (List.mem_of_getElem? (i := 2) rfl)), (wr_7 _ (List.mem_of_getElem? (i := 2) rfl)), rfl, rfl, by decide, rfl, by decide +kernel, by decide⟩
theorem ci_X3_init : CalI M_X3_init := ⟨(wr_7 _ (List.mem_of_getElem? (i := 22) rfl)), (wr_7 _ (List.mem_of_getElem? (i := 20) rfl)), (wr_7 _ (List.mem_of_getElem? (i := 23) rfl)), rfl, rfl, rfl, rfl, by decide, rfl, by decide +kernel, by decide⟩
theorem cv_X6_isStep : CalV M_X6_isStep := ⟨(wr_8 _ (List.mem_of_getElem? (i := 19) rfl)), (wr_8 _ (List.mem_of_getElem? (i := 20) rfl)), (wr_1 _ (List.mem_of_getElem? (i := 2) rfl)), (wr_8 _ (List.mem_of_getElem? (i := 21) rfl)), rfl, rfl, by decide, rfl, by decide +kernel, by decide⟩
theorem cv_X0_append : CalV M_X0_append := ⟨(wr_9 _ (List.mem_of_getElem? (i := 3) rfl)), (wr_9 _ (List.mem_of_getElem? (i := 4) rfl)), (wr_5 _ (List.mem_of_getElem? (i := 0) rfl)), (wr_9 _ (List.mem_of_getElem? (i := 5) rfl)), rfl, rfl, by decide, rfl, by decide +kernel, by decide⟩
theorem cv_X6_isMutex : CalV M_X6_isMutex := ⟨(wr_8 _ (List.mem_of_getElem? (i := 23) rfl)), (wr_9 _ (List.mem_of_getElem? (i := 0) rfl)), (wr_1 _ (List.mem_of_getElem? (i := 2) rfl)), (wr_9 _ (List.mem_of_getElem? (i := 1) rfl)), rfl, rfl, by decide, rfl, by decide +kernel, by decide⟩
theorem cv_X6_beginJob : CalV M_X6_beginJob := ⟨(wr_10 _ (List.mem_of_getElem? (i := 4) rfl)), (wr_10 _ (List.mem_of_getElem? (i := 5) rfl)), (wr_1 _ (List.mem_of_getElem? (i := 2) rfl)), (wr_10 _ (List.mem_of_getElem? (i := 6) rfl)), rfl, rfl, by decide, rfl, by decide +kernel, by decide⟩
theorem cv_X6_noteMisses : CalV M_X6_noteMisses := ⟨(wr_12 _ (List.mem_of_getElem? (i := 18) rfl)), (wr_12 _ (List.mem_of_getElem? (i := 19) rfl)), (wr_1 _ (List.mem_of_getElem? (i := 2) rfl)), (wr_12 _ (List.mem_of_getElem? (i := 20) rfl)), rfl, rfl, by decide, rfl, by decide +kernel, by decide⟩
theorem cv_X6_releasePeriodic : CalV M_X6_releasePeriodic := ⟨(wr_15 _ (List.mem_of_getElem? (i := 1) rfl)), (wr_15 _ (List.mem_of_getElem? (i := 2) rfl)), (wr_1 _ (List.mem_of_getElem? (i := 2) rfl)), (wr_15 _ (List.mem_of_getElem? (i := 3) rfl)), rfl, rfl, by decide, rfl, by decide +kernel, by decide⟩
theorem cv_X6_settle : CalV M_X6_settle := ⟨(wr_15 _ (List.mem_of_getElem? (i := 9) rfl)), (wr_15 _ (List.mem_of_getElem? (i := 10) rfl)), (wr_1 _ (List.mem_of_getElem? (i := 2) rfl)), (wr_15 _ (List.mem_of_getElem? (i := 11) rfl)), rfl, rfl, by decide, rfl, by decide +kernel, by decide⟩
theorem cv_X6_workOneUnit : CalV M_X6_workOneUnit := ⟨(wr_17 _ (List.mem_of_getElem? (i := 9) rfl)), (wr_17 _ (List.mem_of_getElem? (i := 10) rfl)), (wr_1 _ (List.mem_of_getElem? (i := 2) rfl)), (wr_17 _ (List.mem_of_getElem? (i := 11) rfl)), rfl, rfl, by decide, rfl, by decide +kernel, by decide⟩
theorem cv_X6_note : CalV M_X6_note := ⟨(wr_10 _ (List.mem_of_getElem? (i := 14) rfl)), (wr_10 _ (List.mem_of_getElem? (i := 15) rfl)), (wr_1 _ (List.mem_of_getElem? (i := 2) rfl)), (wr_10 _ (List.mem_of_getElem? (i := 16) rfl)), rfl, rfl, by decide, rfl, by decide +kernel, by decide⟩
theorem cv_X6_endJob : CalV M_X6_endJob := ⟨(wr_13 _ (List.mem_of_getElem? (i := 1) rfl)), (wr_13 _ (List.mem_of_getElem? (i := 2) rfl)), (wr_1 _ (List.mem_of_getElem? (i := 2) rfl)), (wr_13 _ (List.mem_of_getElem? (i := 3) rfl)), rfl, rfl, by decide, rfl, by decide +kernel, by decide⟩
theorem cv_X5_isPeriodicAt : CalV M_X5_isPeriodicAt := ⟨(wr_15 _ (List.mem_of_getElem? (i := 5) rfl)), (wr_15 _ (List.mem_of_getElem? (i := 6) rfl)), (wr_4 _ (List.mem_of_getElem? (i := 14) rfl)), (wr_15 _ (List.mem_of_getElem? (i := 7) rfl)), rfl, rfl, by decide, rfl, by decide +kernel, by decide⟩
theorem cv_X6_nextChange : CalV M_X6_nextChange := ⟨(wr_11 _ (List.mem_of_getElem? (i := 1) rfl)), (wr_11 _ (List.mem_of_getElem? (i := 2) rfl)), (wr_1 _ (List.mem_of_getElem? (i := 2) rfl)), (wr_11 _ (List.mem_of_getElem? (i := 3) rfl)), rfl, rfl, by decide, rfl, by decide +kernel, by decide⟩
theorem cv_X1_begin : CalV M_X1_begin := ⟨(wr_11 _ (List.mem_of_getElem? (i := 6) rfl)), (wr_11 _ (List.mem_of_getElem? (i := 7) rfl)), (wr_5 _ (List.mem_of_getElem? (i := 4) rfl)), (wr_11 _ (List.mem_of_getElem? (i := 8) rfl)), rfl, rfl, by decide, rfl, by decide +kernel, by decide⟩
theorem cv_X6_mostUrgentReady : CalV M_X6_mostUrgentReady := ⟨(wr_15 _ (List.mem_of_getElem? (i := 13) rfl)), (wr_15 _ (List.mem_of_getElem? (i := 14) rfl)), (wr_1 _ (List.mem_of_getElem? (i := 2) rfl)), (wr_15 _ (List.mem_of_getElem? (i := 15) rfl)), rfl, rfl, by decide, rfl, by decide +kernel, by decide⟩
theorem cv_X5_isAtWork : CalV M_X5_isAtWork := ⟨(wr_15 _ (List.mem_of_getElem? (i := 23) rfl)), (wr_16 _ (List.mem_of_getElem? (i := 0) rfl)), (wr_4 _ (List.mem_of_getElem? (i := 14) rfl)), (wr_16 _ (List.mem_of_getElem? (i := 1) rfl)), rfl, rfl, by decide, rfl, by decide +kernel, by decide⟩
theorem cv_X6_goOn : CalV M_X6_goOn := ⟨(wr_16 _ (List.mem_of_getElem? (i := 6) rfl)), (wr_16 _ (List.mem_of_getElem? (i := 7) rfl)), (wr_1 _ (List.mem_of_getElem? (i := 2) rfl)), (wr_16 _ (List.mem_of_getElem? (i := 8) rfl)), rfl, rfl, by decide, rfl, by decide +kernel, by decide⟩
theorem cv_X6_stepFails : CalV M_X6_stepFails := ⟨(wr_16 _ (List.mem_of_getElem? (i := 14) rfl)), (wr_16 _ (List.mem_of_getElem? (i := 15) rfl)), (wr_1 _ (List.mem_of_getElem? (i := 2) rfl)), (wr_16 _ (List.mem_of_getElem? (i := 16) rfl)), rfl, rfl, by decide, rfl, by decide +kernel, by decide⟩
theorem cv_X6_giveAway : CalV M_X6_giveAway := ⟨(wr_13 _ (List.mem_of_getElem? (i := 11) rfl)), (wr_13 _ (List.mem_of_getElem? (i := 12) rfl)), (wr_1 _ (List.mem_of_getElem? (i := 2) rfl)), (wr_13 _ (List.mem_of_getElem? (i := 13) rfl)), rfl, rfl, by decide, rfl, by decide +kernel, by decide⟩
theorem cv_X1_blockAt : CalV M_X1_blockAt := ⟨(wr_16 _ (List.mem_of_getElem? (i := 18) rfl)), (wr_16 _ (List.mem_of_getElem? (i := 19) rfl)), (wr_5 _ (List.mem_of_getElem? (i := 4) rfl)), (wr_16 _ (List.mem_of_getElem? (i := 20) rfl)), rfl, rfl, by decide, rfl, by decide +kernel, by decide⟩
theorem cv_X4_addDone : CalV M_X4_addDone := ⟨(wr_16 _ (List.mem_of_getElem? (i := 23) rfl)), (wr_17 _ (List.mem_of_getElem? (i := 0) rfl)), (wr_5 _ (List.mem_of_getElem? (i := 8) rfl)), (wr_17 _ (List.mem_of_getElem? (i := 1) rfl)), rfl, rfl, by decide, rfl, by decide +kernel, by decide⟩
theorem cv_X1_end : CalV M_X1_end := ⟨(wr_13 _ (List.mem_of_getElem? (i := 6) rfl)), (wr_13 _ (List.mem_of_getElem? (i := 7) rfl)), (wr_5 _ (List.mem_of_getElem? (i := 4) rfl)), (wr_13 _ (List.mem_of_getElem? (i := 8) rfl)), rfl, rfl, by decide, rfl, by decide +kernel, by decide⟩
theorem cv_X6_rankTasks : CalV M_X6_rankTasks := ⟨(wr_13 _ (List.mem_of_getElem? (i := 15) rfl)), (wr_13 _ (List.mem_of_getElem? (i := 16) rfl)), (wr_1 _ (List.mem_of_getElem? (i := 2) rfl)), (wr_13 _ (List.mem_of_getElem? (i := 17) rfl)), rfl, rfl, by decide, rfl, by decide +kernel, by decide⟩
theorem cv_X6_heirOf : CalV M_X6_heirOf := ⟨(wr_14 _ (List.mem_of_getElem? (i := 8) rfl)), (wr_14 _ (List.mem_of_getElem? (i := 9) rfl)), (wr_1 _ (List.mem_of_getElem? (i := 2) rfl)), (wr_14 _ (List.mem_of_getElem? (i := 10) rfl)), rfl, rfl, by decide, rfl, by decide +kernel, by decide⟩
theorem cv_X1_resume : CalV M_X1_resume := ⟨(wr_14 _ (List.mem_of_getElem? (i := 17) rfl)), (wr_14 _ (List.mem_of_getElem? (i := 18) rfl)), (wr_5 _ (List.mem_of_getElem? (i := 4) rfl)), (wr_14 _ (List.mem_of_getElem? (i := 19) rfl)), rfl, rfl, by decide, rfl, by decide +kernel, by decide⟩
theorem cv_X1_inheritsAhead : CalV M_X1_inheritsAhead := ⟨(wr_14 _ (List.mem_of_getElem? (i := 12) rfl)), (wr_14 _ (List.mem_of_getElem? (i := 13) rfl)), (wr_5 _ (List.mem_of_getElem? (i := 4) rfl)), (wr_14 _ (List.mem_of_getElem? (i := 14) rfl)), rfl, rfl, by decide, rfl, by decide +kernel, by decide⟩
theorem cv_X2_add : CalV M_X2_add := ⟨(wr_10 _ (List.mem_of_getElem? (i := 19) rfl)), (wr_10 _ (List.mem_of_getElem? (i := 20) rfl)), (wr_1 _ (List.mem_of_getElem? (i := 23) rfl)), (wr_10 _ (List.mem_of_getElem? (i := 21) rfl)), rfl, rfl, by decide, rfl, by decide +kernel, by decide⟩
theorem cv_X6_goesAhead : CalV M_X6_goesAhead := ⟨(wr_15 _ (List.mem_of_getElem? (i := 17) rfl)), (wr_15 _ (List.mem_of_getElem? (i := 18) rfl)), (wr_1 _ (List.mem_of_getElem? (i := 2) rfl)), (wr_15 _ (List.mem_of_getElem? (i := 19) rfl)), rfl, rfl, by decide, rfl, by decide +kernel, by decide⟩
theorem cv_X6_liftToCeilings : CalV M_X6_liftToCeilings := ⟨(wr_13 _ (List.mem_of_getElem? (i := 21) rfl)), (wr_13 _ (List.mem_of_getElem? (i := 22) rfl)), (wr_1 _ (List.mem_of_getElem? (i := 2) rfl)), (wr_13 _ (List.mem_of_getElem? (i := 23) rfl)), rfl, rfl, by decide, rfl, by decide +kernel, by decide⟩
theorem cv_X6_lendOnce : CalV M_X6_lendOnce := ⟨(wr_14 _ (List.mem_of_getElem? (i := 3) rfl)), (wr_14 _ (List.mem_of_getElem? (i := 4) rfl)), (wr_1 _ (List.mem_of_getElem? (i := 2) rfl)), (wr_14 _ (List.mem_of_getElem? (i := 5) rfl)), rfl, rfl, by decide, rfl, by decide +kernel, by decide⟩
theorem cv_X6_urgencyOf : CalV M_X6_urgencyOf := ⟨(wr_20 _ (List.mem_of_getElem? (i := 0) rfl)), (wr_20 _ (List.mem_of_getElem? (i := 1) rfl)), (wr_1 _ (List.mem_of_getElem? (i := 2) rfl)), (wr_20 _ (List.mem_of_getElem? (i := 2) rfl)), rfl, rfl, by decide, rfl, by decide +kernel, by decide⟩
theorem cv_X6_countBlockedAt : CalV M_X6_countBlockedAt := ⟨(wr_20 _ (List.mem_of_getElem? (i := 12) rfl)), (wr_20 _ (List.mem_of_getElem? (i := 13) rfl)), (wr_1 _ (List.mem_of_getElem? (i := 2) rfl)), (wr_20 _ (List.mem_of_getElem? (i := 14) rfl)), rfl, rfl, by decide, rfl, by decide +kernel, by decide⟩
theorem cv_X6_ceilOf : CalV M_X6_ceilOf := ⟨(wr_20 _ (List.mem_of_getElem? (i := 16) rfl)), (wr_20 _ (List.mem_of_getElem? (i := 17) rfl)), (wr_1 _ (List.mem_of_getElem? (i := 2) rfl)), (wr_20 _ (List.mem_of_getElem? (i := 18) rfl)), rfl, rfl, by decide, rfl, by decide +kernel, by decide⟩
theorem cv_X2_answer : CalV M_X2_answer := ⟨(wr_21 _ (List.mem_of_getElem? (i := 13) rfl)), (wr_21 _ (List.mem_of_getElem? (i := 14) rfl)), (wr_1 _ (List.mem_of_getElem? (i := 23) rfl)), (wr_21 _ (List.mem_of_getElem? (i := 15) rfl)), rfl, rfl, by decide, rfl, by decide +kernel, by decide⟩
theorem cv_X0_cost : CalV M_X0_cost := ⟨(wr_22 _ (List.mem_of_getElem? (i := 7) rfl)), (wr_22 _ (List.mem_of_getElem? (i := 8) rfl)), (wr_5 _ (List.mem_of_getElem? (i := 0) rfl)), (wr_22 _ (List.mem_of_getElem? (i := 9) rfl)), rfl, rfl, by decide, rfl, by decide +kernel, by decide⟩
theorem cv_X6_blockingOf : CalV M_X6_blockingOf := ⟨(wr_22 _ (List.mem_of_getElem? (i := 11) rfl)), (wr_22 _ (List.mem_of_getElem? (i := 12) rfl)), (wr_1 _ (List.mem_of_getElem? (i := 2) rfl)), (wr_22 _ (List.mem_of_getElem? (i := 13) rfl)), rfl, rfl, by decide, rfl, by decide +kernel, by decide⟩
theorem cv_X6_interferenceWith : CalV M_X6_interferenceWith := ⟨(wr_23 _ (List.mem_of_getElem? (i := 4) rfl)), (wr_23 _ (List.mem_of_getElem? (i := 5) rfl)), (wr_1 _ (List.mem_of_getElem? (i := 2) rfl)), (wr_23 _ (List.mem_of_getElem? (i := 6) rfl)), rfl, rfl, by decide, rfl, by decide +kernel, by decide⟩
theorem cv_X6_greatestSectionBelow : CalV M_X6_greatestSectionBelow := ⟨(wr_22 _ (List.mem_of_getElem? (i := 15) rfl)), (wr_22 _ (List.mem_of_getElem? (i := 16) rfl)), (wr_1 _ (List.mem_of_getElem? (i := 2) rfl)), (wr_22 _ (List.mem_of_getElem? (i := 17) rfl)), rfl, rfl, by decide, rfl, by decide +kernel, by decide⟩
theorem cv_X0_greatestSection : CalV M_X0_greatestSection := ⟨(wr_22 _ (List.mem_of_getElem? (i := 19) rfl)), (wr_22 _ (List.mem_of_getElem? (i := 20) rfl)), (wr_5 _ (List.mem_of_getElem? (i := 0) rfl)), (wr_22 _ (List.mem_of_getElem? (i := 21) rfl)), rfl, rfl, by decide, rfl, by decide +kernel, by decide⟩
theorem cv_X0_hasLockOf : CalV M_X0_hasLockOf := ⟨(wr_20 _ (List.mem_of_getElem? (i := 21) rfl)), (wr_20 _ (List.mem_of_getElem? (i := 22) rfl)), (wr_5 _ (List.mem_of_getElem? (i := 0) rfl)), (wr_20 _ (List.mem_of_getElem? (i := 23) rfl)), rfl, rfl, by decide, rfl, by decide +kernel, by decide⟩
theorem cs_X7_in : CalS M_X7_in := ⟨(wr_6 _ (List.mem_of_getElem? (i := 12) rfl)), (wr_1 _ (List.mem_of_getElem? (i := 5) rfl)), Or.inl ⟨rfl, (wr_6 _ (List.mem_of_getElem? (i := 13) rfl))⟩, rfl, by decide, rfl, by decide +kernel⟩
theorem cv_X7_isTask : CalV M_X7_isTask := ⟨(wr_7 _ (List.mem_of_getElem? (i := 8) rfl)), (wr_7 _ (List.mem_of_getElem? (i := 9) rfl)), (wr_1 _ (List.mem_of_getElem? (i := 5) rfl)), (wr_7 _ (List.mem_of_getElem? (i := 10) rfl)), rfl, rfl, by decide, rfl, by decide +kernel, by decide⟩
theorem cv_X7_better : CalV M_X7_better := ⟨(wr_18 _ (List.mem_of_getElem? (i := 17) rfl)), (wr_18 _ (List.mem_of_getElem? (i := 18) rfl)), (wr_1 _ (List.mem_of_getElem? (i := 5) rfl)), (wr_18 _ (List.mem_of_getElem? (i := 19) rfl)), rfl, rfl, by decide, rfl, by decide +kernel, by decide⟩
theorem cv_X7_weigh : CalV M_X7_weigh := ⟨(wr_18 _ (List.mem_of_getElem? (i := 13) rfl)), (wr_18 _ (List.mem_of_getElem? (i := 14) rfl)), (wr_1 _ (List.mem_of_getElem? (i := 5) rfl)), (wr_18 _ (List.mem_of_getElem? (i := 15) rfl)), rfl, rfl, by decide, rfl, by decide +kernel, by decide⟩
theorem cv_X7_note : CalV M_X7_note := ⟨(wr_12 _ (List.mem_of_getElem? (i := 1) rfl)), (wr_12 _ (List.mem_of_getElem? (i := 2) rfl)), (wr_1 _ (List.mem_of_getElem? (i := 5) rfl)), (wr_12 _ (List.mem_of_getElem? (i := 3) rfl)), rfl, rfl, by decide, rfl, by decide +kernel, by decide⟩
theorem cv_X7_ready : CalV M_X7_ready := ⟨(wr_12 _ (List.mem_of_getElem? (i := 6) rfl)), (wr_12 _ (List.mem_of_getElem? (i := 7) rfl)), (wr_1 _ (List.mem_of_getElem? (i := 5) rfl)), (wr_12 _ (List.mem_of_getElem? (i := 8) rfl)), rfl, rfl, by decide, rfl, by decide +kernel, by decide⟩
theorem cv_X7_give : CalV M_X7_give := ⟨(wr_18 _ (List.mem_of_getElem? (i := 9) rfl)), (wr_18 _ (List.mem_of_getElem? (i := 10) rfl)), (wr_1 _ (List.mem_of_getElem? (i := 5) rfl)), (wr_18 _ (List.mem_of_getElem? (i := 11) rfl)), rfl, rfl, by decide, rfl, by decide +kernel, by decide⟩
theorem cv_X7_atWork : CalV M_X7_atWork := ⟨(wr_19 _ (List.mem_of_getElem? (i := 1) rfl)), (wr_19 _ (List.mem_of_getElem? (i := 2) rfl)), (wr_1 _ (List.mem_of_getElem? (i := 5) rfl)), (wr_19 _ (List.mem_of_getElem? (i := 3) rfl)), rfl, rfl, by decide, rfl, by decide +kernel, by decide⟩
theorem cv_X7_over : CalV M_X7_over := ⟨(wr_18 _ (List.mem_of_getElem? (i := 5) rfl)), (wr_18 _ (List.mem_of_getElem? (i := 6) rfl)), (wr_1 _ (List.mem_of_getElem? (i := 5) rfl)), (wr_18 _ (List.mem_of_getElem? (i := 7) rfl)), rfl, rfl, by decide, rfl, by decide +kernel, by decide⟩
theorem cv_X7_lock : CalV M_X7_lock := ⟨(wr_19 _ (List.mem_of_getElem? (i := 9) rfl)), (wr_19 _ (List.mem_of_getElem? (i := 10) rfl)), (wr_1 _ (List.mem_of_getElem? (i := 5) rfl)), (wr_19 _ (List.mem_of_getElem? (i := 11) rfl)), rfl, rfl, by decide, rfl, by decide +kernel, by decide⟩
theorem cv_X7_begin : CalV M_X7_begin := ⟨(wr_11 _ (List.mem_of_getElem? (i := 20) rfl)), (wr_11 _ (List.mem_of_getElem? (i := 21) rfl)), (wr_1 _ (List.mem_of_getElem? (i := 5) rfl)), (wr_11 _ (List.mem_of_getElem? (i := 22) rfl)), rfl, rfl, by decide, rfl, by decide +kernel, by decide⟩
theorem cv_X7_goOn : CalV M_X7_goOn := ⟨(wr_19 _ (List.mem_of_getElem? (i := 5) rfl)), (wr_19 _ (List.mem_of_getElem? (i := 6) rfl)), (wr_1 _ (List.mem_of_getElem? (i := 5) rfl)), (wr_19 _ (List.mem_of_getElem? (i := 7) rfl)), rfl, rfl, by decide, rfl, by decide +kernel, by decide⟩
theorem cv_X7_arrivals : CalV M_X7_arrivals := ⟨(wr_18 _ (List.mem_of_getElem? (i := 1) rfl)), (wr_18 _ (List.mem_of_getElem? (i := 2) rfl)), (wr_1 _ (List.mem_of_getElem? (i := 5) rfl)), (wr_18 _ (List.mem_of_getElem? (i := 3) rfl)), rfl, rfl, by decide, rfl, by decide +kernel, by decide⟩
theorem cv_X7_first : CalV M_X7_first := ⟨(wr_18 _ (List.mem_of_getElem? (i := 21) rfl)), (wr_18 _ (List.mem_of_getElem? (i := 22) rfl)), (wr_1 _ (List.mem_of_getElem? (i := 5) rfl)), (wr_18 _ (List.mem_of_getElem? (i := 23) rfl)), rfl, rfl, by decide, rfl, by decide +kernel, by decide⟩
theorem cv_X7_work : CalV M_X7_work := ⟨(wr_19 _ (List.mem_of_getElem? (i := 13) rfl)), (wr_19 _ (List.mem_of_getElem? (i := 14) rfl)), (wr_1 _ (List.mem_of_getElem? (i := 5) rfl)), (wr_19 _ (List.mem_of_getElem? (i := 15) rfl)), rfl, rfl, by decide, rfl, by decide +kernel, by decide⟩
theorem cv_X7_pass : CalV M_X7_pass := ⟨(wr_17 _ (List.mem_of_getElem? (i := 21) rfl)), (wr_17 _ (List.mem_of_getElem? (i := 22) rfl)), (wr_1 _ (List.mem_of_getElem? (i := 5) rfl)), (wr_17 _ (List.mem_of_getElem? (i := 23) rfl)), rfl, rfl, by decide, rfl, by decide +kernel, by decide⟩
theorem cv_X7_ceil : CalV M_X7_ceil := ⟨(wr_21 _ (List.mem_of_getElem? (i := 5) rfl)), (wr_21 _ (List.mem_of_getElem? (i := 6) rfl)), (wr_1 _ (List.mem_of_getElem? (i := 5) rfl)), (wr_21 _ (List.mem_of_getElem? (i := 7) rfl)), rfl, rfl, by decide, rfl, by decide +kernel, by decide⟩
theorem cv_X7_section : CalV M_X7_section := ⟨(wr_23 _ (List.mem_of_getElem? (i := 20) rfl)), (wr_23 _ (List.mem_of_getElem? (i := 21) rfl)), (wr_1 _ (List.mem_of_getElem? (i := 5) rfl)), (wr_23 _ (List.mem_of_getElem? (i := 22) rfl)), rfl, rfl, by decide, rfl, by decide +kernel, by decide⟩
theorem cv_X7_cost : CalV M_X7_cost := ⟨(wr_23 _ (List.mem_of_getElem? (i := 12) rfl)), (wr_23 _ (List.mem_of_getElem? (i := 13) rfl)), (wr_1 _ (List.mem_of_getElem? (i := 5) rfl)), (wr_23 _ (List.mem_of_getElem? (i := 14) rfl)), rfl, rfl, by decide, rfl, by decide +kernel, by decide⟩
theorem cv_X7_blocking : CalV M_X7_blocking := ⟨(wr_23 _ (List.mem_of_getElem? (i := 16) rfl)), (wr_23 _ (List.mem_of_getElem? (i := 17) rfl)), (wr_1 _ (List.mem_of_getElem? (i := 5) rfl)), (wr_23 _ (List.mem_of_getElem? (i := 18) rfl)), rfl, rfl, by decide, rfl, by decide +kernel, by decide⟩
theorem cv_X6_task : CalV M_X6_task := ⟨(wr_4 _ (List.mem_of_getElem? (i := 4) rfl)), (wr_4 _ (List.mem_of_getElem? (i := 5) rfl)), (wr_1 _ (List.mem_of_getElem? (i := 2) rfl)), (wr_4 _ (List.mem_of_getElem? (i := 6) rfl)), rfl, rfl, by decide, rfl, by decide +kernel, by decide⟩
theorem cv_X6_mutex : CalV M_X6_mutex := ⟨(wr_7 _ (List.mem_of_getElem? (i := 15) rfl)), (wr_7 _ (List.mem_of_getElem? (i := 16) rfl)), (wr_1 _ (List.mem_of_getElem? (i := 2) rfl)), (wr_7 _ (List.mem_of_getElem? (i := 17) rfl)), rfl, rfl, by decide, rfl, by decide +kernel, by decide⟩
theorem cv_X6_step : CalV M_X6_step := ⟨(wr_8 _ (List.mem_of_getElem? (i := 13) rfl)), (wr_8 _ (List.mem_of_getElem? (i := 14) rfl)), (wr_1 _ (List.mem_of_getElem? (i := 2) rfl)), (wr_8 _ (List.mem_of_getElem? (i := 15) rfl)), rfl, rfl, by decide, rfl, by decide +kernel, by decide⟩
theorem cv_X6_start : CalV M_X6_start := ⟨(wr_9 _ (List.mem_of_getElem? (i := 15) rfl)), (wr_9 _ (List.mem_of_getElem? (i := 16) rfl)), (wr_1 _ (List.mem_of_getElem? (i := 2) rfl)), (wr_9 _ (List.mem_of_getElem? (i := 17) rfl)), rfl, rfl, by decide, rfl, by decide +kernel, by decide⟩
theorem cv_X6_tick : CalV M_X6_tick := ⟨(wr_12 _ (List.mem_of_getElem? (i := 14) rfl)), (wr_12 _ (List.mem_of_getElem? (i := 15) rfl)), (wr_1 _ (List.mem_of_getElem? (i := 2) rfl)), (wr_12 _ (List.mem_of_getElem? (i := 16) rfl)), rfl, rfl, by decide, rfl, by decide +kernel, by decide⟩
theorem cv_X6_response : CalV M_X6_response := ⟨(wr_22 _ (List.mem_of_getElem? (i := 3) rfl)), (wr_22 _ (List.mem_of_getElem? (i := 4) rfl)), (wr_1 _ (List.mem_of_getElem? (i := 2) rfl)), (wr_22 _ (List.mem_of_getElem? (i := 5) rfl)), rfl, rfl, by decide, rfl, by decide +kernel, by decide⟩
theorem cs_L_cell : CalS M_L_cell := ⟨(wr_1 _ (List.mem_of_getElem? (i := 8) rfl)), (wr_1 _ (List.mem_of_getElem? (i := 9) rfl)), Or.inl ⟨rfl, (wr_1 _ (List.mem_of_getElem? (i := 10) rfl))⟩, rfl, by decide, rfl, by decide +kernel⟩
theorem ci_X6_init : CalI M_X6_init := ⟨(wr_1 _ (List.mem_of_getElem? (i := 12) rfl)), (wr_1 _ (List.mem_of_getElem? (i := 2) rfl)), (wr_1 _ (List.mem_of_getElem? (i := 13) rfl)), rfl, rfl, rfl, rfl, by decide, rfl, by decide +kernel, by decide⟩
theorem ci_X7_init : CalI M_X7_init := ⟨(wr_2 _ (List.mem_of_getElem? (i := 10) rfl)), (wr_1 _ (List.mem_of_getElem? (i := 5) rfl)), (wr_2 _ (List.mem_of_getElem? (i := 11) rfl)), rfl, rfl, rfl, rfl, by decide, rfl, by decide +kernel, by decide⟩
theorem cs_L_task : CalS M_L_task := ⟨(wr_3 _ (List.mem_of_getElem? (i := 23) rfl)), (wr_1 _ (List.mem_of_getElem? (i := 9) rfl)), Or.inr ⟨by decide, (wr_4 _ (List.mem_of_getElem? (i := 0) rfl))⟩, rfl, by decide, rfl, by decide +kernel⟩
theorem cv_X7_task : CalV M_X7_task := ⟨(wr_6 _ (List.mem_of_getElem? (i := 5) rfl)), (wr_6 _ (List.mem_of_getElem? (i := 6) rfl)), (wr_1 _ (List.mem_of_getElem? (i := 5) rfl)), (wr_6 _ (List.mem_of_getElem? (i := 7) rfl)), rfl, rfl, by decide, rfl, by decide +kernel, by decide⟩
theorem cv_X7_thrown : CalV M_X7_thrown := ⟨(wr_6 _ (List.mem_of_getElem? (i := 15) rfl)), (wr_6 _ (List.mem_of_getElem? (i := 16) rfl)), (wr_1 _ (List.mem_of_getElem? (i := 5) rfl)), (wr_6 _ (List.mem_of_getElem? (i := 17) rfl)), rfl, rfl, by decide, rfl, by decide +kernel, by decide⟩
theorem cv_X6_strict : CalV M_X6_strict := ⟨(wr_6 _ (List.mem_of_getElem? (i := 19) rfl)), (wr_6 _ (List.mem_of_getElem? (i := 20) rfl)), (wr_1 _ (List.mem_of_getElem? (i := 2) rfl)), (wr_6 _ (List.mem_of_getElem? (i := 21) rfl)), rfl, rfl, by decide, rfl, by decide +kernel, by decide⟩
theorem cv_X7_strict : CalV M_X7_strict := ⟨(wr_7 _ (List.mem_of_getElem? (i := 4) rfl)), (wr_7 _ (List.mem_of_getElem? (i := 5) rfl)), (wr_1 _ (List.mem_of_getElem? (i := 5) rfl)), (wr_7 _ (List.mem_of_getElem? (i := 6) rfl)), rfl, rfl, by decide, rfl, by decide +kernel, by decide⟩
theorem cs_L_mutex : CalS M_L_mutex := ⟨(wr_7 _ (List.mem_of_getElem? (i := 12) rfl)), (wr_1 _ (List.mem_of_getElem? (i := 9) rfl)), Or.inr ⟨by decide, (wr_7 _ (List.mem_of_getElem? (i := 13) rfl))⟩, rfl, by decide, rfl, by decide +kernel⟩
theorem cv_X7_mutex : CalV M_X7_mutex := ⟨(wr_8 _ (List.mem_of_getElem? (i := 5) rfl)), (wr_8 _ (List.mem_of_getElem? (i := 6) rfl)), (wr_1 _ (List.mem_of_getElem? (i := 5) rfl)), (wr_8 _ (List.mem_of_getElem? (i := 7) rfl)), rfl, rfl, by decide, rfl, by decide +kernel, by decide⟩
theorem cs_L_step : CalS M_L_step := ⟨(wr_8 _ (List.mem_of_getElem? (i := 10) rfl)), (wr_1 _ (List.mem_of_getElem? (i := 9) rfl)), Or.inr ⟨by decide, (wr_8 _ (List.mem_of_getElem? (i := 11) rfl))⟩, rfl, by decide, rfl, by decide +kernel⟩
theorem cv_X7_step : CalV M_X7_step := ⟨(wr_9 _ (List.mem_of_getElem? (i := 8) rfl)), (wr_9 _ (List.mem_of_getElem? (i := 9) rfl)), (wr_1 _ (List.mem_of_getElem? (i := 5) rfl)), (wr_9 _ (List.mem_of_getElem? (i := 10) rfl)), rfl, rfl, by decide, rfl, by decide +kernel, by decide⟩
theorem cs_L_start : CalS M_L_start := ⟨(wr_9 _ (List.mem_of_getElem? (i := 12) rfl)), (wr_1 _ (List.mem_of_getElem? (i := 9) rfl)), Or.inr ⟨by decide, (wr_9 _ (List.mem_of_getElem? (i := 13) rfl))⟩, rfl, by decide, rfl, by decide +kernel⟩
theorem cv_X7_start : CalV M_X7_start := ⟨(wr_9 _ (List.mem_of_getElem? (i := 19) rfl)), (wr_9 _ (List.mem_of_getElem? (i := 20) rfl)), (wr_1 _ (List.mem_of_getElem? (i := 5) rfl)), (wr_9 _ (List.mem_of_getElem? (i := 21) rfl)), rfl, rfl, by decide, rfl, by decide +kernel, by decide⟩
theorem cv_X6_release : CalV M_X6_release := ⟨(wr_9 _ (List.mem_of_getElem? (i := 23) rfl)), (wr_10 _ (List.mem_of_getElem? (i := 0) rfl)), (wr_1 _ (List.mem_of_getElem? (i := 2) rfl)), (wr_10 _ (List.mem_of_getElem? (i := 1) rfl)), rfl, rfl, by decide, rfl, by decide +kernel, by decide⟩
theorem cv_X7_release : CalV M_X7_release := ⟨(wr_11 _ (List.mem_of_getElem? (i := 16) rfl)), (wr_11 _ (List.mem_of_getElem? (i := 17) rfl)), (wr_1 _ (List.mem_of_getElem? (i := 5) rfl)), (wr_11 _ (List.mem_of_getElem? (i := 18) rfl)), rfl, rfl, by decide, rfl, by decide +kernel, by decide⟩
theorem cs_L_tick : CalS M_L_tick := ⟨(wr_12 _ (List.mem_of_getElem? (i := 11) rfl)), (wr_1 _ (List.mem_of_getElem? (i := 9) rfl)), Or.inr ⟨by decide, (wr_12 _ (List.mem_of_getElem? (i := 12) rfl))⟩, rfl, by decide, rfl, by decide +kernel⟩
theorem cv_X7_tick : CalV M_X7_tick := ⟨(wr_17 _ (List.mem_of_getElem? (i := 17) rfl)), (wr_17 _ (List.mem_of_getElem? (i := 18) rfl)), (wr_1 _ (List.mem_of_getElem? (i := 5) rfl)), (wr_17 _ (List.mem_of_getElem? (i := 19) rfl)), rfl, rfl, by decide, rfl, by decide +kernel, by decide⟩
theorem cv_X6_seen : CalV M_X6_seen := ⟨(wr_19 _ (List.mem_of_getElem? (i := 17) rfl)), (wr_19 _ (List.mem_of_getElem? (i := 18) rfl)), (wr_1 _ (List.mem_of_getElem? (i := 2) rfl)), (wr_19 _ (List.mem_of_getElem? (i := 19) rfl)), rfl, rfl, by decide, rfl, by decide +kernel, by decide⟩
theorem cv_X7_seen : CalV M_X7_seen := ⟨(wr_20 _ (List.mem_of_getElem? (i := 4) rfl)), (wr_20 _ (List.mem_of_getElem? (i := 5) rfl)), (wr_1 _ (List.mem_of_getElem? (i := 5) rfl)), (wr_20 _ (List.mem_of_getElem? (i := 6) rfl)), rfl, rfl, by decide, rfl, by decide +kernel, by decide⟩
theorem cv_X6_held : CalV M_X6_held := ⟨(wr_20 _ (List.mem_of_getElem? (i := 8) rfl)), (wr_20 _ (List.mem_of_getElem? (i := 9) rfl)), (wr_1 _ (List.mem_of_getElem? (i := 2) rfl)), (wr_20 _ (List.mem_of_getElem? (i := 10) rfl)), rfl, rfl, by decide, rfl, by decide +kernel, by decide⟩
theorem cv_X7_held : CalV M_X7_held := ⟨(wr_21 _ (List.mem_of_getElem? (i := 1) rfl)), (wr_21 _ (List.mem_of_getElem? (i := 2) rfl)), (wr_1 _ (List.mem_of_getElem? (i := 5) rfl)), (wr_21 _ (List.mem_of_getElem? (i := 3) rfl)), rfl, rfl, by decide, rfl, by decide +kernel, by decide⟩
theorem cv_X6_event : CalV M_X6_event := ⟨(wr_21 _ (List.mem_of_getElem? (i := 9) rfl)), (wr_21 _ (List.mem_of_getElem? (i := 10) rfl)), (wr_1 _ (List.mem_of_getElem? (i := 2) rfl)), (wr_21 _ (List.mem_of_getElem? (i := 11) rfl)), rfl, rfl, by decide, rfl, by decide +kernel, by decide⟩
theorem cv_X7_event : CalV M_X7_event := ⟨(wr_21 _ (List.mem_of_getElem? (i := 20) rfl)), (wr_21 _ (List.mem_of_getElem? (i := 21) rfl)), (wr_1 _ (List.mem_of_getElem? (i := 5) rfl)), (wr_21 _ (List.mem_of_getElem? (i := 22) rfl)), rfl, rfl, by decide, rfl, by decide +kernel, by decide⟩
theorem cs_L_response : CalS M_L_response := ⟨(wr_22 _ (List.mem_of_getElem? (i := 0) rfl)), (wr_1 _ (List.mem_of_getElem? (i := 9) rfl)), Or.inr ⟨by decide, (wr_22 _ (List.mem_of_getElem? (i := 1) rfl))⟩, rfl, by decide, rfl, by decide +kernel⟩
theorem cv_X7_response : CalV M_X7_response := ⟨(wr_23 _ (List.mem_of_getElem? (i := 8) rfl)), (wr_23 _ (List.mem_of_getElem? (i := 9) rfl)), (wr_1 _ (List.mem_of_getElem? (i := 5) rfl)), (wr_23 _ (List.mem_of_getElem? (i := 10) rfl)), rfl, rfl, by decide, rfl, by decide +kernel, by decide⟩
theorem cv_X6_load : CalV M_X6_load := ⟨(wr_24 _ (List.mem_of_getElem? (i := 0) rfl)), (wr_24 _ (List.mem_of_getElem? (i := 1) rfl)), (wr_1 _ (List.mem_of_getElem? (i := 2) rfl)), (wr_24 _ (List.mem_of_getElem? (i := 2) rfl)), rfl, rfl, by decide, rfl, by decide +kernel, by decide⟩
theorem cv_X7_load : CalV M_X7_load := ⟨(wr_24 _ (List.mem_of_getElem? (i := 4) rfl)), (wr_24 _ (List.mem_of_getElem? (i := 5) rfl)), (wr_1 _ (List.mem_of_getElem? (i := 5) rfl)), (wr_24 _ (List.mem_of_getElem? (i := 6) rfl)), rfl, rfl, by decide, rfl, by decide +kernel, by decide⟩
theorem cv_X6_look : CalV M_X6_look := ⟨(wr_24 _ (List.mem_of_getElem? (i := 8) rfl)), (wr_24 _ (List.mem_of_getElem? (i := 9) rfl)), (wr_1 _ (List.mem_of_getElem? (i := 2) rfl)), (wr_24 _ (List.mem_of_getElem? (i := 10) rfl)), rfl, rfl, by decide, rfl, by decide +kernel, by decide⟩
theorem cv_X7_look : CalV M_X7_look := ⟨(wr_24 _ (List.mem_of_getElem? (i := 13) rfl)), (wr_24 _ (List.mem_of_getElem? (i := 14) rfl)), (wr_1 _ (List.mem_of_getElem? (i := 5) rfl)), (wr_24 _ (List.mem_of_getElem? (i := 15) rfl)), rfl, rfl, by decide, rfl, by decide +kernel, by decide⟩
theorem cl_X0_greatestSection_22 : CallV M_X0_greatestSection 22 M_X0_sectionFrom := ⟨ml_0_22, cv_X0_sectionFrom, by decide⟩
theorem cl_X1_resume_37 : CallV M_X1_resume 37 M_X1_passStep := ⟨ml_1_37, cv_X1_passStep, by decide⟩
theorem cl_X5_init_11 : CallI M_X5_init 11 M_X0_init := ⟨Or.inr ml_5_11, ci_X0_init, by decide⟩
theorem cl_X5_init_20 : CallI M_X5_init 20 M_X1_init := ⟨Or.inr ml_5_20, ci_X1_init, by decide⟩
theorem cl_X5_init_27 : CallI M_X5_init 27 M_X4_init := ⟨Or.inr ml_5_27, ci_X4_init, by decide⟩
theorem cl_X6_init_23 : CallI M_X6_init 23 M_X2_init := ⟨Or.inr ml_6_23, ci_X2_init, by decide⟩
theorem cl_X6_task_32 : CallS M_X6_task 32 M_X6_within := ⟨ml_6_32, cs_X6_within, by decide⟩
theorem cl_X6_task_55 : CallI M_X6_task 55 M_X5_init := ⟨Or.inl ml_6_55, ci_X5_init, by decide⟩
theorem cl_X6_strict_58 : CallV M_X6_strict 58 M_X6_isTask := ⟨ml_6_58, cv_X6_isTask, by decide⟩
theorem cl_X6_mutex_32 : CallS M_X6_mutex 32 M_X6_within := ⟨ml_6_32, cs_X6_within, by decide⟩
theorem cl_X6_mutex_72 : CallI M_X6_mutex 72 M_X3_init := ⟨Or.inl ml_6_72, ci_X3_init, by decide⟩
theorem cl_X6_step_58 : CallV M_X6_step 58 M_X6_isTask := ⟨ml_6_58, cv_X6_isTask, by decide⟩
theorem cl_X6_step_75 : CallV M_X6_step 75 M_X6_isStep := ⟨ml_6_75, cv_X6_isStep, by decide⟩
theorem cl_X6_step_92 : CallV M_X6_step 92 M_X0_append := ⟨ml_6_92, cv_X0_append, by decide⟩
theorem cl_X6_isTask_32 : CallS M_X6_isTask 32 M_X6_within := ⟨ml_6_32, cs_X6_within, by decide⟩
theorem cl_X6_isMutex_32 : CallS M_X6_isMutex 32 M_X6_within := ⟨ml_6_32, cs_X6_within, by decide⟩
theorem cl_X6_isStep_32 : CallS M_X6_isStep 32 M_X6_within := ⟨ml_6_32, cs_X6_within, by decide⟩
theorem cl_X6_isStep_98 : CallV M_X6_isStep 98 M_X6_isMutex := ⟨ml_6_98, cv_X6_isMutex, by decide⟩
theorem cl_X6_release_58 : CallV M_X6_release 58 M_X6_isTask := ⟨ml_6_58, cv_X6_isTask, by decide⟩
theorem cl_X6_release_104 : CallV M_X6_release 104 M_X6_beginJob := ⟨ml_6_104, cv_X6_beginJob, by decide⟩
theorem cl_X6_tick_32 : CallS M_X6_tick 32 M_X6_within := ⟨ml_6_32, cs_X6_within, by decide⟩
theorem cl_X6_tick_112 : CallV M_X6_tick 112 M_X6_noteMisses := ⟨ml_6_112, cv_X6_noteMisses, by decide⟩
theorem cl_X6_tick_115 : CallV M_X6_tick 115 M_X6_releasePeriodic := ⟨ml_6_115, cv_X6_releasePeriodic, by decide⟩
theorem cl_X6_tick_118 : CallV M_X6_tick 118 M_X6_settle := ⟨ml_6_118, cv_X6_settle, by decide⟩
theorem cl_X6_tick_122 : CallV M_X6_tick 122 M_X6_workOneUnit := ⟨ml_6_122, cv_X6_workOneUnit, by decide⟩
theorem cl_X6_noteMisses_149 : CallV M_X6_noteMisses 149 M_X6_note := ⟨ml_6_149, cv_X6_note, by decide⟩
theorem cl_X6_noteMisses_156 : CallV M_X6_noteMisses 156 M_X6_endJob := ⟨ml_6_156, cv_X6_endJob, by decide⟩
theorem cl_X6_releasePeriodic_160 : CallV M_X6_releasePeriodic 160 M_X5_isPeriodicAt := ⟨ml_6_160, cv_X5_isPeriodicAt, by decide⟩
theorem cl_X6_releasePeriodic_104 : CallV M_X6_releasePeriodic 104 M_X6_beginJob := ⟨ml_6_104, cv_X6_beginJob, by decide⟩
theorem cl_X6_beginJob_149 : CallV M_X6_beginJob 149 M_X6_note := ⟨ml_6_149, cv_X6_note, by decide⟩
theorem cl_X6_beginJob_169 : CallV M_X6_beginJob 169 M_X6_nextChange := ⟨ml_6_169, cv_X6_nextChange, by decide⟩
theorem cl_X6_beginJob_173 : CallV M_X6_beginJob 173 M_X1_begin := ⟨ml_6_173, cv_X1_begin, by decide⟩
theorem cl_X6_settle_176 : CallV M_X6_settle 176 M_X6_mostUrgentReady := ⟨ml_6_176, cv_X6_mostUrgentReady, by decide⟩
theorem cl_X6_settle_179 : CallV M_X6_settle 179 M_X5_isAtWork := ⟨ml_6_179, cv_X5_isAtWork, by decide⟩
theorem cl_X6_settle_183 : CallV M_X6_settle 183 M_X6_goOn := ⟨ml_6_183, cv_X6_goOn, by decide⟩
theorem cl_X6_workOneUnit_149 : CallV M_X6_workOneUnit 149 M_X6_note := ⟨ml_6_149, cv_X6_note, by decide⟩
theorem cl_X6_workOneUnit_207 : CallV M_X6_workOneUnit 207 M_X1_passStep := ⟨ml_6_207, cv_X1_passStep, by decide⟩
theorem cl_X6_workOneUnit_183 : CallV M_X6_workOneUnit 183 M_X6_goOn := ⟨ml_6_183, cv_X6_goOn, by decide⟩
theorem cl_X6_goOn_213 : CallV M_X6_goOn 213 M_X6_stepFails := ⟨ml_6_213, cv_X6_stepFails, by decide⟩
theorem cl_X6_goOn_156 : CallV M_X6_goOn 156 M_X6_endJob := ⟨ml_6_156, cv_X6_endJob, by decide⟩
theorem cl_X6_goOn_217 : CallV M_X6_goOn 217 M_X6_giveAway := ⟨ml_6_217, cv_X6_giveAway, by decide⟩
theorem cl_X6_goOn_169 : CallV M_X6_goOn 169 M_X6_nextChange := ⟨ml_6_169, cv_X6_nextChange, by decide⟩
theorem cl_X6_goOn_224 : CallV M_X6_goOn 224 M_X1_blockAt := ⟨ml_6_224, cv_X1_blockAt, by decide⟩
theorem cl_X6_goOn_149 : CallV M_X6_goOn 149 M_X6_note := ⟨ml_6_149, cv_X6_note, by decide⟩
theorem cl_X6_goOn_207 : CallV M_X6_goOn 207 M_X1_passStep := ⟨ml_6_207, cv_X1_passStep, by decide⟩
theorem cl_X6_goOn_231 : CallV M_X6_goOn 231 M_X4_addDone := ⟨ml_6_231, cv_X4_addDone, by decide⟩
theorem cl_X6_endJob_149 : CallV M_X6_endJob 149 M_X6_note := ⟨ml_6_149, cv_X6_note, by decide⟩
theorem cl_X6_endJob_244 : CallV M_X6_endJob 244 M_X1_end := ⟨ml_6_244, cv_X1_end, by decide⟩
theorem cl_X6_endJob_217 : CallV M_X6_endJob 217 M_X6_giveAway := ⟨ml_6_217, cv_X6_giveAway, by decide⟩
theorem cl_X6_giveAway_247 : CallV M_X6_giveAway 247 M_X6_rankTasks := ⟨ml_6_247, cv_X6_rankTasks, by decide⟩
theorem cl_X6_giveAway_250 : CallV M_X6_giveAway 250 M_X6_heirOf := ⟨ml_6_250, cv_X6_heirOf, by decide⟩
theorem cl_X6_giveAway_169 : CallV M_X6_giveAway 169 M_X6_nextChange := ⟨ml_6_169, cv_X6_nextChange, by decide⟩
theorem cl_X6_giveAway_254 : CallV M_X6_giveAway 254 M_X1_resume := ⟨ml_6_254, cv_X1_resume, by decide⟩
theorem cl_X6_giveAway_149 : CallV M_X6_giveAway 149 M_X6_note := ⟨ml_6_149, cv_X6_note, by decide⟩
theorem cl_X6_heirOf_261 : CallV M_X6_heirOf 261 M_X1_inheritsAhead := ⟨ml_6_261, cv_X1_inheritsAhead, by decide⟩
theorem cl_X6_note_271 : CallV M_X6_note 271 M_X2_add := ⟨ml_6_271, cv_X2_add, by decide⟩
theorem cl_X6_mostUrgentReady_247 : CallV M_X6_mostUrgentReady 247 M_X6_rankTasks := ⟨ml_6_247, cv_X6_rankTasks, by decide⟩
theorem cl_X6_mostUrgentReady_274 : CallV M_X6_mostUrgentReady 274 M_X6_goesAhead := ⟨ml_6_274, cv_X6_goesAhead, by decide⟩
theorem cl_X6_rankTasks_284 : CallV M_X6_rankTasks 284 M_X6_liftToCeilings := ⟨ml_6_284, cv_X6_liftToCeilings, by decide⟩
theorem cl_X6_rankTasks_287 : CallV M_X6_rankTasks 287 M_X6_lendOnce := ⟨ml_6_287, cv_X6_lendOnce, by decide⟩
theorem cl_X6_urgencyOf_247 : CallV M_X6_urgencyOf 247 M_X6_rankTasks := ⟨ml_6_247, cv_X6_rankTasks, by decide⟩
theorem cl_X6_seen_58 : CallV M_X6_seen 58 M_X6_isTask := ⟨ml_6_58, cv_X6_isTask, by decide⟩
theorem cl_X6_seen_290 : CallV M_X6_seen 290 M_X6_urgencyOf := ⟨ml_6_290, cv_X6_urgencyOf, by decide⟩
theorem cl_X6_held_98 : CallV M_X6_held 98 M_X6_isMutex := ⟨ml_6_98, cv_X6_isMutex, by decide⟩
theorem cl_X6_held_301 : CallV M_X6_held 301 M_X6_countBlockedAt := ⟨ml_6_301, cv_X6_countBlockedAt, by decide⟩
theorem cl_X6_held_305 : CallV M_X6_held 305 M_X6_ceilOf := ⟨ml_6_305, cv_X6_ceilOf, by decide⟩
theorem cl_X6_event_309 : CallV M_X6_event 309 M_X2_answer := ⟨ml_6_309, cv_X2_answer, by decide⟩
theorem cl_X6_response_58 : CallV M_X6_response 58 M_X6_isTask := ⟨ml_6_58, cv_X6_isTask, by decide⟩
theorem cl_X6_response_318 : CallV M_X6_response 318 M_X0_cost := ⟨ml_6_318, cv_X0_cost, by decide⟩
theorem cl_X6_response_321 : CallV M_X6_response 321 M_X6_blockingOf := ⟨ml_6_321, cv_X6_blockingOf, by decide⟩
theorem cl_X6_response_324 : CallV M_X6_response 324 M_X6_interferenceWith := ⟨ml_6_324, cv_X6_interferenceWith, by decide⟩
theorem cl_X6_load_318 : CallV M_X6_load 318 M_X0_cost := ⟨ml_6_318, cv_X0_cost, by decide⟩
theorem cl_X6_blockingOf_305 : CallV M_X6_blockingOf 305 M_X6_ceilOf := ⟨ml_6_305, cv_X6_ceilOf, by decide⟩
theorem cl_X6_blockingOf_328 : CallV M_X6_blockingOf 328 M_X6_greatestSectionBelow := ⟨ml_6_328, cv_X6_greatestSectionBelow, by decide⟩
theorem cl_X6_greatestSectionBelow_336 : CallV M_X6_greatestSectionBelow 336 M_X0_greatestSection := ⟨ml_6_336, cv_X0_greatestSection, by decide⟩
theorem cl_X6_interferenceWith_318 : CallV M_X6_interferenceWith 318 M_X0_cost := ⟨ml_6_318, cv_X0_cost, by decide⟩
theorem cl_X6_ceilOf_339 : CallV M_X6_ceilOf 339 M_X0_hasLockOf := ⟨ml_6_339, cv_X0_hasLockOf, by decide⟩
theorem cl_X7_task_115 : CallS M_X7_task 115 M_X7_in := ⟨ml_7_115, cs_X7_in, by decide⟩
theorem cl_X7_strict_122 : CallV M_X7_strict 122 M_X7_isTask := ⟨ml_7_122, cv_X7_isTask, by decide⟩
theorem cl_X7_mutex_115 : CallS M_X7_mutex 115 M_X7_in := ⟨ml_7_115, cs_X7_in, by decide⟩
theorem cl_X7_step_122 : CallV M_X7_step 122 M_X7_isTask := ⟨ml_7_122, cv_X7_isTask, by decide⟩
theorem cl_X7_step_115 : CallS M_X7_step 115 M_X7_in := ⟨ml_7_115, cs_X7_in, by decide⟩
theorem cl_X7_weigh_129 : CallV M_X7_weigh 129 M_X7_better := ⟨ml_7_129, cv_X7_better, by decide⟩
theorem cl_X7_first_133 : CallV M_X7_first 133 M_X7_weigh := ⟨ml_7_133, cv_X7_weigh, by decide⟩
theorem cl_X7_first_129 : CallV M_X7_first 129 M_X7_better := ⟨ml_7_129, cv_X7_better, by decide⟩
theorem cl_X7_begin_145 : CallV M_X7_begin 145 M_X7_note := ⟨ml_7_145, cv_X7_note, by decide⟩
theorem cl_X7_begin_149 : CallV M_X7_begin 149 M_X7_ready := ⟨ml_7_149, cv_X7_ready, by decide⟩
theorem cl_X7_give_133 : CallV M_X7_give 133 M_X7_weigh := ⟨ml_7_133, cv_X7_weigh, by decide⟩
theorem cl_X7_give_129 : CallV M_X7_give 129 M_X7_better := ⟨ml_7_129, cv_X7_better, by decide⟩
theorem cl_X7_give_149 : CallV M_X7_give 149 M_X7_ready := ⟨ml_7_149, cv_X7_ready, by decide⟩
theorem cl_X7_give_145 : CallV M_X7_give 145 M_X7_note := ⟨ml_7_145, cv_X7_note, by decide⟩
theorem cl_X7_over_145 : CallV M_X7_over 145 M_X7_note := ⟨ml_7_145, cv_X7_note, by decide⟩
theorem cl_X7_over_153 : CallV M_X7_over 153 M_X7_give := ⟨ml_7_153, cv_X7_give, by decide⟩
theorem cl_X7_goOn_156 : CallV M_X7_goOn 156 M_X7_atWork := ⟨ml_7_156, cv_X7_atWork, by decide⟩
theorem cl_X7_goOn_159 : CallV M_X7_goOn 159 M_X7_over := ⟨ml_7_159, cv_X7_over, by decide⟩
theorem cl_X7_goOn_163 : CallV M_X7_goOn 163 M_X7_lock := ⟨ml_7_163, cv_X7_lock, by decide⟩
theorem cl_X7_goOn_153 : CallV M_X7_goOn 153 M_X7_give := ⟨ml_7_153, cv_X7_give, by decide⟩
theorem cl_X7_lock_159 : CallV M_X7_lock 159 M_X7_over := ⟨ml_7_159, cv_X7_over, by decide⟩
theorem cl_X7_lock_145 : CallV M_X7_lock 145 M_X7_note := ⟨ml_7_145, cv_X7_note, by decide⟩
theorem cl_X7_release_122 : CallV M_X7_release 122 M_X7_isTask := ⟨ml_7_122, cv_X7_isTask, by decide⟩
theorem cl_X7_release_167 : CallV M_X7_release 167 M_X7_begin := ⟨ml_7_167, cv_X7_begin, by decide⟩
theorem cl_X7_arrivals_145 : CallV M_X7_arrivals 145 M_X7_note := ⟨ml_7_145, cv_X7_note, by decide⟩
theorem cl_X7_arrivals_159 : CallV M_X7_arrivals 159 M_X7_over := ⟨ml_7_159, cv_X7_over, by decide⟩
theorem cl_X7_arrivals_167 : CallV M_X7_arrivals 167 M_X7_begin := ⟨ml_7_167, cv_X7_begin, by decide⟩
theorem cl_X7_work_145 : CallV M_X7_work 145 M_X7_note := ⟨ml_7_145, cv_X7_note, by decide⟩
theorem cl_X7_work_170 : CallV M_X7_work 170 M_X7_goOn := ⟨ml_7_170, cv_X7_goOn, by decide⟩
theorem cl_X7_pass_173 : CallV M_X7_pass 173 M_X7_arrivals := ⟨ml_7_173, cv_X7_arrivals, by decide⟩
theorem cl_X7_pass_176 : CallV M_X7_pass 176 M_X7_first := ⟨ml_7_176, cv_X7_first, by decide⟩
theorem cl_X7_pass_156 : CallV M_X7_pass 156 M_X7_atWork := ⟨ml_7_156, cv_X7_atWork, by decide⟩
theorem cl_X7_pass_170 : CallV M_X7_pass 170 M_X7_goOn := ⟨ml_7_170, cv_X7_goOn, by decide⟩
theorem cl_X7_pass_180 : CallV M_X7_pass 180 M_X7_work := ⟨ml_7_180, cv_X7_work, by decide⟩
theorem cl_X7_tick_115 : CallS M_X7_tick 115 M_X7_in := ⟨ml_7_115, cs_X7_in, by decide⟩
theorem cl_X7_tick_183 : CallV M_X7_tick 183 M_X7_pass := ⟨ml_7_183, cv_X7_pass, by decide⟩
theorem cl_X7_seen_122 : CallV M_X7_seen 122 M_X7_isTask := ⟨ml_7_122, cv_X7_isTask, by decide⟩
theorem cl_X7_seen_133 : CallV M_X7_seen 133 M_X7_weigh := ⟨ml_7_133, cv_X7_weigh, by decide⟩
theorem cl_X7_held_187 : CallV M_X7_held 187 M_X7_ceil := ⟨ml_7_187, cv_X7_ceil, by decide⟩
theorem cl_X7_blocking_187 : CallV M_X7_blocking 187 M_X7_ceil := ⟨ml_7_187, cv_X7_ceil, by decide⟩
theorem cl_X7_blocking_191 : CallV M_X7_blocking 191 M_X7_section := ⟨ml_7_191, cv_X7_section, by decide⟩
theorem cl_X7_response_122 : CallV M_X7_response 122 M_X7_isTask := ⟨ml_7_122, cv_X7_isTask, by decide⟩
theorem cl_X7_response_195 : CallV M_X7_response 195 M_X7_cost := ⟨ml_7_195, cv_X7_cost, by decide⟩
theorem cl_X7_response_198 : CallV M_X7_response 198 M_X7_blocking := ⟨ml_7_198, cv_X7_blocking, by decide⟩
theorem cl_X7_load_195 : CallV M_X7_load 195 M_X7_cost := ⟨ml_7_195, cv_X7_cost, by decide⟩
theorem cl_L_task_7 : CallV M_L_task 7 M_X6_task := ⟨ml_8_7, cv_X6_task, by decide⟩
theorem cl_L_mutex_17 : CallV M_L_mutex 17 M_X6_mutex := ⟨ml_8_17, cv_X6_mutex, by decide⟩
theorem cl_L_step_21 : CallV M_L_step 21 M_X6_step := ⟨ml_8_21, cv_X6_step, by decide⟩
theorem cl_L_start_25 : CallV M_L_start 25 M_X6_start := ⟨ml_8_25, cv_X6_start, by decide⟩
theorem cl_L_tick_28 : CallV M_L_tick 28 M_X6_tick := ⟨ml_8_28, cv_X6_tick, by decide⟩
theorem cl_L_response_32 : CallV M_L_response 32 M_X6_response := ⟨ml_8_32, cv_X6_response, by decide⟩
theorem cl_L_law_35 : CallS M_L_law 35 M_L_cell := ⟨ml_8_35, cs_L_cell, by decide⟩
theorem cl_L_law_41 : CallI M_L_law 41 M_X6_init := ⟨Or.inl ml_8_41, ci_X6_init, by decide⟩
theorem cl_L_law_46 : CallI M_L_law 46 M_X7_init := ⟨Or.inl ml_8_46, ci_X7_init, by decide⟩
theorem cl_L_law_47 : CallS M_L_law 47 M_L_task := ⟨ml_8_47, cs_L_task, by decide⟩
theorem cl_L_law_50 : CallV M_L_law 50 M_X7_task := ⟨ml_8_50, cv_X7_task, by decide⟩
theorem cl_L_law_51 : CallV M_L_law 51 M_X7_thrown := ⟨ml_8_51, cv_X7_thrown, by decide⟩
theorem cl_L_law_55 : CallV M_L_law 55 M_X6_strict := ⟨ml_8_55, cv_X6_strict, by decide⟩
theorem cl_L_law_59 : CallV M_L_law 59 M_X7_strict := ⟨ml_8_59, cv_X7_strict, by decide⟩
theorem cl_L_law_60 : CallS M_L_law 60 M_L_mutex := ⟨ml_8_60, cs_L_mutex, by decide⟩
theorem cl_L_law_63 : CallV M_L_law 63 M_X7_mutex := ⟨ml_8_63, cv_X7_mutex, by decide⟩
theorem cl_L_law_64 : CallS M_L_law 64 M_L_step := ⟨ml_8_64, cs_L_step, by decide⟩
theorem cl_L_law_67 : CallV M_L_law 67 M_X7_step := ⟨ml_8_67, cv_X7_step, by decide⟩
theorem cl_L_law_68 : CallS M_L_law 68 M_L_start := ⟨ml_8_68, cs_L_start, by decide⟩
theorem cl_L_law_71 : CallV M_L_law 71 M_X7_start := ⟨ml_8_71, cv_X7_start, by decide⟩
theorem cl_L_law_72 : CallV M_L_law 72 M_X6_release := ⟨ml_8_72, cv_X6_release, by decide⟩
theorem cl_L_law_76 : CallV M_L_law 76 M_X7_release := ⟨ml_8_76, cv_X7_release, by decide⟩
theorem cl_L_law_77 : CallS M_L_law 77 M_L_tick := ⟨ml_8_77, cs_L_tick, by decide⟩
theorem cl_L_law_80 : CallV M_L_law 80 M_X7_tick := ⟨ml_8_80, cv_X7_tick, by decide⟩
theorem cl_L_law_81 : CallV M_L_law 81 M_X6_seen := ⟨ml_8_81, cv_X6_seen, by decide⟩
theorem cl_L_law_84 : CallV M_L_law 84 M_X7_seen := ⟨ml_8_84, cv_X7_seen, by decide⟩
theorem cl_L_law_85 : CallV M_L_law 85 M_X6_held := ⟨ml_8_85, cv_X6_held, by decide⟩
theorem cl_L_law_88 : CallV M_L_law 88 M_X7_held := ⟨ml_8_88, cv_X7_held, by decide⟩
theorem cl_L_law_89 : CallV M_L_law 89 M_X6_event := ⟨ml_8_89, cv_X6_event, by decide⟩
theorem cl_L_law_92 : CallV M_L_law 92 M_X7_event := ⟨ml_8_92, cv_X7_event, by decide⟩
theorem cl_L_law_93 : CallS M_L_law 93 M_L_response := ⟨ml_8_93, cs_L_response, by decide⟩
theorem cl_L_law_95 : CallV M_L_law 95 M_X7_response := ⟨ml_8_95, cv_X7_response, by decide⟩
theorem cl_L_law_96 : CallV M_L_law 96 M_X6_load := ⟨ml_8_96, cv_X6_load, by decide⟩
theorem cl_L_law_100 : CallV M_L_law 100 M_X7_load := ⟨ml_8_100, cv_X7_load, by decide⟩
theorem cl_L_law_101 : CallV M_L_law 101 M_X6_look := ⟨ml_8_101, cv_X6_look, by decide⟩
theorem cl_L_law_104 : CallV M_L_law 104 M_X7_look := ⟨ml_8_104, cv_X7_look, by decide⟩
theorem no_5_9 : NewOk 5 9 1 := ⟨(wr_4 _ (List.mem_of_getElem? (i := 22) rfl)), (wr_4 _ (List.mem_of_getElem? (i := 23) rfl)), (wr_5 _ (List.mem_of_getElem? (i := 0) rfl)), by decide, by decide⟩
theorem no_5_18 : NewOk 5 18 2 := ⟨(wr_5 _ (List.mem_of_getElem? (i := 2) rfl)), (wr_5 _ (List.mem_of_getElem? (i := 3) rfl)), (wr_5 _ (List.mem_of_getElem? (i := 4) rfl)), by decide, by decide⟩
theorem no_5_25 : NewOk 5 25 5 := ⟨(wr_5 _ (List.mem_of_getElem? (i := 6) rfl)), (wr_5 _ (List.mem_of_getElem? (i := 7) rfl)), (wr_5 _ (List.mem_of_getElem? (i := 8) rfl)), by decide, by decide⟩
theorem ao_6_9 : AnewOk 6 9 15 := Or.inl ⟨rfl, (wr_1 _ (List.mem_of_getElem? (i := 17) rfl))⟩
theorem ao_6_15 : AnewOk 6 15 16 := Or.inr ⟨rfl, (wr_1 _ (List.mem_of_getElem? (i := 19) rfl))⟩
theorem no_6_21 : NewOk 6 21 3 := ⟨(wr_1 _ (List.mem_of_getElem? (i := 21) rfl)), (wr_1 _ (List.mem_of_getElem? (i := 22) rfl)), (wr_1 _ (List.mem_of_getElem? (i := 23) rfl)), by decide, by decide⟩
theorem no_6_9 : NewOk 6 9 6 := ⟨(wr_1 _ (List.mem_of_getElem? (i := 17) rfl)), (wr_4 _ (List.mem_of_getElem? (i := 13) rfl)), (wr_4 _ (List.mem_of_getElem? (i := 14) rfl)), by decide, by decide⟩
theorem no_6_15 : NewOk 6 15 4 := ⟨(wr_1 _ (List.mem_of_getElem? (i := 19) rfl)), (wr_7 _ (List.mem_of_getElem? (i := 19) rfl)), (wr_7 _ (List.mem_of_getElem? (i := 20) rfl)), by decide, by decide⟩
theorem no_8_8 : NewOk 8 8 7 := ⟨(wr_1 _ (List.mem_of_getElem? (i := 0) rfl)), (wr_1 _ (List.mem_of_getElem? (i := 1) rfl)), (wr_1 _ (List.mem_of_getElem? (i := 2) rfl)), by decide, by decide⟩
theorem no_8_44 : NewOk 8 44 8 := ⟨(wr_1 _ (List.mem_of_getElem? (i := 3) rfl)), (wr_1 _ (List.mem_of_getElem? (i := 4) rfl)), (wr_1 _ (List.mem_of_getElem? (i := 5) rfl)), by decide, by decide⟩
theorem th_X6_task_71 : ThrowAt M_X6_task 71 1 := ⟨rfl, rfl, by decide, by decide, Or.inl ⟨rfl, dX6_task_71⟩, dX6_task_74, 38, "a number of the task is out of its range", 2, by simp [thrL], Or.inl ⟨rfl, dX6_task_75⟩, Or.inl ⟨rfl, dX6_task_77⟩, dX6_task_80⟩
theorem th_X6_task_97 : ThrowAt M_X6_task 97 2 := ⟨rfl, rfl, by decide, by decide, Or.inr ⟨rfl, dX6_task_97⟩, dX6_task_100, 52, "no more tasks can be given", 2, by simp [thrL], Or.inl ⟨rfl, dX6_task_101⟩, Or.inr ⟨rfl, dX6_task_103⟩, dX6_task_106⟩
theorem th_X6_mutex_34 : ThrowAt M_X6_mutex 34 1 := ⟨rfl, rfl, by decide, by decide, Or.inl ⟨rfl, dX6_mutex_34⟩, dX6_mutex_37, 65, "the protocol or its ceiling is out of its range", 2, by simp [thrL], Or.inl ⟨rfl, dX6_mutex_38⟩, Or.inl ⟨rfl, dX6_mutex_40⟩, dX6_mutex_43⟩
theorem th_X6_mutex_59 : ThrowAt M_X6_mutex 59 2 := ⟨rfl, rfl, by decide, by decide, Or.inr ⟨rfl, dX6_mutex_59⟩, dX6_mutex_62, 70, "no more mutexes can be given", 2, by simp [thrL], Or.inl ⟨rfl, dX6_mutex_63⟩, Or.inr ⟨rfl, dX6_mutex_65⟩, dX6_mutex_68⟩
theorem th_X6_step_17 : ThrowAt M_X6_step 17 1 := ⟨rfl, rfl, by decide, by decide, Or.inl ⟨rfl, dX6_step_17⟩, dX6_step_20, 79, "no such task, kind or mutex, or units out of their range", 2, by simp [thrL], Or.inl ⟨rfl, dX6_step_21⟩, Or.inl ⟨rfl, dX6_step_23⟩, dX6_step_26⟩
theorem th_X6_step_55 : ThrowAt M_X6_step 55 2 := ⟨rfl, rfl, by decide, by decide, Or.inr ⟨rfl, dX6_step_55⟩, dX6_step_58, 90, "no more steps can be given", 2, by simp [thrL], Or.inl ⟨rfl, dX6_step_59⟩, Or.inr ⟨rfl, dX6_step_61⟩, dX6_step_64⟩
theorem th_X6_start_14 : ThrowAt M_X6_start 14 2 := ⟨rfl, rfl, by decide, by decide, Or.inr ⟨rfl, dX6_start_14⟩, dX6_start_17, 96, "started before, or without a task", 2, by simp [thrL], Or.inl ⟨rfl, dX6_start_18⟩, Or.inr ⟨rfl, dX6_start_20⟩, dX6_start_23⟩
theorem th_X6_tick_11 : ThrowAt M_X6_tick 11 1 := ⟨rfl, rfl, by decide, by decide, Or.inl ⟨rfl, dX6_tick_11⟩, dX6_tick_14, 108, "so many ticks can not be asked for", 2, by simp [thrL], Or.inl ⟨rfl, dX6_tick_15⟩, Or.inl ⟨rfl, dX6_tick_17⟩, dX6_tick_20⟩
theorem th_X6_tick_28 : ThrowAt M_X6_tick 28 2 := ⟨rfl, rfl, by decide, by decide, Or.inr ⟨rfl, dX6_tick_28⟩, dX6_tick_31, 110, "not started yet", 2, by simp [thrL], Or.inl ⟨rfl, dX6_tick_32⟩, Or.inr ⟨rfl, dX6_tick_34⟩, dX6_tick_37⟩
theorem th_X6_response_8 : ThrowAt M_X6_response 8 1 := ⟨rfl, rfl, by decide, by decide, Or.inl ⟨rfl, dX6_response_8⟩, dX6_response_11, 316, "no such task", 3, by simp [thrL], Or.inr ⟨rfl, dX6_response_12⟩, Or.inl ⟨rfl, dX6_response_15⟩, dX6_response_18⟩
end
section
/-! THE STATE: K.1 f i are ints, K.2 f i naturals. The same words for the class and the reference.
ints: 0 priority 1 period 2 offset 3 deadline 4 budget 5 strict 6 state 7 workedAtStep 8 worked/used 9 releasedAt/begun 10 due 11 since 12 rank 13 urgent 14 left 15 done 16 failed 17 misses 18 lost 19 units 20 longest 21 protocol 22 ceiling 23 24 25 events: kind, time, task; 26 kinds, 27 amounts at 10 t + k; 28: 0 deadlines 1 started 2 time 3 stamp 4 thrown
naturals: 0: 0 tasks 1 mutexes 2 last + 1 3 events 4 next; 1 at 2 steps 3 waits + 1 4 owner + 1 -/
abbrev KT : Type := (Nat → Nat → Int32) × (Nat → Nat → Nat)
abbrev GT : Type := Int64 × (Nat → Int32) × (Nat → Nat)
def sI (K : KT) (f i : Nat) (v : Int32) : KT := (fun f' i' => if f' = f then (if i' = i then v else K.1 f' i') else K.1 f' i', K.2)
def sN (K : KT) (f i : Nat) (v : Nat) : KT := (K.1, fun f' i' => if f' = f then (if i' = i then v else K.2 f' i') else K.2 f' i')
theorem sI_1 (K : KT) (f i : Nat) (v : Int32) (f' i' : Nat) : (sI K f i v).1 f' i' = if f' = f then (if i' = i then v else K.1 f' i') else K.1 f' i' := rfl
theorem sI_2 (K : KT) (f i : Nat) (v : Int32) : (sI K f i v).2 = K.2 := rfl
theorem sN_1 (K : KT) (f i : Nat) (v : Nat) : (sN K f i v).1 = K.1 := rfl
theorem sN_2 (K : KT) (f i : Nat) (v : Nat) (f' i' : Nat) : (sN K f i v).2 f' i' = if f' = f then (if i' = i then v else K.2 f' i') else K.2 f' i' := rfl
theorem KT_ext {K L : KT} (h1 : ∀ f i, K.1 f i = L.1 f i) (h2 : ∀ f i, K.2 f i = L.2 f i) : K = L := Prod.ext (funext fun f => funext fun i => h1 f i) (funext fun f => funext fun i => h2 f i)
def rfq (t o : Nat) : AV := match o with
  | 0 => vN
  | i + 1 => vR t i
def mi (o : Nat) : Int32 := match o with
  | 0 => -1
  | i + 1 => nI i
theorem isRf_rfq (t o : Nat) : isRf (rfq t o) = true := by cases o <;> rfl
theorem avC_rfq (t o : Nat) : avC (rfq t o) = 1 := by cases o <;> rfl
def cBody (K : KT) (i k : Nat) : AV := if k = 0 then vR 10 i else if k = 1 then vR 11 i else if k = 2 then vI (nI (K.2 2 i)) else vN
def cJob (K : KT) (i k : Nat) : AV := if k = 0 then vI (K.1 6 i) else if k = 1 then vI (nI (K.2 1 i)) else if k = 2 then vI (K.1 7 i) else if k = 3 then vI (K.1 8 i) else if k = 4 then vI (K.1 9 i) else if k = 5 then vI (K.1 10 i) else if k = 6 then vI (K.1 11 i) else if k = 7 then rfq 4 (K.2 3 i) else if k = 8 then vI (K.1 12 i) else vN
def cJour (K : KT) (k : Nat) : AV := if k = 0 then vR 12 0 else if k = 1 then vR 13 0 else if k = 2 then vR 14 0 else if k = 3 then vI (nI (K.2 0 3)) else if k = 4 then vI (nI (K.2 0 4)) else vN
def cMut (K : KT) (i k : Nat) : AV := if k = 0 then vI (nI i) else if k = 1 then vI (K.1 21 i) else if k = 2 then vI (K.1 22 i) else if k = 3 then rfq 6 (K.2 4 i) else vN
def cTal (K : KT) (i k : Nat) : AV := if k = 0 then vI (K.1 15 i) else if k = 1 then vI (K.1 16 i) else if k = 2 then vI (K.1 17 i) else if k = 3 then vI (K.1 18 i) else if k = 4 then vI (K.1 19 i) else if k = 5 then vI (K.1 20 i) else vN
def cTask (K : KT) (i k : Nat) : AV := if k = 0 then vI (nI i) else if k = 1 then vI (K.1 0 i) else if k = 2 then vI (K.1 1 i) else if k = 3 then vI (K.1 2 i) else if k = 4 then vI (K.1 3 i) else if k = 5 then vI (K.1 4 i) else if k = 6 then vR 1 i else if k = 7 then vR 2 i else if k = 8 then vR 5 i else if k = 9 then vI (K.1 5 i) else vN
def cKer (K : KT) (k : Nat) : AV := if k = 0 then vI (K.1 28 0) else if k = 1 then vR 15 0 else if k = 2 then vR 16 0 else if k = 3 then vR 3 0 else if k = 4 then vI (nI (K.2 0 0)) else if k = 5 then vI (nI (K.2 0 1)) else if k = 6 then vI (K.1 28 1) else if k = 7 then vI (K.1 28 2) else if k = 8 then rfq 6 (K.2 0 2) else if k = 9 then vI (K.1 28 3) else vN
def cMod (K : KT) (k : Nat) : AV := if k = 0 then vI (K.1 28 4) else if k = 1 then vI (K.1 28 0) else if k = 2 then vI (K.1 28 1) else if k = 3 then vI (K.1 28 2) else if k = 4 then vI (mi (K.2 0 2)) else if k = 5 then vI (K.1 28 3) else if k = 6 then vI (nI (K.2 0 0)) else if k = 31 then vI (nI (K.2 0 1)) else if k = 35 then vI (nI (K.2 0 3)) else (if k < 39 then vR (20 + k) 0 else vN)
def cLow (K M : KT) (G : GT) (t i k : Nat) : AV := if t = 1 then cBody K i k else if t = 2 then cJob K i k else if t = 3 then (if i = 0 then cJour K k else vN) else if t = 4 then cMut K i k else if t = 5 then cTal K i k else if t = 6 then cTask K i k else if t = 7 then (if i = 0 then cKer K k else vN) else if t = 8 then (if i = 0 then cMod M k else vN) else if t = 10 then (if k < 10 then vI (K.1 26 (10 * i + k)) else vN) else if t = 11 then (if k < 10 then vI (K.1 27 (10 * i + k)) else vN) else if t = 12 then (if i = 0 then vI (K.1 23 k) else vN) else if t = 13 then (if i = 0 then vI (K.1 24 k) else vN) else if t = 14 then (if i = 0 then vI (K.1 25 k) else vN) else if t = 15 then (if i = 0 then (if k < K.2 0 0 then vR 6 k else vN) else vN) else if t = 16 then (if i = 0 then (if k < K.2 0 1 then vR 4 k else vN) else vN) else if t = 17 then (if i = 0 then (if k = 0 then vL G.1 else vN) else vN) else if t = 18 then (if i = 0 then vI (G.2.1 k) else vN) else vN
def cMa1 (M : KT) (t k : Nat) : AV := if t = 27 then vI (M.1 0 k) else if t = 28 then vI (M.1 1 k) else if t = 29 then vI (M.1 2 k) else if t = 30 then vI (M.1 3 k) else if t = 31 then vI (M.1 4 k) else if t = 32 then vI (M.1 5 k) else if t = 33 then vI (nI (M.2 2 k)) else if t = 34 then vI (M.1 26 k) else if t = 35 then vI (M.1 27 k) else if t = 36 then vI (M.1 6 k) else if t = 37 then vI (nI (M.2 1 k)) else if t = 38 then vI (M.1 14 k) else if t = 39 then vI (M.1 10 k) else if t = 40 then vI (M.1 9 k) else if t = 41 then vI (M.1 11 k) else if t = 42 then vI (mi (M.2 3 k)) else vN
def cMa2 (M : KT) (t k : Nat) : AV := if t = 43 then vI (M.1 8 k) else if t = 44 then vI (M.1 13 k) else if t = 45 then vI (M.1 15 k) else if t = 46 then vI (M.1 16 k) else if t = 47 then vI (M.1 17 k) else if t = 48 then vI (M.1 18 k) else if t = 49 then vI (M.1 19 k) else if t = 50 then vI (M.1 20 k) else if t = 52 then vI (M.1 21 k) else if t = 53 then vI (M.1 22 k) else if t = 54 then vI (mi (M.2 4 k)) else if t = 56 then vI (M.1 23 k) else if t = 57 then vI (M.1 24 k) else if t = 58 then vI (M.1 25 k) else vN
def concF (K M : KT) (G : GT) (t i k : Nat) : AV := if t < 20 then cLow K M G t i k else if i = 0 then (if t < 43 then cMa1 M t k else cMa2 M t k) else vN
def concC (K : KT) (G : GT) (t : Nat) : Nat := if t = 1 then K.2 0 0 else if t = 2 then K.2 0 0 else if t = 4 then K.2 0 1 else if t = 5 then K.2 0 0 else if t = 6 then K.2 0 0 else if t = 10 then K.2 0 0 else if t = 11 then K.2 0 0 else if t = 19 then G.2.2 3 else if t = 100 then G.2.2 1 else if t = 101 then G.2.2 2 else if t = 102 then G.2.2 0 else if t < 20 then (if t = 3 then 1 else if t = 7 then 1 else if t = 8 then 1 else if t < 12 then 0 else if t < 19 then 1 else 0) else if t < 27 then 0 else if t < 51 then 1 else if t = 52 then 1 else if t = 53 then 1 else if t = 54 then 1 else if t = 56 then 1 else if t = 57 then 1 else if t = 58 then 1 else 0
def conc (K M : KT) (G : GT) : Sto := (concF K M G, concC K G)
theorem co_tasks {K M : KT} {G : GT} {i : Nat} (h : i < K.2 0 0) : (conc K M G).1 15 0 i = vR 6 i := if_pos h
theorem co_muts {K M : KT} {G : GT} {i : Nat} (h : i < K.2 0 1) : (conc K M G).1 16 0 i = vR 4 i := if_pos h
theorem co_bk {K M : KT} {G : GT} {i k : Nat} (h : k < 10) : (conc K M G).1 10 i k = vI (K.1 26 (10 * i + k)) := if_pos h
theorem co_ba {K M : KT} {G : GT} {i k : Nat} (h : k < 10) : (conc K M G).1 11 i k = vI (K.1 27 (10 * i + k)) := if_pos h
theorem co_wait {K M : KT} {G : GT} {i w : Nat} (h : K.2 3 i = w) : (conc K M G).1 2 i 7 = rfq 4 w := by rw [← h]; rfl
theorem co_own {K M : KT} {G : GT} {i w : Nat} (h : K.2 4 i = w) : (conc K M G).1 4 i 3 = rfq 6 w := by rw [← h]; rfl
theorem co_last {K M : KT} {G : GT} {w : Nat} (h : K.2 0 2 = w) : (conc K M G).1 7 0 8 = rfq 6 w := by rw [← h]; rfl
theorem pu_job_0 (K M : KT) (G : GT) (i : Nat) (v : Int32) : setS (conc K M G) 2 i 0 (vI v) = conc (sI K 6 i v) M G := by
  refine Prod.ext (funext fun t' => funext fun i' => funext fun k' => ?_) rfl
  show (if t' = 2 ∧ i' = i ∧ k' = 0 then _ else concF K M G t' i' k') = concF (sI K 6 i v) M G t' i' k'
  by_cases ht : t' = 2
  · subst ht
    by_cases hi : i' = i
    · subst hi
      by_cases hk : k' = 0
      · subst hk
        simp [concF, cLow, cMa1, cMa2, sI, sN, rfq, mi, cJob]
      · rw [if_neg (fun c => hk c.2.2)]
        simp [concF, cLow, cMa1, cMa2, sI, sN, rfq, mi, cJob, hk]
    · rw [if_neg (fun c => hi c.2.1)]
      simp [concF, cLow, cMa1, cMa2, sI, sN, rfq, mi, cJob, hi]
  · rw [if_neg (fun c => ht c.1)]
    simp only [concF, cLow, cMa1, cMa2, if_neg ht]
    rfl
theorem pu_job_2 (K M : KT) (G : GT) (i : Nat) (v : Int32) : setS (conc K M G) 2 i 2 (vI v) = conc (sI K 7 i v) M G := by
  refine Prod.ext (funext fun t' => funext fun i' => funext fun k' => ?_) rfl
  show (if t' = 2 ∧ i' = i ∧ k' = 2 then _ else concF K M G t' i' k') = concF (sI K 7 i v) M G t' i' k'
  by_cases ht : t' = 2
  · subst ht
    by_cases hi : i' = i
    · subst hi
      by_cases hk : k' = 2
      · subst hk
        simp [concF, cLow, cMa1, cMa2, sI, sN, rfq, mi, cJob]
      · rw [if_neg (fun c => hk c.2.2)]
        simp [concF, cLow, cMa1, cMa2, sI, sN, rfq, mi, cJob, hk]
    · rw [if_neg (fun c => hi c.2.1)]
      simp [concF, cLow, cMa1, cMa2, sI, sN, rfq, mi, cJob, hi]
  · rw [if_neg (fun c => ht c.1)]
    simp only [concF, cLow, cMa1, cMa2, if_neg ht]
    rfl
theorem pu_job_3 (K M : KT) (G : GT) (i : Nat) (v : Int32) : setS (conc K M G) 2 i 3 (vI v) = conc (sI K 8 i v) M G := by
  refine Prod.ext (funext fun t' => funext fun i' => funext fun k' => ?_) rfl
  show (if t' = 2 ∧ i' = i ∧ k' = 3 then _ else concF K M G t' i' k') = concF (sI K 8 i v) M G t' i' k'
  by_cases ht : t' = 2
  · subst ht
    by_cases hi : i' = i
    · subst hi
      by_cases hk : k' = 3
      · subst hk
        simp [concF, cLow, cMa1, cMa2, sI, sN, rfq, mi, cJob]
      · rw [if_neg (fun c => hk c.2.2)]
        simp [concF, cLow, cMa1, cMa2, sI, sN, rfq, mi, cJob, hk]
    · rw [if_neg (fun c => hi c.2.1)]
      simp [concF, cLow, cMa1, cMa2, sI, sN, rfq, mi, cJob, hi]
  · rw [if_neg (fun c => ht c.1)]
    simp only [concF, cLow, cMa1, cMa2, if_neg ht]
    rfl
theorem pu_job_4 (K M : KT) (G : GT) (i : Nat) (v : Int32) : setS (conc K M G) 2 i 4 (vI v) = conc (sI K 9 i v) M G := by
  refine Prod.ext (funext fun t' => funext fun i' => funext fun k' => ?_) rfl
  show (if t' = 2 ∧ i' = i ∧ k' = 4 then _ else concF K M G t' i' k') = concF (sI K 9 i v) M G t' i' k'
  by_cases ht : t' = 2
  · subst ht
    by_cases hi : i' = i
    · subst hi
      by_cases hk : k' = 4
      · subst hk
        simp [concF, cLow, cMa1, cMa2, sI, sN, rfq, mi, cJob]
      · rw [if_neg (fun c => hk c.2.2)]
        simp [concF, cLow, cMa1, cMa2, sI, sN, rfq, mi, cJob, hk]
    · rw [if_neg (fun c => hi c.2.1)]
      simp [concF, cLow, cMa1, cMa2, sI, sN, rfq, mi, cJob, hi]
  · rw [if_neg (fun c => ht c.1)]
    simp only [concF, cLow, cMa1, cMa2, if_neg ht]
    rfl
theorem pu_job_5 (K M : KT) (G : GT) (i : Nat) (v : Int32) : setS (conc K M G) 2 i 5 (vI v) = conc (sI K 10 i v) M G := by
  refine Prod.ext (funext fun t' => funext fun i' => funext fun k' => ?_) rfl
  show (if t' = 2 ∧ i' = i ∧ k' = 5 then _ else concF K M G t' i' k') = concF (sI K 10 i v) M G t' i' k'
  by_cases ht : t' = 2
  · subst ht
    by_cases hi : i' = i
    · subst hi
      by_cases hk : k' = 5
      · subst hk
        simp [concF, cLow, cMa1, cMa2, sI, sN, rfq, mi, cJob]
      · rw [if_neg (fun c => hk c.2.2)]
        simp [concF, cLow, cMa1, cMa2, sI, sN, rfq, mi, cJob, hk]
    · rw [if_neg (fun c => hi c.2.1)]
      simp [concF, cLow, cMa1, cMa2, sI, sN, rfq, mi, cJob, hi]
  · rw [if_neg (fun c => ht c.1)]
    simp only [concF, cLow, cMa1, cMa2, if_neg ht]
    rfl
theorem pu_job_6 (K M : KT) (G : GT) (i : Nat) (v : Int32) : setS (conc K M G) 2 i 6 (vI v) = conc (sI K 11 i v) M G := by
  refine Prod.ext (funext fun t' => funext fun i' => funext fun k' => ?_) rfl
  show (if t' = 2 ∧ i' = i ∧ k' = 6 then _ else concF K M G t' i' k') = concF (sI K 11 i v) M G t' i' k'
  by_cases ht : t' = 2
  · subst ht
    by_cases hi : i' = i
    · subst hi
      by_cases hk : k' = 6
      · subst hk
        simp [concF, cLow, cMa1, cMa2, sI, sN, rfq, mi, cJob]
      · rw [if_neg (fun c => hk c.2.2)]
        simp [concF, cLow, cMa1, cMa2, sI, sN, rfq, mi, cJob, hk]
    · rw [if_neg (fun c => hi c.2.1)]
      simp [concF, cLow, cMa1, cMa2, sI, sN, rfq, mi, cJob, hi]
  · rw [if_neg (fun c => ht c.1)]
    simp only [concF, cLow, cMa1, cMa2, if_neg ht]
    rfl
theorem pu_job_8 (K M : KT) (G : GT) (i : Nat) (v : Int32) : setS (conc K M G) 2 i 8 (vI v) = conc (sI K 12 i v) M G := by
  refine Prod.ext (funext fun t' => funext fun i' => funext fun k' => ?_) rfl
  show (if t' = 2 ∧ i' = i ∧ k' = 8 then _ else concF K M G t' i' k') = concF (sI K 12 i v) M G t' i' k'
  by_cases ht : t' = 2
  · subst ht
    by_cases hi : i' = i
    · subst hi
      by_cases hk : k' = 8
      · subst hk
        simp [concF, cLow, cMa1, cMa2, sI, sN, rfq, mi, cJob]
      · rw [if_neg (fun c => hk c.2.2)]
        simp [concF, cLow, cMa1, cMa2, sI, sN, rfq, mi, cJob, hk]
    · rw [if_neg (fun c => hi c.2.1)]
      simp [concF, cLow, cMa1, cMa2, sI, sN, rfq, mi, cJob, hi]
  · rw [if_neg (fun c => ht c.1)]
    simp only [concF, cLow, cMa1, cMa2, if_neg ht]
    rfl
theorem pu_job_1 (K M : KT) (G : GT) (i v : Nat) : setS (conc K M G) 2 i 1 (vI (nI v)) = conc (sN K 1 i v) M G := by
  refine Prod.ext (funext fun t' => funext fun i' => funext fun k' => ?_) rfl
  show (if t' = 2 ∧ i' = i ∧ k' = 1 then _ else concF K M G t' i' k') = concF (sN K 1 i v) M G t' i' k'
  by_cases ht : t' = 2
  · subst ht
    by_cases hi : i' = i
    · subst hi
      by_cases hk : k' = 1
      · subst hk
        simp [concF, cLow, cMa1, cMa2, sI, sN, rfq, mi, cJob]
      · rw [if_neg (fun c => hk c.2.2)]
        simp [concF, cLow, cMa1, cMa2, sI, sN, rfq, mi, cJob, hk]
    · rw [if_neg (fun c => hi c.2.1)]
      simp [concF, cLow, cMa1, cMa2, sI, sN, rfq, mi, cJob, hi]
  · rw [if_neg (fun c => ht c.1)]
    simp only [concF, cLow, cMa1, cMa2, if_neg ht]
    rfl
theorem pu_job_7n (K M : KT) (G : GT) (i : Nat) : setS (conc K M G) 2 i 7 (vN) = conc (sN K 3 i 0) M G := by
  refine Prod.ext (funext fun t' => funext fun i' => funext fun k' => ?_) rfl
  show (if t' = 2 ∧ i' = i ∧ k' = 7 then _ else concF K M G t' i' k') = concF (sN K 3 i 0) M G t' i' k'
  by_cases ht : t' = 2
  · subst ht
    by_cases hi : i' = i
    · subst hi
      by_cases hk : k' = 7
      · subst hk
        simp [concF, cLow, cMa1, cMa2, sI, sN, rfq, mi, cJob]
      · rw [if_neg (fun c => hk c.2.2)]
        simp [concF, cLow, cMa1, cMa2, sI, sN, rfq, mi, cJob, hk]
    · rw [if_neg (fun c => hi c.2.1)]
      simp [concF, cLow, cMa1, cMa2, sI, sN, rfq, mi, cJob, hi]
  · rw [if_neg (fun c => ht c.1)]
    simp only [concF, cLow, cMa1, cMa2, if_neg ht]
    rfl
theorem pu_job_7 (K M : KT) (G : GT) (i v : Nat) : setS (conc K M G) 2 i 7 (vR 4 v) = conc (sN K 3 i (v + 1)) M G := by
  refine Prod.ext (funext fun t' => funext fun i' => funext fun k' => ?_) rfl
  show (if t' = 2 ∧ i' = i ∧ k' = 7 then _ else concF K M G t' i' k') = concF (sN K 3 i (v + 1)) M G t' i' k'
  by_cases ht : t' = 2
  · subst ht
    by_cases hi : i' = i
    · subst hi
      by_cases hk : k' = 7
      · subst hk
        simp [concF, cLow, cMa1, cMa2, sI, sN, rfq, mi, cJob]
      · rw [if_neg (fun c => hk c.2.2)]
        simp [concF, cLow, cMa1, cMa2, sI, sN, rfq, mi, cJob, hk]
    · rw [if_neg (fun c => hi c.2.1)]
      simp [concF, cLow, cMa1, cMa2, sI, sN, rfq, mi, cJob, hi]
  · rw [if_neg (fun c => ht c.1)]
    simp only [concF, cLow, cMa1, cMa2, if_neg ht]
    rfl
theorem pu_body_2 (K M : KT) (G : GT) (i v : Nat) : setS (conc K M G) 1 i 2 (vI (nI v)) = conc (sN K 2 i v) M G := by
  refine Prod.ext (funext fun t' => funext fun i' => funext fun k' => ?_) rfl
  show (if t' = 1 ∧ i' = i ∧ k' = 2 then _ else concF K M G t' i' k') = concF (sN K 2 i v) M G t' i' k'
  by_cases ht : t' = 1
  · subst ht
    by_cases hi : i' = i
    · subst hi
      by_cases hk : k' = 2
      · subst hk
        simp [concF, cLow, cMa1, cMa2, sI, sN, rfq, mi, cBody]
      · rw [if_neg (fun c => hk c.2.2)]
        simp [concF, cLow, cMa1, cMa2, sI, sN, rfq, mi, cBody, hk]
    · rw [if_neg (fun c => hi c.2.1)]
      simp [concF, cLow, cMa1, cMa2, sI, sN, rfq, mi, cBody, hi]
  · rw [if_neg (fun c => ht c.1)]
    simp only [concF, cLow, cMa1, cMa2, if_neg ht]
    rfl
theorem pu_jour_3 (K M : KT) (G : GT) (v : Nat) : setS (conc K M G) 3 0 3 (vI (nI v)) = conc (sN K 0 3 v) M G := by
  refine Prod.ext (funext fun t' => funext fun i' => funext fun k' => ?_) rfl
  show (if t' = 3 ∧ i' = 0 ∧ k' = 3 then _ else concF K M G t' i' k') = concF (sN K 0 3 v) M G t' i' k'
  by_cases ht : t' = 3
  · subst ht
    by_cases hi : i' = 0
    · subst hi
      by_cases hk : k' = 3
      · subst hk
        simp [concF, cLow, cMa1, cMa2, sI, sN, rfq, mi, cJour]
      · rw [if_neg (fun c => hk c.2.2)]
        simp [concF, cLow, cMa1, cMa2, sI, sN, rfq, mi, cJour, hk]
    · rw [if_neg (fun c => hi c.2.1)]
      simp [concF, cLow, cMa1, cMa2, sI, sN, rfq, mi, cJour, hi]
  · rw [if_neg (fun c => ht c.1)]
    simp only [concF, cLow, cMa1, cMa2, if_neg ht]
    rfl
theorem pu_jour_4 (K M : KT) (G : GT) (v : Nat) : setS (conc K M G) 3 0 4 (vI (nI v)) = conc (sN K 0 4 v) M G := by
  refine Prod.ext (funext fun t' => funext fun i' => funext fun k' => ?_) rfl
  show (if t' = 3 ∧ i' = 0 ∧ k' = 4 then _ else concF K M G t' i' k') = concF (sN K 0 4 v) M G t' i' k'
  by_cases ht : t' = 3
  · subst ht
    by_cases hi : i' = 0
    · subst hi
      by_cases hk : k' = 4
      · subst hk
        simp [concF, cLow, cMa1, cMa2, sI, sN, rfq, mi, cJour]
      · rw [if_neg (fun c => hk c.2.2)]
        simp [concF, cLow, cMa1, cMa2, sI, sN, rfq, mi, cJour, hk]
    · rw [if_neg (fun c => hi c.2.1)]
      simp [concF, cLow, cMa1, cMa2, sI, sN, rfq, mi, cJour, hi]
  · rw [if_neg (fun c => ht c.1)]
    simp only [concF, cLow, cMa1, cMa2, if_neg ht]
    rfl
theorem pu_mut_3n (K M : KT) (G : GT) (i : Nat) : setS (conc K M G) 4 i 3 (vN) = conc (sN K 4 i 0) M G := by
  refine Prod.ext (funext fun t' => funext fun i' => funext fun k' => ?_) rfl
  show (if t' = 4 ∧ i' = i ∧ k' = 3 then _ else concF K M G t' i' k') = concF (sN K 4 i 0) M G t' i' k'
  by_cases ht : t' = 4
  · subst ht
    by_cases hi : i' = i
    · subst hi
      by_cases hk : k' = 3
      · subst hk
        simp [concF, cLow, cMa1, cMa2, sI, sN, rfq, mi, cMut]
      · rw [if_neg (fun c => hk c.2.2)]
        simp [concF, cLow, cMa1, cMa2, sI, sN, rfq, mi, cMut, hk]
    · rw [if_neg (fun c => hi c.2.1)]
      simp [concF, cLow, cMa1, cMa2, sI, sN, rfq, mi, cMut, hi]
  · rw [if_neg (fun c => ht c.1)]
    simp only [concF, cLow, cMa1, cMa2, if_neg ht]
    rfl
theorem pu_mut_3 (K M : KT) (G : GT) (i v : Nat) : setS (conc K M G) 4 i 3 (vR 6 v) = conc (sN K 4 i (v + 1)) M G := by
  refine Prod.ext (funext fun t' => funext fun i' => funext fun k' => ?_) rfl
  show (if t' = 4 ∧ i' = i ∧ k' = 3 then _ else concF K M G t' i' k') = concF (sN K 4 i (v + 1)) M G t' i' k'
  by_cases ht : t' = 4
  · subst ht
    by_cases hi : i' = i
    · subst hi
      by_cases hk : k' = 3
      · subst hk
        simp [concF, cLow, cMa1, cMa2, sI, sN, rfq, mi, cMut]
      · rw [if_neg (fun c => hk c.2.2)]
        simp [concF, cLow, cMa1, cMa2, sI, sN, rfq, mi, cMut, hk]
    · rw [if_neg (fun c => hi c.2.1)]
      simp [concF, cLow, cMa1, cMa2, sI, sN, rfq, mi, cMut, hi]
  · rw [if_neg (fun c => ht c.1)]
    simp only [concF, cLow, cMa1, cMa2, if_neg ht]
    rfl
theorem pu_tal_0 (K M : KT) (G : GT) (i : Nat) (v : Int32) : setS (conc K M G) 5 i 0 (vI v) = conc (sI K 15 i v) M G := by
  refine Prod.ext (funext fun t' => funext fun i' => funext fun k' => ?_) rfl
  show (if t' = 5 ∧ i' = i ∧ k' = 0 then _ else concF K M G t' i' k') = concF (sI K 15 i v) M G t' i' k'
  by_cases ht : t' = 5
  · subst ht
    by_cases hi : i' = i
    · subst hi
      by_cases hk : k' = 0
      · subst hk
        simp [concF, cLow, cMa1, cMa2, sI, sN, rfq, mi, cTal]
      · rw [if_neg (fun c => hk c.2.2)]
        simp [concF, cLow, cMa1, cMa2, sI, sN, rfq, mi, cTal, hk]
    · rw [if_neg (fun c => hi c.2.1)]
      simp [concF, cLow, cMa1, cMa2, sI, sN, rfq, mi, cTal, hi]
  · rw [if_neg (fun c => ht c.1)]
    simp only [concF, cLow, cMa1, cMa2, if_neg ht]
    rfl
theorem pu_tal_1 (K M : KT) (G : GT) (i : Nat) (v : Int32) : setS (conc K M G) 5 i 1 (vI v) = conc (sI K 16 i v) M G := by
  refine Prod.ext (funext fun t' => funext fun i' => funext fun k' => ?_) rfl
  show (if t' = 5 ∧ i' = i ∧ k' = 1 then _ else concF K M G t' i' k') = concF (sI K 16 i v) M G t' i' k'
  by_cases ht : t' = 5
  · subst ht
    by_cases hi : i' = i
    · subst hi
      by_cases hk : k' = 1
      · subst hk
        simp [concF, cLow, cMa1, cMa2, sI, sN, rfq, mi, cTal]
      · rw [if_neg (fun c => hk c.2.2)]
        simp [concF, cLow, cMa1, cMa2, sI, sN, rfq, mi, cTal, hk]
    · rw [if_neg (fun c => hi c.2.1)]
      simp [concF, cLow, cMa1, cMa2, sI, sN, rfq, mi, cTal, hi]
  · rw [if_neg (fun c => ht c.1)]
    simp only [concF, cLow, cMa1, cMa2, if_neg ht]
    rfl
theorem pu_tal_2 (K M : KT) (G : GT) (i : Nat) (v : Int32) : setS (conc K M G) 5 i 2 (vI v) = conc (sI K 17 i v) M G := by
  refine Prod.ext (funext fun t' => funext fun i' => funext fun k' => ?_) rfl
  show (if t' = 5 ∧ i' = i ∧ k' = 2 then _ else concF K M G t' i' k') = concF (sI K 17 i v) M G t' i' k'
  by_cases ht : t' = 5
  · subst ht
    by_cases hi : i' = i
    · subst hi
      by_cases hk : k' = 2
      · subst hk
        simp [concF, cLow, cMa1, cMa2, sI, sN, rfq, mi, cTal]
      · rw [if_neg (fun c => hk c.2.2)]
        simp [concF, cLow, cMa1, cMa2, sI, sN, rfq, mi, cTal, hk]
    · rw [if_neg (fun c => hi c.2.1)]
      simp [concF, cLow, cMa1, cMa2, sI, sN, rfq, mi, cTal, hi]
  · rw [if_neg (fun c => ht c.1)]
    simp only [concF, cLow, cMa1, cMa2, if_neg ht]
    rfl
theorem pu_tal_3 (K M : KT) (G : GT) (i : Nat) (v : Int32) : setS (conc K M G) 5 i 3 (vI v) = conc (sI K 18 i v) M G := by
  refine Prod.ext (funext fun t' => funext fun i' => funext fun k' => ?_) rfl
  show (if t' = 5 ∧ i' = i ∧ k' = 3 then _ else concF K M G t' i' k') = concF (sI K 18 i v) M G t' i' k'
  by_cases ht : t' = 5
  · subst ht
    by_cases hi : i' = i
    · subst hi
      by_cases hk : k' = 3
      · subst hk
        simp [concF, cLow, cMa1, cMa2, sI, sN, rfq, mi, cTal]
      · rw [if_neg (fun c => hk c.2.2)]
        simp [concF, cLow, cMa1, cMa2, sI, sN, rfq, mi, cTal, hk]
    · rw [if_neg (fun c => hi c.2.1)]
      simp [concF, cLow, cMa1, cMa2, sI, sN, rfq, mi, cTal, hi]
  · rw [if_neg (fun c => ht c.1)]
    simp only [concF, cLow, cMa1, cMa2, if_neg ht]
    rfl
theorem pu_tal_4 (K M : KT) (G : GT) (i : Nat) (v : Int32) : setS (conc K M G) 5 i 4 (vI v) = conc (sI K 19 i v) M G := by
  refine Prod.ext (funext fun t' => funext fun i' => funext fun k' => ?_) rfl
  show (if t' = 5 ∧ i' = i ∧ k' = 4 then _ else concF K M G t' i' k') = concF (sI K 19 i v) M G t' i' k'
  by_cases ht : t' = 5
  · subst ht
    by_cases hi : i' = i
    · subst hi
      by_cases hk : k' = 4
      · subst hk
        simp [concF, cLow, cMa1, cMa2, sI, sN, rfq, mi, cTal]
      · rw [if_neg (fun c => hk c.2.2)]
        simp [concF, cLow, cMa1, cMa2, sI, sN, rfq, mi, cTal, hk]
    · rw [if_neg (fun c => hi c.2.1)]
      simp [concF, cLow, cMa1, cMa2, sI, sN, rfq, mi, cTal, hi]
  · rw [if_neg (fun c => ht c.1)]
    simp only [concF, cLow, cMa1, cMa2, if_neg ht]
    rfl
theorem pu_tal_5 (K M : KT) (G : GT) (i : Nat) (v : Int32) : setS (conc K M G) 5 i 5 (vI v) = conc (sI K 20 i v) M G := by
  refine Prod.ext (funext fun t' => funext fun i' => funext fun k' => ?_) rfl
  show (if t' = 5 ∧ i' = i ∧ k' = 5 then _ else concF K M G t' i' k') = concF (sI K 20 i v) M G t' i' k'
  by_cases ht : t' = 5
  · subst ht
    by_cases hi : i' = i
    · subst hi
      by_cases hk : k' = 5
      · subst hk
        simp [concF, cLow, cMa1, cMa2, sI, sN, rfq, mi, cTal]
      · rw [if_neg (fun c => hk c.2.2)]
        simp [concF, cLow, cMa1, cMa2, sI, sN, rfq, mi, cTal, hk]
    · rw [if_neg (fun c => hi c.2.1)]
      simp [concF, cLow, cMa1, cMa2, sI, sN, rfq, mi, cTal, hi]
  · rw [if_neg (fun c => ht c.1)]
    simp only [concF, cLow, cMa1, cMa2, if_neg ht]
    rfl
theorem pu_task_9 (K M : KT) (G : GT) (i : Nat) (v : Int32) : setS (conc K M G) 6 i 9 (vI v) = conc (sI K 5 i v) M G := by
  refine Prod.ext (funext fun t' => funext fun i' => funext fun k' => ?_) rfl
  show (if t' = 6 ∧ i' = i ∧ k' = 9 then _ else concF K M G t' i' k') = concF (sI K 5 i v) M G t' i' k'
  by_cases ht : t' = 6
  · subst ht
    by_cases hi : i' = i
    · subst hi
      by_cases hk : k' = 9
      · subst hk
        simp [concF, cLow, cMa1, cMa2, sI, sN, rfq, mi, cTask]
      · rw [if_neg (fun c => hk c.2.2)]
        simp [concF, cLow, cMa1, cMa2, sI, sN, rfq, mi, cTask, hk]
    · rw [if_neg (fun c => hi c.2.1)]
      simp [concF, cLow, cMa1, cMa2, sI, sN, rfq, mi, cTask, hi]
  · rw [if_neg (fun c => ht c.1)]
    simp only [concF, cLow, cMa1, cMa2, if_neg ht]
    rfl
theorem pu_ker_6 (K M : KT) (G : GT) (v : Int32) : setS (conc K M G) 7 0 6 (vI v) = conc (sI K 28 1 v) M G := by
  refine Prod.ext (funext fun t' => funext fun i' => funext fun k' => ?_) rfl
  show (if t' = 7 ∧ i' = 0 ∧ k' = 6 then _ else concF K M G t' i' k') = concF (sI K 28 1 v) M G t' i' k'
  by_cases ht : t' = 7
  · subst ht
    by_cases hi : i' = 0
    · subst hi
      by_cases hk : k' = 6
      · subst hk
        simp [concF, cLow, cMa1, cMa2, sI, sN, rfq, mi, cKer]
      · rw [if_neg (fun c => hk c.2.2)]
        simp [concF, cLow, cMa1, cMa2, sI, sN, rfq, mi, cKer, hk]
    · rw [if_neg (fun c => hi c.2.1)]
      simp [concF, cLow, cMa1, cMa2, sI, sN, rfq, mi, cKer, hi]
  · rw [if_neg (fun c => ht c.1)]
    simp only [concF, cLow, cMa1, cMa2, if_neg ht]
    rfl
theorem pu_ker_7 (K M : KT) (G : GT) (v : Int32) : setS (conc K M G) 7 0 7 (vI v) = conc (sI K 28 2 v) M G := by
  refine Prod.ext (funext fun t' => funext fun i' => funext fun k' => ?_) rfl
  show (if t' = 7 ∧ i' = 0 ∧ k' = 7 then _ else concF K M G t' i' k') = concF (sI K 28 2 v) M G t' i' k'
  by_cases ht : t' = 7
  · subst ht
    by_cases hi : i' = 0
    · subst hi
      by_cases hk : k' = 7
      · subst hk
        simp [concF, cLow, cMa1, cMa2, sI, sN, rfq, mi, cKer]
      · rw [if_neg (fun c => hk c.2.2)]
        simp [concF, cLow, cMa1, cMa2, sI, sN, rfq, mi, cKer, hk]
    · rw [if_neg (fun c => hi c.2.1)]
      simp [concF, cLow, cMa1, cMa2, sI, sN, rfq, mi, cKer, hi]
  · rw [if_neg (fun c => ht c.1)]
    simp only [concF, cLow, cMa1, cMa2, if_neg ht]
    rfl
theorem pu_ker_9 (K M : KT) (G : GT) (v : Int32) : setS (conc K M G) 7 0 9 (vI v) = conc (sI K 28 3 v) M G := by
  refine Prod.ext (funext fun t' => funext fun i' => funext fun k' => ?_) rfl
  show (if t' = 7 ∧ i' = 0 ∧ k' = 9 then _ else concF K M G t' i' k') = concF (sI K 28 3 v) M G t' i' k'
  by_cases ht : t' = 7
  · subst ht
    by_cases hi : i' = 0
    · subst hi
      by_cases hk : k' = 9
      · subst hk
        simp [concF, cLow, cMa1, cMa2, sI, sN, rfq, mi, cKer]
      · rw [if_neg (fun c => hk c.2.2)]
        simp [concF, cLow, cMa1, cMa2, sI, sN, rfq, mi, cKer, hk]
    · rw [if_neg (fun c => hi c.2.1)]
      simp [concF, cLow, cMa1, cMa2, sI, sN, rfq, mi, cKer, hi]
  · rw [if_neg (fun c => ht c.1)]
    simp only [concF, cLow, cMa1, cMa2, if_neg ht]
    rfl
theorem pu_ker_8 (K M : KT) (G : GT) (v : Nat) : setS (conc K M G) 7 0 8 (vR 6 v) = conc (sN K 0 2 (v + 1)) M G := by
  refine Prod.ext (funext fun t' => funext fun i' => funext fun k' => ?_) rfl
  show (if t' = 7 ∧ i' = 0 ∧ k' = 8 then _ else concF K M G t' i' k') = concF (sN K 0 2 (v + 1)) M G t' i' k'
  by_cases ht : t' = 7
  · subst ht
    by_cases hi : i' = 0
    · subst hi
      by_cases hk : k' = 8
      · subst hk
        simp [concF, cLow, cMa1, cMa2, sI, sN, rfq, mi, cKer]
      · rw [if_neg (fun c => hk c.2.2)]
        simp [concF, cLow, cMa1, cMa2, sI, sN, rfq, mi, cKer, hk]
    · rw [if_neg (fun c => hi c.2.1)]
      simp [concF, cLow, cMa1, cMa2, sI, sN, rfq, mi, cKer, hi]
  · rw [if_neg (fun c => ht c.1)]
    simp only [concF, cLow, cMa1, cMa2, if_neg ht]
    rfl
theorem pu_ja_12 (K M : KT) (G : GT) (j : Nat) (v : Int32) : setS (conc K M G) 12 0 j (vI v) = conc (sI K 23 j v) M G := by
  refine Prod.ext (funext fun t' => funext fun i' => funext fun k' => ?_) rfl
  show (if t' = 12 ∧ i' = 0 ∧ k' = j then _ else concF K M G t' i' k') = concF (sI K 23 j v) M G t' i' k'
  by_cases ht : t' = 12
  · subst ht
    by_cases hi : i' = 0
    · subst hi
      by_cases hk : k' = j
      · subst hk
        simp [concF, cLow, cMa1, cMa2, sI, sN, rfq, mi]
      · rw [if_neg (fun c => hk c.2.2)]
        simp [concF, cLow, cMa1, cMa2, sI, sN, rfq, mi, hk]
    · rw [if_neg (fun c => hi c.2.1)]
      simp [concF, cLow, cMa1, cMa2, sI, sN, rfq, mi, hi]
  · rw [if_neg (fun c => ht c.1)]
    simp only [concF, cLow, cMa1, cMa2, if_neg ht]
    rfl
theorem pu_ja_13 (K M : KT) (G : GT) (j : Nat) (v : Int32) : setS (conc K M G) 13 0 j (vI v) = conc (sI K 24 j v) M G := by
  refine Prod.ext (funext fun t' => funext fun i' => funext fun k' => ?_) rfl
  show (if t' = 13 ∧ i' = 0 ∧ k' = j then _ else concF K M G t' i' k') = concF (sI K 24 j v) M G t' i' k'
  by_cases ht : t' = 13
  · subst ht
    by_cases hi : i' = 0
    · subst hi
      by_cases hk : k' = j
      · subst hk
        simp [concF, cLow, cMa1, cMa2, sI, sN, rfq, mi]
      · rw [if_neg (fun c => hk c.2.2)]
        simp [concF, cLow, cMa1, cMa2, sI, sN, rfq, mi, hk]
    · rw [if_neg (fun c => hi c.2.1)]
      simp [concF, cLow, cMa1, cMa2, sI, sN, rfq, mi, hi]
  · rw [if_neg (fun c => ht c.1)]
    simp only [concF, cLow, cMa1, cMa2, if_neg ht]
    rfl
theorem pu_ja_14 (K M : KT) (G : GT) (j : Nat) (v : Int32) : setS (conc K M G) 14 0 j (vI v) = conc (sI K 25 j v) M G := by
  refine Prod.ext (funext fun t' => funext fun i' => funext fun k' => ?_) rfl
  show (if t' = 14 ∧ i' = 0 ∧ k' = j then _ else concF K M G t' i' k') = concF (sI K 25 j v) M G t' i' k'
  by_cases ht : t' = 14
  · subst ht
    by_cases hi : i' = 0
    · subst hi
      by_cases hk : k' = j
      · subst hk
        simp [concF, cLow, cMa1, cMa2, sI, sN, rfq, mi]
      · rw [if_neg (fun c => hk c.2.2)]
        simp [concF, cLow, cMa1, cMa2, sI, sN, rfq, mi, hk]
    · rw [if_neg (fun c => hi c.2.1)]
      simp [concF, cLow, cMa1, cMa2, sI, sN, rfq, mi, hi]
  · rw [if_neg (fun c => ht c.1)]
    simp only [concF, cLow, cMa1, cMa2, if_neg ht]
    rfl
theorem pu_mod_0 (K M : KT) (G : GT) (v : Int32) : setS (conc K M G) 8 0 0 (vI v) = conc K (sI M 28 4 v) G := by
  refine Prod.ext (funext fun t' => funext fun i' => funext fun k' => ?_) rfl
  show (if t' = 8 ∧ i' = 0 ∧ k' = 0 then _ else concF K M G t' i' k') = concF K (sI M 28 4 v) G t' i' k'
  by_cases ht : t' = 8
  · subst ht
    by_cases hi : i' = 0
    · subst hi
      by_cases hk : k' = 0
      · subst hk
        simp [concF, cLow, cMa1, cMa2, sI, sN, rfq, mi, cMod]
      · rw [if_neg (fun c => hk c.2.2)]
        simp [concF, cLow, cMa1, cMa2, sI, sN, rfq, mi, cMod, hk]
    · rw [if_neg (fun c => hi c.2.1)]
      simp [concF, cLow, cMa1, cMa2, sI, sN, rfq, mi, cMod, hi]
  · rw [if_neg (fun c => ht c.1)]
    simp only [concF, cLow, cMa1, cMa2, if_neg ht]
    rfl
theorem pu_mod_2 (K M : KT) (G : GT) (v : Int32) : setS (conc K M G) 8 0 2 (vI v) = conc K (sI M 28 1 v) G := by
  refine Prod.ext (funext fun t' => funext fun i' => funext fun k' => ?_) rfl
  show (if t' = 8 ∧ i' = 0 ∧ k' = 2 then _ else concF K M G t' i' k') = concF K (sI M 28 1 v) G t' i' k'
  by_cases ht : t' = 8
  · subst ht
    by_cases hi : i' = 0
    · subst hi
      by_cases hk : k' = 2
      · subst hk
        simp [concF, cLow, cMa1, cMa2, sI, sN, rfq, mi, cMod]
      · rw [if_neg (fun c => hk c.2.2)]
        simp [concF, cLow, cMa1, cMa2, sI, sN, rfq, mi, cMod, hk]
    · rw [if_neg (fun c => hi c.2.1)]
      simp [concF, cLow, cMa1, cMa2, sI, sN, rfq, mi, cMod, hi]
  · rw [if_neg (fun c => ht c.1)]
    simp only [concF, cLow, cMa1, cMa2, if_neg ht]
    rfl
theorem pu_mod_3 (K M : KT) (G : GT) (v : Int32) : setS (conc K M G) 8 0 3 (vI v) = conc K (sI M 28 2 v) G := by
  refine Prod.ext (funext fun t' => funext fun i' => funext fun k' => ?_) rfl
  show (if t' = 8 ∧ i' = 0 ∧ k' = 3 then _ else concF K M G t' i' k') = concF K (sI M 28 2 v) G t' i' k'
  by_cases ht : t' = 8
  · subst ht
    by_cases hi : i' = 0
    · subst hi
      by_cases hk : k' = 3
      · subst hk
        simp [concF, cLow, cMa1, cMa2, sI, sN, rfq, mi, cMod]
      · rw [if_neg (fun c => hk c.2.2)]
        simp [concF, cLow, cMa1, cMa2, sI, sN, rfq, mi, cMod, hk]
    · rw [if_neg (fun c => hi c.2.1)]
      simp [concF, cLow, cMa1, cMa2, sI, sN, rfq, mi, cMod, hi]
  · rw [if_neg (fun c => ht c.1)]
    simp only [concF, cLow, cMa1, cMa2, if_neg ht]
    rfl
theorem pu_mod_5 (K M : KT) (G : GT) (v : Int32) : setS (conc K M G) 8 0 5 (vI v) = conc K (sI M 28 3 v) G := by
  refine Prod.ext (funext fun t' => funext fun i' => funext fun k' => ?_) rfl
  show (if t' = 8 ∧ i' = 0 ∧ k' = 5 then _ else concF K M G t' i' k') = concF K (sI M 28 3 v) G t' i' k'
  by_cases ht : t' = 8
  · subst ht
    by_cases hi : i' = 0
    · subst hi
      by_cases hk : k' = 5
      · subst hk
        simp [concF, cLow, cMa1, cMa2, sI, sN, rfq, mi, cMod]
      · rw [if_neg (fun c => hk c.2.2)]
        simp [concF, cLow, cMa1, cMa2, sI, sN, rfq, mi, cMod, hk]
    · rw [if_neg (fun c => hi c.2.1)]
      simp [concF, cLow, cMa1, cMa2, sI, sN, rfq, mi, cMod, hi]
  · rw [if_neg (fun c => ht c.1)]
    simp only [concF, cLow, cMa1, cMa2, if_neg ht]
    rfl
theorem pu_mod_4 (K M : KT) (G : GT) (v : Nat) : setS (conc K M G) 8 0 4 (vI (nI v)) = conc K (sN M 0 2 (v + 1)) G := by
  refine Prod.ext (funext fun t' => funext fun i' => funext fun k' => ?_) rfl
  show (if t' = 8 ∧ i' = 0 ∧ k' = 4 then _ else concF K M G t' i' k') = concF K (sN M 0 2 (v + 1)) G t' i' k'
  by_cases ht : t' = 8
  · subst ht
    by_cases hi : i' = 0
    · subst hi
      by_cases hk : k' = 4
      · subst hk
        simp [concF, cLow, cMa1, cMa2, sI, sN, rfq, mi, cMod]
      · rw [if_neg (fun c => hk c.2.2)]
        simp [concF, cLow, cMa1, cMa2, sI, sN, rfq, mi, cMod, hk]
    · rw [if_neg (fun c => hi c.2.1)]
      simp [concF, cLow, cMa1, cMa2, sI, sN, rfq, mi, cMod, hi]
  · rw [if_neg (fun c => ht c.1)]
    simp only [concF, cLow, cMa1, cMa2, if_neg ht]
    rfl
theorem pu_mod_6 (K M : KT) (G : GT) (v : Nat) : setS (conc K M G) 8 0 6 (vI (nI v)) = conc K (sN M 0 0 v) G := by
  refine Prod.ext (funext fun t' => funext fun i' => funext fun k' => ?_) rfl
  show (if t' = 8 ∧ i' = 0 ∧ k' = 6 then _ else concF K M G t' i' k') = concF K (sN M 0 0 v) G t' i' k'
  by_cases ht : t' = 8
  · subst ht
    by_cases hi : i' = 0
    · subst hi
      by_cases hk : k' = 6
      · subst hk
        simp [concF, cLow, cMa1, cMa2, sI, sN, rfq, mi, cMod]
      · rw [if_neg (fun c => hk c.2.2)]
        simp [concF, cLow, cMa1, cMa2, sI, sN, rfq, mi, cMod, hk]
    · rw [if_neg (fun c => hi c.2.1)]
      simp [concF, cLow, cMa1, cMa2, sI, sN, rfq, mi, cMod, hi]
  · rw [if_neg (fun c => ht c.1)]
    simp only [concF, cLow, cMa1, cMa2, if_neg ht]
    rfl
theorem pu_mod_31 (K M : KT) (G : GT) (v : Nat) : setS (conc K M G) 8 0 31 (vI (nI v)) = conc K (sN M 0 1 v) G := by
  refine Prod.ext (funext fun t' => funext fun i' => funext fun k' => ?_) rfl
  show (if t' = 8 ∧ i' = 0 ∧ k' = 31 then _ else concF K M G t' i' k') = concF K (sN M 0 1 v) G t' i' k'
  by_cases ht : t' = 8
  · subst ht
    by_cases hi : i' = 0
    · subst hi
      by_cases hk : k' = 31
      · subst hk
        simp [concF, cLow, cMa1, cMa2, sI, sN, rfq, mi, cMod]
      · rw [if_neg (fun c => hk c.2.2)]
        simp [concF, cLow, cMa1, cMa2, sI, sN, rfq, mi, cMod, hk]
    · rw [if_neg (fun c => hi c.2.1)]
      simp [concF, cLow, cMa1, cMa2, sI, sN, rfq, mi, cMod, hi]
  · rw [if_neg (fun c => ht c.1)]
    simp only [concF, cLow, cMa1, cMa2, if_neg ht]
    rfl
theorem pu_mod_35 (K M : KT) (G : GT) (v : Nat) : setS (conc K M G) 8 0 35 (vI (nI v)) = conc K (sN M 0 3 v) G := by
  refine Prod.ext (funext fun t' => funext fun i' => funext fun k' => ?_) rfl
  show (if t' = 8 ∧ i' = 0 ∧ k' = 35 then _ else concF K M G t' i' k') = concF K (sN M 0 3 v) G t' i' k'
  by_cases ht : t' = 8
  · subst ht
    by_cases hi : i' = 0
    · subst hi
      by_cases hk : k' = 35
      · subst hk
        simp [concF, cLow, cMa1, cMa2, sI, sN, rfq, mi, cMod]
      · rw [if_neg (fun c => hk c.2.2)]
        simp [concF, cLow, cMa1, cMa2, sI, sN, rfq, mi, cMod, hk]
    · rw [if_neg (fun c => hi c.2.1)]
      simp [concF, cLow, cMa1, cMa2, sI, sN, rfq, mi, cMod, hi]
  · rw [if_neg (fun c => ht c.1)]
    simp only [concF, cLow, cMa1, cMa2, if_neg ht]
    rfl
theorem pu_ma_27 (K M : KT) (G : GT) (j : Nat) (v : Int32) : setS (conc K M G) 27 0 j (vI v) = conc K (sI M 0 j v) G := by
  refine Prod.ext (funext fun t' => funext fun i' => funext fun k' => ?_) rfl
  show (if t' = 27 ∧ i' = 0 ∧ k' = j then _ else concF K M G t' i' k') = concF K (sI M 0 j v) G t' i' k'
  by_cases ht : t' = 27
  · subst ht
    by_cases hi : i' = 0
    · subst hi
      by_cases hk : k' = j
      · subst hk
        simp [concF, cLow, cMa1, cMa2, sI, sN, rfq, mi]
      · rw [if_neg (fun c => hk c.2.2)]
        simp [concF, cLow, cMa1, cMa2, sI, sN, rfq, mi, hk]
    · rw [if_neg (fun c => hi c.2.1)]
      simp [concF, cLow, cMa1, cMa2, sI, sN, rfq, mi, hi]
  · rw [if_neg (fun c => ht c.1)]
    simp only [concF, cLow, cMa1, cMa2, if_neg ht]
    rfl
theorem pu_ma_28 (K M : KT) (G : GT) (j : Nat) (v : Int32) : setS (conc K M G) 28 0 j (vI v) = conc K (sI M 1 j v) G := by
  refine Prod.ext (funext fun t' => funext fun i' => funext fun k' => ?_) rfl
  show (if t' = 28 ∧ i' = 0 ∧ k' = j then _ else concF K M G t' i' k') = concF K (sI M 1 j v) G t' i' k'
  by_cases ht : t' = 28
  · subst ht
    by_cases hi : i' = 0
    · subst hi
      by_cases hk : k' = j
      · subst hk
        simp [concF, cLow, cMa1, cMa2, sI, sN, rfq, mi]
      · rw [if_neg (fun c => hk c.2.2)]
        simp [concF, cLow, cMa1, cMa2, sI, sN, rfq, mi, hk]
    · rw [if_neg (fun c => hi c.2.1)]
      simp [concF, cLow, cMa1, cMa2, sI, sN, rfq, mi, hi]
  · rw [if_neg (fun c => ht c.1)]
    simp only [concF, cLow, cMa1, cMa2, if_neg ht]
    rfl
theorem pu_ma_29 (K M : KT) (G : GT) (j : Nat) (v : Int32) : setS (conc K M G) 29 0 j (vI v) = conc K (sI M 2 j v) G := by
  refine Prod.ext (funext fun t' => funext fun i' => funext fun k' => ?_) rfl
  show (if t' = 29 ∧ i' = 0 ∧ k' = j then _ else concF K M G t' i' k') = concF K (sI M 2 j v) G t' i' k'
  by_cases ht : t' = 29
  · subst ht
    by_cases hi : i' = 0
    · subst hi
      by_cases hk : k' = j
      · subst hk
        simp [concF, cLow, cMa1, cMa2, sI, sN, rfq, mi]
      · rw [if_neg (fun c => hk c.2.2)]
        simp [concF, cLow, cMa1, cMa2, sI, sN, rfq, mi, hk]
    · rw [if_neg (fun c => hi c.2.1)]
      simp [concF, cLow, cMa1, cMa2, sI, sN, rfq, mi, hi]
  · rw [if_neg (fun c => ht c.1)]
    simp only [concF, cLow, cMa1, cMa2, if_neg ht]
    rfl
theorem pu_ma_30 (K M : KT) (G : GT) (j : Nat) (v : Int32) : setS (conc K M G) 30 0 j (vI v) = conc K (sI M 3 j v) G := by
  refine Prod.ext (funext fun t' => funext fun i' => funext fun k' => ?_) rfl
  show (if t' = 30 ∧ i' = 0 ∧ k' = j then _ else concF K M G t' i' k') = concF K (sI M 3 j v) G t' i' k'
  by_cases ht : t' = 30
  · subst ht
    by_cases hi : i' = 0
    · subst hi
      by_cases hk : k' = j
      · subst hk
        simp [concF, cLow, cMa1, cMa2, sI, sN, rfq, mi]
      · rw [if_neg (fun c => hk c.2.2)]
        simp [concF, cLow, cMa1, cMa2, sI, sN, rfq, mi, hk]
    · rw [if_neg (fun c => hi c.2.1)]
      simp [concF, cLow, cMa1, cMa2, sI, sN, rfq, mi, hi]
  · rw [if_neg (fun c => ht c.1)]
    simp only [concF, cLow, cMa1, cMa2, if_neg ht]
    rfl
theorem pu_ma_31 (K M : KT) (G : GT) (j : Nat) (v : Int32) : setS (conc K M G) 31 0 j (vI v) = conc K (sI M 4 j v) G := by
  refine Prod.ext (funext fun t' => funext fun i' => funext fun k' => ?_) rfl
  show (if t' = 31 ∧ i' = 0 ∧ k' = j then _ else concF K M G t' i' k') = concF K (sI M 4 j v) G t' i' k'
  by_cases ht : t' = 31
  · subst ht
    by_cases hi : i' = 0
    · subst hi
      by_cases hk : k' = j
      · subst hk
        simp [concF, cLow, cMa1, cMa2, sI, sN, rfq, mi]
      · rw [if_neg (fun c => hk c.2.2)]
        simp [concF, cLow, cMa1, cMa2, sI, sN, rfq, mi, hk]
    · rw [if_neg (fun c => hi c.2.1)]
      simp [concF, cLow, cMa1, cMa2, sI, sN, rfq, mi, hi]
  · rw [if_neg (fun c => ht c.1)]
    simp only [concF, cLow, cMa1, cMa2, if_neg ht]
    rfl
theorem pu_ma_32 (K M : KT) (G : GT) (j : Nat) (v : Int32) : setS (conc K M G) 32 0 j (vI v) = conc K (sI M 5 j v) G := by
  refine Prod.ext (funext fun t' => funext fun i' => funext fun k' => ?_) rfl
  show (if t' = 32 ∧ i' = 0 ∧ k' = j then _ else concF K M G t' i' k') = concF K (sI M 5 j v) G t' i' k'
  by_cases ht : t' = 32
  · subst ht
    by_cases hi : i' = 0
    · subst hi
      by_cases hk : k' = j
      · subst hk
        simp [concF, cLow, cMa1, cMa2, sI, sN, rfq, mi]
      · rw [if_neg (fun c => hk c.2.2)]
        simp [concF, cLow, cMa1, cMa2, sI, sN, rfq, mi, hk]
    · rw [if_neg (fun c => hi c.2.1)]
      simp [concF, cLow, cMa1, cMa2, sI, sN, rfq, mi, hi]
  · rw [if_neg (fun c => ht c.1)]
    simp only [concF, cLow, cMa1, cMa2, if_neg ht]
    rfl
theorem pu_ma_34 (K M : KT) (G : GT) (j : Nat) (v : Int32) : setS (conc K M G) 34 0 j (vI v) = conc K (sI M 26 j v) G := by
  refine Prod.ext (funext fun t' => funext fun i' => funext fun k' => ?_) rfl
  show (if t' = 34 ∧ i' = 0 ∧ k' = j then _ else concF K M G t' i' k') = concF K (sI M 26 j v) G t' i' k'
  by_cases ht : t' = 34
  · subst ht
    by_cases hi : i' = 0
    · subst hi
      by_cases hk : k' = j
      · subst hk
        simp [concF, cLow, cMa1, cMa2, sI, sN, rfq, mi]
      · rw [if_neg (fun c => hk c.2.2)]
        simp [concF, cLow, cMa1, cMa2, sI, sN, rfq, mi, hk]
    · rw [if_neg (fun c => hi c.2.1)]
      simp [concF, cLow, cMa1, cMa2, sI, sN, rfq, mi, hi]
  · rw [if_neg (fun c => ht c.1)]
    simp only [concF, cLow, cMa1, cMa2, if_neg ht]
    rfl
theorem pu_ma_35 (K M : KT) (G : GT) (j : Nat) (v : Int32) : setS (conc K M G) 35 0 j (vI v) = conc K (sI M 27 j v) G := by
  refine Prod.ext (funext fun t' => funext fun i' => funext fun k' => ?_) rfl
  show (if t' = 35 ∧ i' = 0 ∧ k' = j then _ else concF K M G t' i' k') = concF K (sI M 27 j v) G t' i' k'
  by_cases ht : t' = 35
  · subst ht
    by_cases hi : i' = 0
    · subst hi
      by_cases hk : k' = j
      · subst hk
        simp [concF, cLow, cMa1, cMa2, sI, sN, rfq, mi]
      · rw [if_neg (fun c => hk c.2.2)]
        simp [concF, cLow, cMa1, cMa2, sI, sN, rfq, mi, hk]
    · rw [if_neg (fun c => hi c.2.1)]
      simp [concF, cLow, cMa1, cMa2, sI, sN, rfq, mi, hi]
  · rw [if_neg (fun c => ht c.1)]
    simp only [concF, cLow, cMa1, cMa2, if_neg ht]
    rfl
theorem pu_ma_36 (K M : KT) (G : GT) (j : Nat) (v : Int32) : setS (conc K M G) 36 0 j (vI v) = conc K (sI M 6 j v) G := by
  refine Prod.ext (funext fun t' => funext fun i' => funext fun k' => ?_) rfl
  show (if t' = 36 ∧ i' = 0 ∧ k' = j then _ else concF K M G t' i' k') = concF K (sI M 6 j v) G t' i' k'
  by_cases ht : t' = 36
  · subst ht
    by_cases hi : i' = 0
    · subst hi
      by_cases hk : k' = j
      · subst hk
        simp [concF, cLow, cMa1, cMa2, sI, sN, rfq, mi]
      · rw [if_neg (fun c => hk c.2.2)]
        simp [concF, cLow, cMa1, cMa2, sI, sN, rfq, mi, hk]
    · rw [if_neg (fun c => hi c.2.1)]
      simp [concF, cLow, cMa1, cMa2, sI, sN, rfq, mi, hi]
  · rw [if_neg (fun c => ht c.1)]
    simp only [concF, cLow, cMa1, cMa2, if_neg ht]
    rfl
theorem pu_ma_38 (K M : KT) (G : GT) (j : Nat) (v : Int32) : setS (conc K M G) 38 0 j (vI v) = conc K (sI M 14 j v) G := by
  refine Prod.ext (funext fun t' => funext fun i' => funext fun k' => ?_) rfl
  show (if t' = 38 ∧ i' = 0 ∧ k' = j then _ else concF K M G t' i' k') = concF K (sI M 14 j v) G t' i' k'
  by_cases ht : t' = 38
  · subst ht
    by_cases hi : i' = 0
    · subst hi
      by_cases hk : k' = j
      · subst hk
        simp [concF, cLow, cMa1, cMa2, sI, sN, rfq, mi]
      · rw [if_neg (fun c => hk c.2.2)]
        simp [concF, cLow, cMa1, cMa2, sI, sN, rfq, mi, hk]
    · rw [if_neg (fun c => hi c.2.1)]
      simp [concF, cLow, cMa1, cMa2, sI, sN, rfq, mi, hi]
  · rw [if_neg (fun c => ht c.1)]
    simp only [concF, cLow, cMa1, cMa2, if_neg ht]
    rfl
theorem pu_ma_39 (K M : KT) (G : GT) (j : Nat) (v : Int32) : setS (conc K M G) 39 0 j (vI v) = conc K (sI M 10 j v) G := by
  refine Prod.ext (funext fun t' => funext fun i' => funext fun k' => ?_) rfl
  show (if t' = 39 ∧ i' = 0 ∧ k' = j then _ else concF K M G t' i' k') = concF K (sI M 10 j v) G t' i' k'
  by_cases ht : t' = 39
  · subst ht
    by_cases hi : i' = 0
    · subst hi
      by_cases hk : k' = j
      · subst hk
        simp [concF, cLow, cMa1, cMa2, sI, sN, rfq, mi]
      · rw [if_neg (fun c => hk c.2.2)]
        simp [concF, cLow, cMa1, cMa2, sI, sN, rfq, mi, hk]
    · rw [if_neg (fun c => hi c.2.1)]
      simp [concF, cLow, cMa1, cMa2, sI, sN, rfq, mi, hi]
  · rw [if_neg (fun c => ht c.1)]
    simp only [concF, cLow, cMa1, cMa2, if_neg ht]
    rfl
theorem pu_ma_40 (K M : KT) (G : GT) (j : Nat) (v : Int32) : setS (conc K M G) 40 0 j (vI v) = conc K (sI M 9 j v) G := by
  refine Prod.ext (funext fun t' => funext fun i' => funext fun k' => ?_) rfl
  show (if t' = 40 ∧ i' = 0 ∧ k' = j then _ else concF K M G t' i' k') = concF K (sI M 9 j v) G t' i' k'
  by_cases ht : t' = 40
  · subst ht
    by_cases hi : i' = 0
    · subst hi
      by_cases hk : k' = j
      · subst hk
        simp [concF, cLow, cMa1, cMa2, sI, sN, rfq, mi]
      · rw [if_neg (fun c => hk c.2.2)]
        simp [concF, cLow, cMa1, cMa2, sI, sN, rfq, mi, hk]
    · rw [if_neg (fun c => hi c.2.1)]
      simp [concF, cLow, cMa1, cMa2, sI, sN, rfq, mi, hi]
  · rw [if_neg (fun c => ht c.1)]
    simp only [concF, cLow, cMa1, cMa2, if_neg ht]
    rfl
theorem pu_ma_41 (K M : KT) (G : GT) (j : Nat) (v : Int32) : setS (conc K M G) 41 0 j (vI v) = conc K (sI M 11 j v) G := by
  refine Prod.ext (funext fun t' => funext fun i' => funext fun k' => ?_) rfl
  show (if t' = 41 ∧ i' = 0 ∧ k' = j then _ else concF K M G t' i' k') = concF K (sI M 11 j v) G t' i' k'
  by_cases ht : t' = 41
  · subst ht
    by_cases hi : i' = 0
    · subst hi
      by_cases hk : k' = j
      · subst hk
        simp [concF, cLow, cMa1, cMa2, sI, sN, rfq, mi]
      · rw [if_neg (fun c => hk c.2.2)]
        simp [concF, cLow, cMa1, cMa2, sI, sN, rfq, mi, hk]
    · rw [if_neg (fun c => hi c.2.1)]
      simp [concF, cLow, cMa1, cMa2, sI, sN, rfq, mi, hi]
  · rw [if_neg (fun c => ht c.1)]
    simp only [concF, cLow, cMa1, cMa2, if_neg ht]
    rfl
theorem pu_ma_43 (K M : KT) (G : GT) (j : Nat) (v : Int32) : setS (conc K M G) 43 0 j (vI v) = conc K (sI M 8 j v) G := by
  refine Prod.ext (funext fun t' => funext fun i' => funext fun k' => ?_) rfl
  show (if t' = 43 ∧ i' = 0 ∧ k' = j then _ else concF K M G t' i' k') = concF K (sI M 8 j v) G t' i' k'
  by_cases ht : t' = 43
  · subst ht
    by_cases hi : i' = 0
    · subst hi
      by_cases hk : k' = j
      · subst hk
        simp [concF, cLow, cMa1, cMa2, sI, sN, rfq, mi]
      · rw [if_neg (fun c => hk c.2.2)]
        simp [concF, cLow, cMa1, cMa2, sI, sN, rfq, mi, hk]
    · rw [if_neg (fun c => hi c.2.1)]
      simp [concF, cLow, cMa1, cMa2, sI, sN, rfq, mi, hi]
  · rw [if_neg (fun c => ht c.1)]
    simp only [concF, cLow, cMa1, cMa2, if_neg ht]
    rfl
theorem pu_ma_44 (K M : KT) (G : GT) (j : Nat) (v : Int32) : setS (conc K M G) 44 0 j (vI v) = conc K (sI M 13 j v) G := by
  refine Prod.ext (funext fun t' => funext fun i' => funext fun k' => ?_) rfl
  show (if t' = 44 ∧ i' = 0 ∧ k' = j then _ else concF K M G t' i' k') = concF K (sI M 13 j v) G t' i' k'
  by_cases ht : t' = 44
  · subst ht
    by_cases hi : i' = 0
    · subst hi
      by_cases hk : k' = j
      · subst hk
        simp [concF, cLow, cMa1, cMa2, sI, sN, rfq, mi]
      · rw [if_neg (fun c => hk c.2.2)]
        simp [concF, cLow, cMa1, cMa2, sI, sN, rfq, mi, hk]
    · rw [if_neg (fun c => hi c.2.1)]
      simp [concF, cLow, cMa1, cMa2, sI, sN, rfq, mi, hi]
  · rw [if_neg (fun c => ht c.1)]
    simp only [concF, cLow, cMa1, cMa2, if_neg ht]
    rfl
theorem pu_ma_45 (K M : KT) (G : GT) (j : Nat) (v : Int32) : setS (conc K M G) 45 0 j (vI v) = conc K (sI M 15 j v) G := by
  refine Prod.ext (funext fun t' => funext fun i' => funext fun k' => ?_) rfl
  show (if t' = 45 ∧ i' = 0 ∧ k' = j then _ else concF K M G t' i' k') = concF K (sI M 15 j v) G t' i' k'
  by_cases ht : t' = 45
  · subst ht
    by_cases hi : i' = 0
    · subst hi
      by_cases hk : k' = j
      · subst hk
        simp [concF, cLow, cMa1, cMa2, sI, sN, rfq, mi]
      · rw [if_neg (fun c => hk c.2.2)]
        simp [concF, cLow, cMa1, cMa2, sI, sN, rfq, mi, hk]
    · rw [if_neg (fun c => hi c.2.1)]
      simp [concF, cLow, cMa1, cMa2, sI, sN, rfq, mi, hi]
  · rw [if_neg (fun c => ht c.1)]
    simp only [concF, cLow, cMa1, cMa2, if_neg ht]
    rfl
theorem pu_ma_46 (K M : KT) (G : GT) (j : Nat) (v : Int32) : setS (conc K M G) 46 0 j (vI v) = conc K (sI M 16 j v) G := by
  refine Prod.ext (funext fun t' => funext fun i' => funext fun k' => ?_) rfl
  show (if t' = 46 ∧ i' = 0 ∧ k' = j then _ else concF K M G t' i' k') = concF K (sI M 16 j v) G t' i' k'
  by_cases ht : t' = 46
  · subst ht
    by_cases hi : i' = 0
    · subst hi
      by_cases hk : k' = j
      · subst hk
        simp [concF, cLow, cMa1, cMa2, sI, sN, rfq, mi]
      · rw [if_neg (fun c => hk c.2.2)]
        simp [concF, cLow, cMa1, cMa2, sI, sN, rfq, mi, hk]
    · rw [if_neg (fun c => hi c.2.1)]
      simp [concF, cLow, cMa1, cMa2, sI, sN, rfq, mi, hi]
  · rw [if_neg (fun c => ht c.1)]
    simp only [concF, cLow, cMa1, cMa2, if_neg ht]
    rfl
theorem pu_ma_47 (K M : KT) (G : GT) (j : Nat) (v : Int32) : setS (conc K M G) 47 0 j (vI v) = conc K (sI M 17 j v) G := by
  refine Prod.ext (funext fun t' => funext fun i' => funext fun k' => ?_) rfl
  show (if t' = 47 ∧ i' = 0 ∧ k' = j then _ else concF K M G t' i' k') = concF K (sI M 17 j v) G t' i' k'
  by_cases ht : t' = 47
  · subst ht
    by_cases hi : i' = 0
    · subst hi
      by_cases hk : k' = j
      · subst hk
        simp [concF, cLow, cMa1, cMa2, sI, sN, rfq, mi]
      · rw [if_neg (fun c => hk c.2.2)]
        simp [concF, cLow, cMa1, cMa2, sI, sN, rfq, mi, hk]
    · rw [if_neg (fun c => hi c.2.1)]
      simp [concF, cLow, cMa1, cMa2, sI, sN, rfq, mi, hi]
  · rw [if_neg (fun c => ht c.1)]
    simp only [concF, cLow, cMa1, cMa2, if_neg ht]
    rfl
theorem pu_ma_48 (K M : KT) (G : GT) (j : Nat) (v : Int32) : setS (conc K M G) 48 0 j (vI v) = conc K (sI M 18 j v) G := by
  refine Prod.ext (funext fun t' => funext fun i' => funext fun k' => ?_) rfl
  show (if t' = 48 ∧ i' = 0 ∧ k' = j then _ else concF K M G t' i' k') = concF K (sI M 18 j v) G t' i' k'
  by_cases ht : t' = 48
  · subst ht
    by_cases hi : i' = 0
    · subst hi
      by_cases hk : k' = j
      · subst hk
        simp [concF, cLow, cMa1, cMa2, sI, sN, rfq, mi]
      · rw [if_neg (fun c => hk c.2.2)]
        simp [concF, cLow, cMa1, cMa2, sI, sN, rfq, mi, hk]
    · rw [if_neg (fun c => hi c.2.1)]
      simp [concF, cLow, cMa1, cMa2, sI, sN, rfq, mi, hi]
  · rw [if_neg (fun c => ht c.1)]
    simp only [concF, cLow, cMa1, cMa2, if_neg ht]
    rfl
theorem pu_ma_49 (K M : KT) (G : GT) (j : Nat) (v : Int32) : setS (conc K M G) 49 0 j (vI v) = conc K (sI M 19 j v) G := by
  refine Prod.ext (funext fun t' => funext fun i' => funext fun k' => ?_) rfl
  show (if t' = 49 ∧ i' = 0 ∧ k' = j then _ else concF K M G t' i' k') = concF K (sI M 19 j v) G t' i' k'
  by_cases ht : t' = 49
  · subst ht
    by_cases hi : i' = 0
    · subst hi
      by_cases hk : k' = j
      · subst hk
        simp [concF, cLow, cMa1, cMa2, sI, sN, rfq, mi]
      · rw [if_neg (fun c => hk c.2.2)]
        simp [concF, cLow, cMa1, cMa2, sI, sN, rfq, mi, hk]
    · rw [if_neg (fun c => hi c.2.1)]
      simp [concF, cLow, cMa1, cMa2, sI, sN, rfq, mi, hi]
  · rw [if_neg (fun c => ht c.1)]
    simp only [concF, cLow, cMa1, cMa2, if_neg ht]
    rfl
theorem pu_ma_50 (K M : KT) (G : GT) (j : Nat) (v : Int32) : setS (conc K M G) 50 0 j (vI v) = conc K (sI M 20 j v) G := by
  refine Prod.ext (funext fun t' => funext fun i' => funext fun k' => ?_) rfl
  show (if t' = 50 ∧ i' = 0 ∧ k' = j then _ else concF K M G t' i' k') = concF K (sI M 20 j v) G t' i' k'
  by_cases ht : t' = 50
  · subst ht
    by_cases hi : i' = 0
    · subst hi
      by_cases hk : k' = j
      · subst hk
        simp [concF, cLow, cMa1, cMa2, sI, sN, rfq, mi]
      · rw [if_neg (fun c => hk c.2.2)]
        simp [concF, cLow, cMa1, cMa2, sI, sN, rfq, mi, hk]
    · rw [if_neg (fun c => hi c.2.1)]
      simp [concF, cLow, cMa1, cMa2, sI, sN, rfq, mi, hi]
  · rw [if_neg (fun c => ht c.1)]
    simp only [concF, cLow, cMa1, cMa2, if_neg ht]
    rfl
theorem pu_ma_52 (K M : KT) (G : GT) (j : Nat) (v : Int32) : setS (conc K M G) 52 0 j (vI v) = conc K (sI M 21 j v) G := by
  refine Prod.ext (funext fun t' => funext fun i' => funext fun k' => ?_) rfl
  show (if t' = 52 ∧ i' = 0 ∧ k' = j then _ else concF K M G t' i' k') = concF K (sI M 21 j v) G t' i' k'
  by_cases ht : t' = 52
  · subst ht
    by_cases hi : i' = 0
    · subst hi
      by_cases hk : k' = j
      · subst hk
        simp [concF, cLow, cMa1, cMa2, sI, sN, rfq, mi]
      · rw [if_neg (fun c => hk c.2.2)]
        simp [concF, cLow, cMa1, cMa2, sI, sN, rfq, mi, hk]
    · rw [if_neg (fun c => hi c.2.1)]
      simp [concF, cLow, cMa1, cMa2, sI, sN, rfq, mi, hi]
  · rw [if_neg (fun c => ht c.1)]
    simp only [concF, cLow, cMa1, cMa2, if_neg ht]
    rfl
theorem pu_ma_53 (K M : KT) (G : GT) (j : Nat) (v : Int32) : setS (conc K M G) 53 0 j (vI v) = conc K (sI M 22 j v) G := by
  refine Prod.ext (funext fun t' => funext fun i' => funext fun k' => ?_) rfl
  show (if t' = 53 ∧ i' = 0 ∧ k' = j then _ else concF K M G t' i' k') = concF K (sI M 22 j v) G t' i' k'
  by_cases ht : t' = 53
  · subst ht
    by_cases hi : i' = 0
    · subst hi
      by_cases hk : k' = j
      · subst hk
        simp [concF, cLow, cMa1, cMa2, sI, sN, rfq, mi]
      · rw [if_neg (fun c => hk c.2.2)]
        simp [concF, cLow, cMa1, cMa2, sI, sN, rfq, mi, hk]
    · rw [if_neg (fun c => hi c.2.1)]
      simp [concF, cLow, cMa1, cMa2, sI, sN, rfq, mi, hi]
  · rw [if_neg (fun c => ht c.1)]
    simp only [concF, cLow, cMa1, cMa2, if_neg ht]
    rfl
theorem pu_ma_56 (K M : KT) (G : GT) (j : Nat) (v : Int32) : setS (conc K M G) 56 0 j (vI v) = conc K (sI M 23 j v) G := by
  refine Prod.ext (funext fun t' => funext fun i' => funext fun k' => ?_) rfl
  show (if t' = 56 ∧ i' = 0 ∧ k' = j then _ else concF K M G t' i' k') = concF K (sI M 23 j v) G t' i' k'
  by_cases ht : t' = 56
  · subst ht
    by_cases hi : i' = 0
    · subst hi
      by_cases hk : k' = j
      · subst hk
        simp [concF, cLow, cMa1, cMa2, sI, sN, rfq, mi]
      · rw [if_neg (fun c => hk c.2.2)]
        simp [concF, cLow, cMa1, cMa2, sI, sN, rfq, mi, hk]
    · rw [if_neg (fun c => hi c.2.1)]
      simp [concF, cLow, cMa1, cMa2, sI, sN, rfq, mi, hi]
  · rw [if_neg (fun c => ht c.1)]
    simp only [concF, cLow, cMa1, cMa2, if_neg ht]
    rfl
theorem pu_ma_57 (K M : KT) (G : GT) (j : Nat) (v : Int32) : setS (conc K M G) 57 0 j (vI v) = conc K (sI M 24 j v) G := by
  refine Prod.ext (funext fun t' => funext fun i' => funext fun k' => ?_) rfl
  show (if t' = 57 ∧ i' = 0 ∧ k' = j then _ else concF K M G t' i' k') = concF K (sI M 24 j v) G t' i' k'
  by_cases ht : t' = 57
  · subst ht
    by_cases hi : i' = 0
    · subst hi
      by_cases hk : k' = j
      · subst hk
        simp [concF, cLow, cMa1, cMa2, sI, sN, rfq, mi]
      · rw [if_neg (fun c => hk c.2.2)]
        simp [concF, cLow, cMa1, cMa2, sI, sN, rfq, mi, hk]
    · rw [if_neg (fun c => hi c.2.1)]
      simp [concF, cLow, cMa1, cMa2, sI, sN, rfq, mi, hi]
  · rw [if_neg (fun c => ht c.1)]
    simp only [concF, cLow, cMa1, cMa2, if_neg ht]
    rfl
theorem pu_ma_58 (K M : KT) (G : GT) (j : Nat) (v : Int32) : setS (conc K M G) 58 0 j (vI v) = conc K (sI M 25 j v) G := by
  refine Prod.ext (funext fun t' => funext fun i' => funext fun k' => ?_) rfl
  show (if t' = 58 ∧ i' = 0 ∧ k' = j then _ else concF K M G t' i' k') = concF K (sI M 25 j v) G t' i' k'
  by_cases ht : t' = 58
  · subst ht
    by_cases hi : i' = 0
    · subst hi
      by_cases hk : k' = j
      · subst hk
        simp [concF, cLow, cMa1, cMa2, sI, sN, rfq, mi]
      · rw [if_neg (fun c => hk c.2.2)]
        simp [concF, cLow, cMa1, cMa2, sI, sN, rfq, mi, hk]
    · rw [if_neg (fun c => hi c.2.1)]
      simp [concF, cLow, cMa1, cMa2, sI, sN, rfq, mi, hi]
  · rw [if_neg (fun c => ht c.1)]
    simp only [concF, cLow, cMa1, cMa2, if_neg ht]
    rfl
theorem pu_ma_33 (K M : KT) (G : GT) (j v : Nat) : setS (conc K M G) 33 0 j (vI (nI v)) = conc K (sN M 2 j v) G := by
  refine Prod.ext (funext fun t' => funext fun i' => funext fun k' => ?_) rfl
  show (if t' = 33 ∧ i' = 0 ∧ k' = j then _ else concF K M G t' i' k') = concF K (sN M 2 j v) G t' i' k'
  by_cases ht : t' = 33
  · subst ht
    by_cases hi : i' = 0
    · subst hi
      by_cases hk : k' = j
      · subst hk
        simp [concF, cLow, cMa1, cMa2, sI, sN, rfq, mi]
      · rw [if_neg (fun c => hk c.2.2)]
        simp [concF, cLow, cMa1, cMa2, sI, sN, rfq, mi, hk]
    · rw [if_neg (fun c => hi c.2.1)]
      simp [concF, cLow, cMa1, cMa2, sI, sN, rfq, mi, hi]
  · rw [if_neg (fun c => ht c.1)]
    simp only [concF, cLow, cMa1, cMa2, if_neg ht]
    rfl
theorem pu_ma_37 (K M : KT) (G : GT) (j v : Nat) : setS (conc K M G) 37 0 j (vI (nI v)) = conc K (sN M 1 j v) G := by
  refine Prod.ext (funext fun t' => funext fun i' => funext fun k' => ?_) rfl
  show (if t' = 37 ∧ i' = 0 ∧ k' = j then _ else concF K M G t' i' k') = concF K (sN M 1 j v) G t' i' k'
  by_cases ht : t' = 37
  · subst ht
    by_cases hi : i' = 0
    · subst hi
      by_cases hk : k' = j
      · subst hk
        simp [concF, cLow, cMa1, cMa2, sI, sN, rfq, mi]
      · rw [if_neg (fun c => hk c.2.2)]
        simp [concF, cLow, cMa1, cMa2, sI, sN, rfq, mi, hk]
    · rw [if_neg (fun c => hi c.2.1)]
      simp [concF, cLow, cMa1, cMa2, sI, sN, rfq, mi, hi]
  · rw [if_neg (fun c => ht c.1)]
    simp only [concF, cLow, cMa1, cMa2, if_neg ht]
    rfl
theorem pu_ma_42 (K M : KT) (G : GT) (j v : Nat) : setS (conc K M G) 42 0 j (vI (mi v)) = conc K (sN M 3 j v) G := by
  refine Prod.ext (funext fun t' => funext fun i' => funext fun k' => ?_) rfl
  show (if t' = 42 ∧ i' = 0 ∧ k' = j then _ else concF K M G t' i' k') = concF K (sN M 3 j v) G t' i' k'
  by_cases ht : t' = 42
  · subst ht
    by_cases hi : i' = 0
    · subst hi
      by_cases hk : k' = j
      · subst hk
        simp [concF, cLow, cMa1, cMa2, sI, sN, rfq, mi]
      · rw [if_neg (fun c => hk c.2.2)]
        simp [concF, cLow, cMa1, cMa2, sI, sN, rfq, mi, hk]
    · rw [if_neg (fun c => hi c.2.1)]
      simp [concF, cLow, cMa1, cMa2, sI, sN, rfq, mi, hi]
  · rw [if_neg (fun c => ht c.1)]
    simp only [concF, cLow, cMa1, cMa2, if_neg ht]
    rfl
theorem pu_ma_54 (K M : KT) (G : GT) (j v : Nat) : setS (conc K M G) 54 0 j (vI (mi v)) = conc K (sN M 4 j v) G := by
  refine Prod.ext (funext fun t' => funext fun i' => funext fun k' => ?_) rfl
  show (if t' = 54 ∧ i' = 0 ∧ k' = j then _ else concF K M G t' i' k') = concF K (sN M 4 j v) G t' i' k'
  by_cases ht : t' = 54
  · subst ht
    by_cases hi : i' = 0
    · subst hi
      by_cases hk : k' = j
      · subst hk
        simp [concF, cLow, cMa1, cMa2, sI, sN, rfq, mi]
      · rw [if_neg (fun c => hk c.2.2)]
        simp [concF, cLow, cMa1, cMa2, sI, sN, rfq, mi, hk]
    · rw [if_neg (fun c => hi c.2.1)]
      simp [concF, cLow, cMa1, cMa2, sI, sN, rfq, mi, hi]
  · rw [if_neg (fun c => ht c.1)]
    simp only [concF, cLow, cMa1, cMa2, if_neg ht]
    rfl
end
section
/-! LENDING, in ranks: the class -/
/-- does u lend, and to whom: the owner + 1 of the lending mutex that it waits at, or 0 -/
def lendTo (K : KT) (u : Nat) : Nat := match K.2 3 u with
  | 0 => 0
  | m + 1 => if K.1 21 m = 1 then K.2 4 m else 0
def lrC (K : KT) (u : Nat) : Bool := match lendTo K u with
  | 0 => false
  | t + 1 => decide (K.1 12 t < K.1 12 u)
def lrStep (K : KT) (u : Nat) : KT := match lendTo K u with
  | 0 => K
  | t + 1 => if K.1 12 t < K.1 12 u then sI K 12 t (K.1 12 u) else K
def lrLoop : Nat → Nat → KT → Bool → KT × Bool
  | 0, _, K, b => (K, b)
  | j + 1, i, K, b => lrLoop j (i + 1) (lrStep K i) (b || lrC K i)
theorem lrStep_2 (K : KT) (u : Nat) : (lrStep K u).2 = K.2 := by
  unfold lrStep
  split
  · rfl
  · split <;> rfl
set_option maxHeartbeats 1000000 in
theorem lendOnce_loop (M : KT) (G : GT) : ∀ (j i : Nat) (K : KT) (b : Bool), i + j = K.2 0 0 → K.2 0 0 ≤ 8 → Ev M_X6_lendOnce 4 [vR 7 0, vI (bI (b = true)), vI (nI i), vU, vU] [] (conc K M G) (0, some (vI (bI ((lrLoop j i K b).2 = true))), conc (lrLoop j i K b).1 M G) := by
  intro j
  induction j with
  | zero =>
    intro i K b hi hn
    refine ev_iload_n dX6_lendOnce_4 rfl ?_
    refine ev_aload_n dX6_lendOnce_5 rfl rfl ?_
    refine ev_getf dX6_lendOnce_6 fl_6_46 ?_
    refine ev_icmp_ge (tgt := 91) dX6_lendOnce_9 rfl (fun c9 => ?_) (fun c9 => ?_)
    · refine ev_iload_n dX6_lendOnce_91 rfl ?_
      exact ev_iret dX6_lendOnce_92 (Or.inr ⟨rfl, bI_and⟩)
    · exact absurd (nI_le (show K.2 0 0 ≤ i by omega) (by omega)) c9
  | succ j ih =>
    intro i K b hi hn
    have hs : ∀ h : lendTo K i = 0, lrLoop (j + 1) i K b = lrLoop j (i + 1) K b := fun h => by simp [lrLoop, lrStep, lrC, h]
    have e1 : nI i + Int32.ofInt 1 = nI (i + 1) := nI_1 i
    rcases hw : K.2 3 i with _ | m
    · rw [hs (by simp [lendTo, hw])]
      refine ev_iload_n dX6_lendOnce_4 rfl ?_
      refine ev_aload_n dX6_lendOnce_5 rfl rfl ?_
      refine ev_getf dX6_lendOnce_6 fl_6_46 ?_
      refine ev_icmp_ge (tgt := 91) dX6_lendOnce_9 rfl (fun c9 => ?_) (fun c9 => ?_)
      · exact absurd c9 (nI_ge (show i < K.2 0 0 by omega) (by omega))
      · refine ev_aload_n dX6_lendOnce_12 rfl rfl ?_
        refine ev_getf dX6_lendOnce_13 fl_6_11 ?_
        refine ev_iload_n dX6_lendOnce_16 rfl ?_
        refine ev_aaldv dX6_lendOnce_17 rfl rfl (show _ < 8 from by omega) (co_tasks (by omega)) ?_
        refine ev_getf dX6_lendOnce_18 fl_6_128 ?_
        refine ev_astore_n dX6_lendOnce_21 rfl rfl ?_
        refine ev_aload_n dX6_lendOnce_22 rfl rfl ?_
        refine ev_getfv dX6_lendOnce_23 fl_6_257 (co_wait hw) ?_
        refine ev_astore dX6_lendOnce_26 rfl rfl ?_
        refine ev_aload dX6_lendOnce_28 rfl rfl ?_
        refine ev_ifnull (tgt := 85) dX6_lendOnce_30 rfl rfl (fun c30 => ?_) (fun c30 => ?_)
        · refine ev_iinc dX6_lendOnce_85 rfl ?_
          refine ev_goto (tgt := 4) dX6_lendOnce_88 rfl ?_
          refine ev_forget (ls2 := [_, _, _, vU, vU]) (Fg_to ⟨Or.inr ⟨rfl, rfl⟩, Or.inr ⟨rfl, rfl⟩, Or.inr ⟨rfl, rfl⟩, Or.inl rfl, Or.inl rfl, trivial⟩) ?_
          rw [e1]
          exact ih (i + 1) K b (by omega) hn
        · exact absurd rfl c30
    · rcases ho : K.2 4 m with _ | t
      · rw [hs (by simp [lendTo, hw, ho])]
        refine ev_iload_n dX6_lendOnce_4 rfl ?_
        refine ev_aload_n dX6_lendOnce_5 rfl rfl ?_
        refine ev_getf dX6_lendOnce_6 fl_6_46 ?_
        refine ev_icmp_ge (tgt := 91) dX6_lendOnce_9 rfl (fun c9 => ?_) (fun c9 => ?_)
        · exact absurd c9 (nI_ge (show i < K.2 0 0 by omega) (by omega))
        · refine ev_aload_n dX6_lendOnce_12 rfl rfl ?_
          refine ev_getf dX6_lendOnce_13 fl_6_11 ?_
          refine ev_iload_n dX6_lendOnce_16 rfl ?_
          refine ev_aaldv dX6_lendOnce_17 rfl rfl (show _ < 8 from by omega) (co_tasks (by omega)) ?_
          refine ev_getf dX6_lendOnce_18 fl_6_128 ?_
          refine ev_astore_n dX6_lendOnce_21 rfl rfl ?_
          refine ev_aload_n dX6_lendOnce_22 rfl rfl ?_
          refine ev_getfv dX6_lendOnce_23 fl_6_257 (co_wait hw) ?_
          refine ev_astore dX6_lendOnce_26 rfl rfl ?_
          refine ev_aload dX6_lendOnce_28 rfl rfl ?_
          refine ev_ifnull (tgt := 85) dX6_lendOnce_30 rfl rfl (fun c30 => ?_) (fun c30 => ?_)
          · exact nomatch c30
          · refine ev_aload dX6_lendOnce_33 rfl rfl ?_
            refine ev_getf dX6_lendOnce_35 fl_6_235 ?_
            refine ev_iconst (v := 1) dX6_lendOnce_38 rfl ?_
            refine ev_icmp_ne (tgt := 85) dX6_lendOnce_39 rfl (fun c39 => ?_) (fun c39 => ?_)
            · refine ev_iinc dX6_lendOnce_85 rfl ?_
              refine ev_goto (tgt := 4) dX6_lendOnce_88 rfl ?_
              refine ev_forget (ls2 := [_, _, _, vU, vU]) (Fg_to ⟨Or.inr ⟨rfl, rfl⟩, Or.inr ⟨rfl, rfl⟩, Or.inr ⟨rfl, rfl⟩, Or.inl rfl, Or.inl rfl, trivial⟩) ?_
              rw [e1]
              exact ih (i + 1) K b (by omega) hn
            · refine ev_aload dX6_lendOnce_42 rfl rfl ?_
              refine ev_getfv dX6_lendOnce_44 fl_6_221 (co_own ho) ?_
              refine ev_ifnull (tgt := 85) dX6_lendOnce_47 rfl rfl (fun c47 => ?_) (fun c47 => ?_)
              · refine ev_iinc dX6_lendOnce_85 rfl ?_
                refine ev_goto (tgt := 4) dX6_lendOnce_88 rfl ?_
                refine ev_forget (ls2 := [_, _, _, vU, vU]) (Fg_to ⟨Or.inr ⟨rfl, rfl⟩, Or.inr ⟨rfl, rfl⟩, Or.inr ⟨rfl, rfl⟩, Or.inl rfl, Or.inl rfl, trivial⟩) ?_
                rw [e1]
                exact ih (i + 1) K b (by omega) hn
              · exact absurd rfl c47
      · refine ev_iload_n dX6_lendOnce_4 rfl ?_
        refine ev_aload_n dX6_lendOnce_5 rfl rfl ?_
        refine ev_getf dX6_lendOnce_6 fl_6_46 ?_
        refine ev_icmp_ge (tgt := 91) dX6_lendOnce_9 rfl (fun c9 => ?_) (fun c9 => ?_)
        · exact absurd c9 (nI_ge (show i < K.2 0 0 by omega) (by omega))
        · refine ev_aload_n dX6_lendOnce_12 rfl rfl ?_
          refine ev_getf dX6_lendOnce_13 fl_6_11 ?_
          refine ev_iload_n dX6_lendOnce_16 rfl ?_
          refine ev_aaldv dX6_lendOnce_17 rfl rfl (show _ < 8 from by omega) (co_tasks (by omega)) ?_
          refine ev_getf dX6_lendOnce_18 fl_6_128 ?_
          refine ev_astore_n dX6_lendOnce_21 rfl rfl ?_
          refine ev_aload_n dX6_lendOnce_22 rfl rfl ?_
          refine ev_getfv dX6_lendOnce_23 fl_6_257 (co_wait hw) ?_
          refine ev_astore dX6_lendOnce_26 rfl rfl ?_
          refine ev_aload dX6_lendOnce_28 rfl rfl ?_
          refine ev_ifnull (tgt := 85) dX6_lendOnce_30 rfl rfl (fun c30 => ?_) (fun c30 => ?_)
          · exact nomatch c30
          · refine ev_aload dX6_lendOnce_33 rfl rfl ?_
            refine ev_getf dX6_lendOnce_35 fl_6_235 ?_
            refine ev_iconst (v := 1) dX6_lendOnce_38 rfl ?_
            refine ev_icmp_ne (tgt := 85) dX6_lendOnce_39 rfl (fun c39 => ?_) (fun c39 => ?_)
            · refine ev_iinc dX6_lendOnce_85 rfl ?_
              refine ev_goto (tgt := 4) dX6_lendOnce_88 rfl ?_
              rw [hs (by simp only [lendTo, hw]; exact if_neg c39)]
              refine ev_forget (ls2 := [_, _, _, vU, vU]) (Fg_to ⟨Or.inr ⟨rfl, rfl⟩, Or.inr ⟨rfl, rfl⟩, Or.inr ⟨rfl, rfl⟩, Or.inl rfl, Or.inl rfl, trivial⟩) ?_
              rw [e1]
              exact ih (i + 1) K b (by omega) hn
            · refine ev_aload dX6_lendOnce_42 rfl rfl ?_
              refine ev_getfv dX6_lendOnce_44 fl_6_221 (co_own ho) ?_
              refine ev_ifnull (tgt := 85) dX6_lendOnce_47 rfl rfl (fun c47 => ?_) (fun c47 => ?_)
              · exact nomatch c47
              · refine ev_aload dX6_lendOnce_50 rfl rfl ?_
                refine ev_getfv dX6_lendOnce_52 fl_6_221 (co_own ho) ?_
                refine ev_getf dX6_lendOnce_55 fl_6_128 ?_
                refine ev_getf dX6_lendOnce_58 fl_6_278 ?_
                refine ev_aload_n dX6_lendOnce_61 rfl rfl ?_
                refine ev_getf dX6_lendOnce_62 fl_6_278 ?_
                refine ev_icmp_ge (tgt := 85) dX6_lendOnce_65 rfl (fun c65 => ?_) (fun c65 => ?_)
                · refine ev_iinc dX6_lendOnce_85 rfl ?_
                  refine ev_goto (tgt := 4) dX6_lendOnce_88 rfl ?_
                  have hl : lendTo K i = t + 1 := by simp only [lendTo, hw, ho]; exact if_pos (Classical.not_not.mp c39)
                  rw [show lrLoop (j + 1) i K b = lrLoop j (i + 1) K b by simp [lrLoop, lrStep, lrC, hl, Int32.not_lt.mpr c65]]
                  refine ev_forget (ls2 := [_, _, _, vU, vU]) (Fg_to ⟨Or.inr ⟨rfl, rfl⟩, Or.inr ⟨rfl, rfl⟩, Or.inr ⟨rfl, rfl⟩, Or.inl rfl, Or.inl rfl, trivial⟩) ?_
                  rw [e1]
                  exact ih (i + 1) K b (by omega) hn
                · refine ev_aload dX6_lendOnce_68 rfl rfl ?_
                  refine ev_getfv dX6_lendOnce_70 fl_6_221 (co_own ho) ?_
                  refine ev_getf dX6_lendOnce_73 fl_6_128 ?_
                  refine ev_aload_n dX6_lendOnce_76 rfl rfl ?_
                  refine ev_getf dX6_lendOnce_77 fl_6_278 ?_
                  refine ev_putfS dX6_lendOnce_80 fl_6_278 rfl rfl (pu_job_8 _ _ _ _ _) ?_
                  refine ev_iconst (v := 1) dX6_lendOnce_83 rfl ?_
                  refine ev_istore_n dX6_lendOnce_84 rfl ?_
                  refine ev_iinc dX6_lendOnce_85 rfl ?_
                  refine ev_goto (tgt := 4) dX6_lendOnce_88 rfl ?_
                  have hl : lendTo K i = t + 1 := by simp only [lendTo, hw, ho]; exact if_pos (Classical.not_not.mp c39)
                  have hlt : K.1 12 t < K.1 12 i := Int32.not_le.mp c65
                  rw [show lrLoop (j + 1) i K b = lrLoop j (i + 1) (sI K 12 t (K.1 12 i)) true by simp [lrLoop, lrStep, lrC, hl, hlt]]
                  refine ev_forget (ls2 := [_, _, _, vU, vU]) (Fg_to ⟨Or.inr ⟨rfl, rfl⟩, Or.inr ⟨rfl, rfl⟩, Or.inr ⟨rfl, rfl⟩, Or.inl rfl, Or.inl rfl, trivial⟩) ?_
                  rw [e1]
                  exact ih (i + 1) (sI K 12 t (K.1 12 i)) true (by rw [sI_2]; omega) hn
end
section
/-! WHAT IS MEANT: the operations, on the state -/
def setA (K : KT) (f : Nat) (g : Nat → Int32) : KT := (fun f' i => if f' = f then g i else K.1 f' i, K.2)
theorem setA_1 (K : KT) (f : Nat) (g : Nat → Int32) (f' i : Nat) : (setA K f g).1 f' i = if f' = f then g i else K.1 f' i := rfl
theorem setA_2 (K : KT) (f : Nat) (g : Nat → Int32) : (setA K f g).2 = K.2 := rfl
def updF (R : Nat → Int32) (t : Nat) (v : Int32) : Nat → Int32 := fun i => if i = t then v else R i
def lendF (K : KT) (R : Nat → Int32) (u : Nat) : Nat → Int32 := match lendTo K u with
  | 0 => R
  | t + 1 => if R t < R u then updF R t (R u) else R
def lendN (K : KT) : Nat → Nat → (Nat → Int32) → Nat → Int32
  | 0, _, R => R
  | j + 1, i, R => lendN K j (i + 1) (lendF K R i)
def itF (K : KT) : Nat → (Nat → Int32) → Nat → Int32
  | 0, R => R
  | j + 1, R => itF K j (lendN K (K.2 0 0) 0 R)
def liftF (K : KT) (R : Nat → Int32) (m : Nat) : Nat → Int32 := match K.2 4 m with
  | 0 => R
  | t + 1 => if K.1 21 m = 2 ∧ R t < K.1 22 m then updF R t (K.1 22 m) else R
def liftN (K : KT) : Nat → Nat → (Nat → Int32) → Nat → Int32
  | 0, _, R => R
  | j + 1, m, R => liftN K j (m + 1) (liftF K R m)
/-- the rank at first: the greater, the more urgent -/
def base (K : KT) (t : Nat) : Int32 := if K.1 28 0 = 0 then K.1 0 t else -(K.1 10 t)
def RB (K : KT) : Nat → Int32 := fun t => if t < K.2 0 0 then base K t else K.1 12 t
def RL1 (K : KT) : Nat → Int32 := if K.1 28 0 = 0 then liftN K (K.2 0 1) 0 (RB K) else RB K
/-- the ranks, as the class reckons them -/
def VR (K : KT) : Nat → Int32 := itF K 8 (RL1 K)
/-- the urgencies, as the reference reckons them: in a lesser-is-more form with deadlines -/
def sgn (K : KT) (x : Int32) : Int32 := if K.1 28 0 = 0 then x else -x
def UM (K : KT) : Nat → Int32 := fun t => if t < K.2 0 0 then sgn K (VR K t) else K.1 13 t
def weighK (K : KT) : KT := setA (setA K 12 (VR K)) 13 (UM K)
def noteK (K : KT) (w : Int32) (t : Nat) : KT := sN (sN (sI (sI (sI K 23 (K.2 0 4) w) 24 (K.2 0 4) (K.1 28 2)) 25 (K.2 0 4) (nI t)) 0 4 ((K.2 0 4 + 1) % 40)) 0 3 (K.2 0 3 + 1)
/-- is a ahead of b -/
def ahead (K : KT) (R : Nat → Int32) (a b : Nat) : Bool := if R a = R b then (if K.2 0 2 = a + 1 ∨ K.2 0 2 = b + 1 then decide (K.2 0 2 = a + 1) else decide (K.1 11 a < K.1 11 b)) else decide (R b < R a)
def inher (K : KT) (R : Nat → Int32) (a b : Nat) : Bool := if R a = R b then decide (K.1 11 a < K.1 11 b) else decide (R b < R a)
/-- the best of b and t; 0 is none, t + 1 is t -/
def pick1 (K : KT) (R : Nat → Int32) (b t : Nat) : Nat := if K.1 6 t = 1 then (match b with
  | 0 => t + 1
  | c + 1 => if ahead K R t c = true then t + 1 else c + 1) else b
def pickN (K : KT) (R : Nat → Int32) : Nat → Nat → Nat → Nat
  | 0, _, b => b
  | j + 1, t, b => pickN K R j (t + 1) (pick1 K R b t)
def firstK (K : KT) : Nat := pickN K (VR K) (K.2 0 0) 0 0
def heir1 (K : KT) (R : Nat → Int32) (m b t : Nat) : Nat := if K.2 3 t = m + 1 then (match b with
  | 0 => t + 1
  | c + 1 => if inher K R t c = true then t + 1 else c + 1) else b
def heirN (K : KT) (R : Nat → Int32) (m : Nat) : Nat → Nat → Nat → Nat
  | 0, _, b => b
  | j + 1, t, b => heirN K R m j (t + 1) (heir1 K R m b t)
def heirK (K : KT) (m : Nat) : Nat := heirN K (VR K) m (K.2 0 0) 0 0
/-- h gets the mutex that it waits at: it is ready behind that step -/
def wakeK (K : KT) (h : Nat) : KT := noteK (sI (sN (sI (sN (sI (sI K 28 3 (K.1 28 3 + 1)) 6 h 1) 3 h 0) 11 h (K.1 28 3 + 1)) 1 h (K.2 1 h + 1)) 7 h 0) 6 h
def giveK (K : KT) (m : Nat) : KT := match heirK K m with
  | 0 => sN (weighK K) 4 m 0
  | h + 1 => wakeK (sN (weighK K) 4 m (h + 1)) h
def giveN (t : Nat) : Nat → Nat → KT → KT
  | 0, _, K => K
  | j + 1, m, K => giveN t j (m + 1) (if K.2 4 m = t + 1 then giveK K m else K)
def endK (K : KT) (t : Nat) (code : Int32) : KT := giveN t (K.2 0 1) 0 (sN (sI (noteK K code t) 6 t 0) 3 t 0)
def failK (K : KT) (t : Nat) : KT := endK (sI K 16 t (K.1 16 t + 1)) t 3
def doneK (K : KT) (t : Nat) (w : Int32) : KT := endK (sI (sI K 15 t (K.1 15 t + 1)) 20 t (if K.1 20 t < w - K.1 9 t then w - K.1 9 t else K.1 20 t)) t 2
def blockK (K : KT) (t m : Nat) : KT := noteK (sI (sN (sI (sI K 28 3 (K.1 28 3 + 1)) 6 t 2) 3 t (m + 1)) 11 t (K.1 28 3 + 1)) 5 t
def passK (K : KT) (t : Nat) : KT := sI (sN K 1 t (K.2 1 t + 1)) 7 t 0
/-- the step that t is at: its kind, its number -/
def kdK (K : KT) (t : Nat) : Int32 := K.1 26 (10 * t + K.2 1 t)
def amK (K : KT) (t : Nat) : Nat := (K.1 27 (10 * t + K.2 1 t)).toNatClampNeg
def failsK (K : KT) (t m : Nat) (kd : Int32) : Bool := if kd = 2 then !decide (K.2 4 m = t + 1) else (decide (K.2 4 m = t + 1) || (decide (K.1 28 0 = 0) && decide (K.1 21 m = 2) && decide (K.1 22 m < K.1 0 t)))
def goK : Nat → KT → Nat → Int32 → KT
  | 0, K, t, w => doneK K t w
  | j + 1, K, t, w => if kdK K t = 0 then K else if failsK K t (amK K t) (kdK K t) = true then failK K t else if kdK K t = 2 then goK j (passK (giveK K (amK K t)) t) t w else if K.2 4 (amK K t) = 0 then goK j (passK (sN K 4 (amK K t) (t + 1)) t) t w else blockK K t (amK K t)
def goOnK (K : KT) (t : Nat) (w : Int32) : KT := goK (K.2 2 t - K.2 1 t) K t w
def atWorkK (K : KT) (t : Nat) : Bool := decide (K.2 1 t < K.2 2 t) && decide (kdK K t = 0)
def beginK (K : KT) (t : Nat) : KT := if K.1 6 t = 0 then noteK (sI (sI (sI (sI (sI (sI (sN (sI (sI K 28 3 (K.1 28 3 + 1)) 6 t 1) 1 t 0) 7 t 0) 14 t 0) 8 t 0) 9 t (K.1 28 2)) 10 t (K.1 28 2 + K.1 3 t)) 11 t (K.1 28 3 + 1)) 0 t else noteK (sI K 18 t (K.1 18 t + 1)) 1 t
def missK1 (K : KT) (t : Nat) : KT := if ¬ K.1 6 t = 0 ∧ K.1 10 t = K.1 28 2 then (if K.1 5 t = 0 then noteK (sI K 17 t (K.1 17 t + 1)) 4 t else failK (noteK (sI K 17 t (K.1 17 t + 1)) 4 t) t) else K
def missN : Nat → Nat → KT → KT
  | 0, _, K => K
  | j + 1, t, K => missN j (t + 1) (missK1 K t)
def perK (K : KT) (t : Nat) : Bool := decide (0 < K.1 1 t) && decide (K.1 2 t ≤ K.1 28 2) && decide ((K.1 28 2 - K.1 2 t) - (K.1 28 2 - K.1 2 t) / K.1 1 t * K.1 1 t = 0)
def relN : Nat → Nat → KT → KT
  | 0, _, K => K
  | j + 1, t, K => relN j (t + 1) (if perK K t = true then beginK K t else K)
def settleK : Nat → KT → KT × Nat
  | 0, K => (K, 0)
  | j + 1, K => match firstK K with
    | 0 => (weighK K, 0)
    | t + 1 => if atWorkK K t = true then (weighK K, t + 1) else settleK j (goOnK (weighK K) t (K.1 28 2))
def leftK (K : KT) (t : Nat) : Int32 := (if K.1 14 t = 0 then K.1 27 (10 * t + K.2 1 t) else K.1 14 t) - 1
def unitK (K : KT) (t : Nat) : KT := sI (sI (sI (sI (sN K 0 2 (t + 1)) 8 t (K.1 8 t + 1)) 7 t (K.1 7 t + 1)) 14 t (leftK K t)) 19 t (K.1 19 t + 1)
def workK (K : KT) (t : Nat) : KT :=
  let K1 := if K.1 8 t + 1 = K.1 4 t + 1 then noteK (unitK K t) 7 t else unitK K t
  if leftK K t = 0 then goOnK (passK K1 t) t (K.1 28 2 + 1) else K1
def tickK (K : KT) : KT × Nat :=
  let p := settleK 1000 (relN (K.2 0 0) 0 (missN (K.2 0 0) 0 K))
  match p.2 with
  | 0 => (sI p.1 28 2 (p.1.1 28 2 + 1), 0)
  | t + 1 => (sI (workK p.1 t) 28 2 ((workK p.1 t).1 28 2 + 1), 1)
def ticksK : Nat → KT → Nat → KT × Nat
  | 0, K, b => (K, b)
  | j + 1, K, b => ticksK j (tickK K).1 (b + (tickK K).2)
end
section
/-! THE CLASS, its leaves -/
theorem setS_v {S : Sto} {t i k : Nat} {v w : AV} {S1 : Sto} (h : v = w) (e : setS S t i k w = S1) : setS S t i k v = S1 := by rw [h]; exact e
theorem bI_iff {p q : Prop} [Decidable p] [Decidable q] (h : p ↔ q) : bI p = bI q := by
  by_cases hp : p
  · rw [bI_t hp, bI_t (h.mp hp)]
  · rw [bI_f hp, bI_f (fun hq => hp (h.mpr hq))]
abbrev isT (n : Nat) (x : Int32) : Prop := 0 ≤ x ∧ x < nI n
theorem isT_ex {n : Nat} {x : Int32} (hn : n < 2 ^ 31) (h : isT n x) : ∃ i, i < n ∧ x = nI i := by
  obtain ⟨j, hj, e⟩ := nI_of (x := x) (Int32.not_lt.mpr h.1)
  subst e
  exact ⟨j, (nI_ltI hj hn).mp h.2, rfl⟩
theorem isT_of {n i : Nat} (hn : n < 2 ^ 31) (h : i < n) : isT n (nI i) := ⟨nI_pos' (by omega), nI_lt h hn⟩
theorem isT_m1 {n : Nat} (hn : n ≤ 8) (x : Int32) : (0 ≤ x ∧ x ≤ nI n - 1) ↔ isT n x := by
  have h1 : (nI n - 1).toInt = (n : Int) - 1 := by
    match n, hn with
    | 0, _ => decide
    | 1, _ => decide
    | 2, _ => decide
    | 3, _ => decide
    | 4, _ => decide
    | 5, _ => decide
    | 6, _ => decide
    | 7, _ => decide
    | 8, _ => decide
    | n + 9, h => omega
  have h2 : (nI n).toInt = (n : Int) := nI_toInt (by omega)
  unfold isT
  rw [Int32.le_iff_toInt_le (x := x) (y := nI n - 1), Int32.lt_iff_toInt_lt (x := x) (y := nI n), h1, h2]
  constructor
  · intro h; exact ⟨h.1, by omega⟩
  · intro h; exact ⟨h.1, by omega⟩
theorem e_within (S : Sto) (a b c : Int32) : Ev M_X6_within 0 (ent M_X6_within [vI a, vI b, vI c]) [] S (0, some (vI (bI (b ≤ a ∧ a ≤ c))), S) := by
  show Ev M_X6_within 0 [vI a, vI b, vI c] [] S _
  refine ev_iload_n dX6_within_0 rfl ?_
  refine ev_iload_n dX6_within_1 rfl ?_
  refine ev_icmp_lt (tgt := 14) dX6_within_2 rfl (fun c2 => ?_) (fun c2 => ?_)
  · refine ev_iconst (v := 0) dX6_within_14 rfl ?_
    rw [bI_f (fun h => Int32.not_lt.mpr h.1 c2)]
    exact ev_iret dX6_within_15 (Or.inr ⟨rfl, rfl⟩)
  · refine ev_iload_n dX6_within_5 rfl ?_
    refine ev_iload_n dX6_within_6 rfl ?_
    refine ev_icmp_gt (tgt := 14) dX6_within_7 rfl (fun c7 => ?_) (fun c7 => ?_)
    · refine ev_iconst (v := 0) dX6_within_14 rfl ?_
      rw [bI_f (fun h => Int32.not_lt.mpr h.2 c7)]
      exact ev_iret dX6_within_15 (Or.inr ⟨rfl, rfl⟩)
    · refine ev_iconst (v := 1) dX6_within_10 rfl ?_
      refine ev_goto (tgt := 15) dX6_within_11 rfl ?_
      rw [bI_t ⟨Int32.not_lt.mp c2, Int32.not_lt.mp c7⟩]
      exact ev_iret dX6_within_15 (Or.inr ⟨rfl, rfl⟩)
theorem e_isTask (K M : KT) (G : GT) (x : Int32) (hn : K.2 0 0 ≤ 8) : Ev M_X6_isTask 0 (ent M_X6_isTask [vR 7 0, vI x]) [] (conc K M G) (0, some (vI (bI (isT (K.2 0 0) x))), conc K M G) := by
  rw [← bI_iff (isT_m1 hn x)]
  show Ev M_X6_isTask 0 [vR 7 0, vI x] [] (conc K M G) _
  refine ev_iload_n dX6_isTask_0 rfl ?_
  refine ev_iconst (v := 0) dX6_isTask_1 rfl ?_
  refine ev_aload_n dX6_isTask_2 rfl rfl ?_
  refine ev_getf dX6_isTask_3 fl_6_46 ?_
  refine ev_iconst (v := 1) dX6_isTask_6 rfl ?_
  refine ev_isub dX6_isTask_7 ?_
  refine evS3 dX6_isTask_8 cl_X6_isTask_32 ⟨rfl, rfl, fun h => nomatch h⟩ (Nat.le_of_ble_eq_true rfl) (e_within _ _ _ _) ?_
  exact ev_iret dX6_isTask_11 (Or.inr ⟨rfl, bI_and⟩)
theorem e_isMutex (K M : KT) (G : GT) (x : Int32) (hn : K.2 0 1 ≤ 8) : Ev M_X6_isMutex 0 (ent M_X6_isMutex [vR 7 0, vI x]) [] (conc K M G) (0, some (vI (bI (isT (K.2 0 1) x))), conc K M G) := by
  rw [← bI_iff (isT_m1 hn x)]
  show Ev M_X6_isMutex 0 [vR 7 0, vI x] [] (conc K M G) _
  refine ev_iload_n dX6_isMutex_0 rfl ?_
  refine ev_iconst (v := 0) dX6_isMutex_1 rfl ?_
  refine ev_aload_n dX6_isMutex_2 rfl rfl ?_
  refine ev_getf dX6_isMutex_3 fl_6_67 ?_
  refine ev_iconst (v := 1) dX6_isMutex_6 rfl ?_
  refine ev_isub dX6_isMutex_7 ?_
  refine evS3 dX6_isMutex_8 cl_X6_isMutex_32 ⟨rfl, rfl, fun h => nomatch h⟩ (Nat.le_of_ble_eq_true rfl) (e_within _ _ _ _) ?_
  exact ev_iret dX6_isMutex_11 (Or.inr ⟨rfl, bI_and⟩)
abbrev stepOk (K : KT) (kd a : Int32) : Prop := (kd = 0 ∧ 1 ≤ a ∧ a ≤ 20) ∨ (¬ kd = 0 ∧ (kd = 1 ∨ kd = 2) ∧ isT (K.2 0 1) a)
theorem e_isStep (K M : KT) (G : GT) (kd a : Int32) (hn : K.2 0 1 ≤ 8) : Ev M_X6_isStep 0 (ent M_X6_isStep [vR 7 0, vI kd, vI a]) [] (conc K M G) (0, some (vI (bI (stepOk K kd a))), conc K M G) := by
  show Ev M_X6_isStep 0 [vR 7 0, vI kd, vI a] [] (conc K M G) _
  have h22 : ¬ kd = 0 → (kd = 1 ∨ kd = 2) → Ev M_X6_isStep 22 [vR 7 0, vI kd, vI a] [] (conc K M G) (0, some (vI (bI (stepOk K kd a))), conc K M G) := by
    intro h0 h1
    refine ev_aload_n dX6_isStep_22 rfl rfl ?_
    refine ev_iload_n dX6_isStep_23 rfl ?_
    refine evV2 dX6_isStep_24 cl_X6_isStep_98 ⟨rfl, rfl, fun _ => ⟨_, rfl⟩⟩ (Nat.le_of_ble_eq_true rfl) (e_isMutex K M G a hn) ?_
    refine ev_if_eq (tgt := 34) dX6_isStep_27 rfl (fun c27 => ?_) (fun c27 => ?_)
    · refine ev_iconst (v := 0) dX6_isStep_34 rfl ?_
      rw [bI_f (fun q => q.elim (fun q => h0 q.1) (fun q => bI_0.mp c27 q.2.2))]
      exact ev_iret dX6_isStep_35 (Or.inr ⟨rfl, rfl⟩)
    · refine ev_iconst (v := 1) dX6_isStep_30 rfl ?_
      refine ev_goto (tgt := 35) dX6_isStep_31 rfl ?_
      rw [bI_t (Or.inr ⟨h0, h1, Classical.not_not.mp (fun h => c27 (bI_f h))⟩)]
      exact ev_iret dX6_isStep_35 (Or.inr ⟨rfl, rfl⟩)
  refine ev_iload_n dX6_isStep_0 rfl ?_
  refine ev_if_ne (tgt := 12) dX6_isStep_1 rfl (fun c1 => ?_) (fun c1 => ?_)
  · refine ev_iload_n dX6_isStep_12 rfl ?_
    refine ev_iconst (v := 1) dX6_isStep_13 rfl ?_
    refine ev_icmp_eq (tgt := 22) dX6_isStep_14 rfl (fun c14 => ?_) (fun c14 => ?_)
    · exact h22 c1 (Or.inl c14)
    · refine ev_iload_n dX6_isStep_17 rfl ?_
      refine ev_iconst (v := 2) dX6_isStep_18 rfl ?_
      refine ev_icmp_ne (tgt := 34) dX6_isStep_19 rfl (fun c19 => ?_) (fun c19 => ?_)
      · refine ev_iconst (v := 0) dX6_isStep_34 rfl ?_
        rw [bI_f (fun q => q.elim (fun q => c1 q.1) (fun q => q.2.1.elim c14 c19))]
        exact ev_iret dX6_isStep_35 (Or.inr ⟨rfl, rfl⟩)
      · exact h22 c1 (Or.inr (Classical.not_not.mp c19))
  · refine ev_iload_n dX6_isStep_4 rfl ?_
    refine ev_iconst (v := 1) dX6_isStep_5 rfl ?_
    refine ev_bipush (v := 20) dX6_isStep_6 rfl ?_
    refine evS3 dX6_isStep_8 cl_X6_isStep_32 ⟨rfl, rfl, fun h => nomatch h⟩ (Nat.le_of_ble_eq_true rfl) (e_within _ _ _ _) ?_
    rw [bI_iff (p := stepOk K kd a) (q := 1 ≤ a ∧ a ≤ 20) ⟨fun q => q.elim (fun q => q.2) (fun q => absurd (Classical.not_not.mp c1) q.1), fun q => Or.inl ⟨Classical.not_not.mp c1, q⟩⟩]
    exact ev_iret dX6_isStep_11 (Or.inr ⟨rfl, bI_and⟩)
theorem e_nextChange (K M : KT) (G : GT) : Ev M_X6_nextChange 0 (ent M_X6_nextChange [vR 7 0]) [] (conc K M G) (0, some (vI (K.1 28 3 + 1)), conc (sI K 28 3 (K.1 28 3 + 1)) M G) := by
  show Ev M_X6_nextChange 0 [vR 7 0] [] (conc K M G) _
  refine ev_aload_n dX6_nextChange_0 rfl rfl ?_
  refine ev_dup dX6_nextChange_1 rfl ?_
  refine ev_getf dX6_nextChange_2 fl_6_265 ?_
  refine ev_iconst (v := 1) dX6_nextChange_5 rfl ?_
  refine ev_iadd dX6_nextChange_6 ?_
  refine ev_putfS dX6_nextChange_7 fl_6_265 rfl rfl (pu_ker_9 _ _ _ _) ?_
  refine ev_aload_n dX6_nextChange_10 rfl rfl ?_
  refine ev_getf dX6_nextChange_11 fl_6_265 ?_
  exact ev_iret dX6_nextChange_14 (Or.inl rfl)
theorem nI_rem40 {n : Nat} (h : n < 40) : nI n + 1 - (nI n + 1) / 40 * 40 = nI ((n + 1) % 40) := by
  have h1 : nI n + 1 = nI (n + 1) := nI_1 n
  have h2 : (40 : Int32) = nI 40 := rfl
  rw [h1, h2]
  exact pk_rem (by omega) (by omega) (by omega)
theorem e_add (K M : KT) (G : GT) (w tm : Int32) (t : Int32) (h : K.2 0 4 < 40) : Ev M_X2_add 0 (ent M_X2_add [vR 3 0, vI w, vI tm, vI t]) [] (conc K M G) (0, none, conc (sN (sN (sI (sI (sI K 23 (K.2 0 4) w) 24 (K.2 0 4) tm) 25 (K.2 0 4) t) 0 4 ((K.2 0 4 + 1) % 40)) 0 3 (K.2 0 3 + 1)) M G) := by
  show Ev M_X2_add 0 [vR 3 0, vI w, vI tm, vI t] [] (conc K M G) _
  refine ev_aload_n dX2_add_0 rfl rfl ?_
  refine ev_getf dX2_add_1 fl_2_9 ?_
  refine ev_aload_n dX2_add_4 rfl rfl ?_
  refine ev_getf dX2_add_5 fl_2_21 ?_
  refine ev_iload_n dX2_add_8 rfl ?_
  refine ev_iastS dX2_add_9 rfl (by decide) rfl (show _ < 40 from h) (pu_ja_12 _ _ _ _ _) ?_
  refine ev_aload_n dX2_add_10 rfl rfl ?_
  refine ev_getf dX2_add_11 fl_2_15 ?_
  refine ev_aload_n dX2_add_14 rfl rfl ?_
  refine ev_getf dX2_add_15 fl_2_21 ?_
  refine ev_iload_n dX2_add_18 rfl ?_
  refine ev_iastS dX2_add_19 rfl (by decide) rfl (show _ < 40 from h) (pu_ja_13 _ _ _ _ _) ?_
  refine ev_aload_n dX2_add_20 rfl rfl ?_
  refine ev_getf dX2_add_21 fl_2_18 ?_
  refine ev_aload_n dX2_add_24 rfl rfl ?_
  refine ev_getf dX2_add_25 fl_2_21 ?_
  refine ev_iload_n dX2_add_28 rfl ?_
  refine ev_iastS dX2_add_29 rfl (by decide) rfl (show _ < 40 from h) (pu_ja_14 _ _ _ _ _) ?_
  refine ev_aload_n dX2_add_30 rfl rfl ?_
  refine ev_aload_n dX2_add_31 rfl rfl ?_
  refine ev_getf dX2_add_32 fl_2_21 ?_
  refine ev_iconst (v := 1) dX2_add_35 rfl ?_
  refine ev_iadd dX2_add_36 ?_
  refine ev_bipush (v := 40) dX2_add_37 rfl ?_
  refine ev_irem dX2_add_39 (by decide) ?_
  refine ev_putfS dX2_add_40 fl_2_21 rfl rfl (setS_v (congrArg vI (nI_rem40 h)) (pu_jour_4 _ _ _ _)) ?_
  refine ev_aload_n dX2_add_43 rfl rfl ?_
  refine ev_dup dX2_add_44 rfl ?_
  refine ev_getf dX2_add_45 fl_2_25 ?_
  refine ev_iconst (v := 1) dX2_add_48 rfl ?_
  refine ev_iadd dX2_add_49 ?_
  refine ev_putfS dX2_add_50 fl_2_25 rfl rfl (setS_v (congrArg vI (nI_1 _)) (pu_jour_3 _ _ _ _)) ?_
  exact ev_vret dX2_add_53 rfl
theorem e_note (K M : KT) (G : GT) (w : Int32) (t : Nat) (h : K.2 0 4 < 40) : Ev M_X6_note 0 (ent M_X6_note [vR 7 0, vI w, vR 6 t]) [] (conc K M G) (0, none, conc (noteK K w t) M G) := by
  show Ev M_X6_note 0 [vR 7 0, vI w, vR 6 t] [] (conc K M G) _
  refine ev_aload_n dX6_note_0 rfl rfl ?_
  refine ev_getf dX6_note_1 fl_6_24 ?_
  refine ev_iload_n dX6_note_4 rfl ?_
  refine ev_aload_n dX6_note_5 rfl rfl ?_
  refine ev_getf dX6_note_6 fl_6_125 ?_
  refine ev_aload_n dX6_note_9 rfl rfl ?_
  refine ev_getf dX6_note_10 fl_6_268 ?_
  refine evV4 dX6_note_13 cl_X6_note_271 ⟨rfl, rfl, fun _ => ⟨_, rfl⟩⟩ (Nat.le_of_ble_eq_true rfl) (e_add K M G w (K.1 28 2) (nI t) h) ?_
  exact ev_vret dX6_note_16 rfl
theorem e_begin (K M : KT) (G : GT) (t : Nat) (a b c : Int32) : Ev M_X1_begin 0 (ent M_X1_begin [vR 2 t, vI a, vI b, vI c]) [] (conc K M G) (0, none, conc (sI (sI (sI (sI (sI (sN (sI K 6 t 1) 1 t 0) 7 t 0) 8 t 0) 9 t a) 10 t (a + b)) 11 t c) M G) := by
  show Ev M_X1_begin 0 [vR 2 t, vI a, vI b, vI c] [] (conc K M G) _
  refine ev_aload_n dX1_begin_0 rfl rfl ?_
  refine ev_iconst (v := 1) dX1_begin_1 rfl ?_
  refine ev_putfS dX1_begin_2 fl_1_9 rfl rfl (pu_job_0 _ _ _ _ _) ?_
  refine ev_aload_n dX1_begin_5 rfl rfl ?_
  refine ev_iconst (v := 0) dX1_begin_6 rfl ?_
  refine ev_putfS dX1_begin_7 fl_1_15 rfl rfl (pu_job_1 _ _ _ t 0) ?_
  refine ev_aload_n dX1_begin_10 rfl rfl ?_
  refine ev_iconst (v := 0) dX1_begin_11 rfl ?_
  refine ev_putfS dX1_begin_12 fl_1_18 rfl rfl (pu_job_2 _ _ _ _ _) ?_
  refine ev_aload_n dX1_begin_15 rfl rfl ?_
  refine ev_iconst (v := 0) dX1_begin_16 rfl ?_
  refine ev_putfS dX1_begin_17 fl_1_21 rfl rfl (pu_job_3 _ _ _ _ _) ?_
  refine ev_aload_n dX1_begin_20 rfl rfl ?_
  refine ev_iload_n dX1_begin_21 rfl ?_
  refine ev_putfS dX1_begin_22 fl_1_24 rfl rfl (pu_job_4 _ _ _ _ _) ?_
  refine ev_aload_n dX1_begin_25 rfl rfl ?_
  refine ev_iload_n dX1_begin_26 rfl ?_
  refine ev_iload_n dX1_begin_27 rfl ?_
  refine ev_iadd dX1_begin_28 ?_
  refine ev_putfS dX1_begin_29 fl_1_27 rfl rfl (pu_job_5 _ _ _ _ _) ?_
  refine ev_aload_n dX1_begin_32 rfl rfl ?_
  refine ev_iload_n dX1_begin_33 rfl ?_
  refine ev_putfS dX1_begin_34 fl_1_30 rfl rfl (pu_job_6 _ _ _ _ _) ?_
  exact ev_vret dX1_begin_37 rfl
theorem e_passStep (K M : KT) (G : GT) (t : Nat) : Ev M_X1_passStep 0 (ent M_X1_passStep [vR 2 t]) [] (conc K M G) (0, none, conc (passK K t) M G) := by
  show Ev M_X1_passStep 0 [vR 2 t] [] (conc K M G) _
  refine ev_aload_n dX1_passStep_0 rfl rfl ?_
  refine ev_dup dX1_passStep_1 rfl ?_
  refine ev_getf dX1_passStep_2 fl_1_15 ?_
  refine ev_iconst (v := 1) dX1_passStep_5 rfl ?_
  refine ev_iadd dX1_passStep_6 ?_
  refine ev_putfS dX1_passStep_7 fl_1_15 rfl rfl (setS_v (congrArg vI (nI_1 _)) (pu_job_1 _ _ _ _ _)) ?_
  refine ev_aload_n dX1_passStep_10 rfl rfl ?_
  refine ev_iconst (v := 0) dX1_passStep_11 rfl ?_
  refine ev_putfS dX1_passStep_12 fl_1_18 rfl rfl (pu_job_2 _ _ _ _ _) ?_
  exact ev_vret dX1_passStep_15 rfl
theorem e_blockAt (K M : KT) (G : GT) (t m : Nat) (c : Int32) : Ev M_X1_blockAt 0 (ent M_X1_blockAt [vR 2 t, vR 4 m, vI c]) [] (conc K M G) (0, none, conc (sI (sN (sI K 6 t 2) 3 t (m + 1)) 11 t c) M G) := by
  show Ev M_X1_blockAt 0 [vR 2 t, vR 4 m, vI c] [] (conc K M G) _
  refine ev_aload_n dX1_blockAt_0 rfl rfl ?_
  refine ev_iconst (v := 2) dX1_blockAt_1 rfl ?_
  refine ev_putfS dX1_blockAt_2 fl_1_9 rfl rfl (pu_job_0 _ _ _ _ _) ?_
  refine ev_aload_n dX1_blockAt_5 rfl rfl ?_
  refine ev_aload_n dX1_blockAt_6 rfl rfl ?_
  refine ev_putfS dX1_blockAt_7 fl_1_33 rfl rfl (pu_job_7 _ _ _ _ _) ?_
  refine ev_aload_n dX1_blockAt_10 rfl rfl ?_
  refine ev_iload_n dX1_blockAt_11 rfl ?_
  refine ev_putfS dX1_blockAt_12 fl_1_30 rfl rfl (pu_job_6 _ _ _ _ _) ?_
  exact ev_vret dX1_blockAt_15 rfl
theorem e_resume (K M : KT) (G : GT) (t : Nat) (c : Int32) : Ev M_X1_resume 0 (ent M_X1_resume [vR 2 t, vI c]) [] (conc K M G) (0, none, conc (passK (sI (sN (sI K 6 t 1) 3 t 0) 11 t c) t) M G) := by
  show Ev M_X1_resume 0 [vR 2 t, vI c] [] (conc K M G) _
  refine ev_aload_n dX1_resume_0 rfl rfl ?_
  refine ev_iconst (v := 1) dX1_resume_1 rfl ?_
  refine ev_putfS dX1_resume_2 fl_1_9 rfl rfl (pu_job_0 _ _ _ _ _) ?_
  refine ev_aload_n dX1_resume_5 rfl rfl ?_
  refine ev_null dX1_resume_6 ?_
  refine ev_putfS dX1_resume_7 fl_1_33 rfl rfl (pu_job_7n _ _ _ _) ?_
  refine ev_aload_n dX1_resume_10 rfl rfl ?_
  refine ev_iload_n dX1_resume_11 rfl ?_
  refine ev_putfS dX1_resume_12 fl_1_30 rfl rfl (pu_job_6 _ _ _ _ _) ?_
  refine ev_aload_n dX1_resume_15 rfl rfl ?_
  refine evV1 dX1_resume_16 cl_X1_resume_37 ⟨rfl, rfl, fun _ => ⟨_, rfl⟩⟩ (Nat.le_of_ble_eq_true rfl) (e_passStep _ M G t) ?_
  exact ev_vret dX1_resume_19 rfl
theorem e_end (K M : KT) (G : GT) (t : Nat) : Ev M_X1_end 0 (ent M_X1_end [vR 2 t]) [] (conc K M G) (0, none, conc (sN (sI K 6 t 0) 3 t 0) M G) := by
  show Ev M_X1_end 0 [vR 2 t] [] (conc K M G) _
  refine ev_aload_n dX1_end_0 rfl rfl ?_
  refine ev_iconst (v := 0) dX1_end_1 rfl ?_
  refine ev_putfS dX1_end_2 fl_1_9 rfl rfl (pu_job_0 _ _ _ _ _) ?_
  refine ev_aload_n dX1_end_5 rfl rfl ?_
  refine ev_null dX1_end_6 ?_
  refine ev_putfS dX1_end_7 fl_1_33 rfl rfl (pu_job_7n _ _ _ _) ?_
  exact ev_vret dX1_end_10 rfl
theorem e_inher (K M : KT) (G : GT) (a b : Nat) : Ev M_X1_inheritsAhead 0 (ent M_X1_inheritsAhead [vR 2 a, vR 2 b]) [] (conc K M G) (0, some (vI (bI (inher K (K.1 12) a b = true))), conc K M G) := by
  show Ev M_X1_inheritsAhead 0 [vR 2 a, vR 2 b] [] (conc K M G) _
  refine ev_aload_n dX1_inheritsAhead_0 rfl rfl ?_
  refine ev_getf dX1_inheritsAhead_1 fl_1_40 ?_
  refine ev_aload_n dX1_inheritsAhead_4 rfl rfl ?_
  refine ev_getf dX1_inheritsAhead_5 fl_1_40 ?_
  refine ev_icmp_eq (tgt := 30) dX1_inheritsAhead_8 rfl (fun c8 => ?_) (fun c8 => ?_)
  · refine ev_aload_n dX1_inheritsAhead_30 rfl rfl ?_
    refine ev_getf dX1_inheritsAhead_31 fl_1_30 ?_
    refine ev_aload_n dX1_inheritsAhead_34 rfl rfl ?_
    refine ev_getf dX1_inheritsAhead_35 fl_1_30 ?_
    refine ev_icmp_ge (tgt := 45) dX1_inheritsAhead_38 rfl (fun c38 => ?_) (fun c38 => ?_)
    · refine ev_iconst (v := 0) dX1_inheritsAhead_45 rfl ?_
      rw [bI_f (by simp [inher, c8, Int32.not_lt.mpr c38])]
      exact ev_iret dX1_inheritsAhead_46 (Or.inr ⟨rfl, rfl⟩)
    · refine ev_iconst (v := 1) dX1_inheritsAhead_41 rfl ?_
      refine ev_goto (tgt := 46) dX1_inheritsAhead_42 rfl ?_
      rw [bI_t (by simp [inher, c8, Int32.not_le.mp c38])]
      exact ev_iret dX1_inheritsAhead_46 (Or.inr ⟨rfl, rfl⟩)
  · refine ev_aload_n dX1_inheritsAhead_11 rfl rfl ?_
    refine ev_getf dX1_inheritsAhead_12 fl_1_40 ?_
    refine ev_aload_n dX1_inheritsAhead_15 rfl rfl ?_
    refine ev_getf dX1_inheritsAhead_16 fl_1_40 ?_
    refine ev_icmp_le (tgt := 26) dX1_inheritsAhead_19 rfl (fun c19 => ?_) (fun c19 => ?_)
    · refine ev_iconst (v := 0) dX1_inheritsAhead_26 rfl ?_
      refine ev_goto (tgt := 46) dX1_inheritsAhead_27 rfl ?_
      rw [bI_f (by simp [inher, c8, Int32.not_lt.mpr c19])]
      exact ev_iret dX1_inheritsAhead_46 (Or.inr ⟨rfl, rfl⟩)
    · refine ev_iconst (v := 1) dX1_inheritsAhead_22 rfl ?_
      refine ev_goto (tgt := 46) dX1_inheritsAhead_23 rfl ?_
      rw [bI_t (by simp [inher, c8, Int32.not_le.mp c19])]
      exact ev_iret dX1_inheritsAhead_46 (Or.inr ⟨rfl, rfl⟩)
theorem e_addDone (K M : KT) (G : GT) (t : Nat) (x : Int32) : Ev M_X4_addDone 0 (ent M_X4_addDone [vR 5 t, vI x]) [] (conc K M G) (0, none, conc (sI (sI K 15 t (K.1 15 t + 1)) 20 t (if K.1 20 t < x then x else K.1 20 t)) M G) := by
  show Ev M_X4_addDone 0 [vR 5 t, vI x] [] (conc K M G) _
  refine ev_aload_n dX4_addDone_0 rfl rfl ?_
  refine ev_dup dX4_addDone_1 rfl ?_
  refine ev_getf dX4_addDone_2 fl_4_7 ?_
  refine ev_iconst (v := 1) dX4_addDone_5 rfl ?_
  refine ev_iadd dX4_addDone_6 ?_
  refine ev_putfS dX4_addDone_7 fl_4_7 rfl rfl (pu_tal_0 _ _ _ _ _) ?_
  refine ev_aload_n dX4_addDone_10 rfl rfl ?_
  refine ev_aload_n dX4_addDone_11 rfl rfl ?_
  refine ev_getf dX4_addDone_12 fl_4_13 ?_
  refine ev_iload_n dX4_addDone_15 rfl ?_
  refine ev_mmax dX4_addDone_16 ml_4_16 (Nat.le_of_ble_eq_true rfl) ?_
  refine ev_putfS dX4_addDone_19 fl_4_13 rfl rfl (pu_tal_5 _ _ _ _ _) ?_
  exact ev_vret dX4_addDone_22 rfl
theorem e_isPer (K M : KT) (G : GT) (t : Nat) : Ev M_X5_isPeriodicAt 0 (ent M_X5_isPeriodicAt [vR 6 t, vI (K.1 28 2)]) [] (conc K M G) (0, some (vI (bI (perK K t = true))), conc K M G) := by
  show Ev M_X5_isPeriodicAt 0 [vR 6 t, vI (K.1 28 2)] [] (conc K M G) _
  refine ev_aload_n dX5_isPeriodicAt_0 rfl rfl ?_
  refine ev_getf dX5_isPeriodicAt_1 fl_5_39 ?_
  refine ev_if_le (tgt := 33) dX5_isPeriodicAt_4 rfl (fun c4 => ?_) (fun c4 => ?_)
  · refine ev_iconst (v := 0) dX5_isPeriodicAt_33 rfl ?_
    rw [bI_f (by simp [perK, Int32.not_lt.mpr c4])]
    exact ev_iret dX5_isPeriodicAt_34 (Or.inr ⟨rfl, rfl⟩)
  · refine ev_iload_n dX5_isPeriodicAt_7 rfl ?_
    refine ev_aload_n dX5_isPeriodicAt_8 rfl rfl ?_
    refine ev_getf dX5_isPeriodicAt_9 fl_5_42 ?_
    refine ev_icmp_lt (tgt := 33) dX5_isPeriodicAt_12 rfl (fun c12 => ?_) (fun c12 => ?_)
    · refine ev_iconst (v := 0) dX5_isPeriodicAt_33 rfl ?_
      rw [bI_f (by simp [perK, Int32.not_le.mpr c12])]
      exact ev_iret dX5_isPeriodicAt_34 (Or.inr ⟨rfl, rfl⟩)
    · refine ev_iload_n dX5_isPeriodicAt_15 rfl ?_
      refine ev_aload_n dX5_isPeriodicAt_16 rfl rfl ?_
      refine ev_getf dX5_isPeriodicAt_17 fl_5_42 ?_
      refine ev_isub dX5_isPeriodicAt_20 ?_
      refine ev_aload_n dX5_isPeriodicAt_21 rfl rfl ?_
      refine ev_getf dX5_isPeriodicAt_22 fl_5_39 ?_
      refine ev_irem dX5_isPeriodicAt_25 (fun h => c4 (by rw [h]; decide)) ?_
      refine ev_if_ne (tgt := 33) dX5_isPeriodicAt_26 rfl (fun c26 => ?_) (fun c26 => ?_)
      · refine ev_iconst (v := 0) dX5_isPeriodicAt_33 rfl ?_
        rw [bI_f (by simp [perK, c26])]
        exact ev_iret dX5_isPeriodicAt_34 (Or.inr ⟨rfl, rfl⟩)
      · refine ev_iconst (v := 1) dX5_isPeriodicAt_29 rfl ?_
        refine ev_goto (tgt := 34) dX5_isPeriodicAt_30 rfl ?_
        rw [bI_t (by simp [perK, Int32.not_le.mp c4, Int32.not_lt.mp c12, Classical.not_not.mp c26])]
        exact ev_iret dX5_isPeriodicAt_34 (Or.inr ⟨rfl, rfl⟩)
theorem e_isAtWork (K M : KT) (G : GT) (t : Nat) (h : K.2 2 t ≤ 10) (h2 : K.2 1 t ≤ K.2 2 t) : Ev M_X5_isAtWork 0 (ent M_X5_isAtWork [vR 6 t]) [] (conc K M G) (0, some (vI (bI (atWorkK K t = true))), conc K M G) := by
  show Ev M_X5_isAtWork 0 [vR 6 t] [] (conc K M G) _
  refine ev_aload_n dX5_isAtWork_0 rfl rfl ?_
  refine ev_getf dX5_isAtWork_1 fl_5_21 ?_
  refine ev_getf dX5_isAtWork_4 fl_5_51 ?_
  refine ev_aload_n dX5_isAtWork_7 rfl rfl ?_
  refine ev_getf dX5_isAtWork_8 fl_5_12 ?_
  refine ev_getf dX5_isAtWork_11 fl_5_54 ?_
  refine ev_icmp_ge (tgt := 39) dX5_isAtWork_14 rfl (fun c14 => ?_) (fun c14 => ?_)
  · refine ev_iconst (v := 0) dX5_isAtWork_39 rfl ?_
    rw [bI_f (by have q1 : ¬ K.2 1 t < K.2 2 t := (fun q => nI_ge q (by omega) c14); simp [atWorkK, q1])]
    exact ev_iret dX5_isAtWork_40 (Or.inr ⟨rfl, rfl⟩)
  · have hlt : K.2 1 t < K.2 2 t := Nat.not_le.mp (fun q => c14 (nI_le q (by omega)))
    refine ev_aload_n dX5_isAtWork_17 rfl rfl ?_
    refine ev_getf dX5_isAtWork_18 fl_5_12 ?_
    refine ev_getf dX5_isAtWork_21 fl_5_57 ?_
    refine ev_aload_n dX5_isAtWork_24 rfl rfl ?_
    refine ev_getf dX5_isAtWork_25 fl_5_21 ?_
    refine ev_getf dX5_isAtWork_28 fl_5_51 ?_
    refine ev_ialdv dX5_isAtWork_31 rfl rfl (show _ < 10 from by omega) (co_bk (by omega)) ?_
    refine ev_if_ne (tgt := 39) dX5_isAtWork_32 rfl (fun c32 => ?_) (fun c32 => ?_)
    · refine ev_iconst (v := 0) dX5_isAtWork_39 rfl ?_
      rw [bI_f (by simp [atWorkK, kdK, c32])]
      exact ev_iret dX5_isAtWork_40 (Or.inr ⟨rfl, rfl⟩)
    · refine ev_iconst (v := 1) dX5_isAtWork_35 rfl ?_
      refine ev_goto (tgt := 40) dX5_isAtWork_36 rfl ?_
      rw [bI_t (by simp [atWorkK, kdK, hlt, Classical.not_not.mp c32])]
      exact ev_iret dX5_isAtWork_40 (Or.inr ⟨rfl, rfl⟩)
theorem e_goesAhead (K M : KT) (G : GT) (a b : Nat) : Ev M_X6_goesAhead 0 (ent M_X6_goesAhead [vR 7 0, vR 6 a, vR 6 b]) [] (conc K M G) (0, some (vI (bI (ahead K (K.1 12) a b = true))), conc K M G) := by
  show Ev M_X6_goesAhead 0 [vR 7 0, vR 6 a, vR 6 b] [] (conc K M G) _
  have hq : ∀ c : Nat, (vR 6 c = rfq 6 (K.2 0 2)) ↔ K.2 0 2 = c + 1 := by
    intro c
    rcases K.2 0 2 with _ | d
    · exact ⟨(fun h => nomatch h), fun h => by omega⟩
    · exact ⟨fun h => by cases h; rfl, fun h => by rw [Nat.succ.inj h]; rfl⟩
  have h56 : K.1 12 a = K.1 12 b → (K.2 0 2 = a + 1 ∨ K.2 0 2 = b + 1) → Ev M_X6_goesAhead 56 [vR 7 0, vR 6 a, vR 6 b] [] (conc K M G) (0, some (vI (bI (ahead K (K.1 12) a b = true))), conc K M G) := by
    intro e h
    refine ev_aload_n dX6_goesAhead_56 rfl rfl ?_
    refine ev_aload_n dX6_goesAhead_57 rfl rfl ?_
    refine ev_getfv dX6_goesAhead_58 fl_6_186 (co_last rfl) ?_
    refine ev_acmp_ne (tgt := 68) dX6_goesAhead_61 rfl rfl (isRf_rfq _ _) (fun c61 => ?_) (fun c61 => ?_)
    · refine ev_iconst (v := 0) dX6_goesAhead_68 rfl ?_
      rw [bI_f (by simp only [ahead, if_pos e, if_pos h, decide_eq_true_eq]; exact fun q => c61 ((hq a).mpr q))]
      exact ev_iret dX6_goesAhead_69 (Or.inr ⟨rfl, rfl⟩)
    · refine ev_iconst (v := 1) dX6_goesAhead_64 rfl ?_
      refine ev_goto (tgt := 69) dX6_goesAhead_65 rfl ?_
      rw [bI_t (by simp only [ahead, if_pos e, if_pos h, decide_eq_true_eq]; exact (hq a).mp c61)]
      exact ev_iret dX6_goesAhead_69 (Or.inr ⟨rfl, rfl⟩)
  refine ev_aload_n dX6_goesAhead_0 rfl rfl ?_
  refine ev_getf dX6_goesAhead_1 fl_6_128 ?_
  refine ev_getf dX6_goesAhead_4 fl_6_278 ?_
  refine ev_aload_n dX6_goesAhead_7 rfl rfl ?_
  refine ev_getf dX6_goesAhead_8 fl_6_128 ?_
  refine ev_getf dX6_goesAhead_11 fl_6_278 ?_
  refine ev_icmp_eq (tgt := 40) dX6_goesAhead_14 rfl (fun c14 => ?_) (fun c14 => ?_)
  · refine ev_aload_n dX6_goesAhead_40 rfl rfl ?_
    refine ev_aload_n dX6_goesAhead_41 rfl rfl ?_
    refine ev_getfv dX6_goesAhead_42 fl_6_186 (co_last rfl) ?_
    refine ev_acmp_eq (tgt := 56) dX6_goesAhead_45 rfl rfl (isRf_rfq _ _) (fun c45 => ?_) (fun c45 => ?_)
    · exact h56 c14 (Or.inl ((hq a).mp c45))
    · refine ev_aload_n dX6_goesAhead_48 rfl rfl ?_
      refine ev_aload_n dX6_goesAhead_49 rfl rfl ?_
      refine ev_getfv dX6_goesAhead_50 fl_6_186 (co_last rfl) ?_
      refine ev_acmp_ne (tgt := 70) dX6_goesAhead_53 rfl rfl (isRf_rfq _ _) (fun c53 => ?_) (fun c53 => ?_)
      · have h : ¬ (K.2 0 2 = a + 1 ∨ K.2 0 2 = b + 1) := fun h => h.elim (fun h => c45 ((hq a).mpr h)) (fun h => c53 ((hq b).mpr h))
        refine ev_aload_n dX6_goesAhead_70 rfl rfl ?_
        refine ev_getf dX6_goesAhead_71 fl_6_128 ?_
        refine ev_getf dX6_goesAhead_74 fl_6_281 ?_
        refine ev_aload_n dX6_goesAhead_77 rfl rfl ?_
        refine ev_getf dX6_goesAhead_78 fl_6_128 ?_
        refine ev_getf dX6_goesAhead_81 fl_6_281 ?_
        refine ev_icmp_ge (tgt := 91) dX6_goesAhead_84 rfl (fun c84 => ?_) (fun c84 => ?_)
        · refine ev_iconst (v := 0) dX6_goesAhead_91 rfl ?_
          rw [bI_f (by simp only [ahead, if_pos c14, if_neg h, decide_eq_true_eq]; exact Int32.not_lt.mpr c84)]
          exact ev_iret dX6_goesAhead_92 (Or.inr ⟨rfl, rfl⟩)
        · refine ev_iconst (v := 1) dX6_goesAhead_87 rfl ?_
          refine ev_goto (tgt := 92) dX6_goesAhead_88 rfl ?_
          rw [bI_t (by simp only [ahead, if_pos c14, if_neg h, decide_eq_true_eq]; exact Int32.not_le.mp c84)]
          exact ev_iret dX6_goesAhead_92 (Or.inr ⟨rfl, rfl⟩)
      · exact h56 c14 (Or.inr ((hq b).mp c53))
  · refine ev_aload_n dX6_goesAhead_17 rfl rfl ?_
    refine ev_getf dX6_goesAhead_18 fl_6_128 ?_
    refine ev_getf dX6_goesAhead_21 fl_6_278 ?_
    refine ev_aload_n dX6_goesAhead_24 rfl rfl ?_
    refine ev_getf dX6_goesAhead_25 fl_6_128 ?_
    refine ev_getf dX6_goesAhead_28 fl_6_278 ?_
    refine ev_icmp_le (tgt := 38) dX6_goesAhead_31 rfl (fun c31 => ?_) (fun c31 => ?_)
    · refine ev_iconst (v := 0) dX6_goesAhead_38 rfl ?_
      rw [bI_f (by simp [ahead, c14, Int32.not_lt.mpr c31])]
      exact ev_iret dX6_goesAhead_39 (Or.inr ⟨rfl, rfl⟩)
    · refine ev_iconst (v := 1) dX6_goesAhead_34 rfl ?_
      refine ev_goto (tgt := 39) dX6_goesAhead_35 rfl ?_
      rw [bI_t (by simp [ahead, c14, Int32.not_le.mp c31])]
      exact ev_iret dX6_goesAhead_39 (Or.inr ⟨rfl, rfl⟩)
theorem e_stepFails (K M : KT) (G : GT) (t m : Nat) (kd : Int32) : Ev M_X6_stepFails 0 (ent M_X6_stepFails [vR 7 0, vR 6 t, vI kd, vR 4 m]) [] (conc K M G) (0, some (vI (bI (failsK K t m kd = true))), conc K M G) := by
  show Ev M_X6_stepFails 0 [vR 7 0, vR 6 t, vI kd, vR 4 m, vU] [] (conc K M G) _
  have hq : (rfq 6 (K.2 4 m) = vR 6 t) ↔ K.2 4 m = t + 1 := by
    rcases K.2 4 m with _ | d
    · exact ⟨(fun h => nomatch h), fun h => by omega⟩
    · exact ⟨fun h => by cases h; rfl, fun h => by rw [Nat.succ.inj h]; rfl⟩
  have h52 : ¬ kd = 2 → ∀ b : Bool, b = (decide (K.1 28 0 = 0) && decide (K.1 21 m = 2) && decide (K.1 22 m < K.1 0 t)) → Ev M_X6_stepFails 52 [vR 7 0, vR 6 t, vI kd, vR 4 m, vI (bI (b = true))] [] (conc K M G) (0, some (vI (bI (failsK K t m kd = true))), conc K M G) := by
    intro e b hb
    have hf : failsK K t m kd = (decide (K.2 4 m = t + 1) || b) := by simp only [failsK, if_neg e, hb]
    rw [hf]
    refine ev_aload_n dX6_stepFails_52 rfl rfl ?_
    refine ev_getfv dX6_stepFails_53 fl_6_221 (co_own rfl) ?_
    refine ev_aload_n dX6_stepFails_56 rfl rfl ?_
    refine ev_acmp_eq (tgt := 65) dX6_stepFails_57 rfl (isRf_rfq _ _) rfl (fun c57 => ?_) (fun c57 => ?_)
    · refine ev_iconst (v := 1) dX6_stepFails_65 rfl ?_
      refine ev_goto (tgt := 70) dX6_stepFails_66 rfl ?_
      rw [bI_t (p := (decide (K.2 4 m = t + 1) || b) = true) (by simp [hq.mp c57])]
      exact ev_iret dX6_stepFails_70 (Or.inr ⟨rfl, rfl⟩)
    · refine ev_iload dX6_stepFails_60 rfl ?_
      refine ev_if_eq (tgt := 69) dX6_stepFails_62 rfl (fun c62 => ?_) (fun c62 => ?_)
      · refine ev_iconst (v := 0) dX6_stepFails_69 rfl ?_
        rw [bI_f (p := (decide (K.2 4 m = t + 1) || b) = true) (by simp [bI_0.mp c62]; exact fun q => c57 (hq.mpr q))]
        exact ev_iret dX6_stepFails_70 (Or.inr ⟨rfl, rfl⟩)
      · refine ev_iconst (v := 1) dX6_stepFails_65 rfl ?_
        refine ev_goto (tgt := 70) dX6_stepFails_66 rfl ?_
        rw [bI_t (p := (decide (K.2 4 m = t + 1) || b) = true) (by simp [Classical.not_not.mp (fun q => c62 (bI_f q))])]
        exact ev_iret dX6_stepFails_70 (Or.inr ⟨rfl, rfl⟩)
  refine ev_iload_n dX6_stepFails_0 rfl ?_
  refine ev_iconst (v := 2) dX6_stepFails_1 rfl ?_
  refine ev_icmp_ne (tgt := 19) dX6_stepFails_2 rfl (fun c2 => ?_) (fun c2 => ?_)
  · refine ev_aload_n dX6_stepFails_19 rfl rfl ?_
    refine ev_getf dX6_stepFails_20 fl_6_28 ?_
    refine ev_if_ne (tgt := 49) dX6_stepFails_23 rfl (fun c23 => ?_) (fun c23 => ?_)
    · refine ev_iconst (v := 0) dX6_stepFails_49 rfl ?_
      refine ev_istore dX6_stepFails_50 rfl ?_
      exact h52 c2 false (by simp [c23])
    · refine ev_aload_n dX6_stepFails_26 rfl rfl ?_
      refine ev_getf dX6_stepFails_27 fl_6_235 ?_
      refine ev_iconst (v := 2) dX6_stepFails_30 rfl ?_
      refine ev_icmp_ne (tgt := 49) dX6_stepFails_31 rfl (fun c31 => ?_) (fun c31 => ?_)
      · refine ev_iconst (v := 0) dX6_stepFails_49 rfl ?_
        refine ev_istore dX6_stepFails_50 rfl ?_
        exact h52 c2 false (by simp [c31])
      · refine ev_aload_n dX6_stepFails_34 rfl rfl ?_
        refine ev_getf dX6_stepFails_35 fl_6_238 ?_
        refine ev_aload_n dX6_stepFails_38 rfl rfl ?_
        refine ev_getf dX6_stepFails_39 fl_6_241 ?_
        refine ev_icmp_le (tgt := 49) dX6_stepFails_42 rfl (fun c42 => ?_) (fun c42 => ?_)
        · refine ev_iconst (v := 0) dX6_stepFails_49 rfl ?_
          refine ev_istore dX6_stepFails_50 rfl ?_
          exact h52 c2 false (by simp [Int32.not_lt.mpr c42])
        · refine ev_iconst (v := 1) dX6_stepFails_45 rfl ?_
          refine ev_goto (tgt := 50) dX6_stepFails_46 rfl ?_
          refine ev_istore dX6_stepFails_50 rfl ?_
          exact h52 c2 true (by simp [Classical.not_not.mp c23, Classical.not_not.mp c31, Int32.not_le.mp c42])
  · refine ev_aload_n dX6_stepFails_5 rfl rfl ?_
    refine ev_getfv dX6_stepFails_6 fl_6_221 (co_own rfl) ?_
    refine ev_aload_n dX6_stepFails_9 rfl rfl ?_
    refine ev_acmp_eq (tgt := 17) dX6_stepFails_10 rfl (isRf_rfq _ _) rfl (fun c10 => ?_) (fun c10 => ?_)
    · refine ev_iconst (v := 0) dX6_stepFails_17 rfl ?_
      rw [bI_f (by simp [failsK, Classical.not_not.mp c2, hq.mp c10])]
      exact ev_iret dX6_stepFails_18 (Or.inr ⟨rfl, rfl⟩)
    · refine ev_iconst (v := 1) dX6_stepFails_13 rfl ?_
      refine ev_goto (tgt := 18) dX6_stepFails_14 rfl ?_
      rw [bI_t (by simp only [failsK, if_pos (Classical.not_not.mp c2)]; simp; exact fun q => c10 (hq.mpr q))]
      exact ev_iret dX6_stepFails_18 (Or.inr ⟨rfl, rfl⟩)
end
section
/-! THE CLASS: ranks -/
theorem inv13 (K M : KT) (G : GT) (g : Nat → Int32) : conc (setA K 13 g) M G = conc K M G := rfl
theorem setA_self (K : KT) (f : Nat) : setA K f (K.1 f) = K := by
  refine KT_ext (fun f' i => ?_) (fun _ _ => rfl)
  rw [setA_1]
  split
  · next h => rw [h]
  · rfl
theorem sI_setA (K : KT) (f : Nat) (R : Nat → Int32) (t : Nat) (v : Int32) : sI (setA K f R) f t v = setA K f (updF R t v) := by
  refine KT_ext (fun f' i => ?_) (fun _ _ => rfl)
  simp only [sI_1, setA_1, updF]
  by_cases h : f' = f
  · rw [if_pos h, if_pos h, if_pos h]
  · rw [if_neg h, if_neg h, if_neg h]
theorem lrStep_setA (K : KT) (R : Nat → Int32) (u : Nat) : lrStep (setA K 12 R) u = setA K 12 (lendF K R u) := by
  have e0 : lendTo (setA K 12 R) u = lendTo K u := rfl
  cases h : lendTo K u with
  | zero => simp only [lrStep, lendF, e0, h]
  | succ t =>
    simp only [lrStep, lendF, e0, h]
    rw [show (setA K 12 R).1 12 t = R t from rfl, show (setA K 12 R).1 12 u = R u from rfl]
    split
    · exact sI_setA K 12 R _ _
    · rfl
theorem lrC_setA (K : KT) (R : Nat → Int32) (u : Nat) (h : lrC (setA K 12 R) u = false) : lendF K R u = R := by
  unfold lrC at h
  unfold lendF
  rw [show lendTo (setA K 12 R) u = lendTo K u from rfl] at h
  split
  · rfl
  · next t e =>
    rw [e] at h
    rw [if_neg (by simpa [show (setA K 12 R).1 12 t = R t from rfl, show (setA K 12 R).1 12 u = R u from rfl] using h)]
theorem lrLoop_1 (K : KT) : ∀ (j i : Nat) (R : Nat → Int32) (b : Bool), (lrLoop j i (setA K 12 R) b).1 = setA K 12 (lendN K j i R) := by
  intro j
  induction j with
  | zero => intro i R b; rfl
  | succ j ih => intro i R b; simp only [lrLoop, lendN]; rw [lrStep_setA]; exact ih _ _ _
theorem lrLoop_t (K : KT) : ∀ (j i : Nat) (R : Nat → Int32), (lrLoop j i (setA K 12 R) true).2 = true := by
  intro j
  induction j with
  | zero => intro i R; rfl
  | succ j ih => intro i R; simp only [lrLoop, Bool.true_or]; rw [lrStep_setA]; exact ih _ _
theorem lrLoop_2 (K : KT) : ∀ (j i : Nat) (R : Nat → Int32), (lrLoop j i (setA K 12 R) false).2 = false → lendN K j i R = R := by
  intro j
  induction j with
  | zero => intro i R _; rfl
  | succ j ih =>
    intro i R h
    simp only [lrLoop, Bool.false_or] at h
    rw [lrStep_setA] at h
    cases hc : lrC (setA K 12 R) i with
    | true => rw [hc, lrLoop_t] at h; cases h
    | false =>
      rw [hc] at h
      have e := lrC_setA K R i hc
      rw [e] at h
      simp only [lendN]
      rw [e]
      exact ih _ _ h
theorem e_lendOnce (K M : KT) (G : GT) (R : Nat → Int32) (hn : K.2 0 0 ≤ 8) : Ev M_X6_lendOnce 0 (ent M_X6_lendOnce [vR 7 0]) [] (conc (setA K 12 R) M G) (0, some (vI (bI ((lrLoop (K.2 0 0) 0 (setA K 12 R) false).2 = true))), conc (setA K 12 (lendN K (K.2 0 0) 0 R)) M G) := by
  show Ev M_X6_lendOnce 0 [vR 7 0, vU, vU, vU, vU] [] (conc (setA K 12 R) M G) _
  have h := lendOnce_loop M G (K.2 0 0) 0 (setA K 12 R) false (by rw [setA_2]; omega) hn
  rw [lrLoop_1] at h
  refine ev_iconst (v := 0) dX6_lendOnce_0 rfl ?_
  refine ev_istore_n dX6_lendOnce_1 rfl ?_
  refine ev_iconst (v := 0) dX6_lendOnce_2 rfl ?_
  refine ev_istore_n dX6_lendOnce_3 rfl ?_
  exact h
theorem lift_loop (K M : KT) (G : GT) (hm : K.2 0 1 ≤ 4) : ∀ (j i : Nat) (R : Nat → Int32), i + j = K.2 0 1 → Ev M_X6_liftToCeilings 2 [vR 7 0, vI (nI i), vU] [] (conc (setA K 12 R) M G) (0, none, conc (setA K 12 (liftN K j i R)) M G) := by
  intro j
  induction j with
  | zero =>
    intro i R hi
    refine ev_iload_n dX6_liftToCeilings_2 rfl ?_
    refine ev_aload_n dX6_liftToCeilings_3 rfl rfl ?_
    refine ev_getf dX6_liftToCeilings_4 fl_6_67 ?_
    refine ev_icmp_ge (tgt := 69) dX6_liftToCeilings_7 rfl (fun c7 => ?_) (fun c7 => ?_)
    · exact ev_vret dX6_liftToCeilings_69 rfl
    · exact absurd (nI_le (show K.2 0 1 ≤ i by omega) (by omega)) c7
  | succ j ih =>
    intro i R hi
    have hi2 : i < (setA K 12 R).2 0 1 := by rw [setA_2]; omega
    have e1 : nI i + Int32.ofInt 1 = nI (i + 1) := nI_1 i
    have hs : ∀ (R2 : Nat → Int32), liftF K R i = R2 → Ev M_X6_liftToCeilings 63 [vR 7 0, vI (nI i), vU] [] (conc (setA K 12 R2) M G) (0, none, conc (setA K 12 (liftN K (j + 1) i R)) M G) := by
      intro R2 h
      simp only [liftN]
      rw [h]
      refine ev_iinc dX6_liftToCeilings_63 rfl ?_
      refine ev_goto (tgt := 2) dX6_liftToCeilings_66 rfl ?_
      rw [e1]
      exact ih (i + 1) R2 (by omega)
    rcases ho : K.2 4 i with _ | t
    · refine ev_iload_n dX6_liftToCeilings_2 rfl ?_
      refine ev_aload_n dX6_liftToCeilings_3 rfl rfl ?_
      refine ev_getf dX6_liftToCeilings_4 fl_6_67 ?_
      refine ev_icmp_ge (tgt := 69) dX6_liftToCeilings_7 rfl (fun c7 => ?_) (fun c7 => ?_)
      · exact absurd c7 (nI_ge (a := i) (b := K.2 0 1) (by omega) (by omega))
      · refine ev_aload_n dX6_liftToCeilings_10 rfl rfl ?_
        refine ev_getf dX6_liftToCeilings_11 fl_6_17 ?_
        refine ev_iload_n dX6_liftToCeilings_14 rfl ?_
        refine ev_aaldv dX6_liftToCeilings_15 rfl rfl (show _ < 4 from by omega) (co_muts hi2) ?_
        refine ev_astore_n dX6_liftToCeilings_16 rfl rfl ?_
        refine ev_aload_n dX6_liftToCeilings_17 rfl rfl ?_
        refine ev_getf dX6_liftToCeilings_18 fl_6_235 ?_
        refine ev_iconst (v := 2) dX6_liftToCeilings_21 rfl ?_
        refine ev_icmp_ne (tgt := 63) dX6_liftToCeilings_22 rfl (fun c22 => ?_) (fun c22 => ?_)
        · refine ev_forget (ls2 := [_, _, vU]) (Fg_to ⟨Or.inr ⟨rfl, rfl⟩, Or.inr ⟨rfl, rfl⟩, Or.inl rfl, trivial⟩) ?_
          exact hs _ (by simp [liftF, ho])
        · refine ev_aload_n dX6_liftToCeilings_25 rfl rfl ?_
          refine ev_getfv dX6_liftToCeilings_26 fl_6_221 (co_own ho) ?_
          refine ev_ifnull (tgt := 63) dX6_liftToCeilings_29 rfl rfl (fun c29 => ?_) (fun c29 => ?_)
          · refine ev_forget (ls2 := [_, _, vU]) (Fg_to ⟨Or.inr ⟨rfl, rfl⟩, Or.inr ⟨rfl, rfl⟩, Or.inl rfl, trivial⟩) ?_
            exact hs _ (by simp [liftF, ho])
          · exact absurd rfl c29
    · refine ev_iload_n dX6_liftToCeilings_2 rfl ?_
      refine ev_aload_n dX6_liftToCeilings_3 rfl rfl ?_
      refine ev_getf dX6_liftToCeilings_4 fl_6_67 ?_
      refine ev_icmp_ge (tgt := 69) dX6_liftToCeilings_7 rfl (fun c7 => ?_) (fun c7 => ?_)
      · exact absurd c7 (nI_ge (a := i) (b := K.2 0 1) (by omega) (by omega))
      · refine ev_aload_n dX6_liftToCeilings_10 rfl rfl ?_
        refine ev_getf dX6_liftToCeilings_11 fl_6_17 ?_
        refine ev_iload_n dX6_liftToCeilings_14 rfl ?_
        refine ev_aaldv dX6_liftToCeilings_15 rfl rfl (show _ < 4 from by omega) (co_muts hi2) ?_
        refine ev_astore_n dX6_liftToCeilings_16 rfl rfl ?_
        refine ev_aload_n dX6_liftToCeilings_17 rfl rfl ?_
        refine ev_getf dX6_liftToCeilings_18 fl_6_235 ?_
        refine ev_iconst (v := 2) dX6_liftToCeilings_21 rfl ?_
        refine ev_icmp_ne (tgt := 63) dX6_liftToCeilings_22 rfl (fun c22 => ?_) (fun c22 => ?_)
        · refine ev_forget (ls2 := [_, _, vU]) (Fg_to ⟨Or.inr ⟨rfl, rfl⟩, Or.inr ⟨rfl, rfl⟩, Or.inl rfl, trivial⟩) ?_
          exact hs _ (by simp only [liftF, ho]; exact if_neg (fun q => c22 q.1))
        · refine ev_aload_n dX6_liftToCeilings_25 rfl rfl ?_
          refine ev_getfv dX6_liftToCeilings_26 fl_6_221 (co_own ho) ?_
          refine ev_ifnull (tgt := 63) dX6_liftToCeilings_29 rfl rfl (fun c29 => ?_) (fun c29 => ?_)
          · exact nomatch c29
          · refine ev_aload_n dX6_liftToCeilings_32 rfl rfl ?_
            refine ev_getfv dX6_liftToCeilings_33 fl_6_221 (co_own ho) ?_
            refine ev_getf dX6_liftToCeilings_36 fl_6_128 ?_
            refine ev_getf dX6_liftToCeilings_39 fl_6_278 ?_
            refine ev_aload_n dX6_liftToCeilings_42 rfl rfl ?_
            refine ev_getf dX6_liftToCeilings_43 fl_6_241 ?_
            refine ev_icmp_ge (tgt := 63) dX6_liftToCeilings_46 rfl (fun c46 => ?_) (fun c46 => ?_)
            · refine ev_forget (ls2 := [_, _, vU]) (Fg_to ⟨Or.inr ⟨rfl, rfl⟩, Or.inr ⟨rfl, rfl⟩, Or.inl rfl, trivial⟩) ?_
              exact hs _ (by simp only [liftF, ho]; exact if_neg (fun q => Int32.not_lt.mpr c46 q.2))
            · have hl : liftF K R i = updF R t (K.1 22 i) := by simp only [liftF, ho]; exact if_pos ⟨Classical.not_not.mp c22, Int32.not_le.mp c46⟩
              refine ev_aload_n dX6_liftToCeilings_49 rfl rfl ?_
              refine ev_getfv dX6_liftToCeilings_50 fl_6_221 (co_own ho) ?_
              refine ev_getf dX6_liftToCeilings_53 fl_6_128 ?_
              refine ev_aload_n dX6_liftToCeilings_56 rfl rfl ?_
              refine ev_getf dX6_liftToCeilings_57 fl_6_241 ?_
              refine ev_putfS dX6_liftToCeilings_60 fl_6_278 rfl rfl ((pu_job_8 _ _ _ _ _).trans (by rw [sI_setA])) ?_
              refine ev_forget (ls2 := [_, _, vU]) (Fg_to ⟨Or.inr ⟨rfl, rfl⟩, Or.inr ⟨rfl, rfl⟩, Or.inl rfl, trivial⟩) ?_
              exact hs _ hl
theorem e_lift (K M : KT) (G : GT) (R : Nat → Int32) (hm : K.2 0 1 ≤ 4) : Ev M_X6_liftToCeilings 0 (ent M_X6_liftToCeilings [vR 7 0]) [] (conc (setA K 12 R) M G) (0, none, conc (setA K 12 (liftN K (K.2 0 1) 0 R)) M G) := by
  show Ev M_X6_liftToCeilings 0 [vR 7 0, vU, vU] [] (conc (setA K 12 R) M G) _
  have h := lift_loop K M G hm (K.2 0 1) 0 R (by omega)
  refine ev_iconst (v := 0) dX6_liftToCeilings_0 rfl ?_
  refine ev_istore_n dX6_liftToCeilings_1 rfl ?_
  exact h
/-- the first loop of the ranks -/
def rbF (K : KT) (i : Nat) : Nat → Int32 := fun t => if t < i then base K t else K.1 12 t
theorem rbF_0 (K : KT) : setA K 12 (rbF K 0) = K := by
  rw [show rbF K 0 = K.1 12 from funext fun t => if_neg (Nat.not_lt_zero t)]
  exact setA_self K 12
theorem rbF_s (K : KT) (i : Nat) : updF (rbF K i) i (base K i) = rbF K (i + 1) := by
  funext t
  simp only [updF, rbF]
  by_cases h : t = i
  · rw [if_pos h, if_pos (by omega), h]
  · rw [if_neg h]
    by_cases h2 : t < i
    · rw [if_pos h2, if_pos (by omega)]
    · rw [if_neg h2, if_neg (by omega)]
theorem rank_loop1 (K M : KT) (G : GT) (hn : K.2 0 0 ≤ 8) (r : Res) (hk : Ev M_X6_rankTasks 52 [vR 7 0, vU, vU] [] (conc (setA K 12 (RB K)) M G) r) : ∀ (j i : Nat), i + j = K.2 0 0 → Ev M_X6_rankTasks 2 [vR 7 0, vI (nI i), vU] [] (conc (setA K 12 (rbF K i)) M G) r := by
  intro j
  induction j with
  | zero =>
    intro i hi
    refine ev_iload_n dX6_rankTasks_2 rfl ?_
    refine ev_aload_n dX6_rankTasks_3 rfl rfl ?_
    refine ev_getf dX6_rankTasks_4 fl_6_46 ?_
    refine ev_icmp_ge (tgt := 52) dX6_rankTasks_7 rfl (fun c7 => ?_) (fun c7 => ?_)
    · refine ev_forget (ls2 := [_, vU, vU]) (Fg_to ⟨Or.inr ⟨rfl, rfl⟩, Or.inl rfl, Or.inl rfl, trivial⟩) ?_
      rw [show rbF K i = RB K by rw [show i = K.2 0 0 by omega]; rfl]
      exact hk
    · exact absurd (nI_le (a := K.2 0 0) (b := i) (by omega) (by omega)) c7
  | succ j ih =>
    intro i hi
    have hi2 : i < (setA K 12 (rbF K i)).2 0 0 := by rw [setA_2]; omega
    have e1 : nI i + Int32.ofInt 1 = nI (i + 1) := nI_1 i
    have h46 : Ev M_X6_rankTasks 46 [vR 7 0, vI (nI i), vU] [] (conc (setA K 12 (rbF K (i + 1))) M G) r := by
      refine ev_iinc dX6_rankTasks_46 rfl ?_
      refine ev_goto (tgt := 2) dX6_rankTasks_49 rfl ?_
      rw [e1]
      exact ih (i + 1) (by omega)
    refine ev_iload_n dX6_rankTasks_2 rfl ?_
    refine ev_aload_n dX6_rankTasks_3 rfl rfl ?_
    refine ev_getf dX6_rankTasks_4 fl_6_46 ?_
    refine ev_icmp_ge (tgt := 52) dX6_rankTasks_7 rfl (fun c7 => ?_) (fun c7 => ?_)
    · exact absurd c7 (nI_ge (a := i) (b := K.2 0 0) (by omega) (by omega))
    · refine ev_aload_n dX6_rankTasks_10 rfl rfl ?_
      refine ev_getf dX6_rankTasks_11 fl_6_11 ?_
      refine ev_iload_n dX6_rankTasks_14 rfl ?_
      refine ev_aaldv dX6_rankTasks_15 rfl rfl (show _ < 8 from by omega) (co_tasks hi2) ?_
      refine ev_astore_n dX6_rankTasks_16 rfl rfl ?_
      refine ev_aload_n dX6_rankTasks_17 rfl rfl ?_
      refine ev_getf dX6_rankTasks_18 fl_6_128 ?_
      refine ev_aload_n dX6_rankTasks_21 rfl rfl ?_
      refine ev_getf dX6_rankTasks_22 fl_6_28 ?_
      refine ev_if_eq (tgt := 39) dX6_rankTasks_25 rfl (fun c25 => ?_) (fun c25 => ?_)
      · refine ev_aload_n dX6_rankTasks_39 rfl rfl ?_
        refine ev_getf dX6_rankTasks_40 fl_6_238 ?_
        refine ev_putfS dX6_rankTasks_43 fl_6_278 rfl rfl ((pu_job_8 _ _ _ _ _).trans (by rw [sI_setA])) ?_
        refine ev_forget (ls2 := [_, _, vU]) (Fg_to ⟨Or.inr ⟨rfl, rfl⟩, Or.inr ⟨rfl, rfl⟩, Or.inl rfl, trivial⟩) ?_
        rw [show (setA K 12 (rbF K i)).1 0 i = base K i from (if_pos c25).symm, rbF_s]
        exact h46
      · refine ev_aload_n dX6_rankTasks_28 rfl rfl ?_
        refine ev_getf dX6_rankTasks_29 fl_6_128 ?_
        refine ev_getf dX6_rankTasks_32 fl_6_137 ?_
        refine ev_ineg dX6_rankTasks_35 ?_
        refine ev_goto (tgt := 43) dX6_rankTasks_36 rfl ?_
        refine ev_putfS dX6_rankTasks_43 fl_6_278 rfl rfl ((pu_job_8 _ _ _ _ _).trans (by rw [sI_setA])) ?_
        refine ev_forget (ls2 := [_, _, vU]) (Fg_to ⟨Or.inr ⟨rfl, rfl⟩, Or.inr ⟨rfl, rfl⟩, Or.inl rfl, trivial⟩) ?_
        rw [show -(setA K 12 (rbF K i)).1 10 i = base K i from (if_neg c25).symm, rbF_s]
        exact h46
theorem itF_s (K : KT) : ∀ (j : Nat) (R : Nat → Int32), itF K (j + 1) R = lendN K (K.2 0 0) 0 (itF K j R) := by
  intro j
  induction j with
  | zero => intro R; rfl
  | succ j ih => intro R; exact ih (lendN K (K.2 0 0) 0 R)
theorem itF_fix (K : KT) (R : Nat → Int32) (h : lendN K (K.2 0 0) 0 R = R) : ∀ j, itF K j R = R := by
  intro j
  induction j with
  | zero => rfl
  | succ j ih => show itF K j (lendN K (K.2 0 0) 0 R) = R; rw [h]; exact ih
theorem itF_add (K : KT) : ∀ (a b : Nat) (R : Nat → Int32), itF K (a + b) R = itF K a (itF K b R) := by
  intro a b
  induction b with
  | zero => intro R; rfl
  | succ b ih => intro R; exact ih _
/-- the rounds: conv says that lending stands still behind as many rounds as there are tasks -/
theorem rank_loop2 (K M : KT) (G : GT) (hn : K.2 0 0 ≤ 8) (R : Nat → Int32) (hc : lendN K (K.2 0 0) 0 (itF K (K.2 0 0) R) = itF K (K.2 0 0) R) : ∀ (j i : Nat) (b : Bool), i + j = K.2 0 0 → (b = false → lendN K (K.2 0 0) 0 (itF K i R) = itF K i R) → Ev M_X6_rankTasks 67 [vR 7 0, vI (bI (b = true)), vI (nI i)] [] (conc (setA K 12 (itF K i R)) M G) (0, none, conc (setA K 12 (itF K 8 R)) M G) := by
  have hfin : ∀ i, i ≤ 8 → lendN K (K.2 0 0) 0 (itF K i R) = itF K i R → itF K 8 R = itF K i R := by
    intro i hi h
    rw [show (8 : Nat) = (8 - i) + i by omega, itF_add]
    exact itF_fix K _ h _
  intro j
  induction j with
  | zero =>
    intro i b hi hb
    have hi' : i = K.2 0 0 := by omega
    refine ev_iload_n dX6_rankTasks_67 rfl ?_
    refine ev_if_eq (tgt := 90) dX6_rankTasks_68 rfl (fun c68 => ?_) (fun c68 => ?_)
    · rw [hfin i (by omega) (hi' ▸ hc)]
      exact ev_vret dX6_rankTasks_90 rfl
    · refine ev_iload_n dX6_rankTasks_71 rfl ?_
      refine ev_aload_n dX6_rankTasks_72 rfl rfl ?_
      refine ev_getf dX6_rankTasks_73 fl_6_46 ?_
      refine ev_icmp_ge (tgt := 90) dX6_rankTasks_76 rfl (fun c76 => ?_) (fun c76 => ?_)
      · rw [hfin i (by omega) (hi' ▸ hc)]
        exact ev_vret dX6_rankTasks_90 rfl
      · exact absurd (nI_le (a := K.2 0 0) (b := i) (by omega) (by omega)) c76
  | succ j ih =>
    intro i b hi hb
    have e1 : nI i + Int32.ofInt 1 = nI (i + 1) := nI_1 i
    refine ev_iload_n dX6_rankTasks_67 rfl ?_
    refine ev_if_eq (tgt := 90) dX6_rankTasks_68 rfl (fun c68 => ?_) (fun c68 => ?_)
    · rw [hfin i (by omega) (hb (by have := bI_0.mp c68; simpa using this))]
      exact ev_vret dX6_rankTasks_90 rfl
    · refine ev_iload_n dX6_rankTasks_71 rfl ?_
      refine ev_aload_n dX6_rankTasks_72 rfl rfl ?_
      refine ev_getf dX6_rankTasks_73 fl_6_46 ?_
      refine ev_icmp_ge (tgt := 90) dX6_rankTasks_76 rfl (fun c76 => ?_) (fun c76 => ?_)
      · exact absurd c76 (nI_ge (a := i) (b := K.2 0 0) (by omega) (by omega))
      · refine ev_aload_n dX6_rankTasks_79 rfl rfl ?_
        refine evV1 dX6_rankTasks_80 cl_X6_rankTasks_287 ⟨rfl, rfl, fun _ => ⟨_, rfl⟩⟩ (Nat.le_of_ble_eq_true rfl) (e_lendOnce K M G (itF K i R) hn) ?_
        refine ev_istore_n dX6_rankTasks_83 rfl ?_
        refine ev_iinc dX6_rankTasks_84 rfl ?_
        refine ev_goto (tgt := 67) dX6_rankTasks_87 rfl ?_
        rw [e1, ← itF_s]
        refine ih (i + 1) _ (by omega) (fun h => ?_)
        rw [itF_s, lrLoop_2 K _ _ _ h]
        exact lrLoop_2 K _ _ _ h
theorem e_rankTasks (K M : KT) (G : GT) (hn : K.2 0 0 ≤ 8) (hm : K.2 0 1 ≤ 4) (hc : ∀ R, lendN K (K.2 0 0) 0 (itF K (K.2 0 0) R) = itF K (K.2 0 0) R) : Ev M_X6_rankTasks 0 (ent M_X6_rankTasks [vR 7 0]) [] (conc K M G) (0, none, conc (weighK K) M G) := by
  show Ev M_X6_rankTasks 0 [vR 7 0, vU, vU] [] (conc K M G) (0, none, conc (setA K 12 (VR K)) M G)
  have h67 : Ev M_X6_rankTasks 63 [vR 7 0, vU, vU] [] (conc (setA K 12 (RL1 K)) M G) (0, none, conc (setA K 12 (VR K)) M G) := by
    refine ev_iconst (v := 1) dX6_rankTasks_63 rfl ?_
    refine ev_istore_n dX6_rankTasks_64 rfl ?_
    refine ev_iconst (v := 0) dX6_rankTasks_65 rfl ?_
    refine ev_istore_n dX6_rankTasks_66 rfl ?_
    exact rank_loop2 K M G hn (RL1 K) (hc _) (K.2 0 0) 0 true (by omega) (fun h => nomatch h)
  have h52 : Ev M_X6_rankTasks 52 [vR 7 0, vU, vU] [] (conc (setA K 12 (RB K)) M G) (0, none, conc (setA K 12 (VR K)) M G) := by
    refine ev_aload_n dX6_rankTasks_52 rfl rfl ?_
    refine ev_getf dX6_rankTasks_53 fl_6_28 ?_
    refine ev_if_ne (tgt := 63) dX6_rankTasks_56 rfl (fun c56 => ?_) (fun c56 => ?_)
    · rw [show RB K = RL1 K from (if_neg c56).symm]
      exact h67
    · refine ev_aload_n dX6_rankTasks_59 rfl rfl ?_
      refine evV1 dX6_rankTasks_60 cl_X6_rankTasks_284 ⟨rfl, rfl, fun _ => ⟨_, rfl⟩⟩ (Nat.le_of_ble_eq_true rfl) (e_lift K M G (RB K) hm) ?_
      rw [show liftN K (K.2 0 1) 0 (RB K) = RL1 K from (if_pos (Classical.not_not.mp c56)).symm]
      exact h67
  have h := rank_loop1 K M G hn _ h52 (K.2 0 0) 0 (by omega)
  rw [rbF_0] at h
  refine ev_iconst (v := 0) dX6_rankTasks_0 rfl ?_
  refine ev_istore_n dX6_rankTasks_1 rfl ?_
  exact h
end
section
/-! WHAT STAYS TRUE of the state's form -/
def tOk (K : KT) (i : Nat) : Prop := K.2 2 i ≤ 10 ∧ K.2 1 i ≤ K.2 2 i ∧ K.2 3 i ≤ K.2 0 1 ∧ (K.1 6 i = 0 ∨ K.1 6 i = 1 ∨ K.1 6 i = 2) ∧ (K.1 6 i = 2 ↔ ¬ K.2 3 i = 0) ∧ (K.1 6 i = 2 → K.2 1 i < K.2 2 i)
def sOk (K : KT) (i k : Nat) : Prop := (K.1 26 (10 * i + k) = 0 ∧ ∃ a, 1 ≤ a ∧ a ≤ 20 ∧ K.1 27 (10 * i + k) = nI a) ∨ ((K.1 26 (10 * i + k) = 1 ∨ K.1 26 (10 * i + k) = 2) ∧ ∃ m, m < K.2 0 1 ∧ K.1 27 (10 * i + k) = nI m)
def Inv (K : KT) : Prop := (K.2 0 0 ≤ 8 ∧ K.2 0 1 ≤ 4 ∧ K.2 0 2 ≤ K.2 0 0 ∧ K.2 0 4 = K.2 0 3 % 40) ∧ (∀ m, m < K.2 0 1 → K.2 4 m ≤ K.2 0 0) ∧ (∀ i, i < K.2 0 0 → tOk K i) ∧ (∀ i k, i < K.2 0 0 → k < K.2 2 i → sOk K i k)
theorem Inv.next {K : KT} (h : Inv K) : K.2 0 4 < 40 := by rw [h.1.2.2.2]; omega
/-- fields that the form does not speak of -/
theorem Inv_irr {K : KT} (h : Inv K) {f : Nat} (i : Nat) (v : Int32) (h6 : f ≠ 6) (h26 : f ≠ 26) (h27 : f ≠ 27) : Inv (sI K f i v) := by
  have e6 : ∀ j, (sI K f i v).1 6 j = K.1 6 j := fun j => if_neg (fun q => h6 q.symm)
  have e26 : ∀ j, (sI K f i v).1 26 j = K.1 26 j := fun j => if_neg (fun q => h26 q.symm)
  have e27 : ∀ j, (sI K f i v).1 27 j = K.1 27 j := fun j => if_neg (fun q => h27 q.symm)
  unfold Inv tOk sOk at h ⊢
  simp only [e6, e26, e27, sI_2]
  exact h
theorem Inv_arr {K : KT} (h : Inv K) {f : Nat} (g : Nat → Int32) (h6 : f ≠ 6) (h26 : f ≠ 26) (h27 : f ≠ 27) : Inv (setA K f g) := by
  have e6 : ∀ j, (setA K f g).1 6 j = K.1 6 j := fun j => if_neg (fun q => h6 q.symm)
  have e26 : ∀ j, (setA K f g).1 26 j = K.1 26 j := fun j => if_neg (fun q => h26 q.symm)
  have e27 : ∀ j, (setA K f g).1 27 j = K.1 27 j := fun j => if_neg (fun q => h27 q.symm)
  unfold Inv tOk sOk at h ⊢
  simp only [e6, e26, e27, setA_2]
  exact h
theorem Inv_weigh {K : KT} (h : Inv K) : Inv (weighK K) := Inv_arr (Inv_arr h _ (by decide) (by decide) (by decide)) _ (by decide) (by decide) (by decide)
theorem Inv_note {K : KT} (h : Inv K) (w : Int32) (t : Nat) : Inv (noteK K w t) := by
  obtain ⟨⟨h1, h2, h3, h4⟩, h5, h6, h7⟩ := h
  refine ⟨⟨h1, h2, h3, ?_⟩, h5, h6, h7⟩
  show (K.2 0 4 + 1) % 40 = (K.2 0 3 + 1) % 40
  rw [h4]; omega
theorem Inv_own {K : KT} (h : Inv K) (m o : Nat) (ho : o ≤ K.2 0 0) : Inv (sN K 4 m o) := by
  obtain ⟨h1, h5, h6, h7⟩ := h
  refine ⟨h1, fun q hq => ?_, h6, h7⟩
  show (if q = m then o else K.2 4 q) ≤ K.2 0 0
  split
  · exact ho
  · exact h5 q hq
theorem Inv_last {K : KT} (h : Inv K) (o : Nat) (ho : o ≤ K.2 0 0) : Inv (sN K 0 2 o) := by
  obtain ⟨⟨h1, h2, h3, h4⟩, h5, h6, h7⟩ := h
  exact ⟨⟨h1, h2, ho, h4⟩, h5, h6, h7⟩
/-- a task's state, its step, where it waits: any change of one task's own three -/
theorem Inv_task {K L : KT} (h : Inv K) (t : Nat) (hs : ∀ i, i ≠ t → L.1 6 i = K.1 6 i ∧ L.2 1 i = K.2 1 i ∧ L.2 3 i = K.2 3 i) (hg : ∀ i, L.2 0 i = K.2 0 i) (hz : ∀ i, L.2 2 i = K.2 2 i) (ho : ∀ i, L.2 4 i = K.2 4 i) (hk : ∀ i, L.1 26 i = K.1 26 i) (ha : ∀ i, L.1 27 i = K.1 27 i) (ht : t < K.2 0 0 → tOk L t) : Inv L := by
  obtain ⟨h1, h5, h6, h7⟩ := h
  refine ⟨by simp only [hg]; exact h1, fun m hm => by rw [ho, hg]; exact h5 m (by rw [hg] at hm; exact hm), fun i hi => ?_, fun i k hi hk2 => ?_⟩
  · rw [hg] at hi
    by_cases e : i = t
    · rw [e]; exact ht (e ▸ hi)
    · have := h6 i hi
      unfold tOk at this ⊢
      rw [hz, (hs i e).2.1, (hs i e).2.2, (hs i e).1, hg]
      exact this
  · rw [hg] at hi
    rw [hz] at hk2
    have := h7 i k hi hk2
    unfold sOk at this ⊢
    rw [hk, ha, hg]
    exact this
theorem Inv_idle {K : KT} (h : Inv K) (t : Nat) : Inv (sN (sI K 6 t 0) 3 t 0) := by
  refine Inv_task h t (fun i e => ⟨?_, rfl, ?_⟩) (fun _ => rfl) (fun _ => rfl) (fun _ => rfl) (fun _ => rfl) (fun _ => rfl) (fun ht => ?_)
  · show (if i = t then (0 : Int32) else K.1 6 i) = _
    rw [if_neg e]
  · show (if i = t then 0 else K.2 3 i) = _
    rw [if_neg e]
  · obtain ⟨a1, a2, -⟩ := h.2.2.1 t ht
    have e6 : (sN (sI K 6 t 0) 3 t 0).1 6 t = 0 := by show (if t = t then (0 : Int32) else _) = 0; rw [if_pos rfl]
    have e3 : (sN (sI K 6 t 0) 3 t 0).2 3 t = 0 := by show (if t = t then 0 else _) = 0; rw [if_pos rfl]
    refine ⟨a1, a2, by rw [e3]; omega, Or.inl e6, ?_, ?_⟩
    · rw [e6, e3]; exact ⟨fun q => absurd q (by decide), fun q => absurd rfl q⟩
    · rw [e6]; exact fun q => absurd q (by decide)
theorem Inv_wake {K : KT} (h : Inv K) (t : Nat) (hw : t < K.2 0 0 → ¬ K.2 3 t = 0) : Inv (wakeK K t) := by
  unfold wakeK
  refine Inv_note ?_ _ _
  refine Inv_task h t (fun i e => ⟨?_, ?_, ?_⟩) (fun _ => rfl) (fun _ => rfl) (fun _ => rfl) (fun _ => rfl) (fun _ => rfl) (fun ht => ?_)
  · show (if i = t then (1 : Int32) else K.1 6 i) = _
    rw [if_neg e]
  · show (if i = t then _ else K.2 1 i) = _
    rw [if_neg e]
  · show (if i = t then 0 else K.2 3 i) = _
    rw [if_neg e]
  · obtain ⟨a1, a2, a3, a4, a5, a6⟩ := h.2.2.1 t ht
    have hlt := a6 (a5.mpr (hw ht))
    generalize hL : (sI (sN (sI (sN (sI (sI K 28 3 (K.1 28 3 + 1)) 6 t 1) 3 t 0) 11 t (K.1 28 3 + 1)) 1 t (K.2 1 t + 1)) 7 t 0) = L
    have e6 : L.1 6 t = 1 := by rw [← hL]; show (if t = t then (1 : Int32) else _) = 1; rw [if_pos rfl]
    have e3 : L.2 3 t = 0 := by rw [← hL]; show (if t = t then 0 else _) = 0; rw [if_pos rfl]
    have e1 : L.2 1 t = K.2 1 t + 1 := by rw [← hL]; show (if t = t then _ else _) = _; rw [if_pos rfl]
    have e2 : L.2 2 t = K.2 2 t := by rw [← hL]; rfl
    refine ⟨by rw [e2]; exact a1, by rw [e1, e2]; omega, by rw [e3]; omega, Or.inr (Or.inl e6), ?_, ?_⟩
    · rw [e6, e3]; exact ⟨fun q => absurd q (by decide), fun q => absurd rfl q⟩
    · rw [e6]; exact fun q => absurd q (by decide)
theorem heirN_in (K : KT) (R : Nat → Int32) (m : Nat) : ∀ (j t b : Nat), (∀ h, b = h + 1 → h < t ∧ K.2 3 h = m + 1) → ∀ h, heirN K R m j t b = h + 1 → h < t + j ∧ K.2 3 h = m + 1 := by
  intro j
  induction j with
  | zero => intro t b hb h e; exact hb h e
  | succ j ih =>
    intro t b hb h e
    have := ih (t + 1) (heir1 K R m b t) (fun g eg => ?_) h e
    · exact ⟨by omega, this.2⟩
    · unfold heir1 at eg
      by_cases hw : K.2 3 t = m + 1
      · rw [if_pos hw] at eg
        match b, hb, eg with
        | 0, _, eg => cases eg; exact ⟨by omega, hw⟩
        | c + 1, hb, eg =>
          dsimp only at eg
          by_cases hi : inher K R t c = true
          · rw [if_pos hi] at eg; cases eg; exact ⟨by omega, hw⟩
          · rw [if_neg hi] at eg; have := hb g eg; exact ⟨by omega, this.2⟩
      · rw [if_neg hw] at eg; have := hb g eg; exact ⟨by omega, this.2⟩
theorem heirK_in {K : KT} {m h : Nat} (e : heirK K m = h + 1) : h < K.2 0 0 ∧ K.2 3 h = m + 1 := by
  have := heirN_in K (VR K) m (K.2 0 0) 0 0 (fun _ q => by cases q) h e
  exact ⟨by omega, this.2⟩
theorem Inv_give {K : KT} (h : Inv K) (m : Nat) : Inv (giveK K m) := by
  unfold giveK
  cases e : heirK K m with
  | zero => exact Inv_own (Inv_weigh h) m 0 (by omega)
  | succ g =>
    obtain ⟨h1, h2⟩ := heirK_in e
    exact Inv_wake (Inv_own (Inv_weigh h) m (g + 1) h1) g (fun _ q => by have h3 : K.2 3 g = 0 := q; omega)
theorem Inv_giveN (t : Nat) : ∀ (j m : Nat) (K : KT), Inv K → Inv (giveN t j m K) := by
  intro j
  induction j with
  | zero => intro m K h; exact h
  | succ j ih =>
    intro m K h
    refine ih _ _ ?_
    split
    · exact Inv_give h m
    · exact h
theorem Inv_end {K : KT} (h : Inv K) (t : Nat) (c : Int32) : Inv (endK K t c) := Inv_giveN t _ _ _ (Inv_idle (Inv_note h c t) t)
theorem Inv_fail {K : KT} (h : Inv K) (t : Nat) : Inv (failK K t) := Inv_end (Inv_irr h t _ (by decide) (by decide) (by decide)) t 3
theorem Inv_done {K : KT} (h : Inv K) (t : Nat) (w : Int32) : Inv (doneK K t w) := Inv_end (Inv_irr (Inv_irr h t _ (by decide) (by decide) (by decide)) t _ (by decide) (by decide) (by decide)) t 2
theorem Inv_block {K : KT} (h : Inv K) (t m : Nat) (hm : m < K.2 0 1) (ht : K.2 1 t < K.2 2 t) : Inv (blockK K t m) := by
  unfold blockK
  refine Inv_note ?_ _ _
  refine Inv_task h t (fun i e => ⟨?_, rfl, ?_⟩) (fun _ => rfl) (fun _ => rfl) (fun _ => rfl) (fun _ => rfl) (fun _ => rfl) (fun hl => ?_)
  · show (if i = t then (2 : Int32) else K.1 6 i) = _
    rw [if_neg e]
  · show (if i = t then m + 1 else K.2 3 i) = _
    rw [if_neg e]
  · obtain ⟨a1, a2, -⟩ := h.2.2.1 t hl
    generalize hL : (sI (sN (sI (sI K 28 3 (K.1 28 3 + 1)) 6 t 2) 3 t (m + 1)) 11 t (K.1 28 3 + 1)) = L
    have e6 : L.1 6 t = 2 := by rw [← hL]; show (if t = t then (2 : Int32) else _) = 2; rw [if_pos rfl]
    have e3 : L.2 3 t = m + 1 := by rw [← hL]; show (if t = t then m + 1 else _) = _; rw [if_pos rfl]
    have e1 : L.2 1 t = K.2 1 t := by rw [← hL]; rfl
    have e2 : L.2 2 t = K.2 2 t := by rw [← hL]; rfl
    have e0 : L.2 0 1 = K.2 0 1 := by rw [← hL]; rfl
    refine ⟨by rw [e2]; exact a1, by rw [e1, e2]; exact a2, by rw [e3, e0]; omega, Or.inr (Or.inr e6), ?_, ?_⟩
    · rw [e6, e3]; exact ⟨fun _ => by omega, fun _ => rfl⟩
    · rw [e1, e2]; exact fun _ => ht
theorem Inv_pass {K : KT} (h : Inv K) (t : Nat) (ht : K.2 1 t < K.2 2 t) (h6 : ¬ K.1 6 t = 2) : Inv (passK K t) := by
  refine Inv_task h t (fun i e => ⟨rfl, ?_, rfl⟩) (fun _ => rfl) (fun _ => rfl) (fun _ => rfl) (fun _ => rfl) (fun _ => rfl) (fun hl => ?_)
  · show (if i = t then _ else K.2 1 i) = _
    rw [if_neg e]
  · obtain ⟨a1, a2, a3, a4, a5, a6⟩ := h.2.2.1 t hl
    have e1 : (passK K t).2 1 t = K.2 1 t + 1 := by show (if t = t then _ else _) = _; rw [if_pos rfl]
    exact ⟨a1, by rw [e1]; exact ht, a3, a4, a5, fun q => absurd q h6⟩
theorem Inv_begin {K : KT} (h : Inv K) (t : Nat) : Inv (beginK K t) := by
  unfold beginK
  split
  · next h0 =>
    refine Inv_note ?_ _ _
    refine Inv_task h t (fun i e => ⟨?_, ?_, rfl⟩) (fun _ => rfl) (fun _ => rfl) (fun _ => rfl) (fun _ => rfl) (fun _ => rfl) (fun hl => ?_)
    · show (if i = t then (1 : Int32) else K.1 6 i) = _
      rw [if_neg e]
    · show (if i = t then 0 else K.2 1 i) = _
      rw [if_neg e]
    · obtain ⟨a1, a2, a3, a4, a5, a6⟩ := h.2.2.1 t hl
      generalize hL : (sI (sI (sI (sI (sI (sI (sN (sI (sI K 28 3 (K.1 28 3 + 1)) 6 t 1) 1 t 0) 7 t 0) 14 t 0) 8 t 0) 9 t (K.1 28 2)) 10 t (K.1 28 2 + K.1 3 t)) 11 t (K.1 28 3 + 1)) = L
      have e6 : L.1 6 t = 1 := by rw [← hL]; show (if t = t then (1 : Int32) else _) = 1; rw [if_pos rfl]
      have e3 : L.2 3 t = K.2 3 t := by rw [← hL]; rfl
      have e1 : L.2 1 t = 0 := by rw [← hL]; show (if t = t then 0 else _) = 0; rw [if_pos rfl]
      have e2 : L.2 2 t = K.2 2 t := by rw [← hL]; rfl
      have e0 : L.2 0 1 = K.2 0 1 := by rw [← hL]; rfl
      have hw : K.2 3 t = 0 := Classical.byContradiction fun q => absurd (h0.symm.trans (a5.mpr q)) (by decide)
      refine ⟨by rw [e2]; exact a1, by rw [e1]; omega, by rw [e3, e0]; exact a3, Or.inr (Or.inl e6), ?_, ?_⟩
      · rw [e6, e3, hw]; exact ⟨fun q => absurd q (by decide), fun q => absurd rfl q⟩
      · rw [e6]; exact fun q => absurd q (by decide)
  · exact Inv_note (Inv_irr h t _ (by decide) (by decide) (by decide)) _ _
end
section
/-! LENDING COMES TO A STAND within as many rounds as there are tasks -/
theorem php : ∀ (n : Nat) (h : Nat → Nat), (∀ i, i ≤ n → h i < n) → ∃ a b, a < b ∧ b ≤ n ∧ h a = h b := by
  intro n
  induction n with
  | zero => intro h hh; exact absurd (hh 0 (Nat.le_refl 0)) (Nat.not_lt_zero _)
  | succ n ih =>
    intro h hh
    by_cases hx : ∃ a, a ≤ n ∧ h a = h (n + 1)
    · obtain ⟨a, ha, e⟩ := hx
      exact ⟨a, n + 1, by omega, Nat.le_refl _, e⟩
    · have hne : ∀ a, a ≤ n → h a ≠ h (n + 1) := fun a ha e => hx ⟨a, ha, e⟩
      have hl := hh (n + 1) (Nat.le_refl _)
      obtain ⟨a, b, h1, h2, h3⟩ := ih (fun i => if h (n + 1) < h i then h i - 1 else h i) (fun i hi => by
        have h4 := hh i (by omega)
        have h5 := hne i hi
        show (if h (n + 1) < h i then h i - 1 else h i) < n
        split <;> omega)
      refine ⟨a, b, h1, by omega, ?_⟩
      have ha := hne a (by omega)
      have hb := hne b (by omega)
      have h3' : (if h (n + 1) < h a then h a - 1 else h a) = (if h (n + 1) < h b then h b - 1 else h b) := h3
      split at h3' <;> split at h3' <;> omega
def nxt (K : KT) (u : Nat) : Nat := if u < K.2 0 0 then (match lendTo K u with
  | 0 => u
  | t + 1 => t) else u
def itn (f : Nat → Nat) : Nat → Nat → Nat
  | 0, v => v
  | j + 1, v => f (itn f j v)
theorem itn_add (f : Nat → Nat) : ∀ (a b v : Nat), itn f (a + b) v = itn f a (itn f b v) := by
  intro a
  induction a with
  | zero => intro b v; rw [Nat.zero_add]; rfl
  | succ a ih => intro b v; rw [Nat.succ_add]; show f (itn f (a + b) v) = f (itn f a (itn f b v)); rw [ih]
theorem lendTo_le {K : KT} (h : Inv K) {u : Nat} (hu : u < K.2 0 0) : lendTo K u ≤ K.2 0 0 := by
  unfold lendTo
  have h3 := (h.2.2.1 u hu).2.2.1
  split
  · omega
  · next m e =>
    split
    · exact h.2.1 m (by rw [e] at h3; omega)
    · omega
theorem nxt_lt {K : KT} (h : Inv K) {u : Nat} (hu : u < K.2 0 0) : nxt K u < K.2 0 0 := by
  unfold nxt
  rw [if_pos hu]
  have := lendTo_le h hu
  split
  · exact hu
  · next t e => omega
theorem itn_lt {K : KT} (h : Inv K) {u : Nat} (hu : u < K.2 0 0) : ∀ j, itn (nxt K) j u < K.2 0 0 := by
  intro j
  induction j with
  | zero => exact hu
  | succ j ih => exact nxt_lt h ih
theorem itn_ge {K : KT} {u : Nat} (hu : ¬ u < K.2 0 0) : ∀ j, itn (nxt K) j u = u := by
  intro j
  induction j with
  | zero => rfl
  | succ j ih => show nxt K (itn (nxt K) j u) = u; rw [ih]; unfold nxt; rw [if_neg hu]
theorem orbit {K : KT} (h : Inv K) {v : Nat} (hv : v < K.2 0 0) : ∀ (N j : Nat), j < N → ∃ j', j' ≤ K.2 0 0 ∧ itn (nxt K) j' v = itn (nxt K) j v := by
  intro N
  induction N with
  | zero => intro j hj; exact absurd hj (Nat.not_lt_zero _)
  | succ N ih =>
    intro j hj
    by_cases hs : j ≤ K.2 0 0
    · exact ⟨j, hs, rfl⟩
    · obtain ⟨a, b, h1, h2, h3⟩ := php (K.2 0 0) (fun i => itn (nxt K) i v) (fun i _ => itn_lt h hv i)
      have h3' : itn (nxt K) a v = itn (nxt K) b v := h3
      obtain ⟨j', h4, h5⟩ := ih (j - b + a) (by omega)
      refine ⟨j', h4, h5.trans ?_⟩
      rw [itn_add, h3', ← itn_add, show j - b + b = j by omega]
theorem lendF_nxt {K : KT} {R : Nat → Int32} {u : Nat} (hu : u < K.2 0 0) : lendF K R u = if R (nxt K u) < R u then updF R (nxt K u) (R u) else R := by
  unfold lendF nxt
  rw [if_pos hu]
  cases e : lendTo K u with
  | zero => exact (if_neg (fun q => Int32.lt_irrefl q)).symm
  | succ t => rfl
theorem lendF_mono {K : KT} {R : Nat → Int32} {u : Nat} (hu : u < K.2 0 0) (t : Nat) : R t ≤ lendF K R u t := by
  rw [lendF_nxt hu]
  split
  · next h =>
    unfold updF
    split
    · next e => rw [e]; exact Int32.le_of_lt h
    · exact Int32.le_refl _
  · exact Int32.le_refl _
theorem lendF_step {K : KT} {R : Nat → Int32} {u : Nat} (hu : u < K.2 0 0) : R u ≤ lendF K R u (nxt K u) := by
  rw [lendF_nxt hu]
  split
  · unfold updF; rw [if_pos rfl]; exact Int32.le_refl _
  · next h => exact Int32.not_lt.mp h
theorem lendN_mono {K : KT} : ∀ (j i : Nat) (R : Nat → Int32), i + j ≤ K.2 0 0 → ∀ t, R t ≤ lendN K j i R t := by
  intro j
  induction j with
  | zero => intro i R _ t; exact Int32.le_refl _
  | succ j ih => intro i R h t; exact Int32.le_trans (lendF_mono (by omega) t) (ih (i + 1) _ (by omega) t)
theorem lendN_step {K : KT} : ∀ (j i : Nat) (R : Nat → Int32), i + j ≤ K.2 0 0 → ∀ u, i ≤ u → u < i + j → R u ≤ lendN K j i R (nxt K u) := by
  intro j
  induction j with
  | zero => intro i R _ u h1 h2; omega
  | succ j ih =>
    intro i R h u h1 h2
    by_cases e : u = i
    · subst e
      exact Int32.le_trans (lendF_step (by omega)) (lendN_mono j (u + 1) _ (by omega) _)
    · exact Int32.le_trans (lendF_mono (u := i) (by omega) u) (ih (i + 1) _ (by omega) u (by omega) (by omega))
theorem itF_mono {K : KT} : ∀ (k : Nat) (R : Nat → Int32) (t : Nat), R t ≤ itF K k R t := by
  intro k
  induction k with
  | zero => intro R t; exact Int32.le_refl _
  | succ k ih => intro R t; rw [itF_s]; exact Int32.le_trans (ih R t) (lendN_mono _ 0 _ (by omega) t)
theorem itF_reach {K : KT} (h : Inv K) : ∀ (k j : Nat) (R : Nat → Int32) (v : Nat), v < K.2 0 0 → j ≤ k → R v ≤ itF K k R (itn (nxt K) j v) := by
  intro k
  induction k with
  | zero => intro j R v hv hj; rw [show j = 0 by omega]; exact Int32.le_refl _
  | succ k ih =>
    intro j R v hv hj
    rw [itF_s]
    cases j with
    | zero => exact Int32.le_trans (itF_mono k R v) (lendN_mono _ 0 _ (by omega) v)
    | succ j =>
      refine Int32.le_trans (ih j R v hv (by omega)) ?_
      exact lendN_step (K.2 0 0) 0 _ (by omega) (itn (nxt K) j v) (by omega) (by have := itn_lt h hv j; omega)
def comes (K : KT) (R R' : Nat → Int32) : Prop := ∀ t, ∃ v j, itn (nxt K) j v = t ∧ R' t = R v
theorem comes_F {K : KT} {R R' : Nat → Int32} (hc : comes K R R') {u : Nat} (hu : u < K.2 0 0) : comes K R (lendF K R' u) := by
  intro t
  rw [lendF_nxt hu]
  split
  · unfold updF
    split
    · next e =>
      obtain ⟨v, j, h1, h2⟩ := hc u
      exact ⟨v, j + 1, by rw [e]; show nxt K (itn (nxt K) j v) = _; rw [h1], h2⟩
    · exact hc t
  · exact hc t
theorem comes_N {K : KT} {R : Nat → Int32} : ∀ (j i : Nat) (R' : Nat → Int32), i + j ≤ K.2 0 0 → comes K R R' → comes K R (lendN K j i R') := by
  intro j
  induction j with
  | zero => intro i R' _ h; exact h
  | succ j ih => intro i R' h hc; exact ih (i + 1) _ (by omega) (comes_F hc (by omega))
theorem comes_it {K : KT} {R : Nat → Int32} : ∀ k, comes K R (itF K k R) := by
  intro k
  induction k with
  | zero => exact fun t => ⟨t, 0, rfl, rfl⟩
  | succ k ih => rw [itF_s]; exact comes_N _ 0 _ (by omega) ih
theorem lendN_id {K : KT} {R : Nat → Int32} (h : ∀ u, u < K.2 0 0 → lendF K R u = R) : ∀ (j i : Nat), i + j ≤ K.2 0 0 → lendN K j i R = R := by
  intro j
  induction j with
  | zero => intro i _; rfl
  | succ j ih => intro i hi; show lendN K j (i + 1) (lendF K R i) = R; rw [h i (by omega)]; exact ih _ (by omega)
theorem conv {K : KT} (h : Inv K) (R : Nat → Int32) : lendN K (K.2 0 0) 0 (itF K (K.2 0 0) R) = itF K (K.2 0 0) R := by
  refine lendN_id (fun u hu => ?_) _ 0 (by omega)
  rw [lendF_nxt hu]
  refine if_neg ?_
  obtain ⟨v, j, h1, h2⟩ := comes_it (K := K) (R := R) (K.2 0 0) u
  have hv : v < K.2 0 0 := Classical.byContradiction fun q => by rw [itn_ge q] at h1; omega
  obtain ⟨j', h3, h4⟩ := orbit h hv (j + 2) (j + 1) (by omega)
  have h5 : itn (nxt K) (j + 1) v = nxt K u := by show nxt K (itn (nxt K) j v) = _; rw [h1]
  rw [Int32.not_lt, h2, ← h5, ← h4]
  exact itF_reach h (K.2 0 0) j' R v hv h3
end
section
/-! THE CLASS: who goes first, who inherits; giving and ending -/
theorem wk12 (K : KT) : (weighK K).1 12 = VR K := rfl
theorem ahead_w (K : KT) (a b : Nat) : ahead (weighK K) (VR K) a b = ahead K (VR K) a b := rfl
theorem inher_w (K : KT) (a b : Nat) : inher (weighK K) (VR K) a b = inher K (VR K) a b := rfl
theorem mur_loop (K M : KT) (G : GT) (hn : K.2 0 0 ≤ 8) : ∀ (j i b : Nat), i + j = K.2 0 0 → Ev M_X6_mostUrgentReady 8 [vR 7 0, rfq 6 b, vI (nI i), vU] [] (conc (weighK K) M G) (0, some (rfq 6 (pickN K (VR K) j i b)), conc (weighK K) M G) := by
  intro j
  induction j with
  | zero =>
    intro i b hi
    refine ev_iload_n dX6_mostUrgentReady_8 rfl ?_
    refine ev_aload_n dX6_mostUrgentReady_9 rfl rfl ?_
    refine ev_getf dX6_mostUrgentReady_10 fl_6_46 ?_
    refine ev_icmp_ge (tgt := 55) dX6_mostUrgentReady_13 rfl (fun c13 => ?_) (fun c13 => ?_)
    · refine ev_aload_n dX6_mostUrgentReady_55 rfl (isRf_rfq _ _) ?_
      exact ev_aret dX6_mostUrgentReady_56 rfl (isRf_rfq _ _)
    · exact absurd (nI_le (a := K.2 0 0) (b := i) (by omega) (by omega)) c13
  | succ j ih =>
    intro i b hi
    have hi2 : i < (weighK K).2 0 0 := by show i < K.2 0 0; omega
    have e1 : nI i + Int32.ofInt 1 = nI (i + 1) := nI_1 i
    have h49 : ∀ b2, pick1 K (VR K) b i = b2 → Ev M_X6_mostUrgentReady 49 [vR 7 0, rfq 6 b2, vI (nI i), vU] [] (conc (weighK K) M G) (0, some (rfq 6 (pickN K (VR K) (j + 1) i b)), conc (weighK K) M G) := by
      intro b2 hb
      simp only [pickN]
      rw [hb]
      refine ev_iinc dX6_mostUrgentReady_49 rfl ?_
      refine ev_goto (tgt := 8) dX6_mostUrgentReady_52 rfl ?_
      rw [e1]
      exact ih (i + 1) b2 (by omega)
    rcases b with _ | c
    · refine ev_iload_n dX6_mostUrgentReady_8 rfl ?_
      refine ev_aload_n dX6_mostUrgentReady_9 rfl rfl ?_
      refine ev_getf dX6_mostUrgentReady_10 fl_6_46 ?_
      refine ev_icmp_ge (tgt := 55) dX6_mostUrgentReady_13 rfl (fun c13 => ?_) (fun c13 => ?_)
      · exact absurd c13 (nI_ge (a := i) (b := K.2 0 0) (by omega) (by omega))
      · refine ev_aload_n dX6_mostUrgentReady_16 rfl rfl ?_
        refine ev_getf dX6_mostUrgentReady_17 fl_6_11 ?_
        refine ev_iload_n dX6_mostUrgentReady_20 rfl ?_
        refine ev_aaldv dX6_mostUrgentReady_21 rfl rfl (show _ < 8 from by omega) (co_tasks hi2) ?_
        refine ev_astore_n dX6_mostUrgentReady_22 rfl rfl ?_
        refine ev_aload_n dX6_mostUrgentReady_23 rfl rfl ?_
        refine ev_getf dX6_mostUrgentReady_24 fl_6_128 ?_
        refine ev_getf dX6_mostUrgentReady_27 fl_6_132 ?_
        refine ev_iconst (v := 1) dX6_mostUrgentReady_30 rfl ?_
        refine ev_icmp_ne (tgt := 49) dX6_mostUrgentReady_31 rfl (fun c31 => ?_) (fun c31 => ?_)
        · refine ev_forget (ls2 := [_, _, _, vU]) (Fg_to ⟨Or.inr ⟨rfl, rfl⟩, Or.inr ⟨rfl, rfl⟩, Or.inr ⟨rfl, rfl⟩, Or.inl rfl, trivial⟩) ?_
          exact h49 0 (if_neg c31)
        · refine ev_aload_n dX6_mostUrgentReady_34 rfl rfl ?_
          refine ev_ifnull (tgt := 47) dX6_mostUrgentReady_35 rfl rfl (fun c35 => ?_) (fun c35 => ?_)
          · refine ev_aload_n dX6_mostUrgentReady_47 rfl rfl ?_
            refine ev_astore_n dX6_mostUrgentReady_48 rfl rfl ?_
            refine ev_forget (ls2 := [_, _, _, vU]) (Fg_to ⟨Or.inr ⟨rfl, rfl⟩, Or.inr ⟨rfl, rfl⟩, Or.inr ⟨rfl, rfl⟩, Or.inl rfl, trivial⟩) ?_
            exact h49 (i + 1) (if_pos (Classical.not_not.mp c31))
          · exact absurd rfl c35
    · refine ev_iload_n dX6_mostUrgentReady_8 rfl ?_
      refine ev_aload_n dX6_mostUrgentReady_9 rfl rfl ?_
      refine ev_getf dX6_mostUrgentReady_10 fl_6_46 ?_
      refine ev_icmp_ge (tgt := 55) dX6_mostUrgentReady_13 rfl (fun c13 => ?_) (fun c13 => ?_)
      · exact absurd c13 (nI_ge (a := i) (b := K.2 0 0) (by omega) (by omega))
      · refine ev_aload_n dX6_mostUrgentReady_16 rfl rfl ?_
        refine ev_getf dX6_mostUrgentReady_17 fl_6_11 ?_
        refine ev_iload_n dX6_mostUrgentReady_20 rfl ?_
        refine ev_aaldv dX6_mostUrgentReady_21 rfl rfl (show _ < 8 from by omega) (co_tasks hi2) ?_
        refine ev_astore_n dX6_mostUrgentReady_22 rfl rfl ?_
        refine ev_aload_n dX6_mostUrgentReady_23 rfl rfl ?_
        refine ev_getf dX6_mostUrgentReady_24 fl_6_128 ?_
        refine ev_getf dX6_mostUrgentReady_27 fl_6_132 ?_
        refine ev_iconst (v := 1) dX6_mostUrgentReady_30 rfl ?_
        refine ev_icmp_ne (tgt := 49) dX6_mostUrgentReady_31 rfl (fun c31 => ?_) (fun c31 => ?_)
        · refine ev_forget (ls2 := [_, _, _, vU]) (Fg_to ⟨Or.inr ⟨rfl, rfl⟩, Or.inr ⟨rfl, rfl⟩, Or.inr ⟨rfl, rfl⟩, Or.inl rfl, trivial⟩) ?_
          exact h49 (c + 1) (if_neg c31)
        · refine ev_aload_n dX6_mostUrgentReady_34 rfl rfl ?_
          refine ev_ifnull (tgt := 47) dX6_mostUrgentReady_35 rfl rfl (fun c35 => ?_) (fun c35 => ?_)
          · exact nomatch c35
          · refine ev_aload_n dX6_mostUrgentReady_38 rfl rfl ?_
            refine ev_aload_n dX6_mostUrgentReady_39 rfl rfl ?_
            refine ev_aload_n dX6_mostUrgentReady_40 rfl rfl ?_
            refine evV3 dX6_mostUrgentReady_41 cl_X6_mostUrgentReady_274 ⟨rfl, rfl, fun _ => ⟨_, rfl⟩⟩ (Nat.le_of_ble_eq_true rfl) (e_goesAhead (weighK K) M G i c) ?_
            refine ev_if_eq (tgt := 49) dX6_mostUrgentReady_44 rfl (fun c44 => ?_) (fun c44 => ?_)
            · refine ev_forget (ls2 := [_, _, _, vU]) (Fg_to ⟨Or.inr ⟨rfl, rfl⟩, Or.inr ⟨rfl, rfl⟩, Or.inr ⟨rfl, rfl⟩, Or.inl rfl, trivial⟩) ?_
              exact h49 (c + 1) ((if_pos (Classical.not_not.mp c31)).trans (if_neg (bI_0.mp c44)))
            · refine ev_aload_n dX6_mostUrgentReady_47 rfl rfl ?_
              refine ev_astore_n dX6_mostUrgentReady_48 rfl rfl ?_
              refine ev_forget (ls2 := [_, _, _, vU]) (Fg_to ⟨Or.inr ⟨rfl, rfl⟩, Or.inr ⟨rfl, rfl⟩, Or.inr ⟨rfl, rfl⟩, Or.inl rfl, trivial⟩) ?_
              exact h49 (i + 1) ((if_pos (Classical.not_not.mp c31)).trans (if_pos (Classical.not_not.mp (fun q => c44 (bI_f q)))))
theorem e_mur (K M : KT) (G : GT) (h : Inv K) : Ev M_X6_mostUrgentReady 0 (ent M_X6_mostUrgentReady [vR 7 0]) [] (conc K M G) (0, some (rfq 6 (firstK K)), conc (weighK K) M G) := by
  show Ev M_X6_mostUrgentReady 0 [vR 7 0, vU, vU, vU] [] (conc K M G) _
  have hl := mur_loop K M G h.1.1 (K.2 0 0) 0 0 (by omega)
  refine ev_aload_n dX6_mostUrgentReady_0 rfl rfl ?_
  refine evV1 dX6_mostUrgentReady_1 cl_X6_mostUrgentReady_247 ⟨rfl, rfl, fun _ => ⟨_, rfl⟩⟩ (Nat.le_of_ble_eq_true rfl) (e_rankTasks K M G h.1.1 h.1.2.1 (conv h)) ?_
  refine ev_null dX6_mostUrgentReady_4 ?_
  refine ev_astore_n dX6_mostUrgentReady_5 rfl rfl ?_
  refine ev_iconst (v := 0) dX6_mostUrgentReady_6 rfl ?_
  refine ev_istore_n dX6_mostUrgentReady_7 rfl ?_
  exact hl
theorem heir_loop (K M : KT) (G : GT) (m : Nat) (hn : K.2 0 0 ≤ 8) : ∀ (j i b : Nat), i + j = K.2 0 0 → Ev M_X6_heirOf 4 [vR 7 0, vR 4 m, rfq 6 b, vI (nI i), vU] [] (conc (weighK K) M G) (0, some (rfq 6 (heirN K (VR K) m j i b)), conc (weighK K) M G) := by
  have hq : ∀ w : Nat, (rfq 4 w = vR 4 m) ↔ w = m + 1 := by
    intro w
    rcases w with _ | d
    · exact ⟨(fun h => nomatch h), fun h => by omega⟩
    · exact ⟨fun h => by cases h; rfl, fun h => by rw [Nat.succ.inj h]; rfl⟩
  intro j
  induction j with
  | zero =>
    intro i b hi
    refine ev_iload_n dX6_heirOf_4 rfl ?_
    refine ev_aload_n dX6_heirOf_5 rfl rfl ?_
    refine ev_getf dX6_heirOf_6 fl_6_46 ?_
    refine ev_icmp_ge (tgt := 60) dX6_heirOf_9 rfl (fun c9 => ?_) (fun c9 => ?_)
    · refine ev_aload_n dX6_heirOf_60 rfl (isRf_rfq _ _) ?_
      exact ev_aret dX6_heirOf_61 rfl (isRf_rfq _ _)
    · exact absurd (nI_le (a := K.2 0 0) (b := i) (by omega) (by omega)) c9
  | succ j ih =>
    intro i b hi
    have hi2 : i < (weighK K).2 0 0 := by show i < K.2 0 0; omega
    have e1 : nI i + Int32.ofInt 1 = nI (i + 1) := nI_1 i
    have h54 : ∀ b2, heir1 K (VR K) m b i = b2 → Ev M_X6_heirOf 54 [vR 7 0, vR 4 m, rfq 6 b2, vI (nI i), vU] [] (conc (weighK K) M G) (0, some (rfq 6 (heirN K (VR K) m (j + 1) i b)), conc (weighK K) M G) := by
      intro b2 hb
      simp only [heirN]
      rw [hb]
      refine ev_iinc dX6_heirOf_54 rfl ?_
      refine ev_goto (tgt := 4) dX6_heirOf_57 rfl ?_
      rw [e1]
      exact ih (i + 1) b2 (by omega)
    rcases b with _ | c
    · refine ev_iload_n dX6_heirOf_4 rfl ?_
      refine ev_aload_n dX6_heirOf_5 rfl rfl ?_
      refine ev_getf dX6_heirOf_6 fl_6_46 ?_
      refine ev_icmp_ge (tgt := 60) dX6_heirOf_9 rfl (fun c9 => ?_) (fun c9 => ?_)
      · exact absurd c9 (nI_ge (a := i) (b := K.2 0 0) (by omega) (by omega))
      · refine ev_aload_n dX6_heirOf_12 rfl rfl ?_
        refine ev_getf dX6_heirOf_13 fl_6_11 ?_
        refine ev_iload_n dX6_heirOf_16 rfl ?_
        refine ev_aaldv dX6_heirOf_17 rfl rfl (show _ < 8 from by omega) (co_tasks hi2) ?_
        refine ev_astore dX6_heirOf_18 rfl rfl ?_
        refine ev_aload dX6_heirOf_20 rfl rfl ?_
        refine ev_getf dX6_heirOf_22 fl_6_128 ?_
        refine ev_getfv dX6_heirOf_25 fl_6_257 (co_wait rfl) ?_
        refine ev_aload_n dX6_heirOf_28 rfl rfl ?_
        refine ev_acmp_ne (tgt := 54) dX6_heirOf_29 rfl (isRf_rfq _ _) rfl (fun c29 => ?_) (fun c29 => ?_)
        · refine ev_forget (ls2 := [_, _, _, _, vU]) (Fg_to ⟨Or.inr ⟨rfl, rfl⟩, Or.inr ⟨rfl, rfl⟩, Or.inr ⟨rfl, rfl⟩, Or.inr ⟨rfl, rfl⟩, Or.inl rfl, trivial⟩) ?_
          exact h54 0 (if_neg (fun q => c29 ((hq _).mpr q)))
        · refine ev_aload_n dX6_heirOf_32 rfl rfl ?_
          refine ev_ifnull (tgt := 51) dX6_heirOf_33 rfl rfl (fun c33 => ?_) (fun c33 => ?_)
          · refine ev_aload dX6_heirOf_51 rfl rfl ?_
            refine ev_astore_n dX6_heirOf_53 rfl rfl ?_
            refine ev_forget (ls2 := [_, _, _, _, vU]) (Fg_to ⟨Or.inr ⟨rfl, rfl⟩, Or.inr ⟨rfl, rfl⟩, Or.inr ⟨rfl, rfl⟩, Or.inr ⟨rfl, rfl⟩, Or.inl rfl, trivial⟩) ?_
            exact h54 (i + 1) (if_pos ((hq _).mp c29))
          · exact absurd rfl c33
    · refine ev_iload_n dX6_heirOf_4 rfl ?_
      refine ev_aload_n dX6_heirOf_5 rfl rfl ?_
      refine ev_getf dX6_heirOf_6 fl_6_46 ?_
      refine ev_icmp_ge (tgt := 60) dX6_heirOf_9 rfl (fun c9 => ?_) (fun c9 => ?_)
      · exact absurd c9 (nI_ge (a := i) (b := K.2 0 0) (by omega) (by omega))
      · refine ev_aload_n dX6_heirOf_12 rfl rfl ?_
        refine ev_getf dX6_heirOf_13 fl_6_11 ?_
        refine ev_iload_n dX6_heirOf_16 rfl ?_
        refine ev_aaldv dX6_heirOf_17 rfl rfl (show _ < 8 from by omega) (co_tasks hi2) ?_
        refine ev_astore dX6_heirOf_18 rfl rfl ?_
        refine ev_aload dX6_heirOf_20 rfl rfl ?_
        refine ev_getf dX6_heirOf_22 fl_6_128 ?_
        refine ev_getfv dX6_heirOf_25 fl_6_257 (co_wait rfl) ?_
        refine ev_aload_n dX6_heirOf_28 rfl rfl ?_
        refine ev_acmp_ne (tgt := 54) dX6_heirOf_29 rfl (isRf_rfq _ _) rfl (fun c29 => ?_) (fun c29 => ?_)
        · refine ev_forget (ls2 := [_, _, _, _, vU]) (Fg_to ⟨Or.inr ⟨rfl, rfl⟩, Or.inr ⟨rfl, rfl⟩, Or.inr ⟨rfl, rfl⟩, Or.inr ⟨rfl, rfl⟩, Or.inl rfl, trivial⟩) ?_
          exact h54 (c + 1) (if_neg (fun q => c29 ((hq _).mpr q)))
        · refine ev_aload_n dX6_heirOf_32 rfl rfl ?_
          refine ev_ifnull (tgt := 51) dX6_heirOf_33 rfl rfl (fun c33 => ?_) (fun c33 => ?_)
          · exact nomatch c33
          · refine ev_aload dX6_heirOf_36 rfl rfl ?_
            refine ev_getf dX6_heirOf_38 fl_6_128 ?_
            refine ev_aload_n dX6_heirOf_41 rfl rfl ?_
            refine ev_getf dX6_heirOf_42 fl_6_128 ?_
            refine evV2 dX6_heirOf_45 cl_X6_heirOf_261 ⟨rfl, rfl, fun _ => ⟨_, rfl⟩⟩ (Nat.le_of_ble_eq_true rfl) (e_inher (weighK K) M G i c) ?_
            refine ev_if_eq (tgt := 54) dX6_heirOf_48 rfl (fun c48 => ?_) (fun c48 => ?_)
            · refine ev_forget (ls2 := [_, _, _, _, vU]) (Fg_to ⟨Or.inr ⟨rfl, rfl⟩, Or.inr ⟨rfl, rfl⟩, Or.inr ⟨rfl, rfl⟩, Or.inr ⟨rfl, rfl⟩, Or.inl rfl, trivial⟩) ?_
              exact h54 (c + 1) ((if_pos ((hq _).mp c29)).trans (if_neg (bI_0.mp c48)))
            · refine ev_aload dX6_heirOf_51 rfl rfl ?_
              refine ev_astore_n dX6_heirOf_53 rfl rfl ?_
              refine ev_forget (ls2 := [_, _, _, _, vU]) (Fg_to ⟨Or.inr ⟨rfl, rfl⟩, Or.inr ⟨rfl, rfl⟩, Or.inr ⟨rfl, rfl⟩, Or.inr ⟨rfl, rfl⟩, Or.inl rfl, trivial⟩) ?_
              exact h54 (i + 1) ((if_pos ((hq _).mp c29)).trans (if_pos (Classical.not_not.mp (fun q => c48 (bI_f q)))))
theorem e_heirOf (K M : KT) (G : GT) (m : Nat) (hn : K.2 0 0 ≤ 8) : Ev M_X6_heirOf 0 (ent M_X6_heirOf [vR 7 0, vR 4 m]) [] (conc (weighK K) M G) (0, some (rfq 6 (heirK K m)), conc (weighK K) M G) := by
  show Ev M_X6_heirOf 0 [vR 7 0, vR 4 m, vU, vU, vU] [] (conc (weighK K) M G) _
  have hl := heir_loop K M G m hn (K.2 0 0) 0 0 (by omega)
  refine ev_null dX6_heirOf_0 ?_
  refine ev_astore_n dX6_heirOf_1 rfl rfl ?_
  refine ev_iconst (v := 0) dX6_heirOf_2 rfl ?_
  refine ev_istore_n dX6_heirOf_3 rfl ?_
  exact hl
theorem e_giveAway (K M : KT) (G : GT) (m : Nat) (h : Inv K) : Ev M_X6_giveAway 0 (ent M_X6_giveAway [vR 7 0, vR 4 m]) [] (conc K M G) (0, none, conc (giveK K m) M G) := by
  show Ev M_X6_giveAway 0 [vR 7 0, vR 4 m, vU] [] (conc K M G) _
  have hnx : (weighK K).2 0 4 < 40 := (Inv_weigh h).next
  have hh := e_heirOf K M G m h.1.1
  unfold giveK
  cases e : heirK K m with
  | zero =>
    rw [e] at hh
    refine ev_aload_n dX6_giveAway_0 rfl rfl ?_
    refine evV1 dX6_giveAway_1 cl_X6_giveAway_247 ⟨rfl, rfl, fun _ => ⟨_, rfl⟩⟩ (Nat.le_of_ble_eq_true rfl) (e_rankTasks K M G h.1.1 h.1.2.1 (conv h)) ?_
    refine ev_aload_n dX6_giveAway_4 rfl rfl ?_
    refine ev_aload_n dX6_giveAway_5 rfl rfl ?_
    refine evV2 dX6_giveAway_6 cl_X6_giveAway_250 ⟨rfl, rfl, fun _ => ⟨_, rfl⟩⟩ (Nat.le_of_ble_eq_true rfl) hh ?_
    refine ev_astore_n dX6_giveAway_9 rfl rfl ?_
    refine ev_aload_n dX6_giveAway_10 rfl rfl ?_
    refine ev_aload_n dX6_giveAway_11 rfl rfl ?_
    refine ev_putfS dX6_giveAway_12 fl_6_221 rfl rfl (pu_mut_3n _ _ _ _) ?_
    refine ev_aload_n dX6_giveAway_15 rfl rfl ?_
    refine ev_ifnull (tgt := 37) dX6_giveAway_16 rfl rfl (fun c16 => ?_) (fun c16 => ?_)
    · exact ev_vret dX6_giveAway_37 rfl
    · exact absurd rfl c16
  | succ g =>
    rw [e] at hh
    refine ev_aload_n dX6_giveAway_0 rfl rfl ?_
    refine evV1 dX6_giveAway_1 cl_X6_giveAway_247 ⟨rfl, rfl, fun _ => ⟨_, rfl⟩⟩ (Nat.le_of_ble_eq_true rfl) (e_rankTasks K M G h.1.1 h.1.2.1 (conv h)) ?_
    refine ev_aload_n dX6_giveAway_4 rfl rfl ?_
    refine ev_aload_n dX6_giveAway_5 rfl rfl ?_
    refine evV2 dX6_giveAway_6 cl_X6_giveAway_250 ⟨rfl, rfl, fun _ => ⟨_, rfl⟩⟩ (Nat.le_of_ble_eq_true rfl) hh ?_
    refine ev_astore_n dX6_giveAway_9 rfl rfl ?_
    refine ev_aload_n dX6_giveAway_10 rfl rfl ?_
    refine ev_aload_n dX6_giveAway_11 rfl rfl ?_
    refine ev_putfS dX6_giveAway_12 fl_6_221 rfl rfl (pu_mut_3 _ _ _ _ _) ?_
    refine ev_aload_n dX6_giveAway_15 rfl rfl ?_
    refine ev_ifnull (tgt := 37) dX6_giveAway_16 rfl rfl (fun c16 => ?_) (fun c16 => ?_)
    · exact nomatch c16
    · refine ev_aload_n dX6_giveAway_19 rfl rfl ?_
      refine ev_getf dX6_giveAway_20 fl_6_128 ?_
      refine ev_aload_n dX6_giveAway_23 rfl rfl ?_
      refine evV1 dX6_giveAway_24 cl_X6_giveAway_169 ⟨rfl, rfl, fun _ => ⟨_, rfl⟩⟩ (Nat.le_of_ble_eq_true rfl) (e_nextChange _ M G) ?_
      refine evV2 dX6_giveAway_27 cl_X6_giveAway_254 ⟨rfl, rfl, fun _ => ⟨_, rfl⟩⟩ (Nat.le_of_ble_eq_true rfl) (e_resume _ M G g _) ?_
      refine ev_aload_n dX6_giveAway_30 rfl rfl ?_
      refine ev_bipush (v := 6) dX6_giveAway_31 rfl ?_
      refine ev_aload_n dX6_giveAway_33 rfl rfl ?_
      refine evV3 dX6_giveAway_34 cl_X6_giveAway_149 ⟨rfl, rfl, fun _ => ⟨_, rfl⟩⟩ (Nat.le_of_ble_eq_true rfl) (e_note _ M G 6 g hnx) ?_
      exact ev_vret dX6_giveAway_37 rfl
theorem end_loop (M : KT) (G : GT) (t : Nat) : ∀ (j i : Nat) (K : KT), Inv K → i + j = K.2 0 1 → Ev M_X6_endJob 15 [vR 7 0, vR 6 t, vU, vI (nI i)] [] (conc K M G) (0, none, conc (giveN t j i K) M G) := by
  have hq : ∀ w : Nat, (rfq 6 w = vR 6 t) ↔ w = t + 1 := by
    intro w
    rcases w with _ | d
    · exact ⟨(fun h => nomatch h), fun h => by omega⟩
    · exact ⟨fun h => by cases h; rfl, fun h => by rw [Nat.succ.inj h]; rfl⟩
  intro j
  induction j with
  | zero =>
    intro i K h hi
    have hm := h.1.2.1
    refine ev_iload_n dX6_endJob_15 rfl ?_
    refine ev_aload_n dX6_endJob_16 rfl rfl ?_
    refine ev_getf dX6_endJob_17 fl_6_67 ?_
    refine ev_icmp_ge (tgt := 52) dX6_endJob_20 rfl (fun c20 => ?_) (fun c20 => ?_)
    · exact ev_vret dX6_endJob_52 rfl
    · exact absurd (nI_le (a := K.2 0 1) (b := i) (by omega) (by omega)) c20
  | succ j ih =>
    intro i K h hi
    have hm := h.1.2.1
    have e1 : nI i + Int32.ofInt 1 = nI (i + 1) := nI_1 i
    have hg1 : (giveK K i).2 0 1 = K.2 0 1 := by
      unfold giveK
      cases heirK K i <;> rfl
    refine ev_iload_n dX6_endJob_15 rfl ?_
    refine ev_aload_n dX6_endJob_16 rfl rfl ?_
    refine ev_getf dX6_endJob_17 fl_6_67 ?_
    refine ev_icmp_ge (tgt := 52) dX6_endJob_20 rfl (fun c20 => ?_) (fun c20 => ?_)
    · exact absurd c20 (nI_ge (a := i) (b := K.2 0 1) (by omega) (by omega))
    · refine ev_aload_n dX6_endJob_23 rfl rfl ?_
      refine ev_getf dX6_endJob_24 fl_6_17 ?_
      refine ev_iload_n dX6_endJob_27 rfl ?_
      refine ev_aaldv dX6_endJob_28 rfl rfl (show _ < 4 from by omega) (co_muts (by omega)) ?_
      refine ev_getfv dX6_endJob_29 fl_6_221 (co_own rfl) ?_
      refine ev_aload_n dX6_endJob_32 rfl rfl ?_
      refine ev_acmp_ne (tgt := 46) dX6_endJob_33 rfl (isRf_rfq _ _) rfl (fun c33 => ?_) (fun c33 => ?_)
      · refine ev_iinc dX6_endJob_46 rfl ?_
        refine ev_goto (tgt := 15) dX6_endJob_49 rfl ?_
        rw [e1]
        simp only [giveN]
        rw [if_neg (fun q => c33 ((hq _).mpr q))]
        exact ih (i + 1) K h (by omega)
      · refine ev_aload_n dX6_endJob_36 rfl rfl ?_
        refine ev_aload_n dX6_endJob_37 rfl rfl ?_
        refine ev_getf dX6_endJob_38 fl_6_17 ?_
        refine ev_iload_n dX6_endJob_41 rfl ?_
        refine ev_aaldv dX6_endJob_42 rfl rfl (show _ < 4 from by omega) (co_muts (by omega)) ?_
        refine evV2 dX6_endJob_43 cl_X6_endJob_217 ⟨rfl, rfl, fun _ => ⟨_, rfl⟩⟩ (Nat.le_of_ble_eq_true rfl) (e_giveAway K M G i h) ?_
        refine ev_iinc dX6_endJob_46 rfl ?_
        refine ev_goto (tgt := 15) dX6_endJob_49 rfl ?_
        rw [e1]
        simp only [giveN]
        rw [if_pos ((hq _).mp c33)]
        exact ih (i + 1) _ (Inv_give h i) (by rw [hg1]; omega)
theorem e_endJob (K M : KT) (G : GT) (t : Nat) (c : Int32) (h : Inv K) : Ev M_X6_endJob 0 (ent M_X6_endJob [vR 7 0, vR 6 t, vI c]) [] (conc K M G) (0, none, conc (endK K t c) M G) := by
  show Ev M_X6_endJob 0 [vR 7 0, vR 6 t, vI c, vU] [] (conc K M G) _
  have hl := end_loop M G t (K.2 0 1) 0 _ (Inv_idle (Inv_note h c t) t) (by show 0 + K.2 0 1 = K.2 0 1; omega)
  refine ev_aload_n dX6_endJob_0 rfl rfl ?_
  refine ev_iload_n dX6_endJob_1 rfl ?_
  refine ev_aload_n dX6_endJob_2 rfl rfl ?_
  refine evV3 dX6_endJob_3 cl_X6_endJob_149 ⟨rfl, rfl, fun _ => ⟨_, rfl⟩⟩ (Nat.le_of_ble_eq_true rfl) (e_note K M G c t h.next) ?_
  refine ev_aload_n dX6_endJob_6 rfl rfl ?_
  refine ev_getf dX6_endJob_7 fl_6_128 ?_
  refine evV1 dX6_endJob_10 cl_X6_endJob_244 ⟨rfl, rfl, fun _ => ⟨_, rfl⟩⟩ (Nat.le_of_ble_eq_true rfl) (e_end _ M G t) ?_
  refine ev_iconst (v := 0) dX6_endJob_13 rfl ?_
  refine ev_istore_n dX6_endJob_14 rfl ?_
  refine ev_forget (ls2 := [_, _, vU, _]) (Fg_to ⟨Or.inr ⟨rfl, rfl⟩, Or.inr ⟨rfl, rfl⟩, Or.inl rfl, Or.inr ⟨rfl, rfl⟩, trivial⟩) ?_
  exact hl
end
section
/-! THE CLASS: going on, settling, working, a tick -/
/-- a giving leaves tasks that wait nowhere as they are -/
theorem give_off {K : KT} (m t : Nat) (ht : K.2 3 t = 0) : (giveK K m).1 6 t = K.1 6 t ∧ (giveK K m).2 1 t = K.2 1 t ∧ (giveK K m).2 2 t = K.2 2 t ∧ (giveK K m).2 3 t = 0 ∧ (giveK K m).2 0 0 = K.2 0 0 ∧ (giveK K m).2 0 1 = K.2 0 1 ∧ (giveK K m).1 28 2 = K.1 28 2 := by
  unfold giveK
  cases e : heirK K m with
  | zero => exact ⟨rfl, rfl, rfl, ht, rfl, rfl, rfl⟩
  | succ h =>
    have hne : t ≠ h := fun q => by have := (heirK_in e).2; rw [← q] at this; omega
    refine ⟨?_, ?_, rfl, ?_, rfl, rfl, rfl⟩
    · show (if t = h then (1 : Int32) else K.1 6 t) = _
      rw [if_neg hne]
    · show (if t = h then _ else K.2 1 t) = _
      rw [if_neg hne]
    · show (if t = h then 0 else K.2 3 t) = _
      rw [if_neg hne]; exact ht
theorem give_n (K : KT) (m : Nat) : (giveK K m).2 0 0 = K.2 0 0 ∧ (giveK K m).2 0 1 = K.2 0 1 := by
  unfold giveK
  cases heirK K m <;> exact ⟨rfl, rfl⟩
theorem giveN_n (t : Nat) : ∀ (j m : Nat) (K : KT), (giveN t j m K).2 0 0 = K.2 0 0 ∧ (giveN t j m K).2 0 1 = K.2 0 1 := by
  intro j
  induction j with
  | zero => intro m K; exact ⟨rfl, rfl⟩
  | succ j ih =>
    intro m K
    simp only [giveN]
    have h1 := ih (m + 1) (if K.2 4 m = t + 1 then giveK K m else K)
    rw [h1.1, h1.2]
    split
    · exact give_n K m
    · exact ⟨rfl, rfl⟩
theorem end_n (K : KT) (t : Nat) (c : Int32) : (endK K t c).2 0 0 = K.2 0 0 := (giveN_n t _ _ _).1
theorem end_m (K : KT) (t : Nat) (c : Int32) : (endK K t c).2 0 1 = K.2 0 1 := (giveN_n t _ _ _).2
theorem fail_n (K : KT) (t : Nat) : (failK K t).2 0 0 = K.2 0 0 := end_n _ t 3
theorem begin_n (K : KT) (t : Nat) : (beginK K t).2 0 0 = K.2 0 0 := by
  unfold beginK
  split <;> rfl
theorem Inv.w0 {K : KT} (h : Inv K) {t : Nat} (ht : t < K.2 0 0) (h6 : K.1 6 t = 1) : K.2 3 t = 0 := by
  have h5 := (h.2.2.1 t ht).2.2.2.2.1
  exact Classical.byContradiction fun q => absurd (h6.symm.trans (h5.mpr q)) (by decide)
theorem amK_of {K : KT} {t m : Nat} (hm : m < 4) (e : K.1 27 (10 * t + K.2 1 t) = nI m) : amK K t = m := by
  unfold amK
  rw [e]
  exact nI_clamp (by omega)
theorem pass_self (K : KT) (t : Nat) : (passK K t).2 1 t = K.2 1 t + 1 := by show (if t = t then _ else _) = _; rw [if_pos rfl]
/-- what a going on keeps for its own task, step by step -/
theorem go_next {K : KT} (h : Inv K) {t m : Nat} (ht : t < K.2 0 0) (h6 : K.1 6 t = 1) (hlt : K.2 1 t < K.2 2 t) : (Inv (passK (giveK K m) t) ∧ t < (passK (giveK K m) t).2 0 0 ∧ (passK (giveK K m) t).1 6 t = 1 ∧ (passK (giveK K m) t).2 2 t - (passK (giveK K m) t).2 1 t = K.2 2 t - K.2 1 t - 1) ∧ (Inv (passK (sN K 4 m (t + 1)) t) ∧ t < (passK (sN K 4 m (t + 1)) t).2 0 0 ∧ (passK (sN K 4 m (t + 1)) t).1 6 t = 1 ∧ (passK (sN K 4 m (t + 1)) t).2 2 t - (passK (sN K 4 m (t + 1)) t).2 1 t = K.2 2 t - K.2 1 t - 1) := by
  obtain ⟨g1, g2, g3, g4, g5, g6, -⟩ := give_off (K := K) m t (h.w0 ht h6)
  refine ⟨⟨Inv_pass (Inv_give h m) t (by rw [g2, g3]; exact hlt) (by rw [g1, h6]; decide), ?_, ?_, ?_⟩, ⟨Inv_pass (Inv_own h m (t + 1) ht) t hlt (by show ¬ K.1 6 t = 2; rw [h6]; decide), ht, h6, ?_⟩⟩
  · show t < (giveK K m).2 0 0
    rw [g5]; exact ht
  · show (giveK K m).1 6 t = 1
    rw [g1]; exact h6
  · rw [pass_self, g2]
    show (giveK K m).2 2 t - _ = _
    rw [g3]; omega
  · rw [pass_self]
    show K.2 2 t - (K.2 1 t + 1) = _
    omega
theorem goOn_loop (M : KT) (G : GT) (t : Nat) (w : Int32) : ∀ (j : Nat) (K : KT), Inv K → t < K.2 0 0 → K.1 6 t = 1 → K.2 2 t - K.2 1 t = j → Ev M_X6_goOn 23 [vR 7 0, vR 6 t, vI w, vR 2 t, vR 1 t, vI (nI j), vU, vU] [] (conc K M G) (0, none, conc (goK j K t w) M G) := by
  intro j
  induction j with
  | zero =>
    intro K h ht h6 hj
    refine ev_iload dX6_goOn_23 rfl ?_
    refine ev_if_le (tgt := 154) dX6_goOn_25 rfl (fun c25 => ?_) (fun c25 => ?_)
    · refine ev_aload_n dX6_goOn_154 rfl rfl ?_
      refine ev_getf dX6_goOn_155 fl_6_140 ?_
      refine ev_iload_n dX6_goOn_158 rfl ?_
      refine ev_aload_n dX6_goOn_159 rfl rfl ?_
      refine ev_getf dX6_goOn_160 fl_6_228 ?_
      refine ev_isub dX6_goOn_163 ?_
      refine evV2 dX6_goOn_164 cl_X6_goOn_231 ⟨rfl, rfl, fun _ => ⟨_, rfl⟩⟩ (Nat.le_of_ble_eq_true rfl) (e_addDone K M G t _) ?_
      refine ev_aload_n dX6_goOn_167 rfl rfl ?_
      refine ev_aload_n dX6_goOn_168 rfl rfl ?_
      refine ev_iconst (v := 2) dX6_goOn_169 rfl ?_
      refine evV3 dX6_goOn_170 cl_X6_goOn_156 ⟨rfl, rfl, fun _ => ⟨_, rfl⟩⟩ (Nat.le_of_ble_eq_true rfl) (e_endJob _ M G t 2 (Inv_irr (Inv_irr h t _ (by decide) (by decide) (by decide)) t _ (by decide) (by decide) (by decide))) ?_
      exact ev_vret dX6_goOn_173 rfl
    · exact absurd (show nI 0 ≤ 0 by decide) c25
  | succ j ih =>
    intro K h ht h6 hj
    have hlt : K.2 1 t < K.2 2 t := by omega
    have hz := (h.2.2.1 t ht).1
    have hm4 := h.1.2.1
    have em : nI (j + 1) + Int32.ofInt (-1) = nI j := pk_m1 j
    rcases h.2.2.2 t (K.2 1 t) ht hlt with ⟨k0, -⟩ | ⟨k12, m, hm, ea⟩
    · have e0 : goK (j + 1) K t w = K := if_pos k0
      rw [e0]
      refine ev_iload dX6_goOn_23 rfl ?_
      refine ev_if_le (tgt := 154) dX6_goOn_25 rfl (fun c25 => ?_) (fun c25 => ?_)
      · exact absurd c25 (nI_nle (by omega) (by omega))
      · refine ev_aload dX6_goOn_28 rfl rfl ?_
        refine ev_getf dX6_goOn_30 fl_6_210 ?_
        refine ev_aload_n dX6_goOn_33 rfl rfl ?_
        refine ev_getf dX6_goOn_34 fl_6_204 ?_
        refine ev_ialdv dX6_goOn_37 rfl rfl (show _ < 10 from by omega) (co_bk (by omega)) ?_
        refine ev_istore dX6_goOn_38 rfl ?_
        refine ev_iload dX6_goOn_40 rfl ?_
        refine ev_if_ne (tgt := 46) dX6_goOn_42 rfl (fun c42 => ?_) (fun c42 => ?_)
        · exact absurd k0 c42
        · exact ev_vret dX6_goOn_45 rfl
    · have ek : ¬ kdK K t = 0 := by show ¬ K.1 26 _ = 0; rcases k12 with q | q <;> rw [q] <;> decide
      have eam : amK K t = m := amK_of (by omega) ea
      have h144 : ∀ K2, Inv K2 → t < K2.2 0 0 → (passK K2 t).1 6 t = 1 → Inv (passK K2 t) → (passK K2 t).2 2 t - (passK K2 t).2 1 t = j → goK (j + 1) K t w = goK j (passK K2 t) t w → Ev M_X6_goOn 144 [vR 7 0, vR 6 t, vI w, vR 2 t, vR 1 t, vI (nI (j + 1)), vU, vU] [] (conc K2 M G) (0, none, conc (goK (j + 1) K t w) M G) := by
        intro K2 i1 i2 i3 i4 i5 i6
        rw [i6]
        refine ev_aload_n dX6_goOn_144 rfl rfl ?_
        refine evV1 dX6_goOn_145 cl_X6_goOn_207 ⟨rfl, rfl, fun _ => ⟨_, rfl⟩⟩ (Nat.le_of_ble_eq_true rfl) (e_passStep K2 M G t) ?_
        refine ev_iinc dX6_goOn_148 rfl ?_
        refine ev_goto (tgt := 23) dX6_goOn_151 rfl ?_
        rw [em]
        exact ih _ i4 i2 i3 i5
      obtain ⟨⟨a1, a2, a3, a4⟩, ⟨b1, b2, b3, b4⟩⟩ := go_next h (m := m) ht h6 hlt
      have h95 : ¬ failsK K t m (kdK K t) = true → Ev M_X6_goOn 95 [vR 7 0, vR 6 t, vI w, vR 2 t, vR 1 t, vI (nI (j + 1)), vI (kdK K t), vR 4 m] [] (conc K M G) (0, none, conc (goK (j + 1) K t w) M G) := by
        intro hf
        have e1 : kdK K t = 2 → goK (j + 1) K t w = goK j (passK (giveK K m) t) t w := fun q => by
          show (if kdK K t = 0 then _ else if failsK K t (amK K t) (kdK K t) = true then _ else if kdK K t = 2 then _ else _) = _
          rw [if_neg ek, eam, if_neg hf, if_pos q]
        have e2 : ¬ kdK K t = 2 → K.2 4 m = 0 → goK (j + 1) K t w = goK j (passK (sN K 4 m (t + 1)) t) t w := fun q q2 => by
          show (if kdK K t = 0 then _ else if failsK K t (amK K t) (kdK K t) = true then _ else if kdK K t = 2 then _ else if K.2 4 (amK K t) = 0 then _ else _) = _
          rw [if_neg ek, eam, if_neg hf, if_neg q, if_pos q2]
        have e3 : ¬ kdK K t = 2 → ¬ K.2 4 m = 0 → goK (j + 1) K t w = blockK K t m := fun q q2 => by
          show (if kdK K t = 0 then _ else if failsK K t (amK K t) (kdK K t) = true then _ else if kdK K t = 2 then _ else if K.2 4 (amK K t) = 0 then _ else _) = _
          rw [if_neg ek, eam, if_neg hf, if_neg q, if_neg q2]
        rcases ho : K.2 4 m with _ | o
        · refine ev_iload dX6_goOn_95 rfl ?_
          refine ev_iconst (v := 2) dX6_goOn_97 rfl ?_
          refine ev_icmp_ne (tgt := 110) dX6_goOn_98 rfl (fun c98 => ?_) (fun c98 => ?_)
          · refine ev_aload dX6_goOn_110 rfl rfl ?_
            refine ev_getfv dX6_goOn_112 fl_6_221 (co_own ho) ?_
            refine ev_ifnonnull (tgt := 127) dX6_goOn_115 rfl rfl (fun c115 => ?_) (fun c115 => ?_)
            · exact absurd rfl c115
            · refine ev_aload dX6_goOn_118 rfl rfl ?_
              refine ev_aload_n dX6_goOn_120 rfl rfl ?_
              refine ev_putfS dX6_goOn_121 fl_6_221 rfl rfl (pu_mut_3 _ _ _ _ _) ?_
              refine ev_goto (tgt := 144) dX6_goOn_124 rfl ?_
              refine ev_forget (ls2 := [_, _, _, _, _, _, vU, vU]) (Fg_to ⟨Or.inr ⟨rfl, rfl⟩, Or.inr ⟨rfl, rfl⟩, Or.inr ⟨rfl, rfl⟩, Or.inr ⟨rfl, rfl⟩, Or.inr ⟨rfl, rfl⟩, Or.inr ⟨rfl, rfl⟩, Or.inl rfl, Or.inl rfl, trivial⟩) ?_
              exact h144 _ (Inv_own h m (t + 1) ht) ht b3 b1 (by rw [b4]; omega) (e2 c98 ho)
          · refine ev_aload_n dX6_goOn_101 rfl rfl ?_
            refine ev_aload dX6_goOn_102 rfl rfl ?_
            refine evV2 dX6_goOn_104 cl_X6_goOn_217 ⟨rfl, rfl, fun _ => ⟨_, rfl⟩⟩ (Nat.le_of_ble_eq_true rfl) (e_giveAway K M G m h) ?_
            refine ev_goto (tgt := 144) dX6_goOn_107 rfl ?_
            refine ev_forget (ls2 := [_, _, _, _, _, _, vU, vU]) (Fg_to ⟨Or.inr ⟨rfl, rfl⟩, Or.inr ⟨rfl, rfl⟩, Or.inr ⟨rfl, rfl⟩, Or.inr ⟨rfl, rfl⟩, Or.inr ⟨rfl, rfl⟩, Or.inr ⟨rfl, rfl⟩, Or.inl rfl, Or.inl rfl, trivial⟩) ?_
            exact h144 _ (Inv_give h m) a2 a3 a1 (by rw [a4]; omega) (e1 (Classical.not_not.mp c98))
        · refine ev_iload dX6_goOn_95 rfl ?_
          refine ev_iconst (v := 2) dX6_goOn_97 rfl ?_
          refine ev_icmp_ne (tgt := 110) dX6_goOn_98 rfl (fun c98 => ?_) (fun c98 => ?_)
          · refine ev_aload dX6_goOn_110 rfl rfl ?_
            refine ev_getfv dX6_goOn_112 fl_6_221 (co_own ho) ?_
            refine ev_ifnonnull (tgt := 127) dX6_goOn_115 rfl rfl (fun c115 => ?_) (fun c115 => ?_)
            · refine ev_aload_n dX6_goOn_127 rfl rfl ?_
              refine ev_aload dX6_goOn_128 rfl rfl ?_
              refine ev_aload_n dX6_goOn_130 rfl rfl ?_
              refine evV1 dX6_goOn_131 cl_X6_goOn_169 ⟨rfl, rfl, fun _ => ⟨_, rfl⟩⟩ (Nat.le_of_ble_eq_true rfl) (e_nextChange _ M G) ?_
              refine evV3 dX6_goOn_134 cl_X6_goOn_224 ⟨rfl, rfl, fun _ => ⟨_, rfl⟩⟩ (Nat.le_of_ble_eq_true rfl) (e_blockAt _ M G t m _) ?_
              refine ev_aload_n dX6_goOn_137 rfl rfl ?_
              refine ev_iconst (v := 5) dX6_goOn_138 rfl ?_
              refine ev_aload_n dX6_goOn_139 rfl rfl ?_
              refine evV3 dX6_goOn_140 cl_X6_goOn_149 ⟨rfl, rfl, fun _ => ⟨_, rfl⟩⟩ (Nat.le_of_ble_eq_true rfl) (e_note _ M G 5 t h.next) ?_
              rw [e3 c98 (by omega)]
              exact ev_vret dX6_goOn_143 rfl
            · exact nomatch c115
          · refine ev_aload_n dX6_goOn_101 rfl rfl ?_
            refine ev_aload dX6_goOn_102 rfl rfl ?_
            refine evV2 dX6_goOn_104 cl_X6_goOn_217 ⟨rfl, rfl, fun _ => ⟨_, rfl⟩⟩ (Nat.le_of_ble_eq_true rfl) (e_giveAway K M G m h) ?_
            refine ev_goto (tgt := 144) dX6_goOn_107 rfl ?_
            refine ev_forget (ls2 := [_, _, _, _, _, _, vU, vU]) (Fg_to ⟨Or.inr ⟨rfl, rfl⟩, Or.inr ⟨rfl, rfl⟩, Or.inr ⟨rfl, rfl⟩, Or.inr ⟨rfl, rfl⟩, Or.inr ⟨rfl, rfl⟩, Or.inr ⟨rfl, rfl⟩, Or.inl rfl, Or.inl rfl, trivial⟩) ?_
            exact h144 _ (Inv_give h m) a2 a3 a1 (by rw [a4]; omega) (e1 (Classical.not_not.mp c98))
      refine ev_iload dX6_goOn_23 rfl ?_
      refine ev_if_le (tgt := 154) dX6_goOn_25 rfl (fun c25 => ?_) (fun c25 => ?_)
      · exact absurd c25 (nI_nle (by omega) (by omega))
      · refine ev_aload dX6_goOn_28 rfl rfl ?_
        refine ev_getf dX6_goOn_30 fl_6_210 ?_
        refine ev_aload_n dX6_goOn_33 rfl rfl ?_
        refine ev_getf dX6_goOn_34 fl_6_204 ?_
        refine ev_ialdv dX6_goOn_37 rfl rfl (show _ < 10 from by omega) (co_bk (by omega)) ?_
        refine ev_istore dX6_goOn_38 rfl ?_
        refine ev_iload dX6_goOn_40 rfl ?_
        refine ev_if_ne (tgt := 46) dX6_goOn_42 rfl (fun c42 => ?_) (fun c42 => ?_)
        · refine ev_aload_n dX6_goOn_46 rfl rfl ?_
          refine ev_getf dX6_goOn_47 fl_6_17 ?_
          refine ev_aload dX6_goOn_50 rfl rfl ?_
          refine ev_getf dX6_goOn_52 fl_6_200 ?_
          refine ev_aload_n dX6_goOn_55 rfl rfl ?_
          refine ev_getf dX6_goOn_56 fl_6_204 ?_
          refine ev_ialdv dX6_goOn_59 rfl rfl (show _ < 10 from by omega) (co_ba (by omega)) ?_
          refine ev_aaldv dX6_goOn_60 rfl (ea) (show _ < 4 from by omega) (co_muts hm) ?_
          refine ev_astore dX6_goOn_61 rfl rfl ?_
          refine ev_aload_n dX6_goOn_63 rfl rfl ?_
          refine ev_aload_n dX6_goOn_64 rfl rfl ?_
          refine ev_iload dX6_goOn_65 rfl ?_
          refine ev_aload dX6_goOn_67 rfl rfl ?_
          refine evV4 dX6_goOn_69 cl_X6_goOn_213 ⟨rfl, rfl, fun _ => ⟨_, rfl⟩⟩ (Nat.le_of_ble_eq_true rfl) (e_stepFails K M G t m (kdK K t)) ?_
          refine ev_if_eq (tgt := 95) dX6_goOn_72 rfl (fun c72 => ?_) (fun c72 => ?_)
          · exact h95 (bI_0.mp c72)
          · refine ev_aload_n dX6_goOn_75 rfl rfl ?_
            refine ev_getf dX6_goOn_76 fl_6_140 ?_
            refine ev_dup dX6_goOn_79 rfl ?_
            refine ev_getf dX6_goOn_80 fl_6_153 ?_
            refine ev_iconst (v := 1) dX6_goOn_83 rfl ?_
            refine ev_iadd dX6_goOn_84 ?_
            refine ev_putfS dX6_goOn_85 fl_6_153 rfl rfl (pu_tal_1 _ _ _ _ _) ?_
            refine ev_aload_n dX6_goOn_88 rfl rfl ?_
            refine ev_aload_n dX6_goOn_89 rfl rfl ?_
            refine ev_iconst (v := 3) dX6_goOn_90 rfl ?_
            refine evV3 dX6_goOn_91 cl_X6_goOn_156 ⟨rfl, rfl, fun _ => ⟨_, rfl⟩⟩ (Nat.le_of_ble_eq_true rfl) (e_endJob _ M G t 3 (Inv_irr h t _ (by decide) (by decide) (by decide))) ?_
            rw [show goK (j + 1) K t w = failK K t from by
              show (if kdK K t = 0 then _ else if failsK K t (amK K t) (kdK K t) = true then _ else _) = _
              rw [if_neg ek, eam, if_pos (Classical.not_not.mp (fun q => c72 (bI_f q)))]]
            exact ev_vret dX6_goOn_94 rfl
        · exact absurd (Classical.not_not.mp c42) ek
theorem e_goOn (K M : KT) (G : GT) (t : Nat) (w : Int32) (h : Inv K) (ht : t < K.2 0 0) (h6 : K.1 6 t = 1) : Ev M_X6_goOn 0 (ent M_X6_goOn [vR 7 0, vR 6 t, vI w]) [] (conc K M G) (0, none, conc (goOnK K t w) M G) := by
  show Ev M_X6_goOn 0 [vR 7 0, vR 6 t, vI w, vU, vU, vU, vU, vU] [] (conc K M G) _
  have hl := goOn_loop M G t w _ K h ht h6 rfl
  have hs : nI (K.2 2 t) - nI (K.2 1 t) = nI (K.2 2 t - K.2 1 t) := pk_sub (h.2.2.1 t ht).2.1
  rw [← hs] at hl
  refine ev_aload_n dX6_goOn_0 rfl rfl ?_
  refine ev_getf dX6_goOn_1 fl_6_128 ?_
  refine ev_astore_n dX6_goOn_4 rfl rfl ?_
  refine ev_aload_n dX6_goOn_5 rfl rfl ?_
  refine ev_getf dX6_goOn_6 fl_6_81 ?_
  refine ev_astore dX6_goOn_9 rfl rfl ?_
  refine ev_aload dX6_goOn_11 rfl rfl ?_
  refine ev_getf dX6_goOn_13 fl_6_85 ?_
  refine ev_aload_n dX6_goOn_16 rfl rfl ?_
  refine ev_getf dX6_goOn_17 fl_6_204 ?_
  refine ev_isub dX6_goOn_20 ?_
  refine ev_istore dX6_goOn_21 rfl ?_
  exact hl
theorem Inv_go (t : Nat) (w : Int32) : ∀ (j : Nat) (K : KT), Inv K → t < K.2 0 0 → K.1 6 t = 1 → K.2 2 t - K.2 1 t = j → Inv (goK j K t w) := by
  intro j
  induction j with
  | zero => intro K h ht h6 hj; exact Inv_done h t w
  | succ j ih =>
    intro K h ht h6 hj
    have hlt : K.2 1 t < K.2 2 t := by omega
    have hm4 := h.1.2.1
    unfold goK
    split
    · exact h
    · next k0 =>
      rcases h.2.2.2 t (K.2 1 t) ht hlt with ⟨q, -⟩ | ⟨k12, m, hm, ea⟩
      · exact absurd q k0
      · have eam : amK K t = m := amK_of (by omega) ea
        obtain ⟨⟨a1, a2, a3, a4⟩, ⟨b1, b2, b3, b4⟩⟩ := go_next h (m := m) ht h6 hlt
        rw [eam]
        split
        · exact Inv_fail h t
        · split
          · exact ih _ a1 a2 a3 (by rw [a4]; omega)
          · split
            · exact ih _ b1 b2 b3 (by rw [b4]; omega)
            · exact Inv_block h t m hm hlt
theorem Inv_goOn {K : KT} (t : Nat) (w : Int32) (h : Inv K) (ht : t < K.2 0 0) (h6 : K.1 6 t = 1) : Inv (goOnK K t w) := Inv_go t w _ K h ht h6 rfl
theorem pickN_in (K : KT) (R : Nat → Int32) : ∀ (j t b : Nat), (∀ h, b = h + 1 → h < t ∧ K.1 6 h = 1) → ∀ h, pickN K R j t b = h + 1 → h < t + j ∧ K.1 6 h = 1 := by
  intro j
  induction j with
  | zero => intro t b hb h e; exact hb h e
  | succ j ih =>
    intro t b hb h e
    have := ih (t + 1) (pick1 K R b t) (fun g eg => ?_) h e
    · exact ⟨by omega, this.2⟩
    · unfold pick1 at eg
      by_cases hw : K.1 6 t = 1
      · rw [if_pos hw] at eg
        match b, hb, eg with
        | 0, _, eg => cases eg; exact ⟨by omega, hw⟩
        | c + 1, hb, eg =>
          dsimp only at eg
          by_cases hi : ahead K R t c = true
          · rw [if_pos hi] at eg; cases eg; exact ⟨by omega, hw⟩
          · rw [if_neg hi] at eg; have := hb g eg; exact ⟨by omega, this.2⟩
      · rw [if_neg hw] at eg; have := hb g eg; exact ⟨by omega, this.2⟩
theorem firstK_in {K : KT} {h : Nat} (e : firstK K = h + 1) : h < K.2 0 0 ∧ K.1 6 h = 1 := by
  have := pickN_in K (VR K) (K.2 0 0) 0 0 (fun _ q => by cases q) h e
  exact ⟨by omega, this.2⟩
theorem settle_loop (M : KT) (G : GT) : ∀ (j i : Nat) (K : KT), Inv K → i + j = 1000 → Ev M_X6_settle 2 [vR 7 0, vI (nI i), vU] [] (conc K M G) (0, some (rfq 6 (settleK j K).2), conc (settleK j K).1 M G) := by
  intro j
  induction j with
  | zero =>
    intro i K h hi
    refine ev_iload_n dX6_settle_2 rfl ?_
    refine ev_sipush (v := 1000) dX6_settle_3 rfl ?_
    refine ev_icmp_ge (tgt := 42) dX6_settle_6 rfl (fun c6 => ?_) (fun c6 => ?_)
    · refine ev_null dX6_settle_42 ?_
      exact ev_aret dX6_settle_43 rfl rfl
    · exact absurd (show (1000 : Int32) ≤ nI i from nI_le (a := 1000) (b := i) (by omega) (by omega)) c6
  | succ j ih =>
    intro i K h hi
    have e1 : nI i + Int32.ofInt 1 = nI (i + 1) := nI_1 i
    have hf := e_mur K M G h
    cases e : firstK K with
    | zero =>
      rw [e] at hf
      rw [show settleK (j + 1) K = (weighK K, 0) by simp only [settleK, e]]
      refine ev_iload_n dX6_settle_2 rfl ?_
      refine ev_sipush (v := 1000) dX6_settle_3 rfl ?_
      refine ev_icmp_ge (tgt := 42) dX6_settle_6 rfl (fun c6 => ?_) (fun c6 => ?_)
      · exact absurd c6 (nI_ge (a := i) (b := 1000) (by omega) (by omega))
      · refine ev_aload_n dX6_settle_9 rfl rfl ?_
        refine evV1 dX6_settle_10 cl_X6_settle_176 ⟨rfl, rfl, fun _ => ⟨_, rfl⟩⟩ (Nat.le_of_ble_eq_true rfl) hf ?_
        refine ev_astore_n dX6_settle_13 rfl rfl ?_
        refine ev_aload_n dX6_settle_14 rfl rfl ?_
        refine ev_ifnull (tgt := 25) dX6_settle_15 rfl rfl (fun c15 => ?_) (fun c15 => ?_)
        · refine ev_aload_n dX6_settle_25 rfl rfl ?_
          exact ev_aret dX6_settle_26 rfl rfl
        · exact absurd rfl c15
    | succ t =>
      rw [e] at hf
      obtain ⟨ht, h6⟩ := firstK_in e
      obtain ⟨z1, z2, -⟩ := h.2.2.1 t ht
      refine ev_iload_n dX6_settle_2 rfl ?_
      refine ev_sipush (v := 1000) dX6_settle_3 rfl ?_
      refine ev_icmp_ge (tgt := 42) dX6_settle_6 rfl (fun c6 => ?_) (fun c6 => ?_)
      · exact absurd c6 (nI_ge (a := i) (b := 1000) (by omega) (by omega))
      · refine ev_aload_n dX6_settle_9 rfl rfl ?_
        refine evV1 dX6_settle_10 cl_X6_settle_176 ⟨rfl, rfl, fun _ => ⟨_, rfl⟩⟩ (Nat.le_of_ble_eq_true rfl) hf ?_
        refine ev_astore_n dX6_settle_13 rfl rfl ?_
        refine ev_aload_n dX6_settle_14 rfl rfl ?_
        refine ev_ifnull (tgt := 25) dX6_settle_15 rfl rfl (fun c15 => ?_) (fun c15 => ?_)
        · exact nomatch c15
        · refine ev_aload_n dX6_settle_18 rfl rfl ?_
          refine evV1 dX6_settle_19 cl_X6_settle_179 ⟨rfl, rfl, fun _ => ⟨_, rfl⟩⟩ (Nat.le_of_ble_eq_true rfl) (e_isAtWork (weighK K) M G t z1 z2) ?_
          refine ev_if_eq (tgt := 27) dX6_settle_22 rfl (fun c22 => ?_) (fun c22 => ?_)
          · refine ev_aload_n dX6_settle_27 rfl rfl ?_
            refine ev_aload_n dX6_settle_28 rfl rfl ?_
            refine ev_aload_n dX6_settle_29 rfl rfl ?_
            refine ev_getf dX6_settle_30 fl_6_125 ?_
            refine evV3 dX6_settle_33 cl_X6_settle_183 ⟨rfl, rfl, fun _ => ⟨_, rfl⟩⟩ (Nat.le_of_ble_eq_true rfl) (e_goOn (weighK K) M G t (K.1 28 2) (Inv_weigh h) ht h6) ?_
            refine ev_iinc dX6_settle_36 rfl ?_
            refine ev_goto (tgt := 2) dX6_settle_39 rfl ?_
            rw [show settleK (j + 1) K = settleK j (goOnK (weighK K) t (K.1 28 2)) by simp only [settleK, e]; exact if_neg (bI_0.mp c22)]
            refine ev_forget (ls2 := [_, _, vU]) (Fg_to ⟨Or.inr ⟨rfl, rfl⟩, Or.inr ⟨rfl, rfl⟩, Or.inl rfl, trivial⟩) ?_
            rw [e1]
            exact ih (i + 1) _ (Inv_goOn t _ (Inv_weigh h) ht h6) (by omega)
          · refine ev_aload_n dX6_settle_25 rfl rfl ?_
            rw [show settleK (j + 1) K = (weighK K, t + 1) by simp only [settleK, e]; exact if_pos (Classical.not_not.mp (fun q => c22 (bI_f q)))]
            exact ev_aret dX6_settle_26 rfl rfl
theorem e_settle (K M : KT) (G : GT) (h : Inv K) : Ev M_X6_settle 0 (ent M_X6_settle [vR 7 0]) [] (conc K M G) (0, some (rfq 6 (settleK 1000 K).2), conc (settleK 1000 K).1 M G) := by
  show Ev M_X6_settle 0 [vR 7 0, vU, vU] [] (conc K M G) _
  have hl := settle_loop M G 1000 0 K h rfl
  refine ev_iconst (v := 0) dX6_settle_0 rfl ?_
  refine ev_istore_n dX6_settle_1 rfl ?_
  exact hl
theorem Inv_settle : ∀ (j : Nat) (K : KT), Inv K → Inv (settleK j K).1 ∧ ∀ t, (settleK j K).2 = t + 1 → t < (settleK j K).1.2 0 0 ∧ (settleK j K).1.1 6 t = 1 ∧ atWorkK (settleK j K).1 t = true := by
  intro j
  induction j with
  | zero => intro K h; exact ⟨h, fun t q => nomatch q⟩
  | succ j ih =>
    intro K h
    simp only [settleK]
    cases e : firstK K with
    | zero => exact ⟨Inv_weigh h, fun t q => nomatch q⟩
    | succ t =>
      obtain ⟨ht, h6⟩ := firstK_in e
      dsimp only
      by_cases ha : atWorkK K t = true
      · rw [if_pos ha]
        refine ⟨Inv_weigh h, fun u q => ?_⟩
        cases q
        exact ⟨ht, h6, ha⟩
      · rw [if_neg ha]
        exact ih _ (Inv_goOn t _ (Inv_weigh h) ht h6)
theorem e_beginJob (K M : KT) (G : GT) (t : Nat) (h : Inv K) : Ev M_X6_beginJob 0 (ent M_X6_beginJob [vR 7 0, vR 6 t]) [] (conc K M G) (0, none, conc (beginK K t) M G) := by
  show Ev M_X6_beginJob 0 [vR 7 0, vR 6 t] [] (conc K M G) _
  refine ev_aload_n dX6_beginJob_0 rfl rfl ?_
  refine ev_getf dX6_beginJob_1 fl_6_128 ?_
  refine ev_getf dX6_beginJob_4 fl_6_132 ?_
  refine ev_if_eq (tgt := 30) dX6_beginJob_7 rfl (fun c7 => ?_) (fun c7 => ?_)
  · rw [show beginK K t = _ from if_pos c7]
    refine ev_aload_n dX6_beginJob_30 rfl rfl ?_
    refine ev_getf dX6_beginJob_31 fl_6_128 ?_
    refine ev_aload_n dX6_beginJob_34 rfl rfl ?_
    refine ev_getf dX6_beginJob_35 fl_6_125 ?_
    refine ev_aload_n dX6_beginJob_38 rfl rfl ?_
    refine ev_getf dX6_beginJob_39 fl_6_166 ?_
    refine ev_aload_n dX6_beginJob_42 rfl rfl ?_
    refine evV1 dX6_beginJob_43 cl_X6_beginJob_169 ⟨rfl, rfl, fun _ => ⟨_, rfl⟩⟩ (Nat.le_of_ble_eq_true rfl) (e_nextChange K M G) ?_
    refine evV4 dX6_beginJob_46 cl_X6_beginJob_173 ⟨rfl, rfl, fun _ => ⟨_, rfl⟩⟩ (Nat.le_of_ble_eq_true rfl) (e_begin _ M G t _ _ _) ?_
    refine ev_aload_n dX6_beginJob_49 rfl rfl ?_
    refine ev_iconst (v := 0) dX6_beginJob_50 rfl ?_
    refine ev_aload_n dX6_beginJob_51 rfl rfl ?_
    refine evV3 dX6_beginJob_52 cl_X6_beginJob_149 ⟨rfl, rfl, fun _ => ⟨_, rfl⟩⟩ (Nat.le_of_ble_eq_true rfl) (e_note _ M G 0 t h.next) ?_
    exact ev_vret dX6_beginJob_55 rfl
  · refine ev_aload_n dX6_beginJob_10 rfl rfl ?_
    refine ev_getf dX6_beginJob_11 fl_6_140 ?_
    refine ev_dup dX6_beginJob_14 rfl ?_
    refine ev_getf dX6_beginJob_15 fl_6_163 ?_
    refine ev_iconst (v := 1) dX6_beginJob_18 rfl ?_
    refine ev_iadd dX6_beginJob_19 ?_
    refine ev_putfS dX6_beginJob_20 fl_6_163 rfl rfl (pu_tal_3 _ _ _ _ _) ?_
    refine ev_aload_n dX6_beginJob_23 rfl rfl ?_
    refine ev_iconst (v := 1) dX6_beginJob_24 rfl ?_
    refine ev_aload_n dX6_beginJob_25 rfl rfl ?_
    refine evV3 dX6_beginJob_26 cl_X6_beginJob_149 ⟨rfl, rfl, fun _ => ⟨_, rfl⟩⟩ (Nat.le_of_ble_eq_true rfl) (e_note _ M G 1 t h.next) ?_
    rw [show beginK K t = noteK (sI K 18 t (K.1 18 t + 1)) 1 t from if_neg c7]
    exact ev_vret dX6_beginJob_29 rfl
theorem miss_loop (M : KT) (G : GT) : ∀ (j i : Nat) (K : KT), Inv K → i + j = K.2 0 0 → Ev M_X6_noteMisses 2 [vR 7 0, vI (nI i), vU] [] (conc K M G) (0, none, conc (missN j i K) M G) := by
  intro j
  induction j with
  | zero =>
    intro i K h hi
    have hn := h.1.1
    refine ev_iload_n dX6_noteMisses_2 rfl ?_
    refine ev_aload_n dX6_noteMisses_3 rfl rfl ?_
    refine ev_getf dX6_noteMisses_4 fl_6_46 ?_
    refine ev_icmp_ge (tgt := 92) dX6_noteMisses_7 rfl (fun c7 => ?_) (fun c7 => ?_)
    · exact ev_vret dX6_noteMisses_92 rfl
    · exact absurd (nI_le (a := K.2 0 0) (b := i) (by omega) (by omega)) c7
  | succ j ih =>
    intro i K h hi
    have hn := h.1.1
    have e1 : nI i + Int32.ofInt 1 = nI (i + 1) := nI_1 i
    have h86 : ∀ K2, missK1 K i = K2 → Inv K2 → K2.2 0 0 = K.2 0 0 → Ev M_X6_noteMisses 86 [vR 7 0, vI (nI i), vU] [] (conc K2 M G) (0, none, conc (missN (j + 1) i K) M G) := by
      intro K2 hk h2 hn2
      simp only [missN]
      rw [hk]
      refine ev_iinc dX6_noteMisses_86 rfl ?_
      refine ev_goto (tgt := 2) dX6_noteMisses_89 rfl ?_
      rw [e1]
      exact ih (i + 1) K2 h2 (by omega)
    have hN : Inv (noteK (sI K 17 i (K.1 17 i + 1)) 4 i) := Inv_note (Inv_irr h i _ (by decide) (by decide) (by decide)) _ _
    refine ev_iload_n dX6_noteMisses_2 rfl ?_
    refine ev_aload_n dX6_noteMisses_3 rfl rfl ?_
    refine ev_getf dX6_noteMisses_4 fl_6_46 ?_
    refine ev_icmp_ge (tgt := 92) dX6_noteMisses_7 rfl (fun c7 => ?_) (fun c7 => ?_)
    · exact absurd c7 (nI_ge (a := i) (b := K.2 0 0) (by omega) (by omega))
    · refine ev_aload_n dX6_noteMisses_10 rfl rfl ?_
      refine ev_getf dX6_noteMisses_11 fl_6_11 ?_
      refine ev_iload_n dX6_noteMisses_14 rfl ?_
      refine ev_aaldv dX6_noteMisses_15 rfl rfl (show _ < 8 from by omega) (co_tasks (by omega)) ?_
      refine ev_astore_n dX6_noteMisses_16 rfl rfl ?_
      refine ev_aload_n dX6_noteMisses_17 rfl rfl ?_
      refine ev_getf dX6_noteMisses_18 fl_6_128 ?_
      refine ev_getf dX6_noteMisses_21 fl_6_132 ?_
      refine ev_if_eq (tgt := 86) dX6_noteMisses_24 rfl (fun c24 => ?_) (fun c24 => ?_)
      · refine ev_forget (ls2 := [_, _, vU]) (Fg_to ⟨Or.inr ⟨rfl, rfl⟩, Or.inr ⟨rfl, rfl⟩, Or.inl rfl, trivial⟩) ?_
        exact h86 K (if_neg (fun q => q.1 c24)) h rfl
      · refine ev_aload_n dX6_noteMisses_27 rfl rfl ?_
        refine ev_getf dX6_noteMisses_28 fl_6_128 ?_
        refine ev_getf dX6_noteMisses_31 fl_6_137 ?_
        refine ev_aload_n dX6_noteMisses_34 rfl rfl ?_
        refine ev_getf dX6_noteMisses_35 fl_6_125 ?_
        refine ev_icmp_ne (tgt := 86) dX6_noteMisses_38 rfl (fun c38 => ?_) (fun c38 => ?_)
        · refine ev_forget (ls2 := [_, _, vU]) (Fg_to ⟨Or.inr ⟨rfl, rfl⟩, Or.inr ⟨rfl, rfl⟩, Or.inl rfl, trivial⟩) ?_
          exact h86 K (if_neg (fun q => c38 q.2)) h rfl
        · refine ev_aload_n dX6_noteMisses_41 rfl rfl ?_
          refine ev_getf dX6_noteMisses_42 fl_6_140 ?_
          refine ev_dup dX6_noteMisses_45 rfl ?_
          refine ev_getf dX6_noteMisses_46 fl_6_144 ?_
          refine ev_iconst (v := 1) dX6_noteMisses_49 rfl ?_
          refine ev_iadd dX6_noteMisses_50 ?_
          refine ev_putfS dX6_noteMisses_51 fl_6_144 rfl rfl (pu_tal_2 _ _ _ _ _) ?_
          refine ev_aload_n dX6_noteMisses_54 rfl rfl ?_
          refine ev_iconst (v := 4) dX6_noteMisses_55 rfl ?_
          refine ev_aload_n dX6_noteMisses_56 rfl rfl ?_
          refine evV3 dX6_noteMisses_57 cl_X6_noteMisses_149 ⟨rfl, rfl, fun _ => ⟨_, rfl⟩⟩ (Nat.le_of_ble_eq_true rfl) (e_note _ M G 4 i h.next) ?_
          refine ev_aload_n dX6_noteMisses_60 rfl rfl ?_
          refine ev_getf dX6_noteMisses_61 fl_6_62 ?_
          refine ev_if_eq (tgt := 86) dX6_noteMisses_64 rfl (fun c64 => ?_) (fun c64 => ?_)
          · refine ev_forget (ls2 := [_, _, vU]) (Fg_to ⟨Or.inr ⟨rfl, rfl⟩, Or.inr ⟨rfl, rfl⟩, Or.inl rfl, trivial⟩) ?_
            exact h86 _ ((if_pos ⟨c24, Classical.not_not.mp c38⟩).trans (if_pos c64)) hN rfl
          · refine ev_aload_n dX6_noteMisses_67 rfl rfl ?_
            refine ev_getf dX6_noteMisses_68 fl_6_140 ?_
            refine ev_dup dX6_noteMisses_71 rfl ?_
            refine ev_getf dX6_noteMisses_72 fl_6_153 ?_
            refine ev_iconst (v := 1) dX6_noteMisses_75 rfl ?_
            refine ev_iadd dX6_noteMisses_76 ?_
            refine ev_putfS dX6_noteMisses_77 fl_6_153 rfl rfl (pu_tal_1 _ _ _ _ _) ?_
            refine ev_aload_n dX6_noteMisses_80 rfl rfl ?_
            refine ev_aload_n dX6_noteMisses_81 rfl rfl ?_
            refine ev_iconst (v := 3) dX6_noteMisses_82 rfl ?_
            refine evV3 dX6_noteMisses_83 cl_X6_noteMisses_156 ⟨rfl, rfl, fun _ => ⟨_, rfl⟩⟩ (Nat.le_of_ble_eq_true rfl) (e_endJob _ M G i 3 (Inv_irr hN i _ (by decide) (by decide) (by decide))) ?_
            refine ev_forget (ls2 := [_, _, vU]) (Fg_to ⟨Or.inr ⟨rfl, rfl⟩, Or.inr ⟨rfl, rfl⟩, Or.inl rfl, trivial⟩) ?_
            exact h86 _ ((if_pos ⟨c24, Classical.not_not.mp c38⟩).trans (if_neg c64)) (Inv_fail hN i) (fail_n _ i)
theorem rel_loop (M : KT) (G : GT) : ∀ (j i : Nat) (K : KT), Inv K → i + j = K.2 0 0 → Ev M_X6_releasePeriodic 2 [vR 7 0, vI (nI i)] [] (conc K M G) (0, none, conc (relN j i K) M G) := by
  intro j
  induction j with
  | zero =>
    intro i K h hi
    have hn := h.1.1
    refine ev_iload_n dX6_releasePeriodic_2 rfl ?_
    refine ev_aload_n dX6_releasePeriodic_3 rfl rfl ?_
    refine ev_getf dX6_releasePeriodic_4 fl_6_46 ?_
    refine ev_icmp_ge (tgt := 42) dX6_releasePeriodic_7 rfl (fun c7 => ?_) (fun c7 => ?_)
    · exact ev_vret dX6_releasePeriodic_42 rfl
    · exact absurd (nI_le (a := K.2 0 0) (b := i) (by omega) (by omega)) c7
  | succ j ih =>
    intro i K h hi
    have hn := h.1.1
    have e1 : nI i + Int32.ofInt 1 = nI (i + 1) := nI_1 i
    refine ev_iload_n dX6_releasePeriodic_2 rfl ?_
    refine ev_aload_n dX6_releasePeriodic_3 rfl rfl ?_
    refine ev_getf dX6_releasePeriodic_4 fl_6_46 ?_
    refine ev_icmp_ge (tgt := 42) dX6_releasePeriodic_7 rfl (fun c7 => ?_) (fun c7 => ?_)
    · exact absurd c7 (nI_ge (a := i) (b := K.2 0 0) (by omega) (by omega))
    · refine ev_aload_n dX6_releasePeriodic_10 rfl rfl ?_
      refine ev_getf dX6_releasePeriodic_11 fl_6_11 ?_
      refine ev_iload_n dX6_releasePeriodic_14 rfl ?_
      refine ev_aaldv dX6_releasePeriodic_15 rfl rfl (show _ < 8 from by omega) (co_tasks (by omega)) ?_
      refine ev_aload_n dX6_releasePeriodic_16 rfl rfl ?_
      refine ev_getf dX6_releasePeriodic_17 fl_6_125 ?_
      refine evV2 dX6_releasePeriodic_20 cl_X6_releasePeriodic_160 ⟨rfl, rfl, fun _ => ⟨_, rfl⟩⟩ (Nat.le_of_ble_eq_true rfl) (e_isPer K M G i) ?_
      refine ev_if_eq (tgt := 36) dX6_releasePeriodic_23 rfl (fun c23 => ?_) (fun c23 => ?_)
      · refine ev_iinc dX6_releasePeriodic_36 rfl ?_
        refine ev_goto (tgt := 2) dX6_releasePeriodic_39 rfl ?_
        simp only [relN]
        rw [if_neg (bI_0.mp c23), e1]
        exact ih (i + 1) K h (by omega)
      · refine ev_aload_n dX6_releasePeriodic_26 rfl rfl ?_
        refine ev_aload_n dX6_releasePeriodic_27 rfl rfl ?_
        refine ev_getf dX6_releasePeriodic_28 fl_6_11 ?_
        refine ev_iload_n dX6_releasePeriodic_31 rfl ?_
        refine ev_aaldv dX6_releasePeriodic_32 rfl rfl (show _ < 8 from by omega) (co_tasks (by omega)) ?_
        refine evV2 dX6_releasePeriodic_33 cl_X6_releasePeriodic_104 ⟨rfl, rfl, fun _ => ⟨_, rfl⟩⟩ (Nat.le_of_ble_eq_true rfl) (e_beginJob K M G i h) ?_
        refine ev_iinc dX6_releasePeriodic_36 rfl ?_
        refine ev_goto (tgt := 2) dX6_releasePeriodic_39 rfl ?_
        simp only [relN]
        rw [if_pos (Classical.not_not.mp (fun q => c23 (bI_f q))), e1]
        exact ih (i + 1) _ (Inv_begin h i) (by rw [begin_n]; omega)
end
section
/-! THE CLASS: a unit of work, ticks, what can be seen -/
def wlEq (K : KT) (t : Nat) : Prop := (K.1 7 t + 1 < K.1 27 (10 * t + K.2 1 t)) ↔ ¬ leftK K t = 0
theorem unit_1 (K : KT) (t : Nat) : (unitK K t).1 8 t = K.1 8 t + 1 ∧ (unitK K t).1 7 t = K.1 7 t + 1 ∧ (unitK K t).1 4 t = K.1 4 t ∧ (unitK K t).1 6 t = K.1 6 t ∧ (unitK K t).1 14 t = leftK K t := by
  refine ⟨?_, ?_, rfl, rfl, ?_⟩
  · show (if t = t then _ else _) = _; rw [if_pos rfl]
  · show (if t = t then _ else _) = _; rw [if_pos rfl]
  · show (if t = t then _ else _) = _; rw [if_pos rfl]
theorem Inv_unit {K : KT} (h : Inv K) {t : Nat} (ht : t < K.2 0 0) : Inv (unitK K t) :=
  Inv_irr (Inv_irr (Inv_irr (Inv_irr (Inv_last h (t + 1) ht) t _ (by decide) (by decide) (by decide)) t _ (by decide) (by decide) (by decide)) t _ (by decide) (by decide) (by decide)) t _ (by decide) (by decide) (by decide)
theorem e_work (K M : KT) (G : GT) (t : Nat) (h : Inv K) (ht : t < K.2 0 0) (h6 : K.1 6 t = 1) (ha : atWorkK K t = true) (hw : wlEq K t) : Ev M_X6_workOneUnit 0 (ent M_X6_workOneUnit [vR 7 0, vR 6 t]) [] (conc K M G) (0, none, conc (workK K t) M G) := by
  show Ev M_X6_workOneUnit 0 [vR 7 0, vR 6 t, vU] [] (conc K M G) _
  have hz := (h.2.2.1 t ht).1
  have hlt : K.2 1 t < K.2 2 t := by simp only [atWorkK, Bool.and_eq_true, decide_eq_true_eq] at ha; exact ha.1
  obtain ⟨u8, u7, u4, u6, -⟩ := unit_1 K t
  have h63 : ∀ K1, Inv K1 → K1.2 0 0 = K.2 0 0 → K1.1 7 t = K.1 7 t + 1 → K1.1 6 t = 1 → K1.2 1 t = K.2 1 t → K1.2 2 t = K.2 2 t → K1.1 27 = K.1 27 → K1.1 28 2 = K.1 28 2 → Ev M_X6_workOneUnit 63 [vR 7 0, vR 6 t, vR 2 t] [] (conc K1 M G) (0, none, conc (if leftK K t = 0 then goOnK (passK K1 t) t (K.1 28 2 + 1) else K1) M G) := by
    intro K1 i1 i2 i3 i4 i5 i6 i7 i8
    have hp : Inv (passK K1 t) := Inv_pass i1 t (by rw [i5, i6]; exact hlt) (by rw [i4]; decide)
    refine ev_aload_n dX6_workOneUnit_63 rfl rfl ?_
    refine ev_getf dX6_workOneUnit_64 fl_6_193 ?_
    refine ev_aload_n dX6_workOneUnit_67 rfl rfl ?_
    refine ev_getf dX6_workOneUnit_68 fl_6_81 ?_
    refine ev_getf dX6_workOneUnit_71 fl_6_200 ?_
    refine ev_aload_n dX6_workOneUnit_74 rfl rfl ?_
    refine ev_getf dX6_workOneUnit_75 fl_6_204 ?_
    refine ev_ialdv dX6_workOneUnit_78 rfl rfl (show _ < 10 from by rw [i5]; omega) (co_ba (by rw [i5]; omega)) ?_
    refine ev_icmp_lt (tgt := 97) dX6_workOneUnit_79 rfl (fun c79 => ?_) (fun c79 => ?_)
    · rw [i3, i5, i7] at c79
      rw [if_neg (hw.mp c79)]
      exact ev_vret dX6_workOneUnit_97 rfl
    · rw [i3, i5, i7] at c79
      have hl : leftK K t = 0 := Classical.not_not.mp (fun q => c79 (hw.mpr q))
      rw [if_pos hl, ← i8]
      refine ev_aload_n dX6_workOneUnit_82 rfl rfl ?_
      refine evV1 dX6_workOneUnit_83 cl_X6_workOneUnit_207 ⟨rfl, rfl, fun _ => ⟨_, rfl⟩⟩ (Nat.le_of_ble_eq_true rfl) (e_passStep K1 M G t) ?_
      refine ev_aload_n dX6_workOneUnit_86 rfl rfl ?_
      refine ev_aload_n dX6_workOneUnit_87 rfl rfl ?_
      refine ev_aload_n dX6_workOneUnit_88 rfl rfl ?_
      refine ev_getf dX6_workOneUnit_89 fl_6_125 ?_
      refine ev_iconst (v := 1) dX6_workOneUnit_92 rfl ?_
      refine ev_iadd dX6_workOneUnit_93 ?_
      refine evV3 dX6_workOneUnit_94 cl_X6_workOneUnit_183 ⟨rfl, rfl, fun _ => ⟨_, rfl⟩⟩ (Nat.le_of_ble_eq_true rfl) (e_goOn _ M G t _ hp (by show t < K1.2 0 0; rw [i2]; exact ht) i4) ?_
      skip
      exact ev_vret dX6_workOneUnit_97 rfl
  refine ev_aload_n dX6_workOneUnit_0 rfl rfl ?_
  refine ev_getf dX6_workOneUnit_1 fl_6_128 ?_
  refine ev_astore_n dX6_workOneUnit_4 rfl rfl ?_
  refine ev_aload_n dX6_workOneUnit_5 rfl rfl ?_
  refine ev_aload_n dX6_workOneUnit_6 rfl rfl ?_
  refine ev_putfS dX6_workOneUnit_7 fl_6_186 rfl rfl (pu_ker_8 _ _ _ _) ?_
  refine ev_aload_n dX6_workOneUnit_10 rfl rfl ?_
  refine ev_dup dX6_workOneUnit_11 rfl ?_
  refine ev_getf dX6_workOneUnit_12 fl_6_190 ?_
  refine ev_iconst (v := 1) dX6_workOneUnit_15 rfl ?_
  refine ev_iadd dX6_workOneUnit_16 ?_
  refine ev_putfS dX6_workOneUnit_17 fl_6_190 rfl rfl (pu_job_3 _ _ _ _ _) ?_
  refine ev_aload_n dX6_workOneUnit_20 rfl rfl ?_
  refine ev_dup dX6_workOneUnit_21 rfl ?_
  refine ev_getf dX6_workOneUnit_22 fl_6_193 ?_
  refine ev_iconst (v := 1) dX6_workOneUnit_25 rfl ?_
  refine ev_iadd dX6_workOneUnit_26 ?_
  refine ev_putfS dX6_workOneUnit_27 fl_6_193 rfl rfl (pu_job_2 _ _ _ _ _) ?_
  refine ev_aload_n dX6_workOneUnit_30 rfl rfl ?_
  refine ev_getf dX6_workOneUnit_31 fl_6_140 ?_
  refine ev_dup dX6_workOneUnit_34 rfl ?_
  refine ev_getf dX6_workOneUnit_35 fl_6_196 ?_
  refine ev_iconst (v := 1) dX6_workOneUnit_38 rfl ?_
  refine ev_iadd dX6_workOneUnit_39 ?_
  refine ev_putfS dX6_workOneUnit_40 fl_6_196 rfl rfl (pu_tal_4 _ _ _ _ _) ?_
  show Ev _ _ _ _ (conc (unitK K t) M G) _
  refine ev_aload_n dX6_workOneUnit_43 rfl rfl ?_
  refine ev_getf dX6_workOneUnit_44 fl_6_190 ?_
  refine ev_aload_n dX6_workOneUnit_47 rfl rfl ?_
  refine ev_getf dX6_workOneUnit_48 fl_6_197 ?_
  refine ev_iconst (v := 1) dX6_workOneUnit_51 rfl ?_
  refine ev_iadd dX6_workOneUnit_52 ?_
  refine ev_icmp_ne (tgt := 63) dX6_workOneUnit_53 rfl (fun c53 => ?_) (fun c53 => ?_)
  · rw [u8, u4] at c53
    rw [show workK K t = (if leftK K t = 0 then goOnK (passK (unitK K t) t) t (K.1 28 2 + 1) else unitK K t) by simp only [workK, if_neg c53]]
    exact h63 _ (Inv_unit h ht) rfl u7 (u6.trans h6) rfl rfl rfl rfl
  · rw [u8, u4] at c53
    rw [show workK K t = (if leftK K t = 0 then goOnK (passK (noteK (unitK K t) 7 t) t) t (K.1 28 2 + 1) else noteK (unitK K t) 7 t) by simp only [workK, if_pos (Classical.not_not.mp c53)]]
    refine ev_aload_n dX6_workOneUnit_56 rfl rfl ?_
    refine ev_bipush (v := 7) dX6_workOneUnit_57 rfl ?_
    refine ev_aload_n dX6_workOneUnit_59 rfl rfl ?_
    refine evV3 dX6_workOneUnit_60 cl_X6_workOneUnit_149 ⟨rfl, rfl, fun _ => ⟨_, rfl⟩⟩ (Nat.le_of_ble_eq_true rfl) (e_note _ M G 7 t (Inv_unit h ht).next) ?_
    exact h63 _ (Inv_note (Inv_unit h ht) 7 t) rfl u7 (u6.trans h6) rfl rfl rfl rfl
theorem newX_conc (K M : KT) (G : GT) : newX (conc K M G) = conc K M (G.1, G.2.1, fun j => if j = 3 then G.2.2 3 + 1 else if j = 1 then G.2.2 1 + 1 else if j = 2 then G.2.2 2 + 6 else G.2.2 j) := by
  refine Prod.ext rfl (funext fun t => ?_)
  show bump (concC K G) 19 6 t = concC K (G.1, G.2.1, fun j => if j = 3 then G.2.2 3 + 1 else if j = 1 then G.2.2 1 + 1 else if j = 2 then G.2.2 2 + 6 else G.2.2 j) t
  unfold bump
  by_cases h1 : t = 19
  · subst h1; rfl
  · rw [if_neg h1]
    by_cases h2 : t = 100
    · subst h2; rfl
    · rw [if_neg h2]
      by_cases h3 : t = 101
      · subst h3; rfl
      · rw [if_neg h3]
        simp only [concC, if_neg h1, if_neg h2, if_neg h3]
        rfl
def exG (G : GT) : GT := (G.1, G.2.1, fun j => if j = 3 then G.2.2 3 + 1 else if j = 1 then G.2.2 1 + 1 else if j = 2 then G.2.2 2 + 6 else G.2.2 j)
theorem ev_thr {M : MT} {pc : Nat} {ls st : List AV} {K KM : KT} {G : GT} {E : Nat} (h0 : ThrowAt M pc E) (h1 : wsum st ≤ 8) : Ev M pc ls st (conc K KM G) (E, some (vR 19 (G.2.2 3)), conc K KM (exG G)) := by
  have h := ev_throw (ls := ls) (S := conc K KM G) h0 h1
  rw [newX_conc] at h
  exact h
end
section
/-! WORK DONE AT A STEP, NUMBERS, EVENTS: what stays true -/
def wlOk (K : KT) (t : Nat) : Prop := (K.1 7 t = 0 ∧ K.1 14 t = 0) ∨ (K.1 6 t = 1 ∧ K.2 1 t < K.2 2 t ∧ K.1 26 (10 * t + K.2 1 t) = 0 ∧ ∃ w a, 1 ≤ w ∧ w < a ∧ a ≤ 20 ∧ K.1 27 (10 * t + K.2 1 t) = nI a ∧ K.1 7 t = nI w ∧ K.1 14 t = nI (a - w))
def WL (K : KT) : Prop := ∀ t, t < K.2 0 0 → ¬ K.1 6 t = 0 → wlOk K t
def Num (K : KT) (T : Nat) : Prop := K.1 28 2 = nI T ∧ ∀ t, t < K.2 0 0 → (∃ d, d ≤ T + 200 ∧ K.1 10 t = nI d) ∧ (∃ d, d ≤ 200 ∧ K.1 3 t = nI d) ∧ (∃ p, p ≤ 200 ∧ K.1 1 t = nI p)
def ph (K : KT) (t : Nat) : Nat := if K.1 6 t = 0 then 0 else if K.1 6 t = 1 then 2 * (K.2 2 t - K.2 1 t) + 2 else 2 * (K.2 2 t - K.2 1 t) + 1
def PhN (K : KT) : Nat → Nat
  | 0 => 0
  | j + 1 => PhN K j + ph K j
def Ph (K : KT) : Nat := PhN K (K.2 0 0)
theorem PhN_same {K L : KT} : ∀ n, (∀ i, i < n → ph L i = ph K i) → PhN L n = PhN K n := by
  intro n
  induction n with
  | zero => intro _; rfl
  | succ n ih => intro h; show PhN L n + ph L n = PhN K n + ph K n; rw [ih (fun i hi => h i (by omega)), h n (by omega)]
theorem PhN_one {K L : KT} (t : Nat) : ∀ n, t < n → (∀ i, i < n → i ≠ t → ph L i = ph K i) → PhN L n + ph K t = PhN K n + ph L t := by
  intro n
  induction n with
  | zero => intro h; omega
  | succ n ih =>
    intro ht h
    show PhN L n + ph L n + ph K t = PhN K n + ph K n + ph L t
    by_cases e : t = n
    · subst e
      rw [PhN_same t (fun i hi => h i (by omega) (by omega))]
      omega
    · have := ih (by omega) (fun i hi => h i (by omega))
      rw [h n (by omega) (fun q => e q.symm)]
      omega
theorem PhN_le {K : KT} (hi : Inv K) : ∀ n, n ≤ K.2 0 0 → PhN K n ≤ 22 * n := by
  intro n
  induction n with
  | zero => intro _; exact Nat.le_refl 0
  | succ n ih =>
    intro h
    have h1 := ih (by omega)
    have h2 := (hi.2.2.1 n (by omega)).1
    show PhN K n + ph K n ≤ _
    have : ph K n ≤ 22 := by unfold ph; split <;> (try split) <;> omega
    omega
theorem Ph_le {K : KT} (hi : Inv K) : Ph K ≤ 176 := by
  have := PhN_le hi (K.2 0 0) (Nat.le_refl _)
  have := hi.1.1
  unfold Ph; omega
def After (K L : KT) : Prop := (WL K → WL L) ∧ (∀ T, Num K T → Num L T) ∧ L.2 0 3 + Ph L ≤ K.2 0 3 + Ph K ∧ Ph L ≤ Ph K ∧ L.2 0 0 = K.2 0 0 ∧ L.1 28 2 = K.1 28 2
theorem After.rf (K : KT) : After K K := ⟨fun h => h, fun _ h => h, Nat.le_refl _, Nat.le_refl _, rfl, rfl⟩
theorem After.tr {K L N : KT} (h1 : After K L) (h2 : After L N) : After K N := by
  obtain ⟨a1, a2, a3, a4, a5, a6⟩ := h1
  obtain ⟨b1, b2, b3, b4, b5, b6⟩ := h2
  exact ⟨fun h => b1 (a1 h), fun T h => b2 T (a2 T h), by omega, by omega, b5.trans a5, b6.trans a6⟩
theorem Ph_eq {K L : KT} (hn : L.2 0 0 = K.2 0 0) (h : ∀ i, ph L i = ph K i) : Ph L = Ph K := by unfold Ph; rw [hn]; exact PhN_same _ (fun i _ => h i)
theorem Ph_one {K L : KT} (hn : L.2 0 0 = K.2 0 0) {t : Nat} (ht : t < K.2 0 0) (h : ∀ i, i ≠ t → ph L i = ph K i) : Ph L + ph K t = Ph K + ph L t := by unfold Ph; rw [hn]; exact PhN_one t _ ht (fun i _ e => h i e)
/-- a note costs one event -/
theorem note_Ph (K : KT) (w : Int32) (t : Nat) : Ph (noteK K w t) = Ph K := Ph_eq rfl (fun _ => rfl)
theorem A_of {K L : KT} (h1 : WL K → WL L) (h2 : ∀ T, Num K T → Num L T) (h3 : L.2 0 3 = K.2 0 3) (h4 : Ph L = Ph K) (h5 : L.2 0 0 = K.2 0 0) (h6 : L.1 28 2 = K.1 28 2) : After K L := ⟨h1, h2, by rw [h3, h4]; exact Nat.le_refl _, by rw [h4]; exact Nat.le_refl _, h5, h6⟩
theorem weigh_A (K : KT) : After K (weighK K) := A_of (fun h => h) (fun _ h => h) rfl (Ph_eq rfl (fun _ => rfl)) rfl rfl
theorem own_A (K : KT) (m o : Nat) : After K (sN K 4 m o) := A_of (fun h => h) (fun _ h => h) rfl (Ph_eq rfl (fun _ => rfl)) rfl rfl
theorem ne1 (t i : Nat) (e : i ≠ t) {α : Type} (a b : α) : (if i = t then a else b) = b := if_neg e
theorem wake_A {K : KT} (h : Inv K) {t : Nat} (ht : t < K.2 0 0) (hw : ¬ K.2 3 t = 0) : After K (wakeK K t) ∧ Ph (wakeK K t) + 1 = Ph K := by
  obtain ⟨a1, a2, a3, a4, a5, a6⟩ := h.2.2.1 t ht
  have s2 := a5.mpr hw
  have hlt := a6 s2
  have e6 : (wakeK K t).1 6 t = 1 := by show (if t = t then (1 : Int32) else _) = 1; rw [if_pos rfl]
  have e1 : (wakeK K t).2 1 t = K.2 1 t + 1 := by show (if t = t then _ else _) = _; rw [if_pos rfl]
  have e2 : (wakeK K t).2 2 t = K.2 2 t := rfl
  have o6 : ∀ i, i ≠ t → (wakeK K t).1 6 i = K.1 6 i := fun i e => ne1 t i e _ _
  have o1 : ∀ i, i ≠ t → (wakeK K t).2 1 i = K.2 1 i := fun i e => ne1 t i e _ _
  have o7 : ∀ i, i ≠ t → (wakeK K t).1 7 i = K.1 7 i := fun i e => ne1 t i e _ _
  have hP : Ph (wakeK K t) + 1 = Ph K := by
    have := Ph_one (K := K) (L := wakeK K t) rfl ht (fun i e => by unfold ph; rw [o6 i e, o1 i e]; rfl)
    have p1 : ph K t = 2 * (K.2 2 t - K.2 1 t) + 1 := by unfold ph; rw [s2]; rfl
    have p2 : ph (wakeK K t) t = 2 * (K.2 2 t - (K.2 1 t + 1)) + 2 := by unfold ph; rw [e6, e1, e2]; rfl
    omega
  refine ⟨⟨fun hl => fun i hi h0 => ?_, fun _ h => h, ?_, by omega, rfl, rfl⟩, hP⟩
  · by_cases e : i = t
    · subst e
      rcases hl i hi (by rw [s2]; decide) with ⟨-, q⟩ | ⟨q, -⟩
      · exact Or.inl ⟨by show (if i = i then (0 : Int32) else _) = 0; rw [if_pos rfl], q⟩
      · rw [s2] at q; exact absurd q (by decide)
    · have := hl i hi (by rw [o6 i e] at h0; exact h0)
      unfold wlOk at this ⊢
      rw [o6 i e, o1 i e, o7 i e]
      exact this
  · show K.2 0 3 + 1 + Ph (wakeK K t) ≤ _
    omega
theorem give_A {K : KT} (h : Inv K) (m : Nat) : After K (giveK K m) := by
  unfold giveK
  cases e : heirK K m with
  | zero => exact (weigh_A K).tr (own_A _ m 0)
  | succ g =>
    obtain ⟨h1, h2⟩ := heirK_in e
    exact ((weigh_A K).tr (own_A _ m (g + 1))).tr (wake_A (Inv_own (Inv_weigh h) m (g + 1) h1) h1 (fun q => by have h3 : K.2 3 g = 0 := q; omega)).1
theorem giveN_A (t : Nat) : ∀ (j m : Nat) (K : KT), Inv K → After K (giveN t j m K) := by
  intro j
  induction j with
  | zero => intro m K _; exact After.rf K
  | succ j ih =>
    intro m K h
    simp only [giveN]
    by_cases c : K.2 4 m = t + 1
    · rw [if_pos c]; exact (give_A h m).tr (ih _ _ (Inv_give h m))
    · rw [if_neg c]; exact ih _ _ h
theorem ph_pos {K : KT} {t : Nat} (h : ¬ K.1 6 t = 0) : 1 ≤ ph K t := by unfold ph; rw [if_neg h]; split <;> omega
theorem ph_rdy {K : KT} {t : Nat} (h : K.1 6 t = 1) : ph K t = 2 * (K.2 2 t - K.2 1 t) + 2 := by unfold ph; rw [h]; rfl
theorem end_A {K : KT} (h : Inv K) {t : Nat} (ht : t < K.2 0 0) (h0 : ¬ K.1 6 t = 0) (c : Int32) : After K (endK K t c) ∧ Ph (endK K t c) + ph K t ≤ Ph K := by
  have hI := Inv_idle (Inv_note h c t) t
  have g := giveN_A t (K.2 0 1) 0 _ hI
  have o6 : ∀ i, i ≠ t → (sN (sI (noteK K c t) 6 t 0) 3 t 0).1 6 i = K.1 6 i := fun i e => ne1 t i e _ _
  have e6 : (sN (sI (noteK K c t) 6 t 0) 3 t 0).1 6 t = 0 := by show (if t = t then (0 : Int32) else _) = 0; rw [if_pos rfl]
  have hP : Ph (sN (sI (noteK K c t) 6 t 0) 3 t 0) + ph K t = Ph K := by
    have := Ph_one (K := K) (L := sN (sI (noteK K c t) 6 t 0) 3 t 0) rfl ht (fun i e => by unfold ph; rw [o6 i e]; rfl)
    have p2 : ph (sN (sI (noteK K c t) 6 t 0) 3 t 0) t = 0 := by unfold ph; rw [e6]; rfl
    omega
  have hp := ph_pos h0
  have hA : After K (sN (sI (noteK K c t) 6 t 0) 3 t 0) := by
    refine ⟨fun hl => fun i hi q => ?_, fun _ h => h, ?_, by omega, rfl, rfl⟩
    · by_cases e : i = t
      · subst e; exact absurd e6 q
      · have := hl i hi (by rw [o6 i e] at q; exact q)
        unfold wlOk at this ⊢
        rw [o6 i e]
        exact this
    · show K.2 0 3 + 1 + Ph (sN (sI (noteK K c t) 6 t 0) 3 t 0) ≤ _
      omega
  refine ⟨hA.tr g, ?_⟩
  have h4 : Ph (endK K t c) ≤ Ph (sN (sI (noteK K c t) 6 t 0) 3 t 0) := g.2.2.2.1
  omega
theorem fail_A {K : KT} (h : Inv K) {t : Nat} (ht : t < K.2 0 0) (h0 : ¬ K.1 6 t = 0) : After K (failK K t) ∧ Ph (failK K t) + ph K t ≤ Ph K := by
  have x : After K (sI K 16 t (K.1 16 t + 1)) := A_of (fun h => h) (fun _ h => h) rfl (Ph_eq rfl (fun _ => rfl)) rfl rfl
  have e : Ph (sI K 16 t (K.1 16 t + 1)) = Ph K := Ph_eq rfl (fun _ => rfl)
  obtain ⟨y, z⟩ := end_A (K := sI K 16 t (K.1 16 t + 1)) (Inv_irr h t _ (by decide) (by decide) (by decide)) ht h0 3
  rw [e] at z
  exact ⟨x.tr y, z⟩
theorem done_A {K : KT} (h : Inv K) {t : Nat} (ht : t < K.2 0 0) (h0 : ¬ K.1 6 t = 0) (w : Int32) : After K (doneK K t w) ∧ Ph (doneK K t w) + ph K t ≤ Ph K := by
  generalize hv : (if K.1 20 t < w - K.1 9 t then w - K.1 9 t else K.1 20 t) = v
  have x : After K (sI (sI K 15 t (K.1 15 t + 1)) 20 t v) := A_of (fun h => h) (fun _ h => h) rfl (Ph_eq rfl (fun _ => rfl)) rfl rfl
  have e : Ph (sI (sI K 15 t (K.1 15 t + 1)) 20 t v) = Ph K := Ph_eq rfl (fun _ => rfl)
  obtain ⟨y, z⟩ := end_A (K := sI (sI K 15 t (K.1 15 t + 1)) 20 t v) (Inv_irr (Inv_irr h t _ (by decide) (by decide) (by decide)) t _ (by decide) (by decide) (by decide)) ht h0 2
  rw [e] at z
  unfold doneK
  rw [hv]
  exact ⟨x.tr y, z⟩
theorem pass_A {K : KT} {t : Nat} (ht : t < K.2 0 0) (h6 : K.1 6 t = 1) (hlt : K.2 1 t < K.2 2 t) (hl0 : K.1 14 t = 0) : After K (passK K t) ∧ Ph (passK K t) + 2 = Ph K := by
  have o1 : ∀ i, i ≠ t → (passK K t).2 1 i = K.2 1 i := fun i e => ne1 t i e _ _
  have o7 : ∀ i, i ≠ t → (passK K t).1 7 i = K.1 7 i := fun i e => ne1 t i e _ _
  have hP : Ph (passK K t) + 2 = Ph K := by
    have := Ph_one (K := K) (L := passK K t) rfl ht (fun i e => by unfold ph; rw [o1 i e]; rfl)
    have p1 := ph_rdy h6
    have p2 := ph_rdy (K := passK K t) (t := t) h6
    rw [pass_self] at p2
    have : (passK K t).2 2 t = K.2 2 t := rfl
    omega
  refine ⟨⟨fun hl => fun i hi q => ?_, fun _ h => h, ?_, by omega, rfl, rfl⟩, hP⟩
  · by_cases e : i = t
    · subst e; exact Or.inl ⟨by show (if i = i then (0 : Int32) else _) = 0; rw [if_pos rfl], hl0⟩
    · have := hl i hi q
      unfold wlOk at this ⊢
      rw [o1 i e, o7 i e]
      exact this
  · show K.2 0 3 + Ph (passK K t) ≤ _
    omega
theorem block_A {K : KT} {t m : Nat} (ht : t < K.2 0 0) (h6 : K.1 6 t = 1) (hl0 : K.1 7 t = 0 ∧ K.1 14 t = 0) : After K (blockK K t m) ∧ Ph (blockK K t m) + 1 = Ph K := by
  have o6 : ∀ i, i ≠ t → (blockK K t m).1 6 i = K.1 6 i := fun i e => ne1 t i e _ _
  have e6 : (blockK K t m).1 6 t = 2 := by show (if t = t then (2 : Int32) else _) = 2; rw [if_pos rfl]
  have hP : Ph (blockK K t m) + 1 = Ph K := by
    have := Ph_one (K := K) (L := blockK K t m) rfl ht (fun i e => by unfold ph; rw [o6 i e]; rfl)
    have p1 := ph_rdy h6
    have p2 : ph (blockK K t m) t = 2 * (K.2 2 t - K.2 1 t) + 1 := by unfold ph; rw [e6]; rfl
    omega
  refine ⟨⟨fun hl => fun i hi q => ?_, fun _ h => h, ?_, by omega, rfl, rfl⟩, hP⟩
  · by_cases e : i = t
    · subst e; exact Or.inl hl0
    · have := hl i hi (by rw [o6 i e] at q; exact q)
      unfold wlOk at this ⊢
      rw [o6 i e]
      exact this
  · show K.2 0 3 + 1 + Ph (blockK K t m) ≤ _
    omega
/-- a task that is ready at a step that is no work has worked nothing there -/
theorem wl_0 {K : KT} (hl : WL K) {t : Nat} (ht : t < K.2 0 0) (h6 : K.1 6 t = 1) (hk : ¬ kdK K t = 0) : K.1 7 t = 0 ∧ K.1 14 t = 0 := by
  rcases hl t ht (by rw [h6]; decide) with q | ⟨-, -, q, -⟩
  · exact q
  · exact absurd q hk
theorem give_14 (K : KT) (m t : Nat) : (giveK K m).1 14 t = K.1 14 t := by
  unfold giveK
  cases heirK K m <;> rfl
theorem go_A (t : Nat) (w : Int32) : ∀ (j : Nat) (K : KT), Inv K → WL K → t < K.2 0 0 → K.1 6 t = 1 → K.2 2 t - K.2 1 t = j → After K (goK j K t w) ∧ (atWorkK K t = false → Ph (goK j K t w) < Ph K) := by
  intro j
  induction j with
  | zero =>
    intro K h hl ht h6 hj
    obtain ⟨a, b⟩ := done_A h ht (by rw [h6]; decide) w
    refine ⟨a, fun _ => ?_⟩
    have := ph_pos (K := K) (t := t) (by rw [h6]; decide)
    have b' : Ph (goK 0 K t w) + ph K t ≤ Ph K := b
    omega
  | succ j ih =>
    intro K h hl ht h6 hj
    have hlt : K.2 1 t < K.2 2 t := by omega
    have hm4 := h.1.2.1
    have hp := ph_pos (K := K) (t := t) (by rw [h6]; decide)
    unfold goK
    by_cases k0 : kdK K t = 0
    · rw [if_pos k0]
      refine ⟨After.rf K, fun q => ?_⟩
      simp [atWorkK, hlt, k0] at q
    · rw [if_neg k0]
      rcases h.2.2.2 t (K.2 1 t) ht hlt with ⟨q, -⟩ | ⟨k12, m, hm, ea⟩
      · exact absurd q k0
      · have eam : amK K t = m := amK_of (by omega) ea
        obtain ⟨⟨a1, a2, a3, a4⟩, ⟨b1, b2, b3, b4⟩⟩ := go_next h (m := m) ht h6 hlt
        obtain ⟨g1, g2, g3, g4, g5, g6, -⟩ := give_off (K := K) m t (h.w0 ht h6)
        have w0 := wl_0 hl ht h6 k0
        rw [eam]
        split
        · obtain ⟨x, y⟩ := fail_A h ht (by rw [h6]; decide)
          exact ⟨x, fun _ => by omega⟩
        · split
          · have x1 := give_A h m
            obtain ⟨x2, x3⟩ := pass_A (K := giveK K m) (t := t) (by rw [g5]; exact ht) (by rw [g1]; exact h6) (by rw [g2, g3]; exact hlt) (by rw [give_14]; exact w0.2)
            have x4 := x1.tr x2
            obtain ⟨x5, -⟩ := ih _ a1 (x4.1 hl) a2 a3 (by rw [a4]; omega)
            refine ⟨x4.tr x5, fun _ => ?_⟩
            have y1 := x1.2.2.2.1
            have y2 := x5.2.2.2.1
            omega
          · split
            · have x1 := own_A K m (t + 1)
              obtain ⟨x2, x3⟩ := pass_A (K := sN K 4 m (t + 1)) (t := t) ht h6 hlt w0.2
              have x4 := x1.tr x2
              obtain ⟨x5, -⟩ := ih _ b1 (x4.1 hl) b2 b3 (by rw [b4]; omega)
              refine ⟨x4.tr x5, fun _ => ?_⟩
              have y1 := x1.2.2.2.1
              have y2 := x5.2.2.2.1
              omega
            · obtain ⟨x, y⟩ := block_A (m := m) ht h6 w0
              exact ⟨x, fun _ => by omega⟩
theorem settle_A : ∀ (j : Nat) (K : KT), Inv K → WL K → After K (settleK j K).1 := by
  intro j
  induction j with
  | zero => intro K _ _; exact After.rf K
  | succ j ih =>
    intro K h hl
    simp only [settleK]
    cases e : firstK K with
    | zero => exact weigh_A K
    | succ t =>
      obtain ⟨ht, h6⟩ := firstK_in e
      dsimp only
      by_cases ha : atWorkK K t = true
      · rw [if_pos ha]; exact weigh_A K
      · rw [if_neg ha]
        have x := (weigh_A K).tr (go_A t (K.1 28 2) _ (weighK K) (Inv_weigh h) ((weigh_A K).1 hl) ht h6 rfl).1
        exact x.tr (ih _ (Inv_goOn t _ (Inv_weigh h) ht h6) (x.1 hl))
end
section
/-! A TICK keeps what must stay true; the class's tick -/
def FI (K : KT) (T X : Nat) : Prop := Inv K ∧ WL K ∧ Num K T ∧ K.2 0 3 + Ph K ≤ X
theorem FI.aft {K L : KT} {T X : Nat} (h : FI K T X) (hi : Inv L) (ha : After K L) : FI L T X := ⟨hi, ha.1 h.2.1, ha.2.1 T h.2.2.1, Nat.le_trans ha.2.2.1 h.2.2.2⟩
theorem FI.mono {K : KT} {T X Y : Nat} (h : FI K T X) (hx : X ≤ Y) : FI K T Y := ⟨h.1, h.2.1, h.2.2.1, Nat.le_trans h.2.2.2 hx⟩
theorem FI_note {K : KT} {T X : Nat} (h : FI K T X) (w : Int32) (t : Nat) : FI (noteK K w t) T (X + 1) := ⟨Inv_note h.1 w t, h.2.1, h.2.2.1, by
  rw [note_Ph]
  show K.2 0 3 + 1 + Ph K ≤ X + 1
  have := h.2.2.2; omega⟩
theorem FI_fail {K : KT} {T X : Nat} (h : FI K T X) {t : Nat} (ht : t < K.2 0 0) (h0 : ¬ K.1 6 t = 0) : FI (failK K t) T X := h.aft (Inv_fail h.1 t) (fail_A h.1 ht h0).1
theorem FI_irr17 {K : KT} {T X : Nat} (h : FI K T X) (t : Nat) (v : Int32) : FI (sI K 17 t v) T X := h.aft (Inv_irr h.1 t _ (by decide) (by decide) (by decide)) (A_of (fun h => h) (fun _ h => h) rfl (Ph_eq rfl (fun _ => rfl)) rfl rfl)
theorem FI_irr18 {K : KT} {T X : Nat} (h : FI K T X) (t : Nat) (v : Int32) : FI (sI K 18 t v) T X := h.aft (Inv_irr h.1 t _ (by decide) (by decide) (by decide)) (A_of (fun h => h) (fun _ h => h) rfl (Ph_eq rfl (fun _ => rfl)) rfl rfl)
theorem FI_miss1 {K : KT} {T X : Nat} (h : FI K T X) {t : Nat} (ht : t < K.2 0 0) : FI (missK1 K t) T (X + 1) := by
  unfold missK1
  split
  · next c =>
    have hN := FI_note (FI_irr17 h t (K.1 17 t + 1)) 4 t
    split
    · exact hN
    · exact FI_fail hN ht c.1
  · exact h.mono (by omega)
theorem miss1_n (K : KT) (t : Nat) : (missK1 K t).2 0 0 = K.2 0 0 := by
  unfold missK1
  split
  · split
    · rfl
    · exact fail_n _ t
  · rfl
theorem FI_missN {T : Nat} : ∀ (j t : Nat) (K : KT) (X : Nat), FI K T X → t + j ≤ K.2 0 0 → FI (missN j t K) T (X + j) ∧ (missN j t K).2 0 0 = K.2 0 0 := by
  intro j
  induction j with
  | zero => intro t K X h _; exact ⟨h, rfl⟩
  | succ j ih =>
    intro t K X h ht
    have h1 := ih (t + 1) (missK1 K t) (X + 1) (FI_miss1 h (by omega)) (by rw [miss1_n]; omega)
    rw [show X + 1 + j = X + (j + 1) by omega, miss1_n] at h1
    exact h1
theorem FI_begin {K : KT} {T X : Nat} (h : FI K T X) {t : Nat} (ht : t < K.2 0 0) : FI (beginK K t) T (X + 23) := by
  refine ⟨Inv_begin h.1 t, ?_, ?_, ?_⟩
  · unfold beginK
    split
    · next h0 =>
      intro i hi q
      by_cases e : i = t
      · subst e; exact Or.inl ⟨by show (if i = i then (0 : Int32) else _) = 0; rw [if_pos rfl], by show (if i = i then (0 : Int32) else _) = 0; rw [if_pos rfl]⟩
      · have hi' : i < K.2 0 0 := hi
        generalize hL : (noteK (sI (sI (sI (sI (sI (sI (sN (sI (sI K 28 3 (K.1 28 3 + 1)) 6 t 1) 1 t 0) 7 t 0) 14 t 0) 8 t 0) 9 t (K.1 28 2)) 10 t (K.1 28 2 + K.1 3 t)) 11 t (K.1 28 3 + 1)) 0 t) = L at q ⊢
        have o6 : L.1 6 i = K.1 6 i := by rw [← hL]; exact ne1 t i e _ _
        have o1 : L.2 1 i = K.2 1 i := by rw [← hL]; exact ne1 t i e _ _
        have o7 : L.1 7 i = K.1 7 i := by rw [← hL]; exact ne1 t i e _ _
        have o14 : L.1 14 i = K.1 14 i := by rw [← hL]; exact ne1 t i e _ _
        have oz : L.2 2 i = K.2 2 i := by rw [← hL]; rfl
        have o26 : L.1 26 = K.1 26 := by rw [← hL]; rfl
        have o27 : L.1 27 = K.1 27 := by rw [← hL]; rfl
        have := h.2.1 i hi' (by rw [o6] at q; exact q)
        unfold wlOk at this ⊢
        rw [o6, o1, o7, o14, oz, o26, o27]
        exact this
    · exact h.2.1
  · obtain ⟨n1, n2⟩ := h.2.2.1
    unfold beginK
    split
    · refine ⟨n1, fun i hi => ?_⟩
      by_cases e : i = t
      · subst e
        obtain ⟨-, ⟨d, hd, ed⟩, n3⟩ := n2 i hi
        refine ⟨⟨T + d, by omega, ?_⟩, ⟨d, hd, ed⟩, n3⟩
        show (if i = i then K.1 28 2 + K.1 3 i else _) = _
        rw [if_pos rfl, n1, ed, nI_add]
      · obtain ⟨⟨d, hd, ed⟩, n3⟩ := n2 i hi
        exact ⟨⟨d, hd, (ne1 t i e _ _).trans ed⟩, n3⟩
    · exact ⟨n1, n2⟩
  · have h4 := h.2.2.2
    have hz := (h.1.2.2.1 t ht).1
    unfold beginK
    split
    · next h0 =>
      generalize hL : (sI (sI (sI (sI (sI (sI (sN (sI (sI K 28 3 (K.1 28 3 + 1)) 6 t 1) 1 t 0) 7 t 0) 14 t 0) 8 t 0) 9 t (K.1 28 2)) 10 t (K.1 28 2 + K.1 3 t)) 11 t (K.1 28 3 + 1)) = L
      rw [note_Ph]
      have e3 : L.2 0 3 = K.2 0 3 := by rw [← hL]; rfl
      have en : L.2 0 0 = K.2 0 0 := by rw [← hL]; rfl
      have e6 : L.1 6 t = 1 := by rw [← hL]; show (if t = t then (1 : Int32) else _) = 1; rw [if_pos rfl]
      have e1 : L.2 1 t = 0 := by rw [← hL]; show (if t = t then 0 else _) = 0; rw [if_pos rfl]
      have ez : ∀ i, L.2 2 i = K.2 2 i := by intro i; rw [← hL]; rfl
      have o6 : ∀ i, i ≠ t → L.1 6 i = K.1 6 i := by intro i e; rw [← hL]; exact ne1 t i e _ _
      have o1 : ∀ i, i ≠ t → L.2 1 i = K.2 1 i := by intro i e; rw [← hL]; exact ne1 t i e _ _
      have p := Ph_one (K := K) (L := L) en ht (fun i e => by unfold ph; rw [o6 i e, o1 i e, ez])
      have p1 : ph L t = 2 * (K.2 2 t - 0) + 2 := by rw [ph_rdy e6, e1, ez]
      show L.2 0 3 + 1 + Ph L ≤ _
      omega
    · rw [note_Ph, show Ph (sI K 18 t (K.1 18 t + 1)) = Ph K from Ph_eq rfl (fun _ => rfl)]
      show K.2 0 3 + 1 + Ph K ≤ _
      omega
theorem FI_relN {T : Nat} : ∀ (j t : Nat) (K : KT) (X : Nat), FI K T X → t + j ≤ K.2 0 0 → FI (relN j t K) T (X + 23 * j) ∧ (relN j t K).2 0 0 = K.2 0 0 := by
  intro j
  induction j with
  | zero => intro t K X h _; exact ⟨h, rfl⟩
  | succ j ih =>
    intro t K X h ht
    simp only [relN]
    by_cases c : perK K t = true
    · rw [if_pos c]
      have h1 := ih (t + 1) (beginK K t) (X + 23) (FI_begin h (by omega)) (by rw [begin_n]; omega)
      rw [begin_n] at h1
      exact ⟨h1.1.mono (by omega), h1.2⟩
    · rw [if_neg c]
      have h1 := ih (t + 1) K X h (by omega)
      exact ⟨h1.1.mono (by omega), h1.2⟩
theorem FI_settle {K : KT} {T X : Nat} (h : FI K T X) (j : Nat) : FI (settleK j K).1 T X := h.aft (Inv_settle j K h.1).1 (settle_A j K h.1 h.2.1)
/-- the work left, and what was worked, tell the same end -/
theorem wl_eq {K : KT} {T X : Nat} (h : FI K T X) {t : Nat} (ht : t < K.2 0 0) (h6 : K.1 6 t = 1) (ha : atWorkK K t = true) : wlEq K t ∧ ((leftK K t = 0) ∨ ∃ w a, 1 ≤ w ∧ w < a ∧ a ≤ 20 ∧ K.1 27 (10 * t + K.2 1 t) = nI a ∧ K.1 7 t + 1 = nI w ∧ leftK K t = nI (a - w)) := by
  simp only [atWorkK, Bool.and_eq_true, decide_eq_true_eq] at ha
  obtain ⟨hlt, hk⟩ := ha
  have key : ∀ w a : Nat, w < a → a ≤ 20 → K.1 27 (10 * t + K.2 1 t) = nI a → K.1 7 t = nI w → leftK K t = nI (a - w - 1) → wlEq K t ∧ ((leftK K t = 0) ∨ ∃ w a, 1 ≤ w ∧ w < a ∧ a ≤ 20 ∧ K.1 27 (10 * t + K.2 1 t) = nI a ∧ K.1 7 t + 1 = nI w ∧ leftK K t = nI (a - w)) := by
    intro w a h1 h2 ea e7 el
    unfold wlEq
    rw [e7, nI_1, ea, el, nI_ltI (by omega) (by omega), show (0 : Int32) = nI 0 from rfl, nI_eq (by omega) (by omega)]
    refine ⟨by omega, ?_⟩
    by_cases q : a - w - 1 = 0
    · exact Or.inl q
    · exact Or.inr ⟨w + 1, a, by omega, by omega, h2, rfl, rfl, by rw [show a - (w + 1) = a - w - 1 by omega]⟩
  rcases h.1.2.2.2 t (K.2 1 t) ht hlt with ⟨-, a, a1, a2, ea⟩ | ⟨q, -⟩
  · rcases h.2.1 t ht (by rw [h6]; decide) with ⟨e7, e14⟩ | ⟨-, -, -, w, b, w1, w2, w3, eb, e7, e14⟩
    · refine key 0 a (by omega) a2 ea e7 ?_
      unfold leftK
      rw [if_pos e14, ea, show (1 : Int32) = nI 1 from rfl, pk_sub a1]
      rfl
    · refine key w b w2 w3 eb e7 ?_
      unfold leftK
      rw [e14, if_neg (by rw [show (0 : Int32) = nI 0 from rfl, nI_eq (by omega) (by omega)]; omega), show (1 : Int32) = nI 1 from rfl, pk_sub (by omega)]
  · exact absurd hk (by show ¬ K.1 26 _ = 0; rcases q with q | q <;> rw [q] <;> decide)
theorem FI_work {K : KT} {T X : Nat} (h : FI K T X) {t : Nat} (ht : t < K.2 0 0) (h6 : K.1 6 t = 1) (ha : atWorkK K t = true) : FI (workK K t) T (X + 1) ∧ (workK K t).2 0 0 = K.2 0 0 ∧ (workK K t).1 28 2 = K.1 28 2 := by
  obtain ⟨hq, hw⟩ := wl_eq h ht h6 ha
  obtain ⟨u8, u7, u4, u6, u14⟩ := unit_1 K t
  have hlt : K.2 1 t < K.2 2 t := by simp only [atWorkK, Bool.and_eq_true, decide_eq_true_eq] at ha; exact ha.1
  have hk : kdK K t = 0 := by simp only [atWorkK, Bool.and_eq_true, decide_eq_true_eq] at ha; exact ha.2
  have o7 : ∀ i, i ≠ t → (unitK K t).1 7 i = K.1 7 i := fun i e => ne1 t i e _ _
  have o14 : ∀ i, i ≠ t → (unitK K t).1 14 i = K.1 14 i := fun i e => ne1 t i e _ _
  have main : ∀ K1, Inv K1 → K1.2 0 0 = K.2 0 0 → (∀ i, i < K.2 0 0 → i ≠ t → ¬ K1.1 6 i = 0 → wlOk K1 i) → K1.1 7 t = K.1 7 t + 1 → K1.1 14 t = leftK K t → K1.1 6 t = 1 → K1.2 1 t = K.2 1 t → K1.2 2 t = K.2 2 t → K1.1 26 = K.1 26 → K1.1 27 = K.1 27 → K1.1 28 2 = K.1 28 2 → Num K1 T → K1.2 0 3 + Ph K1 ≤ X + 1 → FI (if leftK K t = 0 then goOnK (passK K1 t) t (K.1 28 2 + 1) else K1) T (X + 1) ∧ (if leftK K t = 0 then goOnK (passK K1 t) t (K.1 28 2 + 1) else K1).2 0 0 = K.2 0 0 ∧ (if leftK K t = 0 then goOnK (passK K1 t) t (K.1 28 2 + 1) else K1).1 28 2 = K.1 28 2 := by
    intro K1 i1 i2 i3 i4 i5 i6 i7 i8 i9 i10 i11 i12 i13
    have hp : Inv (passK K1 t) := Inv_pass i1 t (by rw [i7, i8]; exact hlt) (by rw [i6]; decide)
    by_cases hl : leftK K t = 0
    · rw [if_pos hl]
      have wlp : WL (passK K1 t) := by
        intro i hi q
        by_cases e : i = t
        · subst e; exact Or.inl ⟨by show (if i = i then (0 : Int32) else _) = 0; rw [if_pos rfl], i5.trans hl⟩
        · have o1 : (passK K1 t).2 1 i = K1.2 1 i := ne1 t i e _ _
          have o7' : (passK K1 t).1 7 i = K1.1 7 i := ne1 t i e _ _
          have := i3 i (by rw [← i2]; exact hi) e q
          unfold wlOk at this ⊢
          rw [o1, o7']
          exact this
      have hP : Ph (passK K1 t) ≤ Ph K1 := by
        have := Ph_one (K := K1) (L := passK K1 t) rfl (t := t) (by rw [i2]; exact ht) (fun i e => by unfold ph; rw [show (passK K1 t).2 1 i = K1.2 1 i from ne1 t i e _ _]; rfl)
        have p1 := ph_rdy i6
        have p2 := ph_rdy (K := passK K1 t) (t := t) i6
        rw [pass_self] at p2
        have : (passK K1 t).2 2 t = K1.2 2 t := rfl
        omega
      have hF : FI (passK K1 t) T (X + 1) := ⟨hp, wlp, i12, by show K1.2 0 3 + Ph (passK K1 t) ≤ _; omega⟩
      have hA := (go_A t (K.1 28 2 + 1) _ (passK K1 t) hp wlp (by show t < K1.2 0 0; rw [i2]; exact ht) i6 rfl).1
      exact ⟨hF.aft (Inv_goOn t _ hp (by show t < K1.2 0 0; rw [i2]; exact ht) i6) hA, hA.2.2.2.2.1.trans i2, hA.2.2.2.2.2.trans i11⟩
    · rw [if_neg hl]
      refine ⟨⟨i1, fun i hi q => ?_, i12, i13⟩, i2, i11⟩
      by_cases e : i = t
      · subst e
        rcases hw with hw | ⟨w, a, w1, w2, w3, ea, e7, el⟩
        · exact absurd hw hl
        · refine Or.inr ⟨i6, by rw [i7, i8]; exact hlt, by rw [i9, i7]; exact hk, w, a, w1, w2, w3, by rw [i10, i7]; exact ea, i4.trans e7, i5.trans el⟩
      · exact i3 i (by rw [← i2]; exact hi) e q
  have hU : ∀ i, i < K.2 0 0 → i ≠ t → ¬ (unitK K t).1 6 i = 0 → wlOk (unitK K t) i := by
    intro i hi e q
    have := h.2.1 i hi q
    unfold wlOk at this ⊢
    rw [o7 i e, o14 i e]
    exact this
  have hPu : Ph (unitK K t) = Ph K := Ph_eq rfl (fun _ => rfl)
  have h4 := h.2.2.2
  unfold workK
  dsimp only
  by_cases c : K.1 8 t + 1 = K.1 4 t + 1
  · rw [if_pos c]
    exact main _ (Inv_note (Inv_unit h.1 ht) 7 t) rfl hU u7 u14 (u6.trans h6) rfl rfl rfl rfl rfl h.2.2.1 (by rw [note_Ph, hPu]; show K.2 0 3 + 1 + Ph K ≤ _; omega)
  · rw [if_neg c]
    exact main _ (Inv_unit h.1 ht) rfl hU u7 u14 (u6.trans h6) rfl rfl rfl rfl rfl h.2.2.1 (by rw [hPu]; show K.2 0 3 + Ph K ≤ _; omega)
theorem FI_time {K : KT} {T X : Nat} (h : FI K T X) : FI (sI K 28 2 (K.1 28 2 + 1)) (T + 1) X := by
  refine ⟨Inv_irr h.1 2 _ (by decide) (by decide) (by decide), h.2.1, ⟨?_, fun t ht => ?_⟩, ?_⟩
  · show K.1 28 2 + 1 = _
    rw [h.2.2.1.1, nI_1]
  · obtain ⟨⟨d, hd, ed⟩, n3⟩ := h.2.2.1.2 t ht
    exact ⟨⟨d, by omega, ed⟩, n3⟩
  · rw [show Ph (sI K 28 2 (K.1 28 2 + 1)) = Ph K from Ph_eq rfl (fun _ => rfl)]
    exact h.2.2.2
/-- the state in which a tick's unit is worked -/
def midK (K : KT) : KT := relN (K.2 0 0) 0 (missN (K.2 0 0) 0 K)
theorem tick_0 {K : KT} (e : (settleK 1000 (midK K)).2 = 0) : tickK K = (sI (settleK 1000 (midK K)).1 28 2 ((settleK 1000 (midK K)).1.1 28 2 + 1), 0) := by
  unfold tickK
  simp only [show relN (K.2 0 0) 0 (missN (K.2 0 0) 0 K) = midK K from rfl, e]
theorem tick_s {K : KT} {t : Nat} (e : (settleK 1000 (midK K)).2 = t + 1) : tickK K = (sI (workK (settleK 1000 (midK K)).1 t) 28 2 ((workK (settleK 1000 (midK K)).1 t).1 28 2 + 1), 1) := by
  unfold tickK
  simp only [show relN (K.2 0 0) 0 (missN (K.2 0 0) 0 K) = midK K from rfl, e]
theorem FI_mid {K : KT} {T X : Nat} (h : FI K T X) : FI (midK K) T (X + 192) ∧ (midK K).2 0 0 = K.2 0 0 := by
  have hn := h.1.1.1
  obtain ⟨h1, e1⟩ := FI_missN (K.2 0 0) 0 K X h (by omega)
  obtain ⟨h2, e2⟩ := FI_relN (K.2 0 0) 0 _ _ h1 (by rw [e1]; omega)
  exact ⟨h2.mono (by omega), e2.trans e1⟩
theorem settle_n {K : KT} {T X : Nat} (h : FI K T X) (j : Nat) : (settleK j K).1.2 0 0 = K.2 0 0 := (settle_A j K h.1 h.2.1).2.2.2.2.1
theorem FI_tick {K : KT} {T X : Nat} (h : FI K T X) : FI (tickK K).1 (T + 1) (X + 193) ∧ (tickK K).2 ≤ 1 ∧ (tickK K).1.2 0 0 = K.2 0 0 := by
  obtain ⟨hm, en⟩ := FI_mid h
  have hs := FI_settle hm 1000
  have en2 := settle_n hm 1000
  have hx := (Inv_settle 1000 (midK K) hm.1).2
  cases e : (settleK 1000 (midK K)).2 with
  | zero => rw [tick_0 e]; exact ⟨(FI_time hs).mono (by omega), by show (0 : Nat) ≤ 1; omega, en2.trans en⟩
  | succ t =>
    obtain ⟨x1, x2, x3⟩ := hx t e
    obtain ⟨y1, y2, -⟩ := FI_work hs x1 x2 x3
    rw [tick_s e]
    exact ⟨(FI_time y1).mono (by omega), Nat.le_refl 1, y2.trans (en2.trans en)⟩
theorem tick_loop (M : KT) (G : GT) (N : Nat) (hN : N ≤ 500) : ∀ (j i b : Nat) (K : KT) (T X : Nat), i + j = N → FI K T X → Ev M_X6_tick 42 [vR 7 0, vI (nI N), vI (nI b), vI (nI i), vU] [] (conc K M G) (0, some (vI (nI (ticksK j K b).2)), conc (ticksK j K b).1 M G) := by
  intro j
  induction j with
  | zero =>
    intro i b K T X hi h
    refine ev_iload_n dX6_tick_42 rfl ?_
    refine ev_iload_n dX6_tick_43 rfl ?_
    refine ev_icmp_ge (tgt := 91) dX6_tick_44 rfl (fun c44 => ?_) (fun c44 => ?_)
    · refine ev_iload_n dX6_tick_91 rfl ?_
      exact ev_iret dX6_tick_92 (Or.inl rfl)
    · exact absurd (nI_le (a := N) (b := i) (by omega) (by omega)) c44
  | succ j ih =>
    intro i b K T X hi h
    have hn := h.1.1.1
    have e1 : nI i + Int32.ofInt 1 = nI (i + 1) := nI_1 i
    have eb : nI b + Int32.ofInt 1 = nI (b + 1) := nI_1 b
    obtain ⟨h1, n1⟩ := FI_missN (K.2 0 0) 0 K X h (by omega)
    obtain ⟨hm, en⟩ := FI_mid h
    have hs := FI_settle hm 1000
    have hx := (Inv_settle 1000 (midK K) hm.1).2
    have ht := FI_tick h
    have r1 := miss_loop M G (K.2 0 0) 0 K h.1 (by omega)
    have r2 : Ev M_X6_releasePeriodic 2 [vR 7 0, vI (nI 0)] [] (conc (missN (K.2 0 0) 0 K) M G) (0, none, conc (midK K) M G) := rel_loop M G (K.2 0 0) 0 _ h1.1 (by rw [n1]; omega)
    have r3 := e_settle (midK K) M G hm.1
    have q1 : Ev M_X6_noteMisses 0 (ent M_X6_noteMisses [vR 7 0]) [] (conc K M G) (0, none, conc (missN (K.2 0 0) 0 K) M G) := by
      show Ev M_X6_noteMisses 0 [vR 7 0, vU, vU] [] (conc K M G) _
      refine ev_iconst (v := 0) dX6_noteMisses_0 rfl ?_
      refine ev_istore_n dX6_noteMisses_1 rfl ?_
      exact r1
    have q2 : Ev M_X6_releasePeriodic 0 (ent M_X6_releasePeriodic [vR 7 0]) [] (conc (missN (K.2 0 0) 0 K) M G) (0, none, conc (midK K) M G) := by
      show Ev M_X6_releasePeriodic 0 [vR 7 0, vU] [] (conc (missN (K.2 0 0) 0 K) M G) _
      refine ev_iconst (v := 0) dX6_releasePeriodic_0 rfl ?_
      refine ev_istore_n dX6_releasePeriodic_1 rfl ?_
      exact r2
    have h75 : ∀ K2 b2, tickK K = (sI K2 28 2 (K2.1 28 2 + 1), b2) → Ev M_X6_tick 75 [vR 7 0, vI (nI N), vI (nI (b + b2)), vI (nI i), vU] [] (conc K2 M G) (0, some (vI (nI (ticksK (j + 1) K b).2)), conc (ticksK (j + 1) K b).1 M G) := by
      intro K2 b2 ek
      have hF := ht.1
      rw [ek] at hF
      rw [show ticksK (j + 1) K b = ticksK j (sI K2 28 2 (K2.1 28 2 + 1)) (b + b2) by simp only [ticksK, ek]]
      refine ev_aload_n dX6_tick_75 rfl rfl ?_
      refine ev_dup dX6_tick_76 rfl ?_
      refine ev_getf dX6_tick_77 fl_6_125 ?_
      refine ev_iconst (v := 1) dX6_tick_80 rfl ?_
      refine ev_iadd dX6_tick_81 ?_
      refine ev_putfS dX6_tick_82 fl_6_125 rfl rfl (pu_ker_7 _ _ _ _) ?_
      refine ev_iinc dX6_tick_85 rfl ?_
      refine ev_goto (tgt := 42) dX6_tick_88 rfl ?_
      rw [e1]
      exact ih (i + 1) (b + b2) _ _ _ (by omega) hF
    cases e : (settleK 1000 (midK K)).2 with
    | zero =>
      rw [e] at r3
      have ek := tick_0 e
      refine ev_iload_n dX6_tick_42 rfl ?_
      refine ev_iload_n dX6_tick_43 rfl ?_
      refine ev_icmp_ge (tgt := 91) dX6_tick_44 rfl (fun c44 => ?_) (fun c44 => ?_)
      · exact absurd c44 (nI_ge (a := i) (b := N) (by omega) (by omega))
      · refine ev_aload_n dX6_tick_47 rfl rfl ?_
        refine evV1 dX6_tick_48 cl_X6_tick_112 ⟨rfl, rfl, fun _ => ⟨_, rfl⟩⟩ (Nat.le_of_ble_eq_true rfl) q1 ?_
        refine ev_aload_n dX6_tick_51 rfl rfl ?_
        refine evV1 dX6_tick_52 cl_X6_tick_115 ⟨rfl, rfl, fun _ => ⟨_, rfl⟩⟩ (Nat.le_of_ble_eq_true rfl) q2 ?_
        refine ev_aload_n dX6_tick_55 rfl rfl ?_
        refine evV1 dX6_tick_56 cl_X6_tick_118 ⟨rfl, rfl, fun _ => ⟨_, rfl⟩⟩ (Nat.le_of_ble_eq_true rfl) r3 ?_
        refine ev_astore dX6_tick_59 rfl rfl ?_
        refine ev_aload dX6_tick_61 rfl rfl ?_
        refine ev_ifnull (tgt := 75) dX6_tick_63 rfl rfl (fun c63 => ?_) (fun c63 => ?_)
        · refine ev_forget (ls2 := [_, _, _, _, vU]) (Fg_to ⟨Or.inr ⟨rfl, rfl⟩, Or.inr ⟨rfl, rfl⟩, Or.inr ⟨rfl, rfl⟩, Or.inr ⟨rfl, rfl⟩, Or.inl rfl, trivial⟩) ?_
          exact h75 _ 0 ek
        · exact absurd rfl c63
    | succ t =>
      rw [e] at r3
      obtain ⟨x1, x2, x3⟩ := hx t e
      have ek := tick_s e
      refine ev_iload_n dX6_tick_42 rfl ?_
      refine ev_iload_n dX6_tick_43 rfl ?_
      refine ev_icmp_ge (tgt := 91) dX6_tick_44 rfl (fun c44 => ?_) (fun c44 => ?_)
      · exact absurd c44 (nI_ge (a := i) (b := N) (by omega) (by omega))
      · refine ev_aload_n dX6_tick_47 rfl rfl ?_
        refine evV1 dX6_tick_48 cl_X6_tick_112 ⟨rfl, rfl, fun _ => ⟨_, rfl⟩⟩ (Nat.le_of_ble_eq_true rfl) q1 ?_
        refine ev_aload_n dX6_tick_51 rfl rfl ?_
        refine evV1 dX6_tick_52 cl_X6_tick_115 ⟨rfl, rfl, fun _ => ⟨_, rfl⟩⟩ (Nat.le_of_ble_eq_true rfl) q2 ?_
        refine ev_aload_n dX6_tick_55 rfl rfl ?_
        refine evV1 dX6_tick_56 cl_X6_tick_118 ⟨rfl, rfl, fun _ => ⟨_, rfl⟩⟩ (Nat.le_of_ble_eq_true rfl) r3 ?_
        refine ev_astore dX6_tick_59 rfl rfl ?_
        refine ev_aload dX6_tick_61 rfl rfl ?_
        refine ev_ifnull (tgt := 75) dX6_tick_63 rfl rfl (fun c63 => ?_) (fun c63 => ?_)
        · exact nomatch c63
        · refine ev_aload_n dX6_tick_66 rfl rfl ?_
          refine ev_aload dX6_tick_67 rfl rfl ?_
          refine evV2 dX6_tick_69 cl_X6_tick_122 ⟨rfl, rfl, fun _ => ⟨_, rfl⟩⟩ (Nat.le_of_ble_eq_true rfl) (e_work _ M G t hs.1 x1 x2 x3 (wl_eq hs x1 x2 x3).1) ?_
          refine ev_iinc dX6_tick_72 rfl ?_
          refine ev_forget (ls2 := [_, _, _, _, vU]) (Fg_to ⟨Or.inr ⟨rfl, rfl⟩, Or.inr ⟨rfl, rfl⟩, Or.inr ⟨rfl, rfl⟩, Or.inr ⟨rfl, rfl⟩, Or.inl rfl, trivial⟩) ?_
          rw [eb]
          exact h75 _ 1 ek
theorem e_tick (K M : KT) (G : GT) (T X n : Nat) (hn : n ≤ 500) (hs : ¬ K.1 28 1 = 0) (h : FI K T X) : Ev M_X6_tick 0 (ent M_X6_tick [vR 7 0, vI (nI n)]) [] (conc K M G) (0, some (vI (nI (ticksK n K 0).2)), conc (ticksK n K 0).1 M G) := by
  show Ev M_X6_tick 0 [vR 7 0, vI (nI n), vU, vU, vU] [] (conc K M G) _
  have hl := tick_loop M G n hn n 0 0 K T X (by omega) h
  refine ev_iload_n dX6_tick_0 rfl ?_
  refine ev_iconst (v := 0) dX6_tick_1 rfl ?_
  refine ev_sipush (v := 500) dX6_tick_2 rfl ?_
  refine evS3 dX6_tick_5 cl_X6_tick_32 ⟨rfl, rfl, fun h => nomatch h⟩ (Nat.le_of_ble_eq_true rfl) (e_within _ _ _ _) ?_
  refine ev_if_ne (tgt := 21) dX6_tick_8 rfl (fun c8 => ?_) (fun c8 => ?_)
  · refine ev_aload_n dX6_tick_21 rfl rfl ?_
    refine ev_getf dX6_tick_22 fl_6_43 ?_
    refine ev_if_ne (tgt := 38) dX6_tick_25 rfl (fun c25 => ?_) (fun c25 => ?_)
    · refine ev_iconst (v := 0) dX6_tick_38 rfl ?_
      refine ev_istore_n dX6_tick_39 rfl ?_
      refine ev_iconst (v := 0) dX6_tick_40 rfl ?_
      refine ev_istore_n dX6_tick_41 rfl ?_
      exact hl
    · exact absurd (Classical.not_not.mp c25) hs
  · exact absurd (bI_0.mp (Classical.not_not.mp c8)) (fun q => q ⟨nI_pos' (by omega), nI_le (a := n) (b := 500) hn (by omega)⟩)
theorem e_tickA (K M : KT) (G : GT) (x : Int32) (hx : ¬ ((0 : Int32) ≤ x ∧ x ≤ 500)) : Ev M_X6_tick 0 (ent M_X6_tick [vR 7 0, vI x]) [] (conc K M G) (1, some (vR 19 (G.2.2 3)), conc K M (exG G)) := by
  show Ev M_X6_tick 0 [vR 7 0, vI x, vU, vU, vU] [] (conc K M G) _
  refine ev_iload_n dX6_tick_0 rfl ?_
  refine ev_iconst (v := 0) dX6_tick_1 rfl ?_
  refine ev_sipush (v := 500) dX6_tick_2 rfl ?_
  refine evS3 dX6_tick_5 cl_X6_tick_32 ⟨rfl, rfl, fun h => nomatch h⟩ (Nat.le_of_ble_eq_true rfl) (e_within _ _ _ _) ?_
  refine ev_if_ne (tgt := 21) dX6_tick_8 rfl (fun c8 => ?_) (fun c8 => ?_)
  · exact absurd (bI_f hx) c8
  · exact ev_thr th_X6_tick_11 (Nat.le_of_ble_eq_true rfl)
theorem e_tickS (K M : KT) (G : GT) (x : Int32) (hx : ((0 : Int32) ≤ x ∧ x ≤ 500)) (hs : K.1 28 1 = 0) : Ev M_X6_tick 0 (ent M_X6_tick [vR 7 0, vI x]) [] (conc K M G) (2, some (vR 19 (G.2.2 3)), conc K M (exG G)) := by
  show Ev M_X6_tick 0 [vR 7 0, vI x, vU, vU, vU] [] (conc K M G) _
  refine ev_iload_n dX6_tick_0 rfl ?_
  refine ev_iconst (v := 0) dX6_tick_1 rfl ?_
  refine ev_sipush (v := 500) dX6_tick_2 rfl ?_
  refine evS3 dX6_tick_5 cl_X6_tick_32 ⟨rfl, rfl, fun h => nomatch h⟩ (Nat.le_of_ble_eq_true rfl) (e_within _ _ _ _) ?_
  refine ev_if_ne (tgt := 21) dX6_tick_8 rfl (fun c8 => ?_) (fun c8 => ?_)
  · refine ev_aload_n dX6_tick_21 rfl rfl ?_
    refine ev_getf dX6_tick_22 fl_6_43 ?_
    refine ev_if_ne (tgt := 38) dX6_tick_25 rfl (fun c25 => ?_) (fun c25 => ?_)
    · exact absurd hs c25
    · exact ev_thr th_X6_tick_28 (Nat.le_of_ble_eq_true rfl)
  · exact absurd (bI_0.mp (Classical.not_not.mp c8)) (fun q => q hx)
theorem FI_ticks : ∀ (j : Nat) (K : KT) (b T X : Nat), FI K T X → FI (ticksK j K b).1 (T + j) (X + 193 * j) ∧ (ticksK j K b).2 ≤ b + j ∧ (ticksK j K b).1.2 0 0 = K.2 0 0 := by
  intro j
  induction j with
  | zero => intro K b T X h; exact ⟨h, Nat.le_refl _, rfl⟩
  | succ j ih =>
    intro K b T X h
    obtain ⟨a1, a2, a3⟩ := FI_tick h
    obtain ⟨b1, b2, b3⟩ := ih (tickK K).1 (b + (tickK K).2) (T + 1) (X + 193) a1
    simp only [ticksK]
    rw [show T + 1 + j = T + (j + 1) by omega] at b1
    exact ⟨b1.mono (by omega), by omega, b3.trans a3⟩
end
section
/-! THE CLASS: what can be seen -/
theorem swN (n : Nat) (hn : n < 2 ^ 31) (w : Int32) : (∃ k : Nat, k ≤ n ∧ w = nI k) ∨ (w.toInt < 0 ∨ (n : Int) < w.toInt) := by
  by_cases h : w < 0
  · right; left
    exact Int32.lt_iff_toInt_lt.mp h
  · obtain ⟨k, hk, e⟩ := nI_of h
    by_cases h2 : k ≤ n
    · exact Or.inl ⟨k, h2, e⟩
    · right; right
      rw [e, nI_toInt hk]; omega
def seenN (K : KT) (t k : Nat) : Int32 := match k with
  | 0 => K.1 6 t
  | 1 => if K.1 6 t = 0 then -1 else nI (K.2 1 t)
  | 2 => if K.1 6 t = 0 then 0 else sgn K (VR K t)
  | 3 => K.1 15 t
  | 4 => K.1 16 t
  | 5 => K.1 17 t
  | 6 => K.1 18 t
  | 7 => K.1 19 t
  | 8 => K.1 20 t
  | _ => mi (K.2 3 t)
/-- what class and reference do to the ranks when the urgency is asked -/
def seenC (K : KT) (t k : Nat) : KT := if k = 2 ∧ ¬ K.1 6 t = 0 then weighK K else K
theorem e_urg (K M : KT) (G : GT) (t : Nat) (h : Inv K) : Ev M_X6_urgencyOf 0 (ent M_X6_urgencyOf [vR 7 0, vR 6 t]) [] (conc K M G) (0, some (vI (seenN K t 2)), conc (seenC K t 2) M G) := by
  show Ev M_X6_urgencyOf 0 [vR 7 0, vR 6 t] [] (conc K M G) _
  refine ev_aload_n dX6_urgencyOf_0 rfl rfl ?_
  refine ev_getf dX6_urgencyOf_1 fl_6_128 ?_
  refine ev_getf dX6_urgencyOf_4 fl_6_132 ?_
  refine ev_if_ne (tgt := 12) dX6_urgencyOf_7 rfl (fun c7 => ?_) (fun c7 => ?_)
  · rw [show seenN K t 2 = sgn K (VR K t) from if_neg c7, show seenC K t 2 = weighK K from if_pos ⟨rfl, c7⟩]
    refine ev_aload_n dX6_urgencyOf_12 rfl rfl ?_
    refine evV1 dX6_urgencyOf_13 cl_X6_urgencyOf_247 ⟨rfl, rfl, fun _ => ⟨_, rfl⟩⟩ (Nat.le_of_ble_eq_true rfl) (e_rankTasks K M G h.1.1 h.1.2.1 (conv h)) ?_
    refine ev_aload_n dX6_urgencyOf_16 rfl rfl ?_
    refine ev_getf dX6_urgencyOf_17 fl_6_28 ?_
    refine ev_if_eq (tgt := 34) dX6_urgencyOf_20 rfl (fun c20 => ?_) (fun c20 => ?_)
    · refine ev_aload_n dX6_urgencyOf_34 rfl rfl ?_
      refine ev_getf dX6_urgencyOf_35 fl_6_128 ?_
      refine ev_getf dX6_urgencyOf_38 fl_6_278 ?_
      rw [show sgn K (VR K t) = VR K t from if_pos c20]
      exact ev_iret dX6_urgencyOf_41 (Or.inl rfl)
    · refine ev_aload_n dX6_urgencyOf_23 rfl rfl ?_
      refine ev_getf dX6_urgencyOf_24 fl_6_128 ?_
      refine ev_getf dX6_urgencyOf_27 fl_6_278 ?_
      refine ev_ineg dX6_urgencyOf_30 ?_
      refine ev_goto (tgt := 41) dX6_urgencyOf_31 rfl ?_
      rw [show sgn K (VR K t) = -(VR K t) from if_neg c20]
      exact ev_iret dX6_urgencyOf_41 (Or.inl rfl)
  · rw [show seenN K t 2 = 0 from if_pos (Classical.not_not.mp c7), show seenC K t 2 = K from if_neg (fun q => c7 q.2)]
    refine ev_iconst (v := 0) dX6_urgencyOf_10 rfl ?_
    exact ev_iret dX6_urgencyOf_11 (Or.inl rfl)
theorem e_seen (K M : KT) (G : GT) (t k : Nat) (h : Inv K) (ht : t < K.2 0 0) (hk : k ≤ 9) : Ev M_X6_seen 0 (ent M_X6_seen [vR 7 0, vI (nI t), vI (nI k)]) [] (conc K M G) (0, some (vI (seenN K t k)), conc (seenC K t k) M G) := by
  show Ev M_X6_seen 0 [vR 7 0, vI (nI t), vI (nI k), vU] [] (conc K M G) _
  have hn := h.1.1
  have ok : isT (K.2 0 0) (nI t) := isT_of (by omega) ht
  refine ev_aload_n dX6_seen_0 rfl rfl ?_
  refine ev_iload_n dX6_seen_1 rfl ?_
  refine evV2 dX6_seen_2 cl_X6_seen_58 ⟨rfl, rfl, fun _ => ⟨_, rfl⟩⟩ (Nat.le_of_ble_eq_true rfl) (e_isTask K M G (nI t) hn) ?_
  refine ev_if_ne (tgt := 10) dX6_seen_5 rfl (fun c5 => ?_) (fun c5 => ?_)
  · refine ev_aload_n dX6_seen_10 rfl rfl ?_
    refine ev_getf dX6_seen_11 fl_6_11 ?_
    refine ev_iload_n dX6_seen_14 rfl ?_
    refine ev_aaldv dX6_seen_15 rfl rfl (show _ < 8 from by omega) (co_tasks ht) ?_
    refine ev_astore_n dX6_seen_16 rfl rfl ?_
    refine ev_iload_n dX6_seen_17 rfl ?_
    match k, hk with
    | 0, _ =>
      refine ev_tsIn (tgt := 72) dX6_seen_18 (by decide) (by decide) rfl rfl ?_
      rw [show seenC K t 0 = K from if_neg (fun q => nomatch q.1)]
      refine ev_aload_n dX6_seen_72 rfl rfl ?_
      refine ev_getf dX6_seen_73 fl_6_128 ?_
      refine ev_getf dX6_seen_76 fl_6_132 ?_
      exact ev_iret dX6_seen_79 (Or.inl rfl)
    | 1, _ =>
      refine ev_tsIn (tgt := 80) dX6_seen_18 (by decide) (by decide) rfl rfl ?_
      rw [show seenC K t 1 = K from if_neg (fun q => nomatch q.1)]
      refine ev_aload_n dX6_seen_80 rfl rfl ?_
      refine ev_getf dX6_seen_81 fl_6_128 ?_
      refine ev_getf dX6_seen_84 fl_6_132 ?_
      refine ev_if_ne (tgt := 94) dX6_seen_87 rfl (fun c87 => ?_) (fun c87 => ?_)
      · refine ev_aload_n dX6_seen_94 rfl rfl ?_
        refine ev_getf dX6_seen_95 fl_6_128 ?_
        refine ev_getf dX6_seen_98 fl_6_204 ?_
        rw [show seenN K t 1 = nI (K.2 1 t) from if_neg c87]
        exact ev_iret dX6_seen_101 (Or.inl rfl)
      · refine ev_iconst (v := (-1)) dX6_seen_90 rfl ?_
        refine ev_goto (tgt := 101) dX6_seen_91 rfl ?_
        rw [show seenN K t 1 = -1 from if_pos (Classical.not_not.mp c87)]
        exact ev_iret dX6_seen_101 (Or.inl rfl)
    | 2, _ =>
      refine ev_tsIn (tgt := 102) dX6_seen_18 (by decide) (by decide) rfl rfl ?_
      refine ev_aload_n dX6_seen_102 rfl rfl ?_
      refine ev_aload_n dX6_seen_103 rfl rfl ?_
      refine evV2 dX6_seen_104 cl_X6_seen_290 ⟨rfl, rfl, fun _ => ⟨_, rfl⟩⟩ (Nat.le_of_ble_eq_true rfl) (e_urg K M G t h) ?_
      exact ev_iret dX6_seen_107 (Or.inl rfl)
    | 3, _ =>
      refine ev_tsIn (tgt := 108) dX6_seen_18 (by decide) (by decide) rfl rfl ?_
      rw [show seenC K t 3 = K from if_neg (fun q => nomatch q.1)]
      refine ev_aload_n dX6_seen_108 rfl rfl ?_
      refine ev_getf dX6_seen_109 fl_6_140 ?_
      refine ev_getf dX6_seen_112 fl_6_294 ?_
      exact ev_iret dX6_seen_115 (Or.inl rfl)
    | 4, _ =>
      refine ev_tsIn (tgt := 116) dX6_seen_18 (by decide) (by decide) rfl rfl ?_
      rw [show seenC K t 4 = K from if_neg (fun q => nomatch q.1)]
      refine ev_aload_n dX6_seen_116 rfl rfl ?_
      refine ev_getf dX6_seen_117 fl_6_140 ?_
      refine ev_getf dX6_seen_120 fl_6_153 ?_
      exact ev_iret dX6_seen_123 (Or.inl rfl)
    | 5, _ =>
      refine ev_tsIn (tgt := 124) dX6_seen_18 (by decide) (by decide) rfl rfl ?_
      rw [show seenC K t 5 = K from if_neg (fun q => nomatch q.1)]
      refine ev_aload_n dX6_seen_124 rfl rfl ?_
      refine ev_getf dX6_seen_125 fl_6_140 ?_
      refine ev_getf dX6_seen_128 fl_6_144 ?_
      exact ev_iret dX6_seen_131 (Or.inl rfl)
    | 6, _ =>
      refine ev_tsIn (tgt := 132) dX6_seen_18 (by decide) (by decide) rfl rfl ?_
      rw [show seenC K t 6 = K from if_neg (fun q => nomatch q.1)]
      refine ev_aload_n dX6_seen_132 rfl rfl ?_
      refine ev_getf dX6_seen_133 fl_6_140 ?_
      refine ev_getf dX6_seen_136 fl_6_163 ?_
      exact ev_iret dX6_seen_139 (Or.inl rfl)
    | 7, _ =>
      refine ev_tsIn (tgt := 140) dX6_seen_18 (by decide) (by decide) rfl rfl ?_
      rw [show seenC K t 7 = K from if_neg (fun q => nomatch q.1)]
      refine ev_aload_n dX6_seen_140 rfl rfl ?_
      refine ev_getf dX6_seen_141 fl_6_140 ?_
      refine ev_getf dX6_seen_144 fl_6_196 ?_
      exact ev_iret dX6_seen_147 (Or.inl rfl)
    | 8, _ =>
      refine ev_tsIn (tgt := 148) dX6_seen_18 (by decide) (by decide) rfl rfl ?_
      rw [show seenC K t 8 = K from if_neg (fun q => nomatch q.1)]
      refine ev_aload_n dX6_seen_148 rfl rfl ?_
      refine ev_getf dX6_seen_149 fl_6_140 ?_
      refine ev_getf dX6_seen_152 fl_6_297 ?_
      exact ev_iret dX6_seen_155 (Or.inl rfl)
    | 9, _ =>
      refine ev_tsIn (tgt := 156) dX6_seen_18 (by decide) (by decide) rfl rfl ?_
      rw [show seenC K t 9 = K from if_neg (fun q => nomatch q.1)]
      rcases hw : K.2 3 t with _ | m
      · rw [show seenN K t 9 = -1 by show mi (K.2 3 t) = _; rw [hw]; rfl]
        refine ev_aload_n dX6_seen_156 rfl rfl ?_
        refine ev_getf dX6_seen_157 fl_6_128 ?_
        refine ev_getfv dX6_seen_160 fl_6_257 (co_wait hw) ?_
        refine ev_ifnonnull (tgt := 170) dX6_seen_163 rfl rfl (fun c163 => ?_) (fun c163 => ?_)
        · exact absurd rfl c163
        · refine ev_iconst (v := (-1)) dX6_seen_166 rfl ?_
          refine ev_goto (tgt := 180) dX6_seen_167 rfl ?_
          exact ev_iret dX6_seen_180 (Or.inl rfl)
      · rw [show seenN K t 9 = nI m by show mi (K.2 3 t) = _; rw [hw]; rfl]
        refine ev_aload_n dX6_seen_156 rfl rfl ?_
        refine ev_getf dX6_seen_157 fl_6_128 ?_
        refine ev_getfv dX6_seen_160 fl_6_257 (co_wait hw) ?_
        refine ev_ifnonnull (tgt := 170) dX6_seen_163 rfl rfl (fun c163 => ?_) (fun c163 => ?_)
        · refine ev_aload_n dX6_seen_170 rfl rfl ?_
          refine ev_getf dX6_seen_171 fl_6_128 ?_
          refine ev_getfv dX6_seen_174 fl_6_257 (co_wait hw) ?_
          refine ev_getf dX6_seen_177 fl_6_300 ?_
          exact ev_iret dX6_seen_180 (Or.inl rfl)
        · exact nomatch c163
    | k + 10, h => omega
  · exact absurd ok (bI_0.mp (Classical.not_not.mp c5))
theorem e_seenN (K M : KT) (G : GT) (x : Int32) (w : Int32) (hn : K.2 0 0 ≤ 8) (hx : ¬ isT (K.2 0 0) x ∨ (w.toInt < 0 ∨ 9 < w.toInt)) : Ev M_X6_seen 0 (ent M_X6_seen [vR 7 0, vI x, vI w]) [] (conc K M G) (0, some (vI (-1)), conc K M G) := by
  show Ev M_X6_seen 0 [vR 7 0, vI x, vI w, vU] [] (conc K M G) _
  by_cases ok : isT (K.2 0 0) x
  · obtain ⟨t, ht, e⟩ := isT_ex (by omega) ok
    subst e
    refine ev_aload_n dX6_seen_0 rfl rfl ?_
    refine ev_iload_n dX6_seen_1 rfl ?_
    refine evV2 dX6_seen_2 cl_X6_seen_58 ⟨rfl, rfl, fun _ => ⟨_, rfl⟩⟩ (Nat.le_of_ble_eq_true rfl) (e_isTask K M G (nI t) hn) ?_
    refine ev_if_ne (tgt := 10) dX6_seen_5 rfl (fun c5 => ?_) (fun c5 => ?_)
    · refine ev_aload_n dX6_seen_10 rfl rfl ?_
      refine ev_getf dX6_seen_11 fl_6_11 ?_
      refine ev_iload_n dX6_seen_14 rfl ?_
      refine ev_aaldv dX6_seen_15 rfl rfl (show _ < 8 from by omega) (co_tasks ht) ?_
      refine ev_astore_n dX6_seen_16 rfl rfl ?_
      refine ev_iload_n dX6_seen_17 rfl ?_
      refine ev_tsOut (tgt := 181) dX6_seen_18 (hx.resolve_left (fun q => q ok)) rfl ?_
      refine ev_iconst (v := (-1)) dX6_seen_181 rfl ?_
      exact ev_iret dX6_seen_182 (Or.inl rfl)
    · exact absurd ok (bI_0.mp (Classical.not_not.mp c5))
  · refine ev_aload_n dX6_seen_0 rfl rfl ?_
    refine ev_iload_n dX6_seen_1 rfl ?_
    refine evV2 dX6_seen_2 cl_X6_seen_58 ⟨rfl, rfl, fun _ => ⟨_, rfl⟩⟩ (Nat.le_of_ble_eq_true rfl) (e_isTask K M G x hn) ?_
    refine ev_if_ne (tgt := 10) dX6_seen_5 rfl (fun c5 => ?_) (fun c5 => ?_)
    · exact absurd (bI_f ok) c5
    · refine ev_iconst (v := (-1)) dX6_seen_8 rfl ?_
      exact ev_iret dX6_seen_9 (Or.inl rfl)
/-! mutexes -/
def cntB (K : KT) (m : Nat) : Nat → Nat → Nat → Nat
  | 0, _, c => c
  | j + 1, t, c => cntB K m j (t + 1) (if K.2 3 t = m + 1 then c + 1 else c)
theorem cnt_loop (K M : KT) (G : GT) (m : Nat) (hn : K.2 0 0 ≤ 8) : ∀ (j i c : Nat), i + j = K.2 0 0 → Ev M_X6_countBlockedAt 4 [vR 7 0, vR 4 m, vI (nI c), vI (nI i)] [] (conc K M G) (0, some (vI (nI (cntB K m j i c))), conc K M G) := by
  have hq : ∀ w : Nat, (rfq 4 w = vR 4 m) ↔ w = m + 1 := by
    intro w
    rcases w with _ | d
    · exact ⟨(fun h => nomatch h), fun h => by omega⟩
    · exact ⟨fun h => by cases h; rfl, fun h => by rw [Nat.succ.inj h]; rfl⟩
  intro j
  induction j with
  | zero =>
    intro i c hi
    refine ev_iload_n dX6_countBlockedAt_4 rfl ?_
    refine ev_aload_n dX6_countBlockedAt_5 rfl rfl ?_
    refine ev_getf dX6_countBlockedAt_6 fl_6_46 ?_
    refine ev_icmp_ge (tgt := 37) dX6_countBlockedAt_9 rfl (fun c9 => ?_) (fun c9 => ?_)
    · refine ev_iload_n dX6_countBlockedAt_37 rfl ?_
      exact ev_iret dX6_countBlockedAt_38 (Or.inl rfl)
    · exact absurd (nI_le (a := K.2 0 0) (b := i) (by omega) (by omega)) c9
  | succ j ih =>
    intro i c hi
    have e1 : nI i + Int32.ofInt 1 = nI (i + 1) := nI_1 i
    have e2 : nI c + Int32.ofInt 1 = nI (c + 1) := nI_1 c
    refine ev_iload_n dX6_countBlockedAt_4 rfl ?_
    refine ev_aload_n dX6_countBlockedAt_5 rfl rfl ?_
    refine ev_getf dX6_countBlockedAt_6 fl_6_46 ?_
    refine ev_icmp_ge (tgt := 37) dX6_countBlockedAt_9 rfl (fun c9 => ?_) (fun c9 => ?_)
    · exact absurd c9 (nI_ge (a := i) (b := K.2 0 0) (by omega) (by omega))
    · refine ev_aload_n dX6_countBlockedAt_12 rfl rfl ?_
      refine ev_getf dX6_countBlockedAt_13 fl_6_11 ?_
      refine ev_iload_n dX6_countBlockedAt_16 rfl ?_
      refine ev_aaldv dX6_countBlockedAt_17 rfl rfl (show _ < 8 from by omega) (co_tasks (by omega)) ?_
      refine ev_getf dX6_countBlockedAt_18 fl_6_128 ?_
      refine ev_getfv dX6_countBlockedAt_21 fl_6_257 (co_wait rfl) ?_
      refine ev_aload_n dX6_countBlockedAt_24 rfl rfl ?_
      refine ev_acmp_ne (tgt := 31) dX6_countBlockedAt_25 rfl (isRf_rfq _ _) rfl (fun c25 => ?_) (fun c25 => ?_)
      · refine ev_iinc dX6_countBlockedAt_31 rfl ?_
        refine ev_goto (tgt := 4) dX6_countBlockedAt_34 rfl ?_
        simp only [cntB]
        rw [if_neg (fun q => c25 ((hq _).mpr q)), e1]
        exact ih (i + 1) c (by omega)
      · refine ev_iinc dX6_countBlockedAt_28 rfl ?_
        refine ev_iinc dX6_countBlockedAt_31 rfl ?_
        refine ev_goto (tgt := 4) dX6_countBlockedAt_34 rfl ?_
        simp only [cntB]
        rw [if_pos ((hq _).mp c25), e1, e2]
        exact ih (i + 1) (c + 1) (by omega)
theorem e_cnt (K M : KT) (G : GT) (m : Nat) (hn : K.2 0 0 ≤ 8) : Ev M_X6_countBlockedAt 0 (ent M_X6_countBlockedAt [vR 7 0, vR 4 m]) [] (conc K M G) (0, some (vI (nI (cntB K m (K.2 0 0) 0 0))), conc K M G) := by
  show Ev M_X6_countBlockedAt 0 [vR 7 0, vR 4 m, vU, vU] [] (conc K M G) _
  have hl := cnt_loop K M G m hn (K.2 0 0) 0 0 (by omega)
  refine ev_iconst (v := 0) dX6_countBlockedAt_0 rfl ?_
  refine ev_istore_n dX6_countBlockedAt_1 rfl ?_
  refine ev_iconst (v := 0) dX6_countBlockedAt_2 rfl ?_
  refine ev_istore_n dX6_countBlockedAt_3 rfl ?_
  exact hl
/-! the reckoning: locks, sections, costs -/
def hasL (K : KT) (t : Nat) (x : Int32) : Nat → Nat → Bool
  | 0, _ => false
  | j + 1, k => (decide (K.1 26 (10 * t + k) = 1) && decide (K.1 27 (10 * t + k) = x)) || hasL K t x j (k + 1)
theorem has_loop (K M : KT) (G : GT) (t : Nat) (x : Int32) (hz : K.2 2 t ≤ 10) : ∀ (j i : Nat), i + j = K.2 2 t → Ev M_X0_hasLockOf 2 [vR 1 t, vI x, vI (nI i)] [] (conc K M G) (0, some (vI (bI (hasL K t x j i = true))), conc K M G) := by
  intro j
  induction j with
  | zero =>
    intro i hi
    refine ev_iload_n dX0_hasLockOf_2 rfl ?_
    refine ev_aload_n dX0_hasLockOf_3 rfl rfl ?_
    refine ev_getf dX0_hasLockOf_4 fl_0_18 ?_
    refine ev_icmp_ge (tgt := 38) dX0_hasLockOf_7 rfl (fun c7 => ?_) (fun c7 => ?_)
    · refine ev_iconst (v := 0) dX0_hasLockOf_38 rfl ?_
      exact ev_iret dX0_hasLockOf_39 (Or.inr ⟨rfl, rfl⟩)
    · exact absurd (nI_le (a := K.2 2 t) (b := i) (by omega) (by omega)) c7
  | succ j ih =>
    intro i hi
    have e1 : nI i + Int32.ofInt 1 = nI (i + 1) := nI_1 i
    refine ev_iload_n dX0_hasLockOf_2 rfl ?_
    refine ev_aload_n dX0_hasLockOf_3 rfl rfl ?_
    refine ev_getf dX0_hasLockOf_4 fl_0_18 ?_
    refine ev_icmp_ge (tgt := 38) dX0_hasLockOf_7 rfl (fun c7 => ?_) (fun c7 => ?_)
    · exact absurd c7 (nI_ge (a := i) (b := K.2 2 t) (by omega) (by omega))
    · refine ev_aload_n dX0_hasLockOf_10 rfl rfl ?_
      refine ev_getf dX0_hasLockOf_11 fl_0_9 ?_
      refine ev_iload_n dX0_hasLockOf_14 rfl ?_
      refine ev_ialdv dX0_hasLockOf_15 rfl rfl (show _ < 10 from by omega) (co_bk (by omega)) ?_
      refine ev_iconst (v := 1) dX0_hasLockOf_16 rfl ?_
      refine ev_icmp_ne (tgt := 32) dX0_hasLockOf_17 rfl (fun c17 => ?_) (fun c17 => ?_)
      · refine ev_iinc dX0_hasLockOf_32 rfl ?_
        refine ev_goto (tgt := 2) dX0_hasLockOf_35 rfl ?_
        rw [show hasL K t x (j + 1) i = hasL K t x j (i + 1) by simp [hasL, c17], e1]
        exact ih (i + 1) (by omega)
      · refine ev_aload_n dX0_hasLockOf_20 rfl rfl ?_
        refine ev_getf dX0_hasLockOf_21 fl_0_15 ?_
        refine ev_iload_n dX0_hasLockOf_24 rfl ?_
        refine ev_ialdv dX0_hasLockOf_25 rfl rfl (show _ < 10 from by omega) (co_ba (by omega)) ?_
        refine ev_iload_n dX0_hasLockOf_26 rfl ?_
        refine ev_icmp_ne (tgt := 32) dX0_hasLockOf_27 rfl (fun c27 => ?_) (fun c27 => ?_)
        · refine ev_iinc dX0_hasLockOf_32 rfl ?_
          refine ev_goto (tgt := 2) dX0_hasLockOf_35 rfl ?_
          rw [show hasL K t x (j + 1) i = hasL K t x j (i + 1) by simp [hasL, c27], e1]
          exact ih (i + 1) (by omega)
        · refine ev_iconst (v := 1) dX0_hasLockOf_30 rfl ?_
          rw [bI_t (p := hasL K t x (j + 1) i = true) (by simp [hasL, Classical.not_not.mp c17, Classical.not_not.mp c27])]
          exact ev_iret dX0_hasLockOf_31 (Or.inr ⟨rfl, rfl⟩)
theorem e_has (K M : KT) (G : GT) (t : Nat) (x : Int32) (hz : K.2 2 t ≤ 10) : Ev M_X0_hasLockOf 0 (ent M_X0_hasLockOf [vR 1 t, vI x]) [] (conc K M G) (0, some (vI (bI (hasL K t x (K.2 2 t) 0 = true))), conc K M G) := by
  show Ev M_X0_hasLockOf 0 [vR 1 t, vI x, vU] [] (conc K M G) _
  have hl := has_loop K M G t x hz (K.2 2 t) 0 (by omega)
  refine ev_iconst (v := 0) dX0_hasLockOf_0 rfl ?_
  refine ev_istore_n dX0_hasLockOf_1 rfl ?_
  exact hl
def mxI (a b : Int32) : Int32 := if a < b then b else a
def ceilN (K : KT) (x : Int32) : Nat → Nat → Int32 → Int32
  | 0, _, c => c
  | j + 1, t, c => ceilN K x j (t + 1) (if hasL K t x (K.2 2 t) 0 = true then mxI c (K.1 0 t) else c)
def ceilV (K : KT) (x : Int32) : Int32 := ceilN K x (K.2 0 0) 0 0
theorem ceil_loop (K M : KT) (G : GT) (x : Int32) (h : Inv K) : ∀ (j i : Nat) (c : Int32), i + j = K.2 0 0 → Ev M_X6_ceilOf 4 [vR 7 0, vI x, vI c, vI (nI i)] [] (conc K M G) (0, some (vI (ceilN K x j i c)), conc K M G) := by
  have hn := h.1.1
  intro j
  induction j with
  | zero =>
    intro i c hi
    refine ev_iload_n dX6_ceilOf_4 rfl ?_
    refine ev_aload_n dX6_ceilOf_5 rfl rfl ?_
    refine ev_getf dX6_ceilOf_6 fl_6_46 ?_
    refine ev_icmp_ge (tgt := 48) dX6_ceilOf_9 rfl (fun c9 => ?_) (fun c9 => ?_)
    · refine ev_iload_n dX6_ceilOf_48 rfl ?_
      exact ev_iret dX6_ceilOf_49 (Or.inl rfl)
    · exact absurd (nI_le (a := K.2 0 0) (b := i) (by omega) (by omega)) c9
  | succ j ih =>
    intro i c hi
    have e1 : nI i + Int32.ofInt 1 = nI (i + 1) := nI_1 i
    refine ev_iload_n dX6_ceilOf_4 rfl ?_
    refine ev_aload_n dX6_ceilOf_5 rfl rfl ?_
    refine ev_getf dX6_ceilOf_6 fl_6_46 ?_
    refine ev_icmp_ge (tgt := 48) dX6_ceilOf_9 rfl (fun c9 => ?_) (fun c9 => ?_)
    · exact absurd c9 (nI_ge (a := i) (b := K.2 0 0) (by omega) (by omega))
    · refine ev_aload_n dX6_ceilOf_12 rfl rfl ?_
      refine ev_getf dX6_ceilOf_13 fl_6_11 ?_
      refine ev_iload_n dX6_ceilOf_16 rfl ?_
      refine ev_aaldv dX6_ceilOf_17 rfl rfl (show _ < 8 from by omega) (co_tasks (by omega)) ?_
      refine ev_getf dX6_ceilOf_18 fl_6_81 ?_
      refine ev_iload_n dX6_ceilOf_21 rfl ?_
      refine evV2 dX6_ceilOf_22 cl_X6_ceilOf_339 ⟨rfl, rfl, fun _ => ⟨_, rfl⟩⟩ (Nat.le_of_ble_eq_true rfl) (e_has K M G i x (h.2.2.1 i (by omega)).1) ?_
      refine ev_if_eq (tgt := 42) dX6_ceilOf_25 rfl (fun c25 => ?_) (fun c25 => ?_)
      · refine ev_iinc dX6_ceilOf_42 rfl ?_
        refine ev_goto (tgt := 4) dX6_ceilOf_45 rfl ?_
        simp only [ceilN]
        rw [if_neg (bI_0.mp c25), e1]
        exact ih (i + 1) c (by omega)
      · refine ev_iload_n dX6_ceilOf_28 rfl ?_
        refine ev_aload_n dX6_ceilOf_29 rfl rfl ?_
        refine ev_getf dX6_ceilOf_30 fl_6_11 ?_
        refine ev_iload_n dX6_ceilOf_33 rfl ?_
        refine ev_aaldv dX6_ceilOf_34 rfl rfl (show _ < 8 from by omega) (co_tasks (by omega)) ?_
        refine ev_getf dX6_ceilOf_35 fl_6_238 ?_
        refine ev_mmax dX6_ceilOf_38 ml_6_331 (Nat.le_of_ble_eq_true rfl) ?_
        refine ev_istore_n dX6_ceilOf_41 rfl ?_
        refine ev_iinc dX6_ceilOf_42 rfl ?_
        refine ev_goto (tgt := 4) dX6_ceilOf_45 rfl ?_
        simp only [ceilN]
        rw [if_pos (Classical.not_not.mp (fun q => c25 (bI_f q))), e1]
        exact ih (i + 1) _ (by omega)
theorem e_ceil (K M : KT) (G : GT) (x : Int32) (h : Inv K) : Ev M_X6_ceilOf 0 (ent M_X6_ceilOf [vR 7 0, vI x]) [] (conc K M G) (0, some (vI (ceilV K x)), conc K M G) := by
  show Ev M_X6_ceilOf 0 [vR 7 0, vI x, vU, vU] [] (conc K M G) _
  have hl := ceil_loop K M G x h (K.2 0 0) 0 0 (by omega)
  refine ev_iconst (v := 0) dX6_ceilOf_0 rfl ?_
  refine ev_istore_n dX6_ceilOf_1 rfl ?_
  refine ev_iconst (v := 0) dX6_ceilOf_2 rfl ?_
  refine ev_istore_n dX6_ceilOf_3 rfl ?_
  exact hl
def heldN (K : KT) (m k : Nat) : Int32 := match k with
  | 0 => mi (K.2 4 m)
  | 1 => nI (cntB K m (K.2 0 0) 0 0)
  | _ => ceilV K (nI m)
theorem e_held (K M : KT) (G : GT) (m k : Nat) (h : Inv K) (hm : m < K.2 0 1) (hk : k ≤ 2) : Ev M_X6_held 0 (ent M_X6_held [vR 7 0, vI (nI m), vI (nI k)]) [] (conc K M G) (0, some (vI (heldN K m k)), conc K M G) := by
  show Ev M_X6_held 0 [vR 7 0, vI (nI m), vI (nI k), vU] [] (conc K M G) _
  have hn := h.1.2.1
  have ok : isT (K.2 0 1) (nI m) := isT_of (by omega) hm
  refine ev_aload_n dX6_held_0 rfl rfl ?_
  refine ev_iload_n dX6_held_1 rfl ?_
  refine evV2 dX6_held_2 cl_X6_held_98 ⟨rfl, rfl, fun _ => ⟨_, rfl⟩⟩ (Nat.le_of_ble_eq_true rfl) (e_isMutex K M G (nI m) (by omega)) ?_
  refine ev_if_ne (tgt := 10) dX6_held_5 rfl (fun c5 => ?_) (fun c5 => ?_)
  · refine ev_aload_n dX6_held_10 rfl rfl ?_
    refine ev_getf dX6_held_11 fl_6_17 ?_
    refine ev_iload_n dX6_held_14 rfl ?_
    refine ev_aaldv dX6_held_15 rfl rfl (show _ < 4 from by omega) (co_muts hm) ?_
    refine ev_astore_n dX6_held_16 rfl rfl ?_
    refine ev_iload_n dX6_held_17 rfl ?_
    match k, hk with
    | 0, _ =>
      refine ev_tsIn (tgt := 44) dX6_held_18 (by decide) (by decide) rfl rfl ?_
      rcases ho : K.2 4 m with _ | t
      · rw [show heldN K m 0 = -1 by show mi (K.2 4 m) = _; rw [ho]; rfl]
        refine ev_aload_n dX6_held_44 rfl rfl ?_
        refine ev_getfv dX6_held_45 fl_6_221 (co_own ho) ?_
        refine ev_ifnonnull (tgt := 55) dX6_held_48 rfl rfl (fun c48 => ?_) (fun c48 => ?_)
        · exact absurd rfl c48
        · refine ev_iconst (v := (-1)) dX6_held_51 rfl ?_
          refine ev_goto (tgt := 62) dX6_held_52 rfl ?_
          exact ev_iret dX6_held_62 (Or.inl rfl)
      · rw [show heldN K m 0 = nI t by show mi (K.2 4 m) = _; rw [ho]; rfl]
        refine ev_aload_n dX6_held_44 rfl rfl ?_
        refine ev_getfv dX6_held_45 fl_6_221 (co_own ho) ?_
        refine ev_ifnonnull (tgt := 55) dX6_held_48 rfl rfl (fun c48 => ?_) (fun c48 => ?_)
        · refine ev_aload_n dX6_held_55 rfl rfl ?_
          refine ev_getfv dX6_held_56 fl_6_221 (co_own ho) ?_
          refine ev_getf dX6_held_59 fl_6_268 ?_
          exact ev_iret dX6_held_62 (Or.inl rfl)
        · exact nomatch c48
    | 1, _ =>
      refine ev_tsIn (tgt := 63) dX6_held_18 (by decide) (by decide) rfl rfl ?_
      refine ev_aload_n dX6_held_63 rfl rfl ?_
      refine ev_aload_n dX6_held_64 rfl rfl ?_
      refine evV2 dX6_held_65 cl_X6_held_301 ⟨rfl, rfl, fun _ => ⟨_, rfl⟩⟩ (Nat.le_of_ble_eq_true rfl) (e_cnt K M G m h.1.1) ?_
      exact ev_iret dX6_held_68 (Or.inl rfl)
    | 2, _ =>
      refine ev_tsIn (tgt := 69) dX6_held_18 (by decide) (by decide) rfl rfl ?_
      refine ev_aload_n dX6_held_69 rfl rfl ?_
      refine ev_iload_n dX6_held_70 rfl ?_
      refine evV2 dX6_held_71 cl_X6_held_305 ⟨rfl, rfl, fun _ => ⟨_, rfl⟩⟩ (Nat.le_of_ble_eq_true rfl) (e_ceil K M G (nI m) h) ?_
      exact ev_iret dX6_held_74 (Or.inl rfl)
    | k + 3, h => omega
  · exact absurd ok (bI_0.mp (Classical.not_not.mp c5))
theorem e_heldN (K M : KT) (G : GT) (x : Int32) (w : Int32) (hn : K.2 0 1 ≤ 4) (hx : ¬ isT (K.2 0 1) x ∨ (w.toInt < 0 ∨ 2 < w.toInt)) : Ev M_X6_held 0 (ent M_X6_held [vR 7 0, vI x, vI w]) [] (conc K M G) (0, some (vI (-1)), conc K M G) := by
  show Ev M_X6_held 0 [vR 7 0, vI x, vI w, vU] [] (conc K M G) _
  by_cases ok : isT (K.2 0 1) x
  · obtain ⟨t, ht, e⟩ := isT_ex (by omega) ok
    subst e
    refine ev_aload_n dX6_held_0 rfl rfl ?_
    refine ev_iload_n dX6_held_1 rfl ?_
    refine evV2 dX6_held_2 cl_X6_held_98 ⟨rfl, rfl, fun _ => ⟨_, rfl⟩⟩ (Nat.le_of_ble_eq_true rfl) (e_isMutex K M G (nI t) (by omega)) ?_
    refine ev_if_ne (tgt := 10) dX6_held_5 rfl (fun c5 => ?_) (fun c5 => ?_)
    · refine ev_aload_n dX6_held_10 rfl rfl ?_
      refine ev_getf dX6_held_11 fl_6_17 ?_
      refine ev_iload_n dX6_held_14 rfl ?_
      refine ev_aaldv dX6_held_15 rfl rfl (show _ < 4 from by omega) (co_muts ht) ?_
      refine ev_astore_n dX6_held_16 rfl rfl ?_
      refine ev_iload_n dX6_held_17 rfl ?_
      refine ev_tsOut (tgt := 75) dX6_held_18 (hx.resolve_left (fun q => q ok)) rfl ?_
      refine ev_iconst (v := (-1)) dX6_held_75 rfl ?_
      exact ev_iret dX6_held_76 (Or.inl rfl)
    · exact absurd ok (bI_0.mp (Classical.not_not.mp c5))
  · refine ev_aload_n dX6_held_0 rfl rfl ?_
    refine ev_iload_n dX6_held_1 rfl ?_
    refine evV2 dX6_held_2 cl_X6_held_98 ⟨rfl, rfl, fun _ => ⟨_, rfl⟩⟩ (Nat.le_of_ble_eq_true rfl) (e_isMutex K M G x (by omega)) ?_
    refine ev_if_ne (tgt := 10) dX6_held_5 rfl (fun c5 => ?_) (fun c5 => ?_)
    · exact absurd (bI_f ok) c5
    · refine ev_iconst (v := (-1)) dX6_held_8 rfl ?_
      exact ev_iret dX6_held_9 (Or.inl rfl)
end
