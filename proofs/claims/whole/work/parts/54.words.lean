/-! THE LAW'S WORDS OUT OF THE TABLES -/
theorem in_blk {ws big : List Cond} (ps : List Nat) (hp : ws.filter k2_isCode = ps.filterMap (fun i => big[i]?)) (hn : (ws.filter (fun w => !k2_isCode w)).all (fun w => decide (w ∈ big)) = true) : ∀ w ∈ ws, w ∈ big := fun w hw =>
  match hc : k2_isCode w with
  | true => (List.mem_filterMap.mp (show w ∈ ps.filterMap (fun i => big[i]?) by rw [← hp]; simp [hw, hc])).elim fun _ h => List.mem_of_getElem? h.2
  | false => by
    simp only [List.all_eq_true, List.mem_filter, decide_eq_true_eq] at hn
    exact hn w ⟨hw, by rw [hc]; rfl⟩
theorem iw_1 : ∀ w ∈ wsL_law0_r1, w ∈ lw_tbl := in_blk [232, 66, 69] (by decide +kernel) (by decide +kernel)
theorem iw_2 : ∀ w ∈ wsL_law0_r2, w ∈ lw_tbl := in_blk [78, 636] (by decide +kernel) (by decide +kernel)
theorem iw_3 : ∀ w ∈ wsL_law0_r3, w ∈ lw_tbl := in_blk [] (by decide +kernel) (by decide +kernel)
theorem iw_4 : ∀ w ∈ wsL_law0_r4, w ∈ lw_tbl := in_blk [241, 139, 328] (by decide +kernel) (by decide +kernel)
theorem iw_5 : ∀ w ∈ wsL_law0_r5, w ∈ lw_tbl := in_blk [334, 355] (by decide +kernel) (by decide +kernel)
theorem iw_6 : ∀ w ∈ wsL_law0_r6, w ∈ lw_tbl := in_blk [399, 764, 767, 760, 132] (by decide +kernel) (by decide +kernel)
theorem iw_7 : ∀ w ∈ wsL_law0_r7, w ∈ lw_tbl := in_blk [136, 771, 775, 467, 473] (by decide +kernel) (by decide +kernel)
theorem iw_8 : ∀ w ∈ wsL_law0_r8, w ∈ lw_tbl := in_blk [779, 497, 501] (by decide +kernel) (by decide +kernel)
theorem iw_9 : ∀ w ∈ wsL_law0_r9, w ∈ lw_tbl := in_blk [191, 507, 783, 514, 787] (by decide +kernel) (by decide +kernel)
theorem iw_10 : ∀ w ∈ wsL_law0_r10, w ∈ lw_tbl := in_blk [143, 147, 151, 155] (by decide +kernel) (by decide +kernel)
theorem iw_11 : ∀ w ∈ wsL_law0_r11, w ∈ lw_tbl := in_blk [159, 163, 791, 795] (by decide +kernel) (by decide +kernel)
theorem iw_12 : ∀ w ∈ wsL_law0_r12, w ∈ lw_tbl := in_blk [799, 803, 522, 528] (by decide +kernel) (by decide +kernel)
theorem iw_13 : ∀ w ∈ wsL_law0_r13, w ∈ lw_tbl := in_blk [532, 536, 540, 175, 179] (by decide +kernel) (by decide +kernel)
theorem iw_14 : ∀ w ∈ wsL_law0_r14, w ∈ lw_tbl := in_blk [183, 544, 548, 552, 556] (by decide +kernel) (by decide +kernel)
theorem iw_15 : ∀ w ∈ wsL_law0_r15, w ∈ lw_tbl := in_blk [560, 564, 568, 572, 576] (by decide +kernel) (by decide +kernel)
theorem iw_16 : ∀ w ∈ wsL_law0_r16, w ∈ lw_tbl := in_blk [580, 584, 588, 592] (by decide +kernel) (by decide +kernel)
theorem iw_17 : ∀ w ∈ wsL_law0_r17, w ∈ lw_tbl := in_blk [597, 206, 602, 807, 811] (by decide +kernel) (by decide +kernel)
theorem iw_18 : ∀ w ∈ wsL_law0_r18, w ∈ lw_tbl := in_blk [815, 819, 823, 827, 831, 835] (by decide +kernel) (by decide +kernel)
theorem iw_19 : ∀ w ∈ wsL_law0_r19, w ∈ lw_tbl := in_blk [839, 843, 847, 851, 167] (by decide +kernel) (by decide +kernel)
theorem iw_20 : ∀ w ∈ wsL_law0_r20, w ∈ lw_tbl := in_blk [171, 855, 187, 195, 199, 203] (by decide +kernel) (by decide +kernel)
theorem iw_21 : ∀ w ∈ wsL_law0_r21, w ∈ lw_tbl := in_blk [859, 863, 210, 214, 217, 867] (by decide +kernel) (by decide +kernel)
theorem iw_22 : ∀ w ∈ wsL_law0_r22, w ∈ lw_tbl := in_blk [609, 229, 614, 618, 622] (by decide +kernel) (by decide +kernel)
theorem iw_23 : ∀ w ∈ wsL_law0_r23, w ∈ lw_tbl := in_blk [626, 631, 871, 875, 879, 883] (by decide +kernel) (by decide +kernel)
theorem iw_24 : ∀ w ∈ wsL_law0_r24, w ∈ lw_tbl := in_blk [225, 887, 221, 891] (by decide +kernel) (by decide +kernel)
theorem ix_0 : ∀ w ∈ wsX00, w ∈ lw_tbl := by decide +kernel
theorem ix_1 : ∀ w ∈ wsX10, w ∈ lw_tbl := by decide +kernel
theorem ix_2 : ∀ w ∈ wsX20, w ∈ lw_tbl := by decide +kernel
theorem ix_3 : ∀ w ∈ wsX30, w ∈ lw_tbl := by decide +kernel
theorem ix_4 : ∀ w ∈ wsX40, w ∈ lw_tbl := by decide +kernel
theorem ix_5 : ∀ w ∈ wsX50, w ∈ lw_tbl := by decide +kernel
theorem ix_6 : ∀ w ∈ wsX60, w ∈ lw_tbl := by decide +kernel
theorem ix_7 : ∀ w ∈ wsX70, w ∈ lw_tbl := by decide +kernel
theorem at_in1 : ∀ w ∈ vx_atS RX6 40 "java/lang/IllegalArgumentException" excN, w ∈ lw_tbl := by decide +kernel
theorem at_in2 : ∀ w ∈ vx_atS RX6 54 "java/lang/IllegalStateException" excN, w ∈ lw_tbl := by decide +kernel
theorem fa_app {a b : List Cond} (ha : ∀ w ∈ a, w ∈ lw_tbl) (hb : ∀ w ∈ b, w ∈ lw_tbl) : ∀ w ∈ a ++ b, w ∈ lw_tbl := List.forall_mem_append.mpr ⟨ha, hb⟩
theorem wsL_in0 : ∀ w ∈ wsL_law0, w ∈ lw_tbl := fa_app (fa_app (fa_app (fa_app (fa_app (fa_app (fa_app (fa_app (fa_app (fa_app iw_1 (fa_app iw_2 (fa_app iw_3 (fa_app iw_4 (fa_app iw_5 (fa_app iw_6 (fa_app iw_7 (fa_app iw_8 (fa_app iw_9 (fa_app iw_10 (fa_app iw_11 (fa_app iw_12 (fa_app iw_13 (fa_app iw_14 (fa_app iw_15 (fa_app iw_16 (fa_app iw_17 (fa_app iw_18 (fa_app iw_19 (fa_app iw_20 (fa_app iw_21 (fa_app iw_22 (fa_app iw_23 (iw_24)))))))))))))))))))))))) ix_6) ix_7) ix_2) ix_5) ix_0) ix_1) ix_4) ix_3) (fun _ h => nomatch h)
theorem wsL_in : ∀ w ∈ wsL_law, w ∈ lw_tbl := fa_app (fa_app wsL_in0 (fun w h => at_in1 w (List.mem_filter.mp h).1)) (fun w h => at_in2 w (List.mem_filter.mp h).1)
