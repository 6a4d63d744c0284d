/-! THE CLASS, its leaves -/
theorem setS_v {S : Sto} {t i k : Nat} {v w : AV} {S1 : Sto} (h : v = w) (e : setS S t i k w = S1) : setS S t i k v = S1 := by rw [h]; exact e
theorem bI_iff {p q : Prop} [Decidable p] [Decidable q] (h : p ↔ q) : bI p = bI q := by
  by_cases hp : p
  · rw [bI_t hp, bI_t (h.mp hp)]
  · rw [bI_f hp, bI_f (fun hq => hp (h.mpr hq))]
abbrev isT (n : Nat) (x : Int32) : Prop := 0 ≤ x ∧ x < nI n
theorem isT_ex {n : Nat} {x : Int32} (hn : n < 2 ^ 31) (h : isT n x) : ∃ i, i < n ∧ x = nI i := by
  obtain ⟨j, hj, e⟩ := nI_of (x := x) (Int32.not_lt.mpr h.1)
  subst e
  exact ⟨j, (nI_ltI hj hn).mp h.2, rfl⟩
theorem isT_of {n i : Nat} (hn : n < 2 ^ 31) (h : i < n) : isT n (nI i) := ⟨nI_pos' (by omega), nI_lt h hn⟩
theorem isT_m1 {n : Nat} (hn : n ≤ 8) (x : Int32) : (0 ≤ x ∧ x ≤ nI n - 1) ↔ isT n x := by
  have h1 : (nI n - 1).toInt = (n : Int) - 1 := by
    match n, hn with
    | 0, _ => decide
    | 1, _ => decide
    | 2, _ => decide
    | 3, _ => decide
    | 4, _ => decide
    | 5, _ => decide
    | 6, _ => decide
    | 7, _ => decide
    | 8, _ => decide
    | n + 9, h => omega
  have h2 : (nI n).toInt = (n : Int) := nI_toInt (by omega)
  unfold isT
  rw [Int32.le_iff_toInt_le (x := x) (y := nI n - 1), Int32.lt_iff_toInt_lt (x := x) (y := nI n), h1, h2]
  constructor
  · intro h; exact ⟨h.1, by omega⟩
  · intro h; exact ⟨h.1, by omega⟩
theorem e_within (S : Sto) (a b c : Int32) : Ev M_X6_within 0 (ent M_X6_within [vI a, vI b, vI c]) [] S (0, some (vI (bI (b ≤ a ∧ a ≤ c))), S) := by
  show Ev M_X6_within 0 [vI a, vI b, vI c] [] S _
  refine ev_iload_n dX6_within_0 rfl ?_
  refine ev_iload_n dX6_within_1 rfl ?_
  refine ev_icmp_lt (tgt := 14) dX6_within_2 rfl (fun c2 => ?_) (fun c2 => ?_)
  · refine ev_iconst (v := 0) dX6_within_14 rfl ?_
    rw [bI_f (fun h => Int32.not_lt.mpr h.1 c2)]
    exact ev_iret dX6_within_15 (Or.inr ⟨rfl, rfl⟩)
  · refine ev_iload_n dX6_within_5 rfl ?_
    refine ev_iload_n dX6_within_6 rfl ?_
    refine ev_icmp_gt (tgt := 14) dX6_within_7 rfl (fun c7 => ?_) (fun c7 => ?_)
    · refine ev_iconst (v := 0) dX6_within_14 rfl ?_
      rw [bI_f (fun h => Int32.not_lt.mpr h.2 c7)]
      exact ev_iret dX6_within_15 (Or.inr ⟨rfl, rfl⟩)
    · refine ev_iconst (v := 1) dX6_within_10 rfl ?_
      refine ev_goto (tgt := 15) dX6_within_11 rfl ?_
      rw [bI_t ⟨Int32.not_lt.mp c2, Int32.not_lt.mp c7⟩]
      exact ev_iret dX6_within_15 (Or.inr ⟨rfl, rfl⟩)
theorem e_isTask (K M : KT) (G : GT) (x : Int32) (hn : K.2 0 0 ≤ 8) : Ev M_X6_isTask 0 (ent M_X6_isTask [vR 7 0, vI x]) [] (conc K M G) (0, some (vI (bI (isT (K.2 0 0) x))), conc K M G) := by
  rw [← bI_iff (isT_m1 hn x)]
  show Ev M_X6_isTask 0 [vR 7 0, vI x] [] (conc K M G) _
  refine ev_iload_n dX6_isTask_0 rfl ?_
  refine ev_iconst (v := 0) dX6_isTask_1 rfl ?_
  refine ev_aload_n dX6_isTask_2 rfl rfl ?_
  refine ev_getf dX6_isTask_3 fl_6_46 ?_
  refine ev_iconst (v := 1) dX6_isTask_6 rfl ?_
  refine ev_isub dX6_isTask_7 ?_
  refine evS3 dX6_isTask_8 cl_X6_isTask_32 ⟨rfl, rfl, fun h => nomatch h⟩ (Nat.le_of_ble_eq_true rfl) (e_within _ _ _ _) ?_
  exact ev_iret dX6_isTask_11 (Or.inr ⟨rfl, bI_and⟩)
theorem e_isMutex (K M : KT) (G : GT) (x : Int32) (hn : K.2 0 1 ≤ 8) : Ev M_X6_isMutex 0 (ent M_X6_isMutex [vR 7 0, vI x]) [] (conc K M G) (0, some (vI (bI (isT (K.2 0 1) x))), conc K M G) := by
  rw [← bI_iff (isT_m1 hn x)]
  show Ev M_X6_isMutex 0 [vR 7 0, vI x] [] (conc K M G) _
  refine ev_iload_n dX6_isMutex_0 rfl ?_
  refine ev_iconst (v := 0) dX6_isMutex_1 rfl ?_
  refine ev_aload_n dX6_isMutex_2 rfl rfl ?_
  refine ev_getf dX6_isMutex_3 fl_6_67 ?_
  refine ev_iconst (v := 1) dX6_isMutex_6 rfl ?_
  refine ev_isub dX6_isMutex_7 ?_
  refine evS3 dX6_isMutex_8 cl_X6_isMutex_32 ⟨rfl, rfl, fun h => nomatch h⟩ (Nat.le_of_ble_eq_true rfl) (e_within _ _ _ _) ?_
  exact ev_iret dX6_isMutex_11 (Or.inr ⟨rfl, bI_and⟩)
abbrev stepOk (K : KT) (kd a : Int32) : Prop := (kd = 0 ∧ 1 ≤ a ∧ a ≤ 20) ∨ (¬ kd = 0 ∧ (kd = 1 ∨ kd = 2) ∧ isT (K.2 0 1) a)
theorem e_isStep (K M : KT) (G : GT) (kd a : Int32) (hn : K.2 0 1 ≤ 8) : Ev M_X6_isStep 0 (ent M_X6_isStep [vR 7 0, vI kd, vI a]) [] (conc K M G) (0, some (vI (bI (stepOk K kd a))), conc K M G) := by
  show Ev M_X6_isStep 0 [vR 7 0, vI kd, vI a] [] (conc K M G) _
  have h22 : ¬ kd = 0 → (kd = 1 ∨ kd = 2) → Ev M_X6_isStep 22 [vR 7 0, vI kd, vI a] [] (conc K M G) (0, some (vI (bI (stepOk K kd a))), conc K M G) := by
    intro h0 h1
    refine ev_aload_n dX6_isStep_22 rfl rfl ?_
    refine ev_iload_n dX6_isStep_23 rfl ?_
    refine evV2 dX6_isStep_24 cl_X6_isStep_98 ⟨rfl, rfl, fun _ => ⟨_, rfl⟩⟩ (Nat.le_of_ble_eq_true rfl) (e_isMutex K M G a hn) ?_
    refine ev_if_eq (tgt := 34) dX6_isStep_27 rfl (fun c27 => ?_) (fun c27 => ?_)
    · refine ev_iconst (v := 0) dX6_isStep_34 rfl ?_
      rw [bI_f (fun q => q.elim (fun q => h0 q.1) (fun q => bI_0.mp c27 q.2.2))]
      exact ev_iret dX6_isStep_35 (Or.inr ⟨rfl, rfl⟩)
    · refine ev_iconst (v := 1) dX6_isStep_30 rfl ?_
      refine ev_goto (tgt := 35) dX6_isStep_31 rfl ?_
      rw [bI_t (Or.inr ⟨h0, h1, Classical.not_not.mp (fun h => c27 (bI_f h))⟩)]
      exact ev_iret dX6_isStep_35 (Or.inr ⟨rfl, rfl⟩)
  refine ev_iload_n dX6_isStep_0 rfl ?_
  refine ev_if_ne (tgt := 12) dX6_isStep_1 rfl (fun c1 => ?_) (fun c1 => ?_)
  · refine ev_iload_n dX6_isStep_12 rfl ?_
    refine ev_iconst (v := 1) dX6_isStep_13 rfl ?_
    refine ev_icmp_eq (tgt := 22) dX6_isStep_14 rfl (fun c14 => ?_) (fun c14 => ?_)
    · exact h22 c1 (Or.inl c14)
    · refine ev_iload_n dX6_isStep_17 rfl ?_
      refine ev_iconst (v := 2) dX6_isStep_18 rfl ?_
      refine ev_icmp_ne (tgt := 34) dX6_isStep_19 rfl (fun c19 => ?_) (fun c19 => ?_)
      · refine ev_iconst (v := 0) dX6_isStep_34 rfl ?_
        rw [bI_f (fun q => q.elim (fun q => c1 q.1) (fun q => q.2.1.elim c14 c19))]
        exact ev_iret dX6_isStep_35 (Or.inr ⟨rfl, rfl⟩)
      · exact h22 c1 (Or.inr (Classical.not_not.mp c19))
  · refine ev_iload_n dX6_isStep_4 rfl ?_
    refine ev_iconst (v := 1) dX6_isStep_5 rfl ?_
    refine ev_bipush (v := 20) dX6_isStep_6 rfl ?_
    refine evS3 dX6_isStep_8 cl_X6_isStep_32 ⟨rfl, rfl, fun h => nomatch h⟩ (Nat.le_of_ble_eq_true rfl) (e_within _ _ _ _) ?_
    rw [bI_iff (p := stepOk K kd a) (q := 1 ≤ a ∧ a ≤ 20) ⟨fun q => q.elim (fun q => q.2) (fun q => absurd (Classical.not_not.mp c1) q.1), fun q => Or.inl ⟨Classical.not_not.mp c1, q⟩⟩]
    exact ev_iret dX6_isStep_11 (Or.inr ⟨rfl, bI_and⟩)
theorem e_nextChange (K M : KT) (G : GT) : Ev M_X6_nextChange 0 (ent M_X6_nextChange [vR 7 0]) [] (conc K M G) (0, some (vI (K.1 28 3 + 1)), conc (sI K 28 3 (K.1 28 3 + 1)) M G) := by
  show Ev M_X6_nextChange 0 [vR 7 0] [] (conc K M G) _
  refine ev_aload_n dX6_nextChange_0 rfl rfl ?_
  refine ev_dup dX6_nextChange_1 rfl ?_
  refine ev_getf dX6_nextChange_2 fl_6_265 ?_
  refine ev_iconst (v := 1) dX6_nextChange_5 rfl ?_
  refine ev_iadd dX6_nextChange_6 ?_
  refine ev_putfS dX6_nextChange_7 fl_6_265 rfl rfl (pu_ker_9 _ _ _ _) ?_
  refine ev_aload_n dX6_nextChange_10 rfl rfl ?_
  refine ev_getf dX6_nextChange_11 fl_6_265 ?_
  exact ev_iret dX6_nextChange_14 (Or.inl rfl)
theorem nI_rem40 {n : Nat} (h : n < 40) : nI n + 1 - (nI n + 1) / 40 * 40 = nI ((n + 1) % 40) := by
  have h1 : nI n + 1 = nI (n + 1) := nI_1 n
  have h2 : (40 : Int32) = nI 40 := rfl
  rw [h1, h2]
  exact pk_rem (by omega) (by omega) (by omega)
theorem e_add (K M : KT) (G : GT) (w tm : Int32) (t : Int32) (h : K.2 0 4 < 40) : Ev M_X2_add 0 (ent M_X2_add [vR 3 0, vI w, vI tm, vI t]) [] (conc K M G) (0, none, conc (sN (sN (sI (sI (sI K 23 (K.2 0 4) w) 24 (K.2 0 4) tm) 25 (K.2 0 4) t) 0 4 ((K.2 0 4 + 1) % 40)) 0 3 (K.2 0 3 + 1)) M G) := by
  show Ev M_X2_add 0 [vR 3 0, vI w, vI tm, vI t] [] (conc K M G) _
  refine ev_aload_n dX2_add_0 rfl rfl ?_
  refine ev_getf dX2_add_1 fl_2_9 ?_
  refine ev_aload_n dX2_add_4 rfl rfl ?_
  refine ev_getf dX2_add_5 fl_2_21 ?_
  refine ev_iload_n dX2_add_8 rfl ?_
  refine ev_iastS dX2_add_9 rfl (by decide) rfl (show _ < 40 from h) (pu_ja_12 _ _ _ _ _) ?_
  refine ev_aload_n dX2_add_10 rfl rfl ?_
  refine ev_getf dX2_add_11 fl_2_15 ?_
  refine ev_aload_n dX2_add_14 rfl rfl ?_
  refine ev_getf dX2_add_15 fl_2_21 ?_
  refine ev_iload_n dX2_add_18 rfl ?_
  refine ev_iastS dX2_add_19 rfl (by decide) rfl (show _ < 40 from h) (pu_ja_13 _ _ _ _ _) ?_
  refine ev_aload_n dX2_add_20 rfl rfl ?_
  refine ev_getf dX2_add_21 fl_2_18 ?_
  refine ev_aload_n dX2_add_24 rfl rfl ?_
  refine ev_getf dX2_add_25 fl_2_21 ?_
  refine ev_iload_n dX2_add_28 rfl ?_
  refine ev_iastS dX2_add_29 rfl (by decide) rfl (show _ < 40 from h) (pu_ja_14 _ _ _ _ _) ?_
  refine ev_aload_n dX2_add_30 rfl rfl ?_
  refine ev_aload_n dX2_add_31 rfl rfl ?_
  refine ev_getf dX2_add_32 fl_2_21 ?_
  refine ev_iconst (v := 1) dX2_add_35 rfl ?_
  refine ev_iadd dX2_add_36 ?_
  refine ev_bipush (v := 40) dX2_add_37 rfl ?_
  refine ev_irem dX2_add_39 (by decide) ?_
  refine ev_putfS dX2_add_40 fl_2_21 rfl rfl (setS_v (congrArg vI (nI_rem40 h)) (pu_jour_4 _ _ _ _)) ?_
  refine ev_aload_n dX2_add_43 rfl rfl ?_
  refine ev_dup dX2_add_44 rfl ?_
  refine ev_getf dX2_add_45 fl_2_25 ?_
  refine ev_iconst (v := 1) dX2_add_48 rfl ?_
  refine ev_iadd dX2_add_49 ?_
  refine ev_putfS dX2_add_50 fl_2_25 rfl rfl (setS_v (congrArg vI (nI_1 _)) (pu_jour_3 _ _ _ _)) ?_
  exact ev_vret dX2_add_53 rfl
theorem e_note (K M : KT) (G : GT) (w : Int32) (t : Nat) (h : K.2 0 4 < 40) : Ev M_X6_note 0 (ent M_X6_note [vR 7 0, vI w, vR 6 t]) [] (conc K M G) (0, none, conc (noteK K w t) M G) := by
  show Ev M_X6_note 0 [vR 7 0, vI w, vR 6 t] [] (conc K M G) _
  refine ev_aload_n dX6_note_0 rfl rfl ?_
  refine ev_getf dX6_note_1 fl_6_24 ?_
  refine ev_iload_n dX6_note_4 rfl ?_
  refine ev_aload_n dX6_note_5 rfl rfl ?_
  refine ev_getf dX6_note_6 fl_6_125 ?_
  refine ev_aload_n dX6_note_9 rfl rfl ?_
  refine ev_getf dX6_note_10 fl_6_268 ?_
  refine evV4 dX6_note_13 cl_X6_note_271 ⟨rfl, rfl, fun _ => ⟨_, rfl⟩⟩ (Nat.le_of_ble_eq_true rfl) (e_add K M G w (K.1 28 2) (nI t) h) ?_
  exact ev_vret dX6_note_16 rfl
theorem e_begin (K M : KT) (G : GT) (t : Nat) (a b c : Int32) : Ev M_X1_begin 0 (ent M_X1_begin [vR 2 t, vI a, vI b, vI c]) [] (conc K M G) (0, none, conc (sI (sI (sI (sI (sI (sN (sI K 6 t 1) 1 t 0) 7 t 0) 8 t 0) 9 t a) 10 t (a + b)) 11 t c) M G) := by
  show Ev M_X1_begin 0 [vR 2 t, vI a, vI b, vI c] [] (conc K M G) _
  refine ev_aload_n dX1_begin_0 rfl rfl ?_
  refine ev_iconst (v := 1) dX1_begin_1 rfl ?_
  refine ev_putfS dX1_begin_2 fl_1_9 rfl rfl (pu_job_0 _ _ _ _ _) ?_
  refine ev_aload_n dX1_begin_5 rfl rfl ?_
  refine ev_iconst (v := 0) dX1_begin_6 rfl ?_
  refine ev_putfS dX1_begin_7 fl_1_15 rfl rfl (pu_job_1 _ _ _ t 0) ?_
  refine ev_aload_n dX1_begin_10 rfl rfl ?_
  refine ev_iconst (v := 0) dX1_begin_11 rfl ?_
  refine ev_putfS dX1_begin_12 fl_1_18 rfl rfl (pu_job_2 _ _ _ _ _) ?_
  refine ev_aload_n dX1_begin_15 rfl rfl ?_
  refine ev_iconst (v := 0) dX1_begin_16 rfl ?_
  refine ev_putfS dX1_begin_17 fl_1_21 rfl rfl (pu_job_3 _ _ _ _ _) ?_
  refine ev_aload_n dX1_begin_20 rfl rfl ?_
  refine ev_iload_n dX1_begin_21 rfl ?_
  refine ev_putfS dX1_begin_22 fl_1_24 rfl rfl (pu_job_4 _ _ _ _ _) ?_
  refine ev_aload_n dX1_begin_25 rfl rfl ?_
  refine ev_iload_n dX1_begin_26 rfl ?_
  refine ev_iload_n dX1_begin_27 rfl ?_
  refine ev_iadd dX1_begin_28 ?_
  refine ev_putfS dX1_begin_29 fl_1_27 rfl rfl (pu_job_5 _ _ _ _ _) ?_
  refine ev_aload_n dX1_begin_32 rfl rfl ?_
  refine ev_iload_n dX1_begin_33 rfl ?_
  refine ev_putfS dX1_begin_34 fl_1_30 rfl rfl (pu_job_6 _ _ _ _ _) ?_
  exact ev_vret dX1_begin_37 rfl
theorem e_passStep (K M : KT) (G : GT) (t : Nat) : Ev M_X1_passStep 0 (ent M_X1_passStep [vR 2 t]) [] (conc K M G) (0, none, conc (passK K t) M G) := by
  show Ev M_X1_passStep 0 [vR 2 t] [] (conc K M G) _
  refine ev_aload_n dX1_passStep_0 rfl rfl ?_
  refine ev_dup dX1_passStep_1 rfl ?_
  refine ev_getf dX1_passStep_2 fl_1_15 ?_
  refine ev_iconst (v := 1) dX1_passStep_5 rfl ?_
  refine ev_iadd dX1_passStep_6 ?_
  refine ev_putfS dX1_passStep_7 fl_1_15 rfl rfl (setS_v (congrArg vI (nI_1 _)) (pu_job_1 _ _ _ _ _)) ?_
  refine ev_aload_n dX1_passStep_10 rfl rfl ?_
  refine ev_iconst (v := 0) dX1_passStep_11 rfl ?_
  refine ev_putfS dX1_passStep_12 fl_1_18 rfl rfl (pu_job_2 _ _ _ _ _) ?_
  exact ev_vret dX1_passStep_15 rfl
theorem e_blockAt (K M : KT) (G : GT) (t m : Nat) (c : Int32) : Ev M_X1_blockAt 0 (ent M_X1_blockAt [vR 2 t, vR 4 m, vI c]) [] (conc K M G) (0, none, conc (sI (sN (sI K 6 t 2) 3 t (m + 1)) 11 t c) M G) := by
  show Ev M_X1_blockAt 0 [vR 2 t, vR 4 m, vI c] [] (conc K M G) _
  refine ev_aload_n dX1_blockAt_0 rfl rfl ?_
  refine ev_iconst (v := 2) dX1_blockAt_1 rfl ?_
  refine ev_putfS dX1_blockAt_2 fl_1_9 rfl rfl (pu_job_0 _ _ _ _ _) ?_
  refine ev_aload_n dX1_blockAt_5 rfl rfl ?_
  refine ev_aload_n dX1_blockAt_6 rfl rfl ?_
  refine ev_putfS dX1_blockAt_7 fl_1_33 rfl rfl (pu_job_7 _ _ _ _ _) ?_
  refine ev_aload_n dX1_blockAt_10 rfl rfl ?_
  refine ev_iload_n dX1_blockAt_11 rfl ?_
  refine ev_putfS dX1_blockAt_12 fl_1_30 rfl rfl (pu_job_6 _ _ _ _ _) ?_
  exact ev_vret dX1_blockAt_15 rfl
theorem e_resume (K M : KT) (G : GT) (t : Nat) (c : Int32) : Ev M_X1_resume 0 (ent M_X1_resume [vR 2 t, vI c]) [] (conc K M G) (0, none, conc (passK (sI (sN (sI K 6 t 1) 3 t 0) 11 t c) t) M G) := by
  show Ev M_X1_resume 0 [vR 2 t, vI c] [] (conc K M G) _
  refine ev_aload_n dX1_resume_0 rfl rfl ?_
  refine ev_iconst (v := 1) dX1_resume_1 rfl ?_
  refine ev_putfS dX1_resume_2 fl_1_9 rfl rfl (pu_job_0 _ _ _ _ _) ?_
  refine ev_aload_n dX1_resume_5 rfl rfl ?_
  refine ev_null dX1_resume_6 ?_
  refine ev_putfS dX1_resume_7 fl_1_33 rfl rfl (pu_job_7n _ _ _ _) ?_
  refine ev_aload_n dX1_resume_10 rfl rfl ?_
  refine ev_iload_n dX1_resume_11 rfl ?_
  refine ev_putfS dX1_resume_12 fl_1_30 rfl rfl (pu_job_6 _ _ _ _ _) ?_
  refine ev_aload_n dX1_resume_15 rfl rfl ?_
  refine evV1 dX1_resume_16 cl_X1_resume_37 ⟨rfl, rfl, fun _ => ⟨_, rfl⟩⟩ (Nat.le_of_ble_eq_true rfl) (e_passStep _ M G t) ?_
  exact ev_vret dX1_resume_19 rfl
theorem e_end (K M : KT) (G : GT) (t : Nat) : Ev M_X1_end 0 (ent M_X1_end [vR 2 t]) [] (conc K M G) (0, none, conc (sN (sI K 6 t 0) 3 t 0) M G) := by
  show Ev M_X1_end 0 [vR 2 t] [] (conc K M G) _
  refine ev_aload_n dX1_end_0 rfl rfl ?_
  refine ev_iconst (v := 0) dX1_end_1 rfl ?_
  refine ev_putfS dX1_end_2 fl_1_9 rfl rfl (pu_job_0 _ _ _ _ _) ?_
  refine ev_aload_n dX1_end_5 rfl rfl ?_
  refine ev_null dX1_end_6 ?_
  refine ev_putfS dX1_end_7 fl_1_33 rfl rfl (pu_job_7n _ _ _ _) ?_
  exact ev_vret dX1_end_10 rfl
theorem e_inher (K M : KT) (G : GT) (a b : Nat) : Ev M_X1_inheritsAhead 0 (ent M_X1_inheritsAhead [vR 2 a, vR 2 b]) [] (conc K M G) (0, some (vI (bI (inher K (K.1 12) a b = true))), conc K M G) := by
  show Ev M_X1_inheritsAhead 0 [vR 2 a, vR 2 b] [] (conc K M G) _
  refine ev_aload_n dX1_inheritsAhead_0 rfl rfl ?_
  refine ev_getf dX1_inheritsAhead_1 fl_1_40 ?_
  refine ev_aload_n dX1_inheritsAhead_4 rfl rfl ?_
  refine ev_getf dX1_inheritsAhead_5 fl_1_40 ?_
  refine ev_icmp_eq (tgt := 30) dX1_inheritsAhead_8 rfl (fun c8 => ?_) (fun c8 => ?_)
  · refine ev_aload_n dX1_inheritsAhead_30 rfl rfl ?_
    refine ev_getf dX1_inheritsAhead_31 fl_1_30 ?_
    refine ev_aload_n dX1_inheritsAhead_34 rfl rfl ?_
    refine ev_getf dX1_inheritsAhead_35 fl_1_30 ?_
    refine ev_icmp_ge (tgt := 45) dX1_inheritsAhead_38 rfl (fun c38 => ?_) (fun c38 => ?_)
    · refine ev_iconst (v := 0) dX1_inheritsAhead_45 rfl ?_
      rw [bI_f (by simp [inher, c8, Int32.not_lt.mpr c38])]
      exact ev_iret dX1_inheritsAhead_46 (Or.inr ⟨rfl, rfl⟩)
    · refine ev_iconst (v := 1) dX1_inheritsAhead_41 rfl ?_
      refine ev_goto (tgt := 46) dX1_inheritsAhead_42 rfl ?_
      rw [bI_t (by simp [inher, c8, Int32.not_le.mp c38])]
      exact ev_iret dX1_inheritsAhead_46 (Or.inr ⟨rfl, rfl⟩)
  · refine ev_aload_n dX1_inheritsAhead_11 rfl rfl ?_
    refine ev_getf dX1_inheritsAhead_12 fl_1_40 ?_
    refine ev_aload_n dX1_inheritsAhead_15 rfl rfl ?_
    refine ev_getf dX1_inheritsAhead_16 fl_1_40 ?_
    refine ev_icmp_le (tgt := 26) dX1_inheritsAhead_19 rfl (fun c19 => ?_) (fun c19 => ?_)
    · refine ev_iconst (v := 0) dX1_inheritsAhead_26 rfl ?_
      refine ev_goto (tgt := 46) dX1_inheritsAhead_27 rfl ?_
      rw [bI_f (by simp [inher, c8, Int32.not_lt.mpr c19])]
      exact ev_iret dX1_inheritsAhead_46 (Or.inr ⟨rfl, rfl⟩)
    · refine ev_iconst (v := 1) dX1_inheritsAhead_22 rfl ?_
      refine ev_goto (tgt := 46) dX1_inheritsAhead_23 rfl ?_
      rw [bI_t (by simp [inher, c8, Int32.not_le.mp c19])]
      exact ev_iret dX1_inheritsAhead_46 (Or.inr ⟨rfl, rfl⟩)
theorem e_addDone (K M : KT) (G : GT) (t : Nat) (x : Int32) : Ev M_X4_addDone 0 (ent M_X4_addDone [vR 5 t, vI x]) [] (conc K M G) (0, none, conc (sI (sI K 15 t (K.1 15 t + 1)) 20 t (if K.1 20 t < x then x else K.1 20 t)) M G) := by
  show Ev M_X4_addDone 0 [vR 5 t, vI x] [] (conc K M G) _
  refine ev_aload_n dX4_addDone_0 rfl rfl ?_
  refine ev_dup dX4_addDone_1 rfl ?_
  refine ev_getf dX4_addDone_2 fl_4_7 ?_
  refine ev_iconst (v := 1) dX4_addDone_5 rfl ?_
  refine ev_iadd dX4_addDone_6 ?_
  refine ev_putfS dX4_addDone_7 fl_4_7 rfl rfl (pu_tal_0 _ _ _ _ _) ?_
  refine ev_aload_n dX4_addDone_10 rfl rfl ?_
  refine ev_aload_n dX4_addDone_11 rfl rfl ?_
  refine ev_getf dX4_addDone_12 fl_4_13 ?_
  refine ev_iload_n dX4_addDone_15 rfl ?_
  refine ev_mmax dX4_addDone_16 ml_4_16 (Nat.le_of_ble_eq_true rfl) rfl ?_
  refine ev_putfS dX4_addDone_19 fl_4_13 rfl rfl (pu_tal_5 _ _ _ _ _) ?_
  exact ev_vret dX4_addDone_22 rfl
theorem e_isPer (K M : KT) (G : GT) (t : Nat) : Ev M_X5_isPeriodicAt 0 (ent M_X5_isPeriodicAt [vR 6 t, vI (K.1 28 2)]) [] (conc K M G) (0, some (vI (bI (perK K t = true))), conc K M G) := by
  show Ev M_X5_isPeriodicAt 0 [vR 6 t, vI (K.1 28 2)] [] (conc K M G) _
  refine ev_aload_n dX5_isPeriodicAt_0 rfl rfl ?_
  refine ev_getf dX5_isPeriodicAt_1 fl_5_39 ?_
  refine ev_if_le (tgt := 33) dX5_isPeriodicAt_4 rfl (fun c4 => ?_) (fun c4 => ?_)
  · refine ev_iconst (v := 0) dX5_isPeriodicAt_33 rfl ?_
    rw [bI_f (by simp [perK, Int32.not_lt.mpr c4])]
    exact ev_iret dX5_isPeriodicAt_34 (Or.inr ⟨rfl, rfl⟩)
  · refine ev_iload_n dX5_isPeriodicAt_7 rfl ?_
    refine ev_aload_n dX5_isPeriodicAt_8 rfl rfl ?_
    refine ev_getf dX5_isPeriodicAt_9 fl_5_42 ?_
    refine ev_icmp_lt (tgt := 33) dX5_isPeriodicAt_12 rfl (fun c12 => ?_) (fun c12 => ?_)
    · refine ev_iconst (v := 0) dX5_isPeriodicAt_33 rfl ?_
      rw [bI_f (by simp [perK, Int32.not_le.mpr c12])]
      exact ev_iret dX5_isPeriodicAt_34 (Or.inr ⟨rfl, rfl⟩)
    · refine ev_iload_n dX5_isPeriodicAt_15 rfl ?_
      refine ev_aload_n dX5_isPeriodicAt_16 rfl rfl ?_
      refine ev_getf dX5_isPeriodicAt_17 fl_5_42 ?_
      refine ev_isub dX5_isPeriodicAt_20 ?_
      refine ev_aload_n dX5_isPeriodicAt_21 rfl rfl ?_
      refine ev_getf dX5_isPeriodicAt_22 fl_5_39 ?_
      refine ev_irem dX5_isPeriodicAt_25 (fun h => c4 (by rw [h]; decide)) ?_
      refine ev_if_ne (tgt := 33) dX5_isPeriodicAt_26 rfl (fun c26 => ?_) (fun c26 => ?_)
      · refine ev_iconst (v := 0) dX5_isPeriodicAt_33 rfl ?_
        rw [bI_f (by simp [perK, c26])]
        exact ev_iret dX5_isPeriodicAt_34 (Or.inr ⟨rfl, rfl⟩)
      · refine ev_iconst (v := 1) dX5_isPeriodicAt_29 rfl ?_
        refine ev_goto (tgt := 34) dX5_isPeriodicAt_30 rfl ?_
        rw [bI_t (by simp [perK, Int32.not_le.mp c4, Int32.not_lt.mp c12, Classical.not_not.mp c26])]
        exact ev_iret dX5_isPeriodicAt_34 (Or.inr ⟨rfl, rfl⟩)
theorem e_isAtWork (K M : KT) (G : GT) (t : Nat) (h : K.2 2 t ≤ 10) (h2 : K.2 1 t ≤ K.2 2 t) : Ev M_X5_isAtWork 0 (ent M_X5_isAtWork [vR 6 t]) [] (conc K M G) (0, some (vI (bI (atWorkK K t = true))), conc K M G) := by
  show Ev M_X5_isAtWork 0 [vR 6 t] [] (conc K M G) _
  refine ev_aload_n dX5_isAtWork_0 rfl rfl ?_
  refine ev_getf dX5_isAtWork_1 fl_5_21 ?_
  refine ev_getf dX5_isAtWork_4 fl_5_51 ?_
  refine ev_aload_n dX5_isAtWork_7 rfl rfl ?_
  refine ev_getf dX5_isAtWork_8 fl_5_12 ?_
  refine ev_getf dX5_isAtWork_11 fl_5_54 ?_
  refine ev_icmp_ge (tgt := 39) dX5_isAtWork_14 rfl (fun c14 => ?_) (fun c14 => ?_)
  · refine ev_iconst (v := 0) dX5_isAtWork_39 rfl ?_
    rw [bI_f (by have q1 : ¬ K.2 1 t < K.2 2 t := (fun q => nI_ge q (by omega) c14); simp [atWorkK, q1])]
    exact ev_iret dX5_isAtWork_40 (Or.inr ⟨rfl, rfl⟩)
  · have hlt : K.2 1 t < K.2 2 t := Nat.not_le.mp (fun q => c14 (nI_le q (by omega)))
    refine ev_aload_n dX5_isAtWork_17 rfl rfl ?_
    refine ev_getf dX5_isAtWork_18 fl_5_12 ?_
    refine ev_getf dX5_isAtWork_21 fl_5_57 ?_
    refine ev_aload_n dX5_isAtWork_24 rfl rfl ?_
    refine ev_getf dX5_isAtWork_25 fl_5_21 ?_
    refine ev_getf dX5_isAtWork_28 fl_5_51 ?_
    refine ev_ialdv dX5_isAtWork_31 rfl rfl (show _ < 10 from by omega) (co_bk (by omega)) ?_
    refine ev_if_ne (tgt := 39) dX5_isAtWork_32 rfl (fun c32 => ?_) (fun c32 => ?_)
    · refine ev_iconst (v := 0) dX5_isAtWork_39 rfl ?_
      rw [bI_f (by simp [atWorkK, kdK, c32])]
      exact ev_iret dX5_isAtWork_40 (Or.inr ⟨rfl, rfl⟩)
    · refine ev_iconst (v := 1) dX5_isAtWork_35 rfl ?_
      refine ev_goto (tgt := 40) dX5_isAtWork_36 rfl ?_
      rw [bI_t (by simp [atWorkK, kdK, hlt, Classical.not_not.mp c32])]
      exact ev_iret dX5_isAtWork_40 (Or.inr ⟨rfl, rfl⟩)
theorem e_goesAhead (K M : KT) (G : GT) (a b : Nat) : Ev M_X6_goesAhead 0 (ent M_X6_goesAhead [vR 7 0, vR 6 a, vR 6 b]) [] (conc K M G) (0, some (vI (bI (ahead K (K.1 12) a b = true))), conc K M G) := by
  show Ev M_X6_goesAhead 0 [vR 7 0, vR 6 a, vR 6 b] [] (conc K M G) _
  have hq : ∀ c : Nat, (vR 6 c = rfq 6 (K.2 0 2)) ↔ K.2 0 2 = c + 1 := by
    intro c
    rcases K.2 0 2 with _ | d
    · exact ⟨(fun h => nomatch h), fun h => by omega⟩
    · exact ⟨fun h => by cases h; rfl, fun h => by rw [Nat.succ.inj h]; rfl⟩
  have h56 : K.1 12 a = K.1 12 b → (K.2 0 2 = a + 1 ∨ K.2 0 2 = b + 1) → Ev M_X6_goesAhead 56 [vR 7 0, vR 6 a, vR 6 b] [] (conc K M G) (0, some (vI (bI (ahead K (K.1 12) a b = true))), conc K M G) := by
    intro e h
    refine ev_aload_n dX6_goesAhead_56 rfl rfl ?_
    refine ev_aload_n dX6_goesAhead_57 rfl rfl ?_
    refine ev_getfv dX6_goesAhead_58 fl_6_186 (co_last rfl) ?_
    refine ev_acmp_ne (tgt := 68) dX6_goesAhead_61 rfl rfl (isRa_rfq _ _ rfl) (fun c61 => ?_) (fun c61 => ?_)
    · refine ev_iconst (v := 0) dX6_goesAhead_68 rfl ?_
      rw [bI_f (by simp only [ahead, if_pos e, if_pos h, decide_eq_true_eq]; exact fun q => c61 ((hq a).mpr q))]
      exact ev_iret dX6_goesAhead_69 (Or.inr ⟨rfl, rfl⟩)
    · refine ev_iconst (v := 1) dX6_goesAhead_64 rfl ?_
      refine ev_goto (tgt := 69) dX6_goesAhead_65 rfl ?_
      rw [bI_t (by simp only [ahead, if_pos e, if_pos h, decide_eq_true_eq]; exact (hq a).mp c61)]
      exact ev_iret dX6_goesAhead_69 (Or.inr ⟨rfl, rfl⟩)
  refine ev_aload_n dX6_goesAhead_0 rfl rfl ?_
  refine ev_getf dX6_goesAhead_1 fl_6_128 ?_
  refine ev_getf dX6_goesAhead_4 fl_6_278 ?_
  refine ev_aload_n dX6_goesAhead_7 rfl rfl ?_
  refine ev_getf dX6_goesAhead_8 fl_6_128 ?_
  refine ev_getf dX6_goesAhead_11 fl_6_278 ?_
  refine ev_icmp_eq (tgt := 40) dX6_goesAhead_14 rfl (fun c14 => ?_) (fun c14 => ?_)
  · refine ev_aload_n dX6_goesAhead_40 rfl rfl ?_
    refine ev_aload_n dX6_goesAhead_41 rfl rfl ?_
    refine ev_getfv dX6_goesAhead_42 fl_6_186 (co_last rfl) ?_
    refine ev_acmp_eq (tgt := 56) dX6_goesAhead_45 rfl rfl (isRa_rfq _ _ rfl) (fun c45 => ?_) (fun c45 => ?_)
    · exact h56 c14 (Or.inl ((hq a).mp c45))
    · refine ev_aload_n dX6_goesAhead_48 rfl rfl ?_
      refine ev_aload_n dX6_goesAhead_49 rfl rfl ?_
      refine ev_getfv dX6_goesAhead_50 fl_6_186 (co_last rfl) ?_
      refine ev_acmp_ne (tgt := 70) dX6_goesAhead_53 rfl rfl (isRa_rfq _ _ rfl) (fun c53 => ?_) (fun c53 => ?_)
      · have h : ¬ (K.2 0 2 = a + 1 ∨ K.2 0 2 = b + 1) := fun h => h.elim (fun h => c45 ((hq a).mpr h)) (fun h => c53 ((hq b).mpr h))
        refine ev_aload_n dX6_goesAhead_70 rfl rfl ?_
        refine ev_getf dX6_goesAhead_71 fl_6_128 ?_
        refine ev_getf dX6_goesAhead_74 fl_6_281 ?_
        refine ev_aload_n dX6_goesAhead_77 rfl rfl ?_
        refine ev_getf dX6_goesAhead_78 fl_6_128 ?_
        refine ev_getf dX6_goesAhead_81 fl_6_281 ?_
        refine ev_icmp_ge (tgt := 91) dX6_goesAhead_84 rfl (fun c84 => ?_) (fun c84 => ?_)
        · refine ev_iconst (v := 0) dX6_goesAhead_91 rfl ?_
          rw [bI_f (by simp only [ahead, if_pos c14, if_neg h, decide_eq_true_eq]; exact Int32.not_lt.mpr c84)]
          exact ev_iret dX6_goesAhead_92 (Or.inr ⟨rfl, rfl⟩)
        · refine ev_iconst (v := 1) dX6_goesAhead_87 rfl ?_
          refine ev_goto (tgt := 92) dX6_goesAhead_88 rfl ?_
          rw [bI_t (by simp only [ahead, if_pos c14, if_neg h, decide_eq_true_eq]; exact Int32.not_le.mp c84)]
          exact ev_iret dX6_goesAhead_92 (Or.inr ⟨rfl, rfl⟩)
      · exact h56 c14 (Or.inr ((hq b).mp c53))
  · refine ev_aload_n dX6_goesAhead_17 rfl rfl ?_
    refine ev_getf dX6_goesAhead_18 fl_6_128 ?_
    refine ev_getf dX6_goesAhead_21 fl_6_278 ?_
    refine ev_aload_n dX6_goesAhead_24 rfl rfl ?_
    refine ev_getf dX6_goesAhead_25 fl_6_128 ?_
    refine ev_getf dX6_goesAhead_28 fl_6_278 ?_
    refine ev_icmp_le (tgt := 38) dX6_goesAhead_31 rfl (fun c31 => ?_) (fun c31 => ?_)
    · refine ev_iconst (v := 0) dX6_goesAhead_38 rfl ?_
      rw [bI_f (by simp [ahead, c14, Int32.not_lt.mpr c31])]
      exact ev_iret dX6_goesAhead_39 (Or.inr ⟨rfl, rfl⟩)
    · refine ev_iconst (v := 1) dX6_goesAhead_34 rfl ?_
      refine ev_goto (tgt := 39) dX6_goesAhead_35 rfl ?_
      rw [bI_t (by simp [ahead, c14, Int32.not_le.mp c31])]
      exact ev_iret dX6_goesAhead_39 (Or.inr ⟨rfl, rfl⟩)
theorem e_stepFails (K M : KT) (G : GT) (t m : Nat) (kd : Int32) : Ev M_X6_stepFails 0 (ent M_X6_stepFails [vR 7 0, vR 6 t, vI kd, vR 4 m]) [] (conc K M G) (0, some (vI (bI (failsK K t m kd = true))), conc K M G) := by
  show Ev M_X6_stepFails 0 [vR 7 0, vR 6 t, vI kd, vR 4 m, vU] [] (conc K M G) _
  have hq : (rfq 6 (K.2 4 m) = vR 6 t) ↔ K.2 4 m = t + 1 := by
    rcases K.2 4 m with _ | d
    · exact ⟨(fun h => nomatch h), fun h => by omega⟩
    · exact ⟨fun h => by cases h; rfl, fun h => by rw [Nat.succ.inj h]; rfl⟩
  have h52 : ¬ kd = 2 → ∀ b : Bool, b = (decide (K.1 28 0 = 0) && decide (K.1 21 m = 2) && decide (K.1 22 m < K.1 0 t)) → Ev M_X6_stepFails 52 [vR 7 0, vR 6 t, vI kd, vR 4 m, vI (bI (b = true))] [] (conc K M G) (0, some (vI (bI (failsK K t m kd = true))), conc K M G) := by
    intro e b hb
    have hf : failsK K t m kd = (decide (K.2 4 m = t + 1) || b) := by simp only [failsK, if_neg e, hb]
    rw [hf]
    refine ev_aload_n dX6_stepFails_52 rfl rfl ?_
    refine ev_getfv dX6_stepFails_53 fl_6_221 (co_own rfl) ?_
    refine ev_aload_n dX6_stepFails_56 rfl rfl ?_
    refine ev_acmp_eq (tgt := 65) dX6_stepFails_57 rfl (isRa_rfq _ _ rfl) rfl (fun c57 => ?_) (fun c57 => ?_)
    · refine ev_iconst (v := 1) dX6_stepFails_65 rfl ?_
      refine ev_goto (tgt := 70) dX6_stepFails_66 rfl ?_
      rw [bI_t (p := (decide (K.2 4 m = t + 1) || b) = true) (by simp [hq.mp c57])]
      exact ev_iret dX6_stepFails_70 (Or.inr ⟨rfl, rfl⟩)
    · refine ev_iload dX6_stepFails_60 rfl ?_
      refine ev_if_eq (tgt := 69) dX6_stepFails_62 rfl (fun c62 => ?_) (fun c62 => ?_)
      · refine ev_iconst (v := 0) dX6_stepFails_69 rfl ?_
        rw [bI_f (p := (decide (K.2 4 m = t + 1) || b) = true) (by simp [bI_0.mp c62]; exact fun q => c57 (hq.mpr q))]
        exact ev_iret dX6_stepFails_70 (Or.inr ⟨rfl, rfl⟩)
      · refine ev_iconst (v := 1) dX6_stepFails_65 rfl ?_
        refine ev_goto (tgt := 70) dX6_stepFails_66 rfl ?_
        rw [bI_t (p := (decide (K.2 4 m = t + 1) || b) = true) (by simp [Classical.not_not.mp (fun q => c62 (bI_f q))])]
        exact ev_iret dX6_stepFails_70 (Or.inr ⟨rfl, rfl⟩)
  refine ev_iload_n dX6_stepFails_0 rfl ?_
  refine ev_iconst (v := 2) dX6_stepFails_1 rfl ?_
  refine ev_icmp_ne (tgt := 19) dX6_stepFails_2 rfl (fun c2 => ?_) (fun c2 => ?_)
  · refine ev_aload_n dX6_stepFails_19 rfl rfl ?_
    refine ev_getf dX6_stepFails_20 fl_6_28 ?_
    refine ev_if_ne (tgt := 49) dX6_stepFails_23 rfl (fun c23 => ?_) (fun c23 => ?_)
    · refine ev_iconst (v := 0) dX6_stepFails_49 rfl ?_
      refine ev_istore dX6_stepFails_50 rfl ?_
      exact h52 c2 false (by simp [c23])
    · refine ev_aload_n dX6_stepFails_26 rfl rfl ?_
      refine ev_getf dX6_stepFails_27 fl_6_235 ?_
      refine ev_iconst (v := 2) dX6_stepFails_30 rfl ?_
      refine ev_icmp_ne (tgt := 49) dX6_stepFails_31 rfl (fun c31 => ?_) (fun c31 => ?_)
      · refine ev_iconst (v := 0) dX6_stepFails_49 rfl ?_
        refine ev_istore dX6_stepFails_50 rfl ?_
        exact h52 c2 false (by simp [c31])
      · refine ev_aload_n dX6_stepFails_34 rfl rfl ?_
        refine ev_getf dX6_stepFails_35 fl_6_238 ?_
        refine ev_aload_n dX6_stepFails_38 rfl rfl ?_
        refine ev_getf dX6_stepFails_39 fl_6_241 ?_
        refine ev_icmp_le (tgt := 49) dX6_stepFails_42 rfl (fun c42 => ?_) (fun c42 => ?_)
        · refine ev_iconst (v := 0) dX6_stepFails_49 rfl ?_
          refine ev_istore dX6_stepFails_50 rfl ?_
          exact h52 c2 false (by simp [Int32.not_lt.mpr c42])
        · refine ev_iconst (v := 1) dX6_stepFails_45 rfl ?_
          refine ev_goto (tgt := 50) dX6_stepFails_46 rfl ?_
          refine ev_istore dX6_stepFails_50 rfl ?_
          exact h52 c2 true (by simp [Classical.not_not.mp c23, Classical.not_not.mp c31, Int32.not_le.mp c42])
  · refine ev_aload_n dX6_stepFails_5 rfl rfl ?_
    refine ev_getfv dX6_stepFails_6 fl_6_221 (co_own rfl) ?_
    refine ev_aload_n dX6_stepFails_9 rfl rfl ?_
    refine ev_acmp_eq (tgt := 17) dX6_stepFails_10 rfl (isRa_rfq _ _ rfl) rfl (fun c10 => ?_) (fun c10 => ?_)
    · refine ev_iconst (v := 0) dX6_stepFails_17 rfl ?_
      rw [bI_f (by simp [failsK, Classical.not_not.mp c2, hq.mp c10])]
      exact ev_iret dX6_stepFails_18 (Or.inr ⟨rfl, rfl⟩)
    · refine ev_iconst (v := 1) dX6_stepFails_13 rfl ?_
      refine ev_goto (tgt := 18) dX6_stepFails_14 rfl ?_
      rw [bI_t (by simp only [failsK, if_pos (Classical.not_not.mp c2)]; simp; exact fun q => c10 (hq.mpr q))]
      exact ev_iret dX6_stepFails_18 (Or.inr ⟨rfl, rfl⟩)
