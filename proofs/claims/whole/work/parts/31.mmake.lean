/-! THE REFERENCE: steps, mutexes, tasks -/
theorem kd12 (kd : Int32) : (kd = 1 ∨ kd = 2) ↔ ((1 : Int32) ≤ kd ∧ kd ≤ 2) := by
  rw [Int32.le_iff_toInt_le, Int32.le_iff_toInt_le, ← Int32.toInt_inj (x := kd) (y := 1), ← Int32.toInt_inj (x := kd) (y := 2), show (1 : Int32).toInt = 1 from rfl, show (2 : Int32).toInt = 2 from rfl]
  omega
theorem step_51 (K M : KT) (G : GT) (x kd a : Int32) (r : Res) (h : ∀ z : Int32, z = bI (isT (M.2 0 0) x ∧ stepOk M kd a) → Ev M_X7_step 53 [vR 8 0, vI x, vI kd, vI a, vI z] [] (conc K M G) r) : Ev M_X7_step 0 (ent M_X7_step [vR 8 0, vI x, vI kd, vI a]) [] (conc K M G) r := by
  show Ev M_X7_step 0 [vR 8 0, vI x, vI kd, vI a, vU] [] (conc K M G) _
  refine ev_aload_n dX7_step_0 rfl rfl ?_
  refine ev_iload_n dX7_step_1 rfl ?_
  refine evV2 dX7_step_2 cl_X7_step_122 ⟨rfl, rfl, fun _ => ⟨_, rfl⟩⟩ (Nat.le_of_ble_eq_true rfl) (m_isTask K M G x) ?_
  refine ev_if_eq (tgt := 50) dX7_step_5 rfl (fun c5 => ?_) (fun c5 => ?_)
  · refine ev_iconst (v := 0) dX7_step_50 rfl ?_
    refine ev_istore dX7_step_51 rfl ?_
    exact h 0 (bI_f (fun q => bI_0.mp c5 q.1)).symm
  · refine ev_iload_n dX7_step_8 rfl ?_
    refine ev_if_ne (tgt := 25) dX7_step_9 rfl (fun c9 => ?_) (fun c9 => ?_)
    · refine ev_iload_n dX7_step_25 rfl ?_
      refine ev_iconst (v := 1) dX7_step_26 rfl ?_
      refine ev_iconst (v := 2) dX7_step_27 rfl ?_
      refine evS3 dX7_step_28 cl_X7_step_115 ⟨rfl, rfl, fun h => nomatch h⟩ (Nat.le_of_ble_eq_true rfl) (m_in _ _ _ _) ?_
      refine ev_if_eq (tgt := 50) dX7_step_31 rfl (fun c31 => ?_) (fun c31 => ?_)
      · refine ev_iconst (v := 0) dX7_step_50 rfl ?_
        refine ev_istore dX7_step_51 rfl ?_
        exact h 0 (bI_f (fun q => q.2.elim (fun q => c9 q.1) (fun q => bI_0.mp c31 ((kd12 kd).mp q.2.1)))).symm
      · refine ev_iload_n dX7_step_34 rfl ?_
        refine ev_if_lt (tgt := 50) dX7_step_35 rfl (fun c35 => ?_) (fun c35 => ?_)
        · refine ev_iconst (v := 0) dX7_step_50 rfl ?_
          refine ev_istore dX7_step_51 rfl ?_
          exact h 0 (bI_f (fun q => q.2.elim (fun q => c9 q.1) (fun q => Int32.not_lt.mpr q.2.2.1 c35))).symm
        · refine ev_iload_n dX7_step_38 rfl ?_
          refine ev_aload_n dX7_step_39 rfl rfl ?_
          refine ev_getf dX7_step_40 fl_7_126 ?_
          refine ev_icmp_ge (tgt := 50) dX7_step_43 rfl (fun c43 => ?_) (fun c43 => ?_)
          · refine ev_iconst (v := 0) dX7_step_50 rfl ?_
            refine ev_istore dX7_step_51 rfl ?_
            exact h 0 (bI_f (fun q => q.2.elim (fun q => c9 q.1) (fun q => Int32.not_lt.mpr c43 q.2.2.2))).symm
          · refine ev_iconst (v := 1) dX7_step_46 rfl ?_
            refine ev_goto (tgt := 51) dX7_step_47 rfl ?_
            refine ev_istore dX7_step_51 rfl ?_
            exact h 1 (bI_t ⟨Classical.not_not.mp (fun q => c5 (bI_f q)), Or.inr ⟨c9, (kd12 kd).mpr (Classical.not_not.mp (fun q => c31 (bI_f q))), Int32.not_lt.mp c35, Int32.not_le.mp c43⟩⟩).symm
    · refine ev_iload_n dX7_step_12 rfl ?_
      refine ev_iconst (v := 1) dX7_step_13 rfl ?_
      refine ev_bipush (v := 20) dX7_step_14 rfl ?_
      refine evS3 dX7_step_16 cl_X7_step_115 ⟨rfl, rfl, fun h => nomatch h⟩ (Nat.le_of_ble_eq_true rfl) (m_in _ _ _ _) ?_
      refine ev_if_eq (tgt := 50) dX7_step_19 rfl (fun c19 => ?_) (fun c19 => ?_)
      · refine ev_iconst (v := 0) dX7_step_50 rfl ?_
        refine ev_istore dX7_step_51 rfl ?_
        exact h 0 (bI_f (fun q => q.2.elim (fun q => bI_0.mp c19 q.2) (fun q => q.1 (Classical.not_not.mp c9)))).symm
      · refine ev_goto (tgt := 46) dX7_step_22 rfl ?_
        refine ev_iconst (v := 1) dX7_step_46 rfl ?_
        refine ev_goto (tgt := 51) dX7_step_47 rfl ?_
        refine ev_istore dX7_step_51 rfl ?_
        exact h 1 (bI_t ⟨Classical.not_not.mp (fun q => c5 (bI_f q)), Or.inl ⟨Classical.not_not.mp c9, Classical.not_not.mp (fun q => c19 (bI_f q))⟩⟩).symm
theorem m_stepA (K M : KT) (G : GT) (x kd a : Int32) (hx : ¬ (isT (M.2 0 0) x ∧ stepOk M kd a)) : Ev M_X7_step 0 (ent M_X7_step [vR 8 0, vI x, vI kd, vI a]) [] (conc K M G) (0, some (vI 0), conc K (sI M 28 4 1) G) := by
  refine step_51 K M G x kd a _ (fun z hz => ?_)
  have z0 : z = 0 := hz.trans (bI_f hx)
  refine ev_aload_n dX7_step_53 rfl rfl ?_
  refine ev_iload dX7_step_54 rfl ?_
  refine ev_if_ne (tgt := 63) dX7_step_56 rfl (fun c56 => ?_) (fun c56 => ?_)
  · exact absurd z0 c56
  · refine ev_iconst (v := 1) dX7_step_59 rfl ?_
    refine ev_goto (tgt := 64) dX7_step_60 rfl ?_
    refine ev_putfS dX7_step_64 fl_7_109 rfl rfl (pu_mod_0 _ _ _ _) ?_
    refine ev_aload_n dX7_step_67 rfl rfl ?_
    refine ev_getf dX7_step_68 fl_7_109 ?_
    refine ev_if_le (tgt := 76) dX7_step_71 rfl (fun c71 => ?_) (fun c71 => ?_)
    · exact absurd c71 (show ¬ (1 : Int32) ≤ 0 by decide)
    · refine ev_iconst (v := 0) dX7_step_74 rfl ?_
      exact ev_iret dX7_step_75 (Or.inl rfl)
theorem step_76 (K M : KT) (G : GT) (x kd a : Int32) (r : Res) (hx : isT (M.2 0 0) x ∧ stepOk M kd a) (h : Ev M_X7_step 76 [vR 8 0, vI x, vI kd, vI a, vI 1] [] (conc K (sI M 28 4 0) G) r) : Ev M_X7_step 0 (ent M_X7_step [vR 8 0, vI x, vI kd, vI a]) [] (conc K M G) r := by
  refine step_51 K M G x kd a _ (fun z hz => ?_)
  have z1 : z = 1 := hz.trans (bI_t hx)
  subst z1
  refine ev_aload_n dX7_step_53 rfl rfl ?_
  refine ev_iload dX7_step_54 rfl ?_
  refine ev_if_ne (tgt := 63) dX7_step_56 rfl (fun c56 => ?_) (fun c56 => ?_)
  · refine ev_iconst (v := 0) dX7_step_63 rfl ?_
    refine ev_putfS dX7_step_64 fl_7_109 rfl rfl (pu_mod_0 _ _ _ _) ?_
    refine ev_aload_n dX7_step_67 rfl rfl ?_
    refine ev_getf dX7_step_68 fl_7_109 ?_
    refine ev_if_le (tgt := 76) dX7_step_71 rfl (fun c71 => ?_) (fun c71 => ?_)
    · exact h
    · exact absurd (show (0 : Int32) ≤ 0 by decide) c71
  · exact absurd (show (1 : Int32) = 0 from Classical.not_not.mp c56) (by decide)
theorem m_stepS (K M : KT) (G : GT) (t : Nat) (kd a : Int32) (h : Inv M) (ht : t < M.2 0 0) (hk : stepOk M kd a) (h1 : ¬ (M.1 28 1 = 0 ∧ M.2 2 t < 10)) : Ev M_X7_step 0 (ent M_X7_step [vR 8 0, vI (nI t), vI kd, vI a]) [] (conc K M G) (0, some (vI 0), conc K (sI M 28 4 2) G) := by
  have hn := h.1.1
  have hz := (h.2.2.1 t ht).1
  refine step_76 K M G _ kd a _ ⟨isT_of (by omega) ht, hk⟩ ?_
  have e : sI (sI M 28 4 0) 28 4 2 = sI M 28 4 2 := sI_sI M 28 4 0 2
  have h10 : ¬ nI (M.2 2 t) = 10 → M.2 2 t < 10 := fun q => by
    have : ¬ M.2 2 t = 10 := fun q2 => q (by rw [q2]; rfl)
    omega
  refine ev_aload_n dX7_step_76 rfl rfl ?_
  refine ev_aload_n dX7_step_77 rfl rfl ?_
  refine ev_getf dX7_step_78 fl_7_119 ?_
  refine ev_if_ne (tgt := 95) dX7_step_81 rfl (fun c81 => ?_) (fun c81 => ?_)
  · refine ev_iconst (v := 2) dX7_step_95 rfl ?_
    refine ev_goto (tgt := 100) dX7_step_96 rfl ?_
    refine ev_putfS dX7_step_100 fl_7_109 rfl rfl ((pu_mod_0 _ _ _ _).trans (by rw [e])) ?_
    refine ev_aload_n dX7_step_103 rfl rfl ?_
    refine ev_getf dX7_step_104 fl_7_109 ?_
    refine ev_if_le (tgt := 112) dX7_step_107 rfl (fun c107 => ?_) (fun c107 => ?_)
    · exact absurd c107 (show ¬ (2 : Int32) ≤ 0 by decide)
    · refine ev_iconst (v := 0) dX7_step_110 rfl ?_
      exact ev_iret dX7_step_111 (Or.inl rfl)
  · refine ev_aload_n dX7_step_84 rfl rfl ?_
    refine ev_getf dX7_step_85 fl_7_33 ?_
    refine ev_iload_n dX7_step_88 rfl ?_
    refine ev_iald dX7_step_89 rfl rfl (show _ < 8 from by omega) ?_
    refine ev_bipush (v := 10) dX7_step_90 rfl ?_
    refine ev_icmp_ne (tgt := 99) dX7_step_92 rfl (fun c92 => ?_) (fun c92 => ?_)
    · exact absurd ⟨Classical.not_not.mp c81, h10 c92⟩ h1
    · refine ev_iconst (v := 2) dX7_step_95 rfl ?_
      refine ev_goto (tgt := 100) dX7_step_96 rfl ?_
      refine ev_putfS dX7_step_100 fl_7_109 rfl rfl ((pu_mod_0 _ _ _ _).trans (by rw [e])) ?_
      refine ev_aload_n dX7_step_103 rfl rfl ?_
      refine ev_getf dX7_step_104 fl_7_109 ?_
      refine ev_if_le (tgt := 112) dX7_step_107 rfl (fun c107 => ?_) (fun c107 => ?_)
      · exact absurd c107 (show ¬ (2 : Int32) ≤ 0 by decide)
      · refine ev_iconst (v := 0) dX7_step_110 rfl ?_
        exact ev_iret dX7_step_111 (Or.inl rfl)
theorem m_step (K M : KT) (G : GT) (t : Nat) (kd a : Int32) (h : Inv M) (ht : t < M.2 0 0) (hk : stepOk M kd a) (h1 : M.1 28 1 = 0) (hz : M.2 2 t < 10) : Ev M_X7_step 0 (ent M_X7_step [vR 8 0, vI (nI t), vI kd, vI a]) [] (conc K M G) (0, some (vI (nI (M.2 2 t + 1))), conc K (stepK (sI M 28 4 0) t kd a) G) := by
  have hn := h.1.1
  refine step_76 K M G _ kd a _ ⟨isT_of (by omega) ht, hk⟩ ?_
  have e : sI (sI M 28 4 0) 28 4 0 = sI M 28 4 0 := sI_sI M 28 4 0 0
  have h10 : ¬ nI (M.2 2 t) = 10 := by rw [show (10 : Int32) = nI 10 from rfl, nI_eq (by omega) (by omega)]; omega
  refine ev_aload_n dX7_step_76 rfl rfl ?_
  refine ev_aload_n dX7_step_77 rfl rfl ?_
  refine ev_getf dX7_step_78 fl_7_119 ?_
  refine ev_if_ne (tgt := 95) dX7_step_81 rfl (fun c81 => ?_) (fun c81 => ?_)
  · exact absurd h1 c81
  · refine ev_aload_n dX7_step_84 rfl rfl ?_
    refine ev_getf dX7_step_85 fl_7_33 ?_
    refine ev_iload_n dX7_step_88 rfl ?_
    refine ev_iald dX7_step_89 rfl rfl (show _ < 8 from by omega) ?_
    refine ev_bipush (v := 10) dX7_step_90 rfl ?_
    refine ev_icmp_ne (tgt := 99) dX7_step_92 rfl (fun c92 => ?_) (fun c92 => ?_)
    · refine ev_iconst (v := 0) dX7_step_99 rfl ?_
      refine ev_putfS dX7_step_100 fl_7_109 rfl rfl ((pu_mod_0 _ _ _ _).trans (by rw [e])) ?_
      refine ev_aload_n dX7_step_103 rfl rfl ?_
      refine ev_getf dX7_step_104 fl_7_109 ?_
      refine ev_if_le (tgt := 112) dX7_step_107 rfl (fun c107 => ?_) (fun c107 => ?_)
      · refine ev_aload_n dX7_step_112 rfl rfl ?_
        refine ev_getf dX7_step_113 fl_7_36 ?_
        refine ev_bipush (v := 10) dX7_step_116 rfl ?_
        refine ev_iload_n dX7_step_118 rfl ?_
        refine ev_imul dX7_step_119 ?_
        refine ev_aload_n dX7_step_120 rfl rfl ?_
        refine ev_getf dX7_step_121 fl_7_33 ?_
        refine ev_iload_n dX7_step_124 rfl ?_
        refine ev_iald dX7_step_125 rfl rfl (show _ < 8 from by omega) ?_
        refine ev_iadd dX7_step_126 ?_
        refine ev_iload_n dX7_step_127 rfl ?_
        refine ev_iastS dX7_step_128 rfl (by decide) (ix10 t _) (show _ < 80 from (show 10 * t + M.2 2 t < 80 by omega)) (pu_ma_34 _ _ _ _ _) ?_
        refine ev_aload_n dX7_step_129 rfl rfl ?_
        refine ev_getf dX7_step_130 fl_7_39 ?_
        refine ev_bipush (v := 10) dX7_step_133 rfl ?_
        refine ev_iload_n dX7_step_135 rfl ?_
        refine ev_imul dX7_step_136 ?_
        refine ev_aload_n dX7_step_137 rfl rfl ?_
        refine ev_getf dX7_step_138 fl_7_33 ?_
        refine ev_iload_n dX7_step_141 rfl ?_
        refine ev_iald dX7_step_142 rfl rfl (show _ < 8 from by omega) ?_
        refine ev_iadd dX7_step_143 ?_
        refine ev_iload_n dX7_step_144 rfl ?_
        refine ev_iastS dX7_step_145 rfl (by decide) (ix10 t _) (show _ < 80 from (show 10 * t + M.2 2 t < 80 by omega)) (pu_ma_35 _ _ _ _ _) ?_
        refine ev_aload_n dX7_step_146 rfl rfl ?_
        refine ev_getf dX7_step_147 fl_7_33 ?_
        refine ev_iload_n dX7_step_150 rfl ?_
        refine ev_dup2 dX7_step_151 rfl rfl ?_
        refine ev_iald dX7_step_152 rfl rfl (show _ < 8 from by omega) ?_
        refine ev_iconst (v := 1) dX7_step_153 rfl ?_
        refine ev_iadd dX7_step_154 ?_
        refine ev_iastS dX7_step_155 rfl (by decide) rfl (show _ < 8 from by omega) (setS_v (congrArg vI (nI_1 _)) (pu_ma_33 _ _ _ _ _)) ?_
        refine ev_aload_n dX7_step_156 rfl rfl ?_
        refine ev_getf dX7_step_157 fl_7_33 ?_
        refine ev_iload_n dX7_step_160 rfl ?_
        refine ev_ialdv dX7_step_161 rfl rfl (show _ < 8 from by omega) (show _ = vI (nI (M.2 2 t + 1)) from by show vI (nI (if t = t then M.2 2 t + 1 else _)) = _; rw [if_pos rfl]) ?_
        exact ev_iret dX7_step_162 (Or.inl rfl)
      · exact absurd (show (0 : Int32) ≤ 0 by decide) c107
    · exact absurd (Classical.not_not.mp c92) h10
/-! a mutex -/
theorem mutex_29 (K M : KT) (G : GT) (p c : Int32) (r : Res) (h : ∀ z : Int32, z = bI (mutOk p c) → Ev M_X7_mutex 30 [vR 8 0, vI p, vI c, vI z] [] (conc K M G) r) : Ev M_X7_mutex 0 (ent M_X7_mutex [vR 8 0, vI p, vI c]) [] (conc K M G) r := by
  show Ev M_X7_mutex 0 [vR 8 0, vI p, vI c, vU] [] (conc K M G) _
  refine ev_iload_n dX7_mutex_0 rfl ?_
  refine ev_iconst (v := 0) dX7_mutex_1 rfl ?_
  refine ev_iconst (v := 2) dX7_mutex_2 rfl ?_
  refine evS3 dX7_mutex_3 cl_X7_mutex_115 ⟨rfl, rfl, fun h => nomatch h⟩ (Nat.le_of_ble_eq_true rfl) (m_in _ _ _ _) ?_
  refine ev_if_eq (tgt := 28) dX7_mutex_6 rfl (fun c6 => ?_) (fun c6 => ?_)
  · refine ev_iconst (v := 0) dX7_mutex_28 rfl ?_
    refine ev_istore_n dX7_mutex_29 rfl ?_
    exact h 0 (bI_f (fun q => bI_0.mp c6 q.1)).symm
  · have hp := Classical.not_not.mp (fun q => c6 (bI_f q))
    refine ev_iload_n dX7_mutex_9 rfl ?_
    refine ev_iconst (v := 2) dX7_mutex_10 rfl ?_
    refine ev_icmp_lt (tgt := 24) dX7_mutex_11 rfl (fun c11 => ?_) (fun c11 => ?_)
    · refine ev_iconst (v := 1) dX7_mutex_24 rfl ?_
      refine ev_goto (tgt := 29) dX7_mutex_25 rfl ?_
      refine ev_istore_n dX7_mutex_29 rfl ?_
      exact h 1 (bI_t ⟨hp, Or.inl (fun q => absurd c11 (by rw [q]; decide))⟩).symm
    · have p2 : p = 2 := Int32.le_antisymm hp.2 (Int32.not_lt.mp c11)
      refine ev_iload_n dX7_mutex_14 rfl ?_
      refine ev_iconst (v := 1) dX7_mutex_15 rfl ?_
      refine ev_bipush (v := 31) dX7_mutex_16 rfl ?_
      refine evS3 dX7_mutex_18 cl_X7_mutex_115 ⟨rfl, rfl, fun h => nomatch h⟩ (Nat.le_of_ble_eq_true rfl) (m_in _ _ _ _) ?_
      refine ev_if_eq (tgt := 28) dX7_mutex_21 rfl (fun c21 => ?_) (fun c21 => ?_)
      · refine ev_iconst (v := 0) dX7_mutex_28 rfl ?_
        refine ev_istore_n dX7_mutex_29 rfl ?_
        exact h 0 (bI_f (fun q => q.2.elim (fun q => q p2) (bI_0.mp c21))).symm
      · refine ev_iconst (v := 1) dX7_mutex_24 rfl ?_
        refine ev_goto (tgt := 29) dX7_mutex_25 rfl ?_
        refine ev_istore_n dX7_mutex_29 rfl ?_
        exact h 1 (bI_t ⟨hp, Or.inr (Classical.not_not.mp (fun q => c21 (bI_f q)))⟩).symm
theorem m_mutexA (K M : KT) (G : GT) (p c : Int32) (ok : ¬ mutOk p c) : Ev M_X7_mutex 0 (ent M_X7_mutex [vR 8 0, vI p, vI c]) [] (conc K M G) (0, some (vI 0), conc K (sI M 28 4 1) G) := by
  refine mutex_29 K M G p c _ (fun z hz => ?_)
  have z0 : z = 0 := hz.trans (bI_f ok)
  refine ev_aload_n dX7_mutex_30 rfl rfl ?_
  refine ev_iload_n dX7_mutex_31 rfl ?_
  refine ev_if_ne (tgt := 39) dX7_mutex_32 rfl (fun c32 => ?_) (fun c32 => ?_)
  · exact absurd z0 c32
  · refine ev_iconst (v := 1) dX7_mutex_35 rfl ?_
    refine ev_goto (tgt := 59) dX7_mutex_36 rfl ?_
    refine ev_putfS dX7_mutex_59 fl_7_109 rfl rfl (pu_mod_0 _ _ _ _) ?_
    refine ev_aload_n dX7_mutex_62 rfl rfl ?_
    refine ev_getf dX7_mutex_63 fl_7_109 ?_
    refine ev_if_le (tgt := 71) dX7_mutex_66 rfl (fun c66 => ?_) (fun c66 => ?_)
    · exact absurd c66 (show ¬ (1 : Int32) ≤ 0 by decide)
    · refine ev_iconst (v := 0) dX7_mutex_69 rfl ?_
      exact ev_iret dX7_mutex_70 (Or.inl rfl)
theorem m_mutexS (K M : KT) (G : GT) (p c : Int32) (hm : M.2 0 1 ≤ 4) (ok : mutOk p c) (h1 : ¬ (M.1 28 1 = 0 ∧ M.2 0 1 < 4)) : Ev M_X7_mutex 0 (ent M_X7_mutex [vR 8 0, vI p, vI c]) [] (conc K M G) (0, some (vI 0), conc K (sI M 28 4 2) G) := by
  refine mutex_29 K M G p c _ (fun z hz => ?_)
  have z1 : z = 1 := hz.trans (bI_t ok)
  subst z1
  have h4 : ¬ nI (M.2 0 1) = 4 → M.2 0 1 < 4 := fun q => by
    have : ¬ M.2 0 1 = 4 := fun q2 => q (by rw [q2]; rfl)
    omega
  refine ev_aload_n dX7_mutex_30 rfl rfl ?_
  refine ev_iload_n dX7_mutex_31 rfl ?_
  refine ev_if_ne (tgt := 39) dX7_mutex_32 rfl (fun c32 => ?_) (fun c32 => ?_)
  · refine ev_aload_n dX7_mutex_39 rfl rfl ?_
    refine ev_getf dX7_mutex_40 fl_7_119 ?_
    refine ev_if_ne (tgt := 54) dX7_mutex_43 rfl (fun c43 => ?_) (fun c43 => ?_)
    · refine ev_iconst (v := 2) dX7_mutex_54 rfl ?_
      refine ev_goto (tgt := 59) dX7_mutex_55 rfl ?_
      refine ev_putfS dX7_mutex_59 fl_7_109 rfl rfl (pu_mod_0 _ _ _ _) ?_
      refine ev_aload_n dX7_mutex_62 rfl rfl ?_
      refine ev_getf dX7_mutex_63 fl_7_109 ?_
      refine ev_if_le (tgt := 71) dX7_mutex_66 rfl (fun c66 => ?_) (fun c66 => ?_)
      · exact absurd c66 (show ¬ (2 : Int32) ≤ 0 by decide)
      · refine ev_iconst (v := 0) dX7_mutex_69 rfl ?_
        exact ev_iret dX7_mutex_70 (Or.inl rfl)
    · refine ev_aload_n dX7_mutex_46 rfl rfl ?_
      refine ev_getf dX7_mutex_47 fl_7_126 ?_
      refine ev_iconst (v := 4) dX7_mutex_50 rfl ?_
      refine ev_icmp_ne (tgt := 58) dX7_mutex_51 rfl (fun c51 => ?_) (fun c51 => ?_)
      · exact absurd ⟨Classical.not_not.mp c43, h4 c51⟩ h1
      · refine ev_iconst (v := 2) dX7_mutex_54 rfl ?_
        refine ev_goto (tgt := 59) dX7_mutex_55 rfl ?_
        refine ev_putfS dX7_mutex_59 fl_7_109 rfl rfl (pu_mod_0 _ _ _ _) ?_
        refine ev_aload_n dX7_mutex_62 rfl rfl ?_
        refine ev_getf dX7_mutex_63 fl_7_109 ?_
        refine ev_if_le (tgt := 71) dX7_mutex_66 rfl (fun c66 => ?_) (fun c66 => ?_)
        · exact absurd c66 (show ¬ (2 : Int32) ≤ 0 by decide)
        · refine ev_iconst (v := 0) dX7_mutex_69 rfl ?_
          exact ev_iret dX7_mutex_70 (Or.inl rfl)
  · exact absurd (show (1 : Int32) = 0 from Classical.not_not.mp c32) (by decide)
theorem m_mutex (K M : KT) (G : GT) (p c : Int32) (hm : M.2 0 1 < 4) (ok : mutOk p c) (h1 : M.1 28 1 = 0) : Ev M_X7_mutex 0 (ent M_X7_mutex [vR 8 0, vI p, vI c]) [] (conc K M G) (0, some (vI (nI (M.2 0 1))), conc K (mutexK (sI M 28 4 0) p c) G) := by
  have hs : nI (M.2 0 1 + 1) - 1 = nI (M.2 0 1) := by rw [show (1 : Int32) = nI 1 from rfl, pk_sub (by omega)]; rfl
  refine mutex_29 K M G p c _ (fun z hz => ?_)
  have z1 : z = 1 := hz.trans (bI_t ok)
  subst z1
  have h4 : ¬ nI (M.2 0 1) = 4 := by rw [show (4 : Int32) = nI 4 from rfl, nI_eq (by omega) (by omega)]; omega
  refine ev_aload_n dX7_mutex_30 rfl rfl ?_
  refine ev_iload_n dX7_mutex_31 rfl ?_
  refine ev_if_ne (tgt := 39) dX7_mutex_32 rfl (fun c32 => ?_) (fun c32 => ?_)
  · refine ev_aload_n dX7_mutex_39 rfl rfl ?_
    refine ev_getf dX7_mutex_40 fl_7_119 ?_
    refine ev_if_ne (tgt := 54) dX7_mutex_43 rfl (fun c43 => ?_) (fun c43 => ?_)
    · exact absurd h1 c43
    · refine ev_aload_n dX7_mutex_46 rfl rfl ?_
      refine ev_getf dX7_mutex_47 fl_7_126 ?_
      refine ev_iconst (v := 4) dX7_mutex_50 rfl ?_
      refine ev_icmp_ne (tgt := 58) dX7_mutex_51 rfl (fun c51 => ?_) (fun c51 => ?_)
      · refine ev_iconst (v := 0) dX7_mutex_58 rfl ?_
        refine ev_putfS dX7_mutex_59 fl_7_109 rfl rfl (pu_mod_0 _ _ _ _) ?_
        refine ev_aload_n dX7_mutex_62 rfl rfl ?_
        refine ev_getf dX7_mutex_63 fl_7_109 ?_
        refine ev_if_le (tgt := 71) dX7_mutex_66 rfl (fun c66 => ?_) (fun c66 => ?_)
        · refine ev_aload_n dX7_mutex_71 rfl rfl ?_
          refine ev_getf dX7_mutex_72 fl_7_87 ?_
          refine ev_aload_n dX7_mutex_75 rfl rfl ?_
          refine ev_getf dX7_mutex_76 fl_7_126 ?_
          refine ev_iload_n dX7_mutex_79 rfl ?_
          refine ev_iastS dX7_mutex_80 rfl (by decide) rfl (show _ < 4 from hm) (pu_ma_52 _ _ _ _ _) ?_
          refine ev_aload_n dX7_mutex_81 rfl rfl ?_
          refine ev_getf dX7_mutex_82 fl_7_90 ?_
          refine ev_aload_n dX7_mutex_85 rfl rfl ?_
          refine ev_getf dX7_mutex_86 fl_7_126 ?_
          refine ev_iload_n dX7_mutex_89 rfl ?_
          refine ev_iastS dX7_mutex_90 rfl (by decide) rfl (show _ < 4 from hm) (pu_ma_53 _ _ _ _ _) ?_
          refine ev_aload_n dX7_mutex_91 rfl rfl ?_
          refine ev_getf dX7_mutex_92 fl_7_93 ?_
          refine ev_aload_n dX7_mutex_95 rfl rfl ?_
          refine ev_getf dX7_mutex_96 fl_7_126 ?_
          refine ev_iconst (v := (-1)) dX7_mutex_99 rfl ?_
          refine ev_iastS dX7_mutex_100 rfl (by decide) rfl (show _ < 4 from hm) (setS_v (show vI (-1) = vI (mi 0) from rfl) (pu_ma_54 _ _ _ _ _)) ?_
          refine ev_aload_n dX7_mutex_101 rfl rfl ?_
          refine ev_dup dX7_mutex_102 rfl ?_
          refine ev_getf dX7_mutex_103 fl_7_126 ?_
          refine ev_iconst (v := 1) dX7_mutex_106 rfl ?_
          refine ev_iadd dX7_mutex_107 ?_
          refine ev_putfS dX7_mutex_108 fl_7_126 rfl rfl (setS_v (congrArg vI (nI_1 _)) (pu_mod_31 _ _ _ _)) ?_
          refine ev_aload_n dX7_mutex_111 rfl rfl ?_
          refine ev_getf dX7_mutex_112 fl_7_126 ?_
          refine ev_iconst (v := 1) dX7_mutex_115 rfl ?_
          refine ev_isub dX7_mutex_116 ?_
          rw [← hs]
          exact ev_iret dX7_mutex_117 (Or.inl rfl)
        · exact absurd (show (0 : Int32) ≤ 0 by decide) c66
      · exact absurd (Classical.not_not.mp c51) h4
  · exact absurd (show (1 : Int32) = 0 from Classical.not_not.mp c32) (by decide)
/-! a task -/
theorem task_64 (K M : KT) (G : GT) (p e f d b : Int32) (r : Res) (h : ∀ z : Int32, z = bI (taskOk p e f d b) → Ev M_X7_task 66 [vR 8 0, vI p, vI e, vI f, vI d, vI b, vI z] [] (conc K M G) r) : Ev M_X7_task 0 (ent M_X7_task [vR 8 0, vI p, vI e, vI f, vI d, vI b]) [] (conc K M G) r := by
  show Ev M_X7_task 0 [vR 8 0, vI p, vI e, vI f, vI d, vI b, vU] [] (conc K M G) _
  have h25 : (1 ≤ p ∧ p ≤ 31) → (e = 0 ∨ (2 ≤ e ∧ e ≤ 200)) → Ev M_X7_task 25 [vR 8 0, vI p, vI e, vI f, vI d, vI b, vU] [] (conc K M G) r := by
    intro hp he
    refine ev_iload_n dX7_task_25 rfl ?_
    refine ev_iconst (v := 0) dX7_task_26 rfl ?_
    refine ev_bipush (v := 50) dX7_task_27 rfl ?_
    refine evS3 dX7_task_29 cl_X7_task_115 ⟨rfl, rfl, fun h => nomatch h⟩ (Nat.le_of_ble_eq_true rfl) (m_in _ _ _ _) ?_
    refine ev_if_eq (tgt := 63) dX7_task_32 rfl (fun c32 => ?_) (fun c32 => ?_)
    · refine ev_iconst (v := 0) dX7_task_63 rfl ?_
      refine ev_istore dX7_task_64 rfl ?_
      exact h 0 (bI_f (fun q => bI_0.mp c32 q.2.2.1)).symm
    · refine ev_iload dX7_task_35 rfl ?_
      refine ev_iconst (v := 1) dX7_task_37 rfl ?_
      refine ev_sipush (v := 200) dX7_task_38 rfl ?_
      refine evS3 dX7_task_41 cl_X7_task_115 ⟨rfl, rfl, fun h => nomatch h⟩ (Nat.le_of_ble_eq_true rfl) (m_in _ _ _ _) ?_
      refine ev_if_eq (tgt := 63) dX7_task_44 rfl (fun c44 => ?_) (fun c44 => ?_)
      · refine ev_iconst (v := 0) dX7_task_63 rfl ?_
        refine ev_istore dX7_task_64 rfl ?_
        exact h 0 (bI_f (fun q => bI_0.mp c44 q.2.2.2.1)).symm
      · refine ev_iload dX7_task_47 rfl ?_
        refine ev_iconst (v := 1) dX7_task_49 rfl ?_
        refine ev_sipush (v := 200) dX7_task_50 rfl ?_
        refine evS3 dX7_task_53 cl_X7_task_115 ⟨rfl, rfl, fun h => nomatch h⟩ (Nat.le_of_ble_eq_true rfl) (m_in _ _ _ _) ?_
        refine ev_if_eq (tgt := 63) dX7_task_56 rfl (fun c56 => ?_) (fun c56 => ?_)
        · refine ev_iconst (v := 0) dX7_task_63 rfl ?_
          refine ev_istore dX7_task_64 rfl ?_
          exact h 0 (bI_f (fun q => bI_0.mp c56 q.2.2.2.2)).symm
        · refine ev_iconst (v := 1) dX7_task_59 rfl ?_
          refine ev_goto (tgt := 64) dX7_task_60 rfl ?_
          refine ev_istore dX7_task_64 rfl ?_
          exact h 1 (bI_t ⟨he, hp, Classical.not_not.mp (fun q => c32 (bI_f q)), Classical.not_not.mp (fun q => c44 (bI_f q)), Classical.not_not.mp (fun q => c56 (bI_f q))⟩).symm
  refine ev_iload_n dX7_task_0 rfl ?_
  refine ev_iconst (v := 1) dX7_task_1 rfl ?_
  refine ev_bipush (v := 31) dX7_task_2 rfl ?_
  refine evS3 dX7_task_4 cl_X7_task_115 ⟨rfl, rfl, fun h => nomatch h⟩ (Nat.le_of_ble_eq_true rfl) (m_in _ _ _ _) ?_
  refine ev_if_eq (tgt := 63) dX7_task_7 rfl (fun c7 => ?_) (fun c7 => ?_)
  · refine ev_iconst (v := 0) dX7_task_63 rfl ?_
    refine ev_istore dX7_task_64 rfl ?_
    exact h 0 (bI_f (fun q => bI_0.mp c7 q.2.1)).symm
  · have hp := Classical.not_not.mp (fun q => c7 (bI_f q))
    refine ev_iload_n dX7_task_10 rfl ?_
    refine ev_if_eq (tgt := 25) dX7_task_11 rfl (fun c11 => ?_) (fun c11 => ?_)
    · exact h25 hp (Or.inl c11)
    · refine ev_iload_n dX7_task_14 rfl ?_
      refine ev_iconst (v := 2) dX7_task_15 rfl ?_
      refine ev_sipush (v := 200) dX7_task_16 rfl ?_
      refine evS3 dX7_task_19 cl_X7_task_115 ⟨rfl, rfl, fun h => nomatch h⟩ (Nat.le_of_ble_eq_true rfl) (m_in _ _ _ _) ?_
      refine ev_if_eq (tgt := 63) dX7_task_22 rfl (fun c22 => ?_) (fun c22 => ?_)
      · refine ev_iconst (v := 0) dX7_task_63 rfl ?_
        refine ev_istore dX7_task_64 rfl ?_
        exact h 0 (bI_f (fun q => q.1.elim c11 (bI_0.mp c22))).symm
      · exact h25 hp (Or.inr (Classical.not_not.mp (fun q => c22 (bI_f q))))
theorem m_taskA (K M : KT) (G : GT) (p e f d b : Int32) (ok : ¬ taskOk p e f d b) : Ev M_X7_task 0 (ent M_X7_task [vR 8 0, vI p, vI e, vI f, vI d, vI b]) [] (conc K M G) (0, some (vI 0), conc K (sI M 28 4 1) G) := by
  refine task_64 K M G p e f d b _ (fun z hz => ?_)
  have z0 : z = 0 := hz.trans (bI_f ok)
  refine ev_aload_n dX7_task_66 rfl rfl ?_
  refine ev_iload dX7_task_67 rfl ?_
  refine ev_if_ne (tgt := 76) dX7_task_69 rfl (fun c69 => ?_) (fun c69 => ?_)
  · exact absurd z0 c69
  · refine ev_iconst (v := 1) dX7_task_72 rfl ?_
    refine ev_goto (tgt := 97) dX7_task_73 rfl ?_
    refine ev_putfS dX7_task_97 fl_7_109 rfl rfl (pu_mod_0 _ _ _ _) ?_
    refine ev_aload_n dX7_task_100 rfl rfl ?_
    refine ev_getf dX7_task_101 fl_7_109 ?_
    refine ev_if_le (tgt := 109) dX7_task_104 rfl (fun c104 => ?_) (fun c104 => ?_)
    · exact absurd c104 (show ¬ (1 : Int32) ≤ 0 by decide)
    · refine ev_iconst (v := 0) dX7_task_107 rfl ?_
      exact ev_iret dX7_task_108 (Or.inl rfl)
theorem m_taskS (K M : KT) (G : GT) (p e f d b : Int32) (hn : M.2 0 0 ≤ 8) (ok : taskOk p e f d b) (h1 : ¬ (M.1 28 1 = 0 ∧ M.2 0 0 < 8)) : Ev M_X7_task 0 (ent M_X7_task [vR 8 0, vI p, vI e, vI f, vI d, vI b]) [] (conc K M G) (0, some (vI 0), conc K (sI M 28 4 2) G) := by
  refine task_64 K M G p e f d b _ (fun z hz => ?_)
  have z1 : z = 1 := hz.trans (bI_t ok)
  subst z1
  have h8 : ¬ nI (M.2 0 0) = 8 → M.2 0 0 < 8 := fun q => by
    have : ¬ M.2 0 0 = 8 := fun q2 => q (by rw [q2]; rfl)
    omega
  refine ev_aload_n dX7_task_66 rfl rfl ?_
  refine ev_iload dX7_task_67 rfl ?_
  refine ev_if_ne (tgt := 76) dX7_task_69 rfl (fun c69 => ?_) (fun c69 => ?_)
  · refine ev_aload_n dX7_task_76 rfl rfl ?_
    refine ev_getf dX7_task_77 fl_7_119 ?_
    refine ev_if_ne (tgt := 92) dX7_task_80 rfl (fun c80 => ?_) (fun c80 => ?_)
    · refine ev_iconst (v := 2) dX7_task_92 rfl ?_
      refine ev_goto (tgt := 97) dX7_task_93 rfl ?_
      refine ev_putfS dX7_task_97 fl_7_109 rfl rfl (pu_mod_0 _ _ _ _) ?_
      refine ev_aload_n dX7_task_100 rfl rfl ?_
      refine ev_getf dX7_task_101 fl_7_109 ?_
      refine ev_if_le (tgt := 109) dX7_task_104 rfl (fun c104 => ?_) (fun c104 => ?_)
      · exact absurd c104 (show ¬ (2 : Int32) ≤ 0 by decide)
      · refine ev_iconst (v := 0) dX7_task_107 rfl ?_
        exact ev_iret dX7_task_108 (Or.inl rfl)
    · refine ev_aload_n dX7_task_83 rfl rfl ?_
      refine ev_getf dX7_task_84 fl_7_112 ?_
      refine ev_bipush (v := 8) dX7_task_87 rfl ?_
      refine ev_icmp_ne (tgt := 96) dX7_task_89 rfl (fun c89 => ?_) (fun c89 => ?_)
      · exact absurd ⟨Classical.not_not.mp c80, h8 c89⟩ h1
      · refine ev_iconst (v := 2) dX7_task_92 rfl ?_
        refine ev_goto (tgt := 97) dX7_task_93 rfl ?_
        refine ev_putfS dX7_task_97 fl_7_109 rfl rfl (pu_mod_0 _ _ _ _) ?_
        refine ev_aload_n dX7_task_100 rfl rfl ?_
        refine ev_getf dX7_task_101 fl_7_109 ?_
        refine ev_if_le (tgt := 109) dX7_task_104 rfl (fun c104 => ?_) (fun c104 => ?_)
        · exact absurd c104 (show ¬ (2 : Int32) ≤ 0 by decide)
        · refine ev_iconst (v := 0) dX7_task_107 rfl ?_
          exact ev_iret dX7_task_108 (Or.inl rfl)
  · exact absurd (show (1 : Int32) = 0 from Classical.not_not.mp c69) (by decide)
theorem m_task (K M : KT) (G : GT) (p e f d b : Int32) (hn : M.2 0 0 < 8) (ok : taskOk p e f d b) (h1 : M.1 28 1 = 0) : Ev M_X7_task 0 (ent M_X7_task [vR 8 0, vI p, vI e, vI f, vI d, vI b]) [] (conc K M G) (0, some (vI (nI (M.2 0 0))), conc K (taskK (sI M 28 4 0) p e f d b) G) := by
  have hs : nI (M.2 0 0 + 1) - 1 = nI (M.2 0 0) := by rw [show (1 : Int32) = nI 1 from rfl, pk_sub (by omega)]; rfl
  refine task_64 K M G p e f d b _ (fun z hz => ?_)
  have z1 : z = 1 := hz.trans (bI_t ok)
  subst z1
  have h8 : ¬ nI (M.2 0 0) = 8 := by rw [show (8 : Int32) = nI 8 from rfl, nI_eq (by omega) (by omega)]; omega
  refine ev_aload_n dX7_task_66 rfl rfl ?_
  refine ev_iload dX7_task_67 rfl ?_
  refine ev_if_ne (tgt := 76) dX7_task_69 rfl (fun c69 => ?_) (fun c69 => ?_)
  · refine ev_aload_n dX7_task_76 rfl rfl ?_
    refine ev_getf dX7_task_77 fl_7_119 ?_
    refine ev_if_ne (tgt := 92) dX7_task_80 rfl (fun c80 => ?_) (fun c80 => ?_)
    · exact absurd h1 c80
    · refine ev_aload_n dX7_task_83 rfl rfl ?_
      refine ev_getf dX7_task_84 fl_7_112 ?_
      refine ev_bipush (v := 8) dX7_task_87 rfl ?_
      refine ev_icmp_ne (tgt := 96) dX7_task_89 rfl (fun c89 => ?_) (fun c89 => ?_)
      · refine ev_iconst (v := 0) dX7_task_96 rfl ?_
        refine ev_putfS dX7_task_97 fl_7_109 rfl rfl (pu_mod_0 _ _ _ _) ?_
        refine ev_aload_n dX7_task_100 rfl rfl ?_
        refine ev_getf dX7_task_101 fl_7_109 ?_
        refine ev_if_le (tgt := 109) dX7_task_104 rfl (fun c104 => ?_) (fun c104 => ?_)
        · refine ev_aload_n dX7_task_109 rfl rfl ?_
          refine ev_getf dX7_task_110 fl_7_13 ?_
          refine ev_aload_n dX7_task_113 rfl rfl ?_
          refine ev_getf dX7_task_114 fl_7_112 ?_
          refine ev_iload_n dX7_task_117 rfl ?_
          refine ev_iastS dX7_task_118 rfl (by decide) rfl (show _ < 8 from hn) (pu_ma_27 _ _ _ _ _) ?_
          refine ev_aload_n dX7_task_119 rfl rfl ?_
          refine ev_getf dX7_task_120 fl_7_17 ?_
          refine ev_aload_n dX7_task_123 rfl rfl ?_
          refine ev_getf dX7_task_124 fl_7_112 ?_
          refine ev_iload_n dX7_task_127 rfl ?_
          refine ev_iastS dX7_task_128 rfl (by decide) rfl (show _ < 8 from hn) (pu_ma_28 _ _ _ _ _) ?_
          refine ev_aload_n dX7_task_129 rfl rfl ?_
          refine ev_getf dX7_task_130 fl_7_20 ?_
          refine ev_aload_n dX7_task_133 rfl rfl ?_
          refine ev_getf dX7_task_134 fl_7_112 ?_
          refine ev_iload_n dX7_task_137 rfl ?_
          refine ev_iastS dX7_task_138 rfl (by decide) rfl (show _ < 8 from hn) (pu_ma_29 _ _ _ _ _) ?_
          refine ev_aload_n dX7_task_139 rfl rfl ?_
          refine ev_getf dX7_task_140 fl_7_23 ?_
          refine ev_aload_n dX7_task_143 rfl rfl ?_
          refine ev_getf dX7_task_144 fl_7_112 ?_
          refine ev_iload dX7_task_147 rfl ?_
          refine ev_iastS dX7_task_149 rfl (by decide) rfl (show _ < 8 from hn) (pu_ma_30 _ _ _ _ _) ?_
          refine ev_aload_n dX7_task_150 rfl rfl ?_
          refine ev_getf dX7_task_151 fl_7_26 ?_
          refine ev_aload_n dX7_task_154 rfl rfl ?_
          refine ev_getf dX7_task_155 fl_7_112 ?_
          refine ev_iload dX7_task_158 rfl ?_
          refine ev_iastS dX7_task_160 rfl (by decide) rfl (show _ < 8 from hn) (pu_ma_31 _ _ _ _ _) ?_
          refine ev_aload_n dX7_task_161 rfl rfl ?_
          refine ev_getf dX7_task_162 fl_7_60 ?_
          refine ev_aload_n dX7_task_165 rfl rfl ?_
          refine ev_getf dX7_task_166 fl_7_112 ?_
          refine ev_iconst (v := (-1)) dX7_task_169 rfl ?_
          refine ev_iastS dX7_task_170 rfl (by decide) rfl (show _ < 8 from hn) (setS_v (show vI (-1) = vI (mi 0) from rfl) (pu_ma_42 _ _ _ _ _)) ?_
          refine ev_aload_n dX7_task_171 rfl rfl ?_
          refine ev_dup dX7_task_172 rfl ?_
          refine ev_getf dX7_task_173 fl_7_112 ?_
          refine ev_iconst (v := 1) dX7_task_176 rfl ?_
          refine ev_iadd dX7_task_177 ?_
          refine ev_putfS dX7_task_178 fl_7_112 rfl rfl (setS_v (congrArg vI (nI_1 _)) (pu_mod_6 _ _ _ _)) ?_
          refine ev_aload_n dX7_task_181 rfl rfl ?_
          refine ev_getf dX7_task_182 fl_7_112 ?_
          refine ev_iconst (v := 1) dX7_task_185 rfl ?_
          refine ev_isub dX7_task_186 ?_
          rw [← hs]
          exact ev_iret dX7_task_187 (Or.inl rfl)
        · exact absurd (show (0 : Int32) ≤ 0 by decide) c104
      · exact absurd (Classical.not_not.mp c89) h8
  · exact absurd (show (1 : Int32) = 0 from Classical.not_not.mp c69) (by decide)
