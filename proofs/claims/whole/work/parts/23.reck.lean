/-! THE CLASS: the reckoning -/
def costN (K : KT) (t : Nat) : Nat → Nat → Int32 → Int32
  | 0, _, c => c
  | j + 1, k, c => costN K t j (k + 1) (if K.1 26 (10 * t + k) = 0 then c + K.1 27 (10 * t + k) else c)
def costV (K : KT) (t : Nat) : Int32 := costN K t (K.2 2 t) 0 0
theorem cost_loop (K M : KT) (G : GT) (t : Nat) (hz : K.2 2 t ≤ 10) : ∀ (j i : Nat) (c : Int32), i + j = K.2 2 t → Ev M_X0_cost 4 [vR 1 t, vI c, vI (nI i)] [] (conc K M G) (0, some (vI (costN K t j i c)), conc K M G) := by
  intro j
  induction j with
  | zero =>
    intro i c hi
    refine ev_iload_n dX0_cost_4 rfl ?_
    refine ev_aload_n dX0_cost_5 rfl rfl ?_
    refine ev_getf dX0_cost_6 fl_0_18 ?_
    refine ev_icmp_ge (tgt := 36) dX0_cost_9 rfl (fun c9 => ?_) (fun c9 => ?_)
    · refine ev_iload_n dX0_cost_36 rfl ?_
      exact ev_iret dX0_cost_37 (Or.inl rfl)
    · exact absurd (nI_le (a := K.2 2 t) (b := i) (by omega) (by omega)) c9
  | succ j ih =>
    intro i c hi
    have e1 : nI i + Int32.ofInt 1 = nI (i + 1) := nI_1 i
    refine ev_iload_n dX0_cost_4 rfl ?_
    refine ev_aload_n dX0_cost_5 rfl rfl ?_
    refine ev_getf dX0_cost_6 fl_0_18 ?_
    refine ev_icmp_ge (tgt := 36) dX0_cost_9 rfl (fun c9 => ?_) (fun c9 => ?_)
    · exact absurd c9 (nI_ge (a := i) (b := K.2 2 t) (by omega) (by omega))
    · refine ev_aload_n dX0_cost_12 rfl rfl ?_
      refine ev_getf dX0_cost_13 fl_0_9 ?_
      refine ev_iload_n dX0_cost_16 rfl ?_
      refine ev_ialdv dX0_cost_17 rfl rfl (show _ < 10 from by omega) (co_bk (by omega)) ?_
      refine ev_if_ne (tgt := 30) dX0_cost_18 rfl (fun c18 => ?_) (fun c18 => ?_)
      · refine ev_iinc dX0_cost_30 rfl ?_
        refine ev_goto (tgt := 4) dX0_cost_33 rfl ?_
        simp only [costN]
        rw [if_neg c18, e1]
        exact ih (i + 1) c (by omega)
      · refine ev_iload_n dX0_cost_21 rfl ?_
        refine ev_aload_n dX0_cost_22 rfl rfl ?_
        refine ev_getf dX0_cost_23 fl_0_15 ?_
        refine ev_iload_n dX0_cost_26 rfl ?_
        refine ev_ialdv dX0_cost_27 rfl rfl (show _ < 10 from by omega) (co_ba (by omega)) ?_
        refine ev_iadd dX0_cost_28 ?_
        refine ev_istore_n dX0_cost_29 rfl ?_
        refine ev_iinc dX0_cost_30 rfl ?_
        refine ev_goto (tgt := 4) dX0_cost_33 rfl ?_
        simp only [costN]
        rw [if_pos (Classical.not_not.mp c18), e1]
        exact ih (i + 1) _ (by omega)
theorem e_cost (K M : KT) (G : GT) (t : Nat) (hz : K.2 2 t ≤ 10) : Ev M_X0_cost 0 (ent M_X0_cost [vR 1 t]) [] (conc K M G) (0, some (vI (costV K t)), conc K M G) := by
  show Ev M_X0_cost 0 [vR 1 t, vU, vU] [] (conc K M G) _
  have hl := cost_loop K M G t hz (K.2 2 t) 0 0 (by omega)
  refine ev_iconst (v := 0) dX0_cost_0 rfl ?_
  refine ev_istore_n dX0_cost_1 rfl ?_
  refine ev_iconst (v := 0) dX0_cost_2 rfl ?_
  refine ev_istore_n dX0_cost_3 rfl ?_
  exact hl
def secN (K : KT) (t : Nat) (x : Int32) : Nat → Nat → Int32 → Int32
  | 0, _, c => c
  | j + 1, k, c => if K.1 26 (10 * t + k) = 2 ∧ K.1 27 (10 * t + k) = x then c else secN K t x j (k + 1) (if K.1 26 (10 * t + k) = 0 then c + K.1 27 (10 * t + k) else c)
theorem sec_loop (K M : KT) (G : GT) (t : Nat) (x y : Int32) (hz : K.2 2 t ≤ 10) : ∀ (j i : Nat) (c : Int32), i + j = K.2 2 t → Ev M_X0_sectionFrom 5 [vR 1 t, vI y, vI x, vI c, vI (nI i)] [] (conc K M G) (0, some (vI (secN K t x j i c)), conc K M G) := by
  intro j
  induction j with
  | zero =>
    intro i c hi
    refine ev_iload dX0_sectionFrom_5 rfl ?_
    refine ev_aload_n dX0_sectionFrom_7 rfl rfl ?_
    refine ev_getf dX0_sectionFrom_8 fl_0_18 ?_
    refine ev_icmp_ge (tgt := 64) dX0_sectionFrom_11 rfl (fun c11 => ?_) (fun c11 => ?_)
    · refine ev_iload_n dX0_sectionFrom_64 rfl ?_
      exact ev_iret dX0_sectionFrom_65 (Or.inl rfl)
    · exact absurd (nI_le (a := K.2 2 t) (b := i) (by omega) (by omega)) c11
  | succ j ih =>
    intro i c hi
    have e1 : nI i + Int32.ofInt 1 = nI (i + 1) := nI_1 i
    have h38 : ¬ (K.1 26 (10 * t + i) = 2 ∧ K.1 27 (10 * t + i) = x) → Ev M_X0_sectionFrom 38 [vR 1 t, vI y, vI x, vI c, vI (nI i)] [] (conc K M G) (0, some (vI (secN K t x (j + 1) i c)), conc K M G) := by
      intro hq
      simp only [secN]
      rw [if_neg hq]
      refine ev_aload_n dX0_sectionFrom_38 rfl rfl ?_
      refine ev_getf dX0_sectionFrom_39 fl_0_9 ?_
      refine ev_iload dX0_sectionFrom_42 rfl ?_
      refine ev_ialdv dX0_sectionFrom_44 rfl rfl (show _ < 10 from by omega) (co_bk (by omega)) ?_
      refine ev_if_ne (tgt := 58) dX0_sectionFrom_45 rfl (fun c45 => ?_) (fun c45 => ?_)
      · refine ev_iinc dX0_sectionFrom_58 rfl ?_
        refine ev_goto (tgt := 5) dX0_sectionFrom_61 rfl ?_
        rw [if_neg c45, e1]
        exact ih (i + 1) c (by omega)
      · refine ev_iload_n dX0_sectionFrom_48 rfl ?_
        refine ev_aload_n dX0_sectionFrom_49 rfl rfl ?_
        refine ev_getf dX0_sectionFrom_50 fl_0_15 ?_
        refine ev_iload dX0_sectionFrom_53 rfl ?_
        refine ev_ialdv dX0_sectionFrom_55 rfl rfl (show _ < 10 from by omega) (co_ba (by omega)) ?_
        refine ev_iadd dX0_sectionFrom_56 ?_
        refine ev_istore_n dX0_sectionFrom_57 rfl ?_
        refine ev_iinc dX0_sectionFrom_58 rfl ?_
        refine ev_goto (tgt := 5) dX0_sectionFrom_61 rfl ?_
        rw [if_pos (Classical.not_not.mp c45), e1]
        exact ih (i + 1) _ (by omega)
    refine ev_iload dX0_sectionFrom_5 rfl ?_
    refine ev_aload_n dX0_sectionFrom_7 rfl rfl ?_
    refine ev_getf dX0_sectionFrom_8 fl_0_18 ?_
    refine ev_icmp_ge (tgt := 64) dX0_sectionFrom_11 rfl (fun c11 => ?_) (fun c11 => ?_)
    · exact absurd c11 (nI_ge (a := i) (b := K.2 2 t) (by omega) (by omega))
    · refine ev_aload_n dX0_sectionFrom_14 rfl rfl ?_
      refine ev_getf dX0_sectionFrom_15 fl_0_9 ?_
      refine ev_iload dX0_sectionFrom_18 rfl ?_
      refine ev_ialdv dX0_sectionFrom_20 rfl rfl (show _ < 10 from by omega) (co_bk (by omega)) ?_
      refine ev_iconst (v := 2) dX0_sectionFrom_21 rfl ?_
      refine ev_icmp_ne (tgt := 38) dX0_sectionFrom_22 rfl (fun c22 => ?_) (fun c22 => ?_)
      · exact h38 (fun q => c22 q.1)
      · refine ev_aload_n dX0_sectionFrom_25 rfl rfl ?_
        refine ev_getf dX0_sectionFrom_26 fl_0_15 ?_
        refine ev_iload dX0_sectionFrom_29 rfl ?_
        refine ev_ialdv dX0_sectionFrom_31 rfl rfl (show _ < 10 from by omega) (co_ba (by omega)) ?_
        refine ev_iload_n dX0_sectionFrom_32 rfl ?_
        refine ev_icmp_ne (tgt := 38) dX0_sectionFrom_33 rfl (fun c33 => ?_) (fun c33 => ?_)
        · exact h38 (fun q => c33 q.2)
        · refine ev_iload_n dX0_sectionFrom_36 rfl ?_
          rw [show secN K t x (j + 1) i c = c from if_pos ⟨Classical.not_not.mp c22, Classical.not_not.mp c33⟩]
          exact ev_iret dX0_sectionFrom_37 (Or.inl rfl)
theorem e_sec (K M : KT) (G : GT) (t i : Nat) (x : Int32) (hz : K.2 2 t ≤ 10) (hi : i ≤ K.2 2 t) : Ev M_X0_sectionFrom 0 (ent M_X0_sectionFrom [vR 1 t, vI (nI i), vI x]) [] (conc K M G) (0, some (vI (secN K t x (K.2 2 t - i) i 0)), conc K M G) := by
  show Ev M_X0_sectionFrom 0 [vR 1 t, vI (nI i), vI x, vU, vU] [] (conc K M G) _
  have hl := sec_loop K M G t x (nI i) hz (K.2 2 t - i) i 0 (by omega)
  refine ev_iconst (v := 0) dX0_sectionFrom_0 rfl ?_
  refine ev_istore_n dX0_sectionFrom_1 rfl ?_
  refine ev_iload_n dX0_sectionFrom_2 rfl ?_
  refine ev_istore dX0_sectionFrom_3 rfl ?_
  exact hl
def gsN (K : KT) (t : Nat) (x : Int32) : Nat → Nat → Int32 → Int32
  | 0, _, c => c
  | j + 1, k, c => gsN K t x j (k + 1) (if K.1 26 (10 * t + k) = 1 ∧ K.1 27 (10 * t + k) = x then mxI c (secN K t x j (k + 1) 0) else c)
theorem gs_loop (K M : KT) (G : GT) (t : Nat) (x : Int32) (hz : K.2 2 t ≤ 10) : ∀ (j i : Nat) (c : Int32), i + j = K.2 2 t → Ev M_X0_greatestSection 4 [vR 1 t, vI x, vI c, vI (nI i)] [] (conc K M G) (0, some (vI (gsN K t x j i c)), conc K M G) := by
  intro j
  induction j with
  | zero =>
    intro i c hi
    refine ev_iload_n dX0_greatestSection_4 rfl ?_
    refine ev_aload_n dX0_greatestSection_5 rfl rfl ?_
    refine ev_getf dX0_greatestSection_6 fl_0_18 ?_
    refine ev_icmp_ge (tgt := 51) dX0_greatestSection_9 rfl (fun c9 => ?_) (fun c9 => ?_)
    · refine ev_iload_n dX0_greatestSection_51 rfl ?_
      exact ev_iret dX0_greatestSection_52 (Or.inl rfl)
    · exact absurd (nI_le (a := K.2 2 t) (b := i) (by omega) (by omega)) c9
  | succ j ih =>
    intro i c hi
    have e1 : nI i + Int32.ofInt 1 = nI (i + 1) := nI_1 i
    have hs := e_sec K M G t (i + 1) x hz (by omega)
    rw [← nI_1, show K.2 2 t - (i + 1) = j by omega] at hs
    refine ev_iload_n dX0_greatestSection_4 rfl ?_
    refine ev_aload_n dX0_greatestSection_5 rfl rfl ?_
    refine ev_getf dX0_greatestSection_6 fl_0_18 ?_
    refine ev_icmp_ge (tgt := 51) dX0_greatestSection_9 rfl (fun c9 => ?_) (fun c9 => ?_)
    · exact absurd c9 (nI_ge (a := i) (b := K.2 2 t) (by omega) (by omega))
    · refine ev_aload_n dX0_greatestSection_12 rfl rfl ?_
      refine ev_getf dX0_greatestSection_13 fl_0_9 ?_
      refine ev_iload_n dX0_greatestSection_16 rfl ?_
      refine ev_ialdv dX0_greatestSection_17 rfl rfl (show _ < 10 from by omega) (co_bk (by omega)) ?_
      refine ev_iconst (v := 1) dX0_greatestSection_18 rfl ?_
      refine ev_icmp_ne (tgt := 45) dX0_greatestSection_19 rfl (fun c19 => ?_) (fun c19 => ?_)
      · refine ev_iinc dX0_greatestSection_45 rfl ?_
        refine ev_goto (tgt := 4) dX0_greatestSection_48 rfl ?_
        simp only [gsN]
        rw [if_neg (fun q => c19 q.1), e1]
        exact ih (i + 1) c (by omega)
      · refine ev_aload_n dX0_greatestSection_22 rfl rfl ?_
        refine ev_getf dX0_greatestSection_23 fl_0_15 ?_
        refine ev_iload_n dX0_greatestSection_26 rfl ?_
        refine ev_ialdv dX0_greatestSection_27 rfl rfl (show _ < 10 from by omega) (co_ba (by omega)) ?_
        refine ev_iload_n dX0_greatestSection_28 rfl ?_
        refine ev_icmp_ne (tgt := 45) dX0_greatestSection_29 rfl (fun c29 => ?_) (fun c29 => ?_)
        · refine ev_iinc dX0_greatestSection_45 rfl ?_
          refine ev_goto (tgt := 4) dX0_greatestSection_48 rfl ?_
          simp only [gsN]
          rw [if_neg (fun q => c29 q.2), e1]
          exact ih (i + 1) c (by omega)
        · refine ev_iload_n dX0_greatestSection_32 rfl ?_
          refine ev_aload_n dX0_greatestSection_33 rfl rfl ?_
          refine ev_iload_n dX0_greatestSection_34 rfl ?_
          refine ev_iconst (v := 1) dX0_greatestSection_35 rfl ?_
          refine ev_iadd dX0_greatestSection_36 ?_
          refine ev_iload_n dX0_greatestSection_37 rfl ?_
          refine evV3 dX0_greatestSection_38 cl_X0_greatestSection_22 ⟨rfl, rfl, fun _ => ⟨_, rfl⟩⟩ (Nat.le_of_ble_eq_true rfl) hs ?_
          refine ev_mmax dX0_greatestSection_41 ml_0_26 (Nat.le_of_ble_eq_true rfl) rfl ?_
          refine ev_istore_n dX0_greatestSection_44 rfl ?_
          refine ev_iinc dX0_greatestSection_45 rfl ?_
          refine ev_goto (tgt := 4) dX0_greatestSection_48 rfl ?_
          simp only [gsN]
          rw [if_pos (show K.1 26 (10 * t + i) = 1 ∧ K.1 27 (10 * t + i) = x from ⟨Classical.not_not.mp c19, Classical.not_not.mp c29⟩), e1]
          exact ih (i + 1) _ (by omega)
theorem e_gs (K M : KT) (G : GT) (t : Nat) (x : Int32) (hz : K.2 2 t ≤ 10) : Ev M_X0_greatestSection 0 (ent M_X0_greatestSection [vR 1 t, vI x]) [] (conc K M G) (0, some (vI (gsN K t x (K.2 2 t) 0 0)), conc K M G) := by
  show Ev M_X0_greatestSection 0 [vR 1 t, vI x, vU, vU] [] (conc K M G) _
  have hl := gs_loop K M G t x hz (K.2 2 t) 0 0 (by omega)
  refine ev_iconst (v := 0) dX0_greatestSection_0 rfl ?_
  refine ev_istore_n dX0_greatestSection_1 rfl ?_
  refine ev_iconst (v := 0) dX0_greatestSection_2 rfl ?_
  refine ev_istore_n dX0_greatestSection_3 rfl ?_
  exact hl
def gbN (K : KT) (p x : Int32) : Nat → Nat → Int32 → Int32
  | 0, _, c => c
  | j + 1, t, c => gbN K p x j (t + 1) (if K.1 0 t < p then mxI c (gsN K t x (K.2 2 t) 0 0) else c)
theorem gb_loop (K M : KT) (G : GT) (p x : Int32) (h : Inv K) : ∀ (j i : Nat) (c : Int32), i + j = K.2 0 0 → Ev M_X6_greatestSectionBelow 5 [vR 7 0, vI p, vI x, vI c, vI (nI i)] [] (conc K M G) (0, some (vI (gbN K p x j i c)), conc K M G) := by
  have hn := h.1.1
  intro j
  induction j with
  | zero =>
    intro i c hi
    refine ev_iload dX6_greatestSectionBelow_5 rfl ?_
    refine ev_aload_n dX6_greatestSectionBelow_7 rfl rfl ?_
    refine ev_getf dX6_greatestSectionBelow_8 fl_6_46 ?_
    refine ev_icmp_ge (tgt := 53) dX6_greatestSectionBelow_11 rfl (fun c11 => ?_) (fun c11 => ?_)
    · refine ev_iload_n dX6_greatestSectionBelow_53 rfl ?_
      exact ev_iret dX6_greatestSectionBelow_54 (Or.inl rfl)
    · exact absurd (nI_le (a := K.2 0 0) (b := i) (by omega) (by omega)) c11
  | succ j ih =>
    intro i c hi
    have e1 : nI i + Int32.ofInt 1 = nI (i + 1) := nI_1 i
    refine ev_iload dX6_greatestSectionBelow_5 rfl ?_
    refine ev_aload_n dX6_greatestSectionBelow_7 rfl rfl ?_
    refine ev_getf dX6_greatestSectionBelow_8 fl_6_46 ?_
    refine ev_icmp_ge (tgt := 53) dX6_greatestSectionBelow_11 rfl (fun c11 => ?_) (fun c11 => ?_)
    · exact absurd c11 (nI_ge (a := i) (b := K.2 0 0) (by omega) (by omega))
    · refine ev_aload_n dX6_greatestSectionBelow_14 rfl rfl ?_
      refine ev_getf dX6_greatestSectionBelow_15 fl_6_11 ?_
      refine ev_iload dX6_greatestSectionBelow_18 rfl ?_
      refine ev_aaldv dX6_greatestSectionBelow_20 rfl rfl (show _ < 8 from by omega) (co_tasks (by omega)) ?_
      refine ev_getf dX6_greatestSectionBelow_21 fl_6_238 ?_
      refine ev_iload_n dX6_greatestSectionBelow_24 rfl ?_
      refine ev_icmp_ge (tgt := 47) dX6_greatestSectionBelow_25 rfl (fun c25 => ?_) (fun c25 => ?_)
      · refine ev_iinc dX6_greatestSectionBelow_47 rfl ?_
        refine ev_goto (tgt := 5) dX6_greatestSectionBelow_50 rfl ?_
        simp only [gbN]
        rw [if_neg (Int32.not_lt.mpr c25), e1]
        exact ih (i + 1) c (by omega)
      · refine ev_iload_n dX6_greatestSectionBelow_28 rfl ?_
        refine ev_aload_n dX6_greatestSectionBelow_29 rfl rfl ?_
        refine ev_getf dX6_greatestSectionBelow_30 fl_6_11 ?_
        refine ev_iload dX6_greatestSectionBelow_33 rfl ?_
        refine ev_aaldv dX6_greatestSectionBelow_35 rfl rfl (show _ < 8 from by omega) (co_tasks (by omega)) ?_
        refine ev_getf dX6_greatestSectionBelow_36 fl_6_81 ?_
        refine ev_iload_n dX6_greatestSectionBelow_39 rfl ?_
        refine evV2 dX6_greatestSectionBelow_40 cl_X6_greatestSectionBelow_336 ⟨rfl, rfl, fun _ => ⟨_, rfl⟩⟩ (Nat.le_of_ble_eq_true rfl) (e_gs K M G i x (h.2.2.1 i (by omega)).1) ?_
        refine ev_mmax dX6_greatestSectionBelow_43 ml_6_331 (Nat.le_of_ble_eq_true rfl) rfl ?_
        refine ev_istore_n dX6_greatestSectionBelow_46 rfl ?_
        refine ev_iinc dX6_greatestSectionBelow_47 rfl ?_
        refine ev_goto (tgt := 5) dX6_greatestSectionBelow_50 rfl ?_
        simp only [gbN]
        rw [if_pos (Int32.not_le.mp c25), e1]
        exact ih (i + 1) _ (by omega)
theorem e_gb (K M : KT) (G : GT) (p x : Int32) (h : Inv K) : Ev M_X6_greatestSectionBelow 0 (ent M_X6_greatestSectionBelow [vR 7 0, vI p, vI x]) [] (conc K M G) (0, some (vI (gbN K p x (K.2 0 0) 0 0)), conc K M G) := by
  show Ev M_X6_greatestSectionBelow 0 [vR 7 0, vI p, vI x, vU, vU] [] (conc K M G) _
  have hl := gb_loop K M G p x h (K.2 0 0) 0 0 (by omega)
  refine ev_iconst (v := 0) dX6_greatestSectionBelow_0 rfl ?_
  refine ev_istore_n dX6_greatestSectionBelow_1 rfl ?_
  refine ev_iconst (v := 0) dX6_greatestSectionBelow_2 rfl ?_
  refine ev_istore dX6_greatestSectionBelow_3 rfl ?_
  exact hl
def bkN (K : KT) (p : Int32) : Nat → Nat → Int32 → Int32
  | 0, _, c => c
  | j + 1, m, c => bkN K p j (m + 1) (if p ≤ ceilV K (nI m) then mxI c (gbN K p (nI m) (K.2 0 0) 0 0) else c)
def bkV (K : KT) (t : Nat) : Int32 := bkN K (K.1 0 t) (K.2 0 1) 0 0
theorem bk_loop (K M : KT) (G : GT) (t : Nat) (h : Inv K) : ∀ (j i : Nat) (c : Int32), i + j = K.2 0 1 → Ev M_X6_blockingOf 4 [vR 7 0, vR 6 t, vI c, vI (nI i)] [] (conc K M G) (0, some (vI (bkN K (K.1 0 t) j i c)), conc K M G) := by
  have hn := h.1.2.1
  intro j
  induction j with
  | zero =>
    intro i c hi
    refine ev_iload_n dX6_blockingOf_4 rfl ?_
    refine ev_aload_n dX6_blockingOf_5 rfl rfl ?_
    refine ev_getf dX6_blockingOf_6 fl_6_67 ?_
    refine ev_icmp_ge (tgt := 44) dX6_blockingOf_9 rfl (fun c9 => ?_) (fun c9 => ?_)
    · refine ev_iload_n dX6_blockingOf_44 rfl ?_
      exact ev_iret dX6_blockingOf_45 (Or.inl rfl)
    · exact absurd (nI_le (a := K.2 0 1) (b := i) (by omega) (by omega)) c9
  | succ j ih =>
    intro i c hi
    have e1 : nI i + Int32.ofInt 1 = nI (i + 1) := nI_1 i
    refine ev_iload_n dX6_blockingOf_4 rfl ?_
    refine ev_aload_n dX6_blockingOf_5 rfl rfl ?_
    refine ev_getf dX6_blockingOf_6 fl_6_67 ?_
    refine ev_icmp_ge (tgt := 44) dX6_blockingOf_9 rfl (fun c9 => ?_) (fun c9 => ?_)
    · exact absurd c9 (nI_ge (a := i) (b := K.2 0 1) (by omega) (by omega))
    · refine ev_aload_n dX6_blockingOf_12 rfl rfl ?_
      refine ev_iload_n dX6_blockingOf_13 rfl ?_
      refine evV2 dX6_blockingOf_14 cl_X6_blockingOf_305 ⟨rfl, rfl, fun _ => ⟨_, rfl⟩⟩ (Nat.le_of_ble_eq_true rfl) (e_ceil K M G (nI i) h) ?_
      refine ev_aload_n dX6_blockingOf_17 rfl rfl ?_
      refine ev_getf dX6_blockingOf_18 fl_6_238 ?_
      refine ev_icmp_lt (tgt := 38) dX6_blockingOf_21 rfl (fun c21 => ?_) (fun c21 => ?_)
      · refine ev_iinc dX6_blockingOf_38 rfl ?_
        refine ev_goto (tgt := 4) dX6_blockingOf_41 rfl ?_
        simp only [bkN]
        rw [if_neg (Int32.not_le.mpr c21), e1]
        exact ih (i + 1) c (by omega)
      · refine ev_iload_n dX6_blockingOf_24 rfl ?_
        refine ev_aload_n dX6_blockingOf_25 rfl rfl ?_
        refine ev_aload_n dX6_blockingOf_26 rfl rfl ?_
        refine ev_getf dX6_blockingOf_27 fl_6_238 ?_
        refine ev_iload_n dX6_blockingOf_30 rfl ?_
        refine evV3 dX6_blockingOf_31 cl_X6_blockingOf_328 ⟨rfl, rfl, fun _ => ⟨_, rfl⟩⟩ (Nat.le_of_ble_eq_true rfl) (e_gb K M G (K.1 0 t) (nI i) h) ?_
        refine ev_mmax dX6_blockingOf_34 ml_6_331 (Nat.le_of_ble_eq_true rfl) rfl ?_
        refine ev_istore_n dX6_blockingOf_37 rfl ?_
        refine ev_iinc dX6_blockingOf_38 rfl ?_
        refine ev_goto (tgt := 4) dX6_blockingOf_41 rfl ?_
        simp only [bkN]
        rw [if_pos (Int32.not_lt.mp c21), e1]
        exact ih (i + 1) _ (by omega)
theorem e_bk (K M : KT) (G : GT) (t : Nat) (h : Inv K) : Ev M_X6_blockingOf 0 (ent M_X6_blockingOf [vR 7 0, vR 6 t]) [] (conc K M G) (0, some (vI (bkV K t)), conc K M G) := by
  show Ev M_X6_blockingOf 0 [vR 7 0, vR 6 t, vU, vU] [] (conc K M G) _
  have hl := bk_loop K M G t h (K.2 0 1) 0 0 (by omega)
  refine ev_iconst (v := 0) dX6_blockingOf_0 rfl ?_
  refine ev_istore_n dX6_blockingOf_1 rfl ?_
  refine ev_iconst (v := 0) dX6_blockingOf_2 rfl ?_
  refine ev_istore_n dX6_blockingOf_3 rfl ?_
  exact hl
def infN (K : KT) (t : Nat) (s : Int32) : Nat → Nat → Int32 → Int32
  | 0, _, c => c
  | j + 1, u, c => infN K t s j (u + 1) (if ¬ u = t ∧ 0 < K.1 1 u ∧ K.1 0 t ≤ K.1 0 u then c + (s + K.1 1 u - 1) / K.1 1 u * costV K u else c)
theorem inf_loop (K M : KT) (G : GT) (t : Nat) (s : Int32) (h : Inv K) : ∀ (j i : Nat) (c : Int32), i + j = K.2 0 0 → Ev M_X6_interferenceWith 5 [vR 7 0, vR 6 t, vI s, vI c, vI (nI i), vU] [] (conc K M G) (0, some (vI (infN K t s j i c)), conc K M G) := by
  have hn := h.1.1
  intro j
  induction j with
  | zero =>
    intro i c hi
    refine ev_iload dX6_interferenceWith_5 rfl ?_
    refine ev_aload_n dX6_interferenceWith_7 rfl rfl ?_
    refine ev_getf dX6_interferenceWith_8 fl_6_46 ?_
    refine ev_icmp_ge (tgt := 82) dX6_interferenceWith_11 rfl (fun c11 => ?_) (fun c11 => ?_)
    · refine ev_iload_n dX6_interferenceWith_82 rfl ?_
      exact ev_iret dX6_interferenceWith_83 (Or.inl rfl)
    · exact absurd (nI_le (a := K.2 0 0) (b := i) (by omega) (by omega)) c11
  | succ j ih =>
    intro i c hi
    have e1 : nI i + Int32.ofInt 1 = nI (i + 1) := nI_1 i
    refine ev_iload dX6_interferenceWith_5 rfl ?_
    refine ev_aload_n dX6_interferenceWith_7 rfl rfl ?_
    refine ev_getf dX6_interferenceWith_8 fl_6_46 ?_
    refine ev_icmp_ge (tgt := 82) dX6_interferenceWith_11 rfl (fun c11 => ?_) (fun c11 => ?_)
    · exact absurd c11 (nI_ge (a := i) (b := K.2 0 0) (by omega) (by omega))
    · refine ev_aload_n dX6_interferenceWith_14 rfl rfl ?_
      refine ev_getf dX6_interferenceWith_15 fl_6_11 ?_
      refine ev_iload dX6_interferenceWith_18 rfl ?_
      refine ev_aaldv dX6_interferenceWith_20 rfl rfl (show _ < 8 from by omega) (co_tasks (by omega)) ?_
      refine ev_astore dX6_interferenceWith_21 rfl rfl ?_
      refine ev_aload dX6_interferenceWith_23 rfl rfl ?_
      refine ev_aload_n dX6_interferenceWith_25 rfl rfl ?_
      refine ev_acmp_eq (tgt := 76) dX6_interferenceWith_26 rfl rfl rfl (fun c26 => ?_) (fun c26 => ?_)
      · refine ev_iinc dX6_interferenceWith_76 rfl ?_
        refine ev_goto (tgt := 5) dX6_interferenceWith_79 rfl ?_
        simp only [infN]
        refine ev_forget (ls2 := [_, _, _, _, _, vU]) (Fg_to ⟨Or.inr ⟨rfl, rfl⟩, Or.inr ⟨rfl, rfl⟩, Or.inr ⟨rfl, rfl⟩, Or.inr ⟨rfl, rfl⟩, Or.inr ⟨rfl, rfl⟩, Or.inl rfl, trivial⟩) ?_
        rw [if_neg (fun q => q.1 (by cases c26; rfl)), e1]
        exact ih (i + 1) c (by omega)
      · refine ev_aload dX6_interferenceWith_29 rfl rfl ?_
        refine ev_getf dX6_interferenceWith_31 fl_6_101 ?_
        refine ev_if_le (tgt := 76) dX6_interferenceWith_34 rfl (fun c34 => ?_) (fun c34 => ?_)
        · refine ev_iinc dX6_interferenceWith_76 rfl ?_
          refine ev_goto (tgt := 5) dX6_interferenceWith_79 rfl ?_
          simp only [infN]
          refine ev_forget (ls2 := [_, _, _, _, _, vU]) (Fg_to ⟨Or.inr ⟨rfl, rfl⟩, Or.inr ⟨rfl, rfl⟩, Or.inr ⟨rfl, rfl⟩, Or.inr ⟨rfl, rfl⟩, Or.inr ⟨rfl, rfl⟩, Or.inl rfl, trivial⟩) ?_
          rw [if_neg (fun q => Int32.not_lt.mpr c34 q.2.1), e1]
          exact ih (i + 1) c (by omega)
        · refine ev_aload dX6_interferenceWith_37 rfl rfl ?_
          refine ev_getf dX6_interferenceWith_39 fl_6_238 ?_
          refine ev_aload_n dX6_interferenceWith_42 rfl rfl ?_
          refine ev_getf dX6_interferenceWith_43 fl_6_238 ?_
          refine ev_icmp_lt (tgt := 76) dX6_interferenceWith_46 rfl (fun c46 => ?_) (fun c46 => ?_)
          · refine ev_iinc dX6_interferenceWith_76 rfl ?_
            refine ev_goto (tgt := 5) dX6_interferenceWith_79 rfl ?_
            simp only [infN]
            refine ev_forget (ls2 := [_, _, _, _, _, vU]) (Fg_to ⟨Or.inr ⟨rfl, rfl⟩, Or.inr ⟨rfl, rfl⟩, Or.inr ⟨rfl, rfl⟩, Or.inr ⟨rfl, rfl⟩, Or.inr ⟨rfl, rfl⟩, Or.inl rfl, trivial⟩) ?_
            rw [if_neg (fun q => Int32.not_le.mpr c46 q.2.2), e1]
            exact ih (i + 1) c (by omega)
          · refine ev_iload_n dX6_interferenceWith_49 rfl ?_
            refine ev_iload_n dX6_interferenceWith_50 rfl ?_
            refine ev_aload dX6_interferenceWith_51 rfl rfl ?_
            refine ev_getf dX6_interferenceWith_53 fl_6_101 ?_
            refine ev_iadd dX6_interferenceWith_56 ?_
            refine ev_iconst (v := 1) dX6_interferenceWith_57 rfl ?_
            refine ev_isub dX6_interferenceWith_58 ?_
            refine ev_aload dX6_interferenceWith_59 rfl rfl ?_
            refine ev_getf dX6_interferenceWith_61 fl_6_101 ?_
            refine ev_idiv dX6_interferenceWith_64 (fun q => c34 (by rw [q]; decide)) ?_
            refine ev_aload dX6_interferenceWith_65 rfl rfl ?_
            refine ev_getf dX6_interferenceWith_67 fl_6_81 ?_
            refine evV1 dX6_interferenceWith_70 cl_X6_interferenceWith_318 ⟨rfl, rfl, fun _ => ⟨_, rfl⟩⟩ (Nat.le_of_ble_eq_true rfl) (e_cost K M G i (h.2.2.1 i (by omega)).1) ?_
            refine ev_imul dX6_interferenceWith_73 ?_
            refine ev_iadd dX6_interferenceWith_74 ?_
            refine ev_istore_n dX6_interferenceWith_75 rfl ?_
            refine ev_iinc dX6_interferenceWith_76 rfl ?_
            refine ev_goto (tgt := 5) dX6_interferenceWith_79 rfl ?_
            simp only [infN]
            refine ev_forget (ls2 := [_, _, _, _, _, vU]) (Fg_to ⟨Or.inr ⟨rfl, rfl⟩, Or.inr ⟨rfl, rfl⟩, Or.inr ⟨rfl, rfl⟩, Or.inr ⟨rfl, rfl⟩, Or.inr ⟨rfl, rfl⟩, Or.inl rfl, trivial⟩) ?_
            rw [if_pos ⟨fun q => c26 (by rw [q]), Int32.not_le.mp c34, Int32.not_lt.mp c46⟩, e1]
            exact ih (i + 1) _ (by omega)
theorem e_inf (K M : KT) (G : GT) (t : Nat) (s : Int32) (h : Inv K) : Ev M_X6_interferenceWith 0 (ent M_X6_interferenceWith [vR 7 0, vR 6 t, vI s]) [] (conc K M G) (0, some (vI (infN K t s (K.2 0 0) 0 0)), conc K M G) := by
  show Ev M_X6_interferenceWith 0 [vR 7 0, vR 6 t, vI s, vU, vU, vU] [] (conc K M G) _
  have hl := inf_loop K M G t s h (K.2 0 0) 0 0 (by omega)
  refine ev_iconst (v := 0) dX6_interferenceWith_0 rfl ?_
  refine ev_istore_n dX6_interferenceWith_1 rfl ?_
  refine ev_iconst (v := 0) dX6_interferenceWith_2 rfl ?_
  refine ev_istore dX6_interferenceWith_3 rfl ?_
  exact hl
def rspF (K : KT) (t : Nat) (r : Int32) : Int32 := (costV K t + bkV K t) + infN K t r (K.2 0 0) 0 0
def rspN (K : KT) (t : Nat) : Nat → Int32 → Int32
  | 0, _ => -1
  | j + 1, r => if 1000 < rspF K t r then -1 else if rspF K t r = r then r else rspN K t j (rspF K t r)
theorem rsp_loop (K M : KT) (G : GT) (t : Nat) (x : Int32) (h : Inv K) : ∀ (j i : Nat) (r : Int32), i + j = 1002 → Ev M_X6_response 46 [vR 7 0, vI x, vR 6 t, vI (costV K t + bkV K t), vI r, vI (nI i), vU] [] (conc K M G) (0, some (vI (rspN K t j r)), conc K M G) := by
  intro j
  induction j with
  | zero =>
    intro i r hi
    refine ev_iload dX6_response_46 rfl ?_
    refine ev_sipush (v := 1001) dX6_response_48 rfl ?_
    refine ev_icmp_gt (tgt := 95) dX6_response_51 rfl (fun c51 => ?_) (fun c51 => ?_)
    · refine ev_iconst (v := (-1)) dX6_response_95 rfl ?_
      exact ev_iret dX6_response_96 (Or.inl rfl)
    · exact absurd (nI_lt (a := 1001) (b := i) (by omega) (by omega)) c51
  | succ j ih =>
    intro i r hi
    have e1 : nI i + Int32.ofInt 1 = nI (i + 1) := nI_1 i
    refine ev_iload dX6_response_46 rfl ?_
    refine ev_sipush (v := 1001) dX6_response_48 rfl ?_
    refine ev_icmp_gt (tgt := 95) dX6_response_51 rfl (fun c51 => ?_) (fun c51 => ?_)
    · exact absurd c51 (nI_nlt (a := 1001) (b := i) (by omega) (by omega))
    · refine ev_iload_n dX6_response_54 rfl ?_
      refine ev_aload_n dX6_response_55 rfl rfl ?_
      refine ev_aload_n dX6_response_56 rfl rfl ?_
      refine ev_iload dX6_response_57 rfl ?_
      refine evV3 dX6_response_59 cl_X6_response_324 ⟨rfl, rfl, fun _ => ⟨_, rfl⟩⟩ (Nat.le_of_ble_eq_true rfl) (e_inf K M G t r h) ?_
      refine ev_iadd dX6_response_62 ?_
      refine ev_istore dX6_response_63 rfl ?_
      refine ev_iload dX6_response_65 rfl ?_
      refine ev_sipush (v := 1000) dX6_response_67 rfl ?_
      refine ev_icmp_le (tgt := 75) dX6_response_70 rfl (fun c70 => ?_) (fun c70 => ?_)
      · refine ev_iload dX6_response_75 rfl ?_
        refine ev_iload dX6_response_77 rfl ?_
        refine ev_icmp_ne (tgt := 85) dX6_response_79 rfl (fun c79 => ?_) (fun c79 => ?_)
        · refine ev_iload dX6_response_85 rfl ?_
          refine ev_istore dX6_response_87 rfl ?_
          refine ev_iinc dX6_response_89 rfl ?_
          refine ev_goto (tgt := 46) dX6_response_92 rfl ?_
          refine ev_forget (ls2 := [_, _, _, _, _, _, vU]) (Fg_to ⟨Or.inr ⟨rfl, rfl⟩, Or.inr ⟨rfl, rfl⟩, Or.inr ⟨rfl, rfl⟩, Or.inr ⟨rfl, rfl⟩, Or.inr ⟨rfl, rfl⟩, Or.inr ⟨rfl, rfl⟩, Or.inl rfl, trivial⟩) ?_
          rw [show rspN K t (j + 1) r = rspN K t j (rspF K t r) from (if_neg (Int32.not_lt.mpr c70)).trans (if_neg c79), e1]
          exact ih (i + 1) _ (by omega)
        · refine ev_iload dX6_response_82 rfl ?_
          rw [show rspN K t (j + 1) r = r from (if_neg (Int32.not_lt.mpr c70)).trans (if_pos (Classical.not_not.mp c79))]
          exact ev_iret dX6_response_84 (Or.inl rfl)
      · refine ev_iconst (v := (-1)) dX6_response_73 rfl ?_
        rw [show rspN K t (j + 1) r = -1 from if_pos (Int32.not_le.mp c70)]
        exact ev_iret dX6_response_74 (Or.inl rfl)
theorem e_response (K M : KT) (G : GT) (t : Nat) (h : Inv K) (ht : t < K.2 0 0) : Ev M_X6_response 0 (ent M_X6_response [vR 7 0, vI (nI t)]) [] (conc K M G) (0, some (vI (rspN K t 1002 (costV K t + bkV K t))), conc K M G) := by
  show Ev M_X6_response 0 [vR 7 0, vI (nI t), vU, vU, vU, vU, vU] [] (conc K M G) _
  have hn := h.1.1
  have hl := rsp_loop K M G t (nI t) h 1002 0 (costV K t + bkV K t) rfl
  refine ev_aload_n dX6_response_0 rfl rfl ?_
  refine ev_iload_n dX6_response_1 rfl ?_
  refine evV2 dX6_response_2 cl_X6_response_58 ⟨rfl, rfl, fun _ => ⟨_, rfl⟩⟩ (Nat.le_of_ble_eq_true rfl) (e_isTask K M G (nI t) hn) ?_
  refine ev_if_ne (tgt := 19) dX6_response_5 rfl (fun c5 => ?_) (fun c5 => ?_)
  · refine ev_aload_n dX6_response_19 rfl rfl ?_
    refine ev_getf dX6_response_20 fl_6_11 ?_
    refine ev_iload_n dX6_response_23 rfl ?_
    refine ev_aaldv dX6_response_24 rfl rfl (show _ < 8 from by omega) (co_tasks ht) ?_
    refine ev_astore_n dX6_response_25 rfl rfl ?_
    refine ev_aload_n dX6_response_26 rfl rfl ?_
    refine ev_getf dX6_response_27 fl_6_81 ?_
    refine evV1 dX6_response_30 cl_X6_response_318 ⟨rfl, rfl, fun _ => ⟨_, rfl⟩⟩ (Nat.le_of_ble_eq_true rfl) (e_cost K M G t (h.2.2.1 t ht).1) ?_
    refine ev_aload_n dX6_response_33 rfl rfl ?_
    refine ev_aload_n dX6_response_34 rfl rfl ?_
    refine evV2 dX6_response_35 cl_X6_response_321 ⟨rfl, rfl, fun _ => ⟨_, rfl⟩⟩ (Nat.le_of_ble_eq_true rfl) (e_bk K M G t h) ?_
    refine ev_iadd dX6_response_38 ?_
    refine ev_istore_n dX6_response_39 rfl ?_
    refine ev_iload_n dX6_response_40 rfl ?_
    refine ev_istore dX6_response_41 rfl ?_
    refine ev_iconst (v := 0) dX6_response_43 rfl ?_
    refine ev_istore dX6_response_44 rfl ?_
    exact hl
  · exact absurd (isT_of (by omega) ht) (bI_0.mp (Classical.not_not.mp c5))
theorem e_responseA (K M : KT) (G : GT) (x : Int32) (hn : K.2 0 0 ≤ 8) (hx : ¬ isT (K.2 0 0) x) : Ev M_X6_response 0 (ent M_X6_response [vR 7 0, vI x]) [] (conc K M G) (1, some (vR 19 (G.2.2 3)), conc K M (exG G)) := by
  show Ev M_X6_response 0 [vR 7 0, vI x, vU, vU, vU, vU, vU] [] (conc K M G) _
  refine ev_aload_n dX6_response_0 rfl rfl ?_
  refine ev_iload_n dX6_response_1 rfl ?_
  refine evV2 dX6_response_2 cl_X6_response_58 ⟨rfl, rfl, fun _ => ⟨_, rfl⟩⟩ (Nat.le_of_ble_eq_true rfl) (e_isTask K M G x hn) ?_
  refine ev_if_ne (tgt := 19) dX6_response_5 rfl (fun c5 => ?_) (fun c5 => ?_)
  · exact absurd (bI_f hx) c5
  · exact ev_thr th_X6_response_8 (Nat.le_of_ble_eq_true rfl)
def ldN (K : KT) : Nat → Nat → UInt64 → UInt64
  | 0, _, c => c
  | j + 1, t, c => ldN K j (t + 1) (if 0 < K.1 1 t then FP.dadd c (FP.ddiv (FP.i2d (costV K t)) (FP.i2d (K.1 1 t))) else c)
/-- no NaN on the way -/
def ldOk (K : KT) : Nat → Nat → UInt64 → Prop
  | 0, _, _ => True
  | j + 1, t, c => (0 < K.1 1 t → vf_n64 (FP.ddiv (FP.i2d (costV K t)) (FP.i2d (K.1 1 t))) ∧ vf_n64 (FP.dadd c (FP.ddiv (FP.i2d (costV K t)) (FP.i2d (K.1 1 t))))) ∧ ldOk K j (t + 1) (if 0 < K.1 1 t then FP.dadd c (FP.ddiv (FP.i2d (costV K t)) (FP.i2d (K.1 1 t))) else c)
theorem ld_loop (K M : KT) (G : GT) (h : Inv K) : ∀ (j i : Nat) (c : UInt64) (v : AV), i + j = K.2 0 0 → ldOk K j i c → nU2 (some v) = true → Ev M_X6_load 4 [vR 7 0, vD c, vU2, vI (nI i), v] [] (conc K M G) (0, some (vD (ldN K j i c)), conc K M G) := by
  have hn := h.1.1
  intro j
  induction j with
  | zero =>
    intro i c v hi ho hv
    refine ev_iload_n dX6_load_4 rfl ?_
    refine ev_aload_n dX6_load_5 rfl rfl ?_
    refine ev_getf dX6_load_6 fl_6_46 ?_
    refine ev_icmp_ge (tgt := 53) dX6_load_9 rfl (fun c9 => ?_) (fun c9 => ?_)
    · refine ev_dload_n dX6_load_53 rfl ?_
      exact ev_dret dX6_load_54 rfl
    · exact absurd (nI_le (a := K.2 0 0) (b := i) (by omega) (by omega)) c9
  | succ j ih =>
    intro i c v hi ho hv
    have e1 : nI i + Int32.ofInt 1 = nI (i + 1) := nI_1 i
    obtain ⟨o1, o2⟩ := ho
    refine ev_iload_n dX6_load_4 rfl ?_
    refine ev_aload_n dX6_load_5 rfl rfl ?_
    refine ev_getf dX6_load_6 fl_6_46 ?_
    refine ev_icmp_ge (tgt := 53) dX6_load_9 rfl (fun c9 => ?_) (fun c9 => ?_)
    · exact absurd c9 (nI_ge (a := i) (b := K.2 0 0) (by omega) (by omega))
    · refine ev_aload_n dX6_load_12 rfl rfl ?_
      refine ev_getf dX6_load_13 fl_6_11 ?_
      refine ev_iload_n dX6_load_16 rfl ?_
      refine ev_aaldv dX6_load_17 rfl rfl (show _ < 8 from by omega) (co_tasks (by omega)) ?_
      refine ev_astore dX6_load_18 hv rfl ?_
      refine ev_aload dX6_load_20 rfl rfl ?_
      refine ev_getf dX6_load_22 fl_6_101 ?_
      refine ev_if_le (tgt := 47) dX6_load_25 rfl (fun c25 => ?_) (fun c25 => ?_)
      · refine ev_iinc dX6_load_47 rfl ?_
        refine ev_goto (tgt := 4) dX6_load_50 rfl ?_
        rw [if_neg (Int32.not_lt.mpr c25)] at o2
        rw [show ldN K (j + 1) i c = ldN K j (i + 1) c by simp only [ldN]; rw [if_neg (Int32.not_lt.mpr c25)], e1]
        exact ih (i + 1) c _ (by omega) o2 rfl
      · refine ev_dload_n dX6_load_28 rfl ?_
        refine ev_aload dX6_load_29 rfl rfl ?_
        refine ev_getf dX6_load_31 fl_6_81 ?_
        refine evV1 dX6_load_34 cl_X6_load_318 ⟨rfl, rfl, fun _ => ⟨_, rfl⟩⟩ (Nat.le_of_ble_eq_true rfl) (e_cost K M G i (h.2.2.1 i (by omega)).1) ?_
        refine ev_i2d dX6_load_37 ?_
        refine ev_aload dX6_load_38 rfl rfl ?_
        refine ev_getf dX6_load_40 fl_6_101 ?_
        refine ev_i2d dX6_load_43 ?_
        refine ev_ddiv dX6_load_44 (o1 (Int32.not_le.mp c25)).1 ?_
        refine ev_dadd dX6_load_45 (o1 (Int32.not_le.mp c25)).2 ?_
        refine ev_dstore_n dX6_load_46 rfl (Nat.le_of_ble_eq_true rfl) ?_
        refine ev_iinc dX6_load_47 rfl ?_
        refine ev_goto (tgt := 4) dX6_load_50 rfl ?_
        rw [if_pos (Int32.not_le.mp c25)] at o2
        rw [show ldN K (j + 1) i c = ldN K j (i + 1) (FP.dadd c (FP.ddiv (FP.i2d (costV K i)) (FP.i2d (K.1 1 i)))) by simp only [ldN]; rw [if_pos (Int32.not_le.mp c25)], e1]
        exact ih (i + 1) _ _ (by omega) o2 rfl
theorem e_load (K M : KT) (G : GT) (h : Inv K) (ho : ldOk K (K.2 0 0) 0 FP.dconst0) : Ev M_X6_load 0 (ent M_X6_load [vR 7 0]) [] (conc K M G) (0, some (vD (ldN K (K.2 0 0) 0 FP.dconst0)), conc K M G) := by
  show Ev M_X6_load 0 [vR 7 0, vU, vU, vU, vU] [] (conc K M G) _
  have hl := ld_loop K M G h (K.2 0 0) 0 FP.dconst0 vU (by omega) ho rfl
  refine ev_dconst dX6_load_0 ?_
  refine ev_dstore_n dX6_load_1 rfl (Nat.le_of_ble_eq_true rfl) ?_
  refine ev_iconst (v := 0) dX6_load_2 rfl ?_
  refine ev_istore_n dX6_load_3 rfl ?_
  exact hl
/-! events, looks, starts -/
def evN (K : KT) (j k : Nat) : Int32 := match k with
  | 0 => K.1 23 j
  | 1 => K.1 24 j
  | _ => K.1 25 j
theorem e_event (K M : KT) (G : GT) (e k : Nat) (h : Inv K) (hb : K.2 0 3 < 2 ^ 31) (he : e < 40) (he2 : e < K.2 0 3) (hk : k ≤ 2) : Ev M_X6_event 0 (ent M_X6_event [vR 7 0, vI (nI e), vI (nI k)]) [] (conc K M G) (0, some (vI (evN K ((K.2 0 3 - 1 - e) % 40) k)), conc K M G) := by
  have hnx := h.next
  have h4 := h.1.2.2.2
  have hrow : nI (K.2 0 4) + 40 - 1 - nI e - (nI (K.2 0 4) + 40 - 1 - nI e) / 40 * 40 = nI ((K.2 0 3 - 1 - e) % 40) := by
    rw [show (40 : Int32) = nI 40 from rfl, show (1 : Int32) = nI 1 from rfl, nI_add, pk_sub (by omega), pk_sub (by omega), pk_rem (by omega) (by omega) (by omega)]
    congr 1
    omega
  have hlt : (K.2 0 3 - 1 - e) % 40 < 40 := Nat.mod_lt _ (by omega)
  have ha : Ev M_X2_answer 0 (ent M_X2_answer [vR 3 0, vI (nI e), vI (nI k)]) [] (conc K M G) (0, some (vI (evN K ((K.2 0 3 - 1 - e) % 40) k)), conc K M G) := by
    show Ev M_X2_answer 0 [vR 3 0, vI (nI e), vI (nI k), vU] [] (conc K M G) _
    refine ev_iload_n dX2_answer_0 rfl ?_
    refine ev_if_lt (tgt := 17) dX2_answer_1 rfl (fun c1 => ?_) (fun c1 => ?_)
    · exact absurd c1 (nI_pos (by omega))
    · refine ev_iload_n dX2_answer_4 rfl ?_
      refine ev_aload_n dX2_answer_5 rfl rfl ?_
      refine ev_getf dX2_answer_6 fl_2_25 ?_
      refine ev_bipush (v := 40) dX2_answer_9 rfl ?_
      refine ev_mmin dX2_answer_11 ml_2_28 (Nat.le_of_ble_eq_true rfl) rfl ?_
      refine ev_icmp_lt (tgt := 19) dX2_answer_14 rfl (fun c14 => ?_) (fun c14 => ?_)
      · refine ev_aload_n dX2_answer_19 rfl rfl ?_
        refine ev_getf dX2_answer_20 fl_2_21 ?_
        refine ev_bipush (v := 40) dX2_answer_23 rfl ?_
        refine ev_iadd dX2_answer_25 ?_
        refine ev_iconst (v := 1) dX2_answer_26 rfl ?_
        refine ev_isub dX2_answer_27 ?_
        refine ev_iload_n dX2_answer_28 rfl ?_
        refine ev_isub dX2_answer_29 ?_
        refine ev_bipush (v := 40) dX2_answer_30 rfl ?_
        refine ev_irem dX2_answer_32 (by decide) ?_
        refine ev_istore_n dX2_answer_33 rfl ?_
        refine ev_iload_n dX2_answer_34 rfl ?_
        rw [hrow]
        match k, hk with
        | 0, _ =>
          refine ev_tsIn (tgt := 60) dX2_answer_35 (by decide) (by decide) rfl rfl ?_
          refine ev_aload_n dX2_answer_60 rfl rfl ?_
          refine ev_getf dX2_answer_61 fl_2_9 ?_
          refine ev_iload_n dX2_answer_64 rfl ?_
          refine ev_iald dX2_answer_65 rfl rfl (show _ < 40 from hlt) ?_
          exact ev_iret dX2_answer_66 (Or.inl rfl)
        | 1, _ =>
          refine ev_tsIn (tgt := 67) dX2_answer_35 (by decide) (by decide) rfl rfl ?_
          refine ev_aload_n dX2_answer_67 rfl rfl ?_
          refine ev_getf dX2_answer_68 fl_2_15 ?_
          refine ev_iload_n dX2_answer_71 rfl ?_
          refine ev_iald dX2_answer_72 rfl rfl (show _ < 40 from hlt) ?_
          exact ev_iret dX2_answer_73 (Or.inl rfl)
        | 2, _ =>
          refine ev_tsIn (tgt := 74) dX2_answer_35 (by decide) (by decide) rfl rfl ?_
          refine ev_aload_n dX2_answer_74 rfl rfl ?_
          refine ev_getf dX2_answer_75 fl_2_18 ?_
          refine ev_iload_n dX2_answer_78 rfl ?_
          refine ev_iald dX2_answer_79 rfl rfl (show _ < 40 from hlt) ?_
          exact ev_iret dX2_answer_80 (Or.inl rfl)
        | k + 3, h => omega
      · exact absurd (show nI e < (if (40 : Int32) < nI (K.2 0 3) then 40 else nI (K.2 0 3)) by split; exact nI_lt (a := e) (b := 40) he (by omega); exact nI_lt he2 hb) c14
  show Ev M_X6_event 0 [vR 7 0, vI (nI e), vI (nI k)] [] (conc K M G) _
  refine ev_aload_n dX6_event_0 rfl rfl ?_
  refine ev_getf dX6_event_1 fl_6_24 ?_
  refine ev_iload_n dX6_event_4 rfl ?_
  refine ev_iload_n dX6_event_5 rfl ?_
  refine evV3 dX6_event_6 cl_X6_event_309 ⟨rfl, rfl, fun _ => ⟨_, rfl⟩⟩ (Nat.le_of_ble_eq_true rfl) ha ?_
  exact ev_iret dX6_event_9 (Or.inl rfl)
theorem e_eventN (K M : KT) (G : GT) (x w : Int32) (h : Inv K) (hb : K.2 0 3 < 2 ^ 31) (hx : (x < 0 ∨ nI 40 ≤ x ∨ nI (K.2 0 3) ≤ x) ∨ (w.toInt < 0 ∨ 2 < w.toInt)) : Ev M_X6_event 0 (ent M_X6_event [vR 7 0, vI x, vI w]) [] (conc K M G) (0, some (vI (-1)), conc K M G) := by
  have ha : Ev M_X2_answer 0 (ent M_X2_answer [vR 3 0, vI x, vI w]) [] (conc K M G) (0, some (vI (-1)), conc K M G) := by
    show Ev M_X2_answer 0 [vR 3 0, vI x, vI w, vU] [] (conc K M G) _
    by_cases h1 : (x < 0 ∨ nI 40 ≤ x ∨ nI (K.2 0 3) ≤ x)
    · refine ev_iload_n dX2_answer_0 rfl ?_
      refine ev_if_lt (tgt := 17) dX2_answer_1 rfl (fun c1 => ?_) (fun c1 => ?_)
      · refine ev_iconst (v := (-1)) dX2_answer_17 rfl ?_
        exact ev_iret dX2_answer_18 (Or.inl rfl)
      · refine ev_iload_n dX2_answer_4 rfl ?_
        refine ev_aload_n dX2_answer_5 rfl rfl ?_
        refine ev_getf dX2_answer_6 fl_2_25 ?_
        refine ev_bipush (v := 40) dX2_answer_9 rfl ?_
        refine ev_mmin dX2_answer_11 ml_2_28 (Nat.le_of_ble_eq_true rfl) rfl ?_
        refine ev_icmp_lt (tgt := 19) dX2_answer_14 rfl (fun c14 => ?_) (fun c14 => ?_)
        · rcases h1 with q | q | q
          · exact absurd q c1
          · exact absurd c14 (Int32.not_lt.mpr (by by_cases z : (40 : Int32) < nI (K.2 0 3); rw [if_pos z]; exact q; rw [if_neg z]; exact Int32.le_trans (Int32.not_lt.mp z) q))
          · exact absurd c14 (Int32.not_lt.mpr (by by_cases z : (40 : Int32) < nI (K.2 0 3); rw [if_pos z]; exact Int32.le_trans (Int32.le_of_lt z) q; rw [if_neg z]; exact q))
        · refine ev_iconst (v := (-1)) dX2_answer_17 rfl ?_
          exact ev_iret dX2_answer_18 (Or.inl rfl)
    · refine ev_iload_n dX2_answer_0 rfl ?_
      refine ev_if_lt (tgt := 17) dX2_answer_1 rfl (fun c1 => ?_) (fun c1 => ?_)
      · exact absurd (Or.inl c1) h1
      · refine ev_iload_n dX2_answer_4 rfl ?_
        refine ev_aload_n dX2_answer_5 rfl rfl ?_
        refine ev_getf dX2_answer_6 fl_2_25 ?_
        refine ev_bipush (v := 40) dX2_answer_9 rfl ?_
        refine ev_mmin dX2_answer_11 ml_2_28 (Nat.le_of_ble_eq_true rfl) rfl ?_
        refine ev_icmp_lt (tgt := 19) dX2_answer_14 rfl (fun c14 => ?_) (fun c14 => ?_)
        · refine ev_aload_n dX2_answer_19 rfl rfl ?_
          refine ev_getf dX2_answer_20 fl_2_21 ?_
          refine ev_bipush (v := 40) dX2_answer_23 rfl ?_
          refine ev_iadd dX2_answer_25 ?_
          refine ev_iconst (v := 1) dX2_answer_26 rfl ?_
          refine ev_isub dX2_answer_27 ?_
          refine ev_iload_n dX2_answer_28 rfl ?_
          refine ev_isub dX2_answer_29 ?_
          refine ev_bipush (v := 40) dX2_answer_30 rfl ?_
          refine ev_irem dX2_answer_32 (by decide) ?_
          refine ev_istore_n dX2_answer_33 rfl ?_
          refine ev_iload_n dX2_answer_34 rfl ?_
          refine ev_tsOut (tgt := 81) dX2_answer_35 (hx.resolve_left h1) rfl ?_
          refine ev_iconst (v := (-1)) dX2_answer_81 rfl ?_
          exact ev_iret dX2_answer_82 (Or.inl rfl)
        · exact absurd (show x < (if (40 : Int32) < nI (K.2 0 3) then 40 else nI (K.2 0 3)) by split; exact Int32.not_le.mp (fun q => h1 (Or.inr (Or.inl q))); exact Int32.not_le.mp (fun q => h1 (Or.inr (Or.inr q)))) c14
  show Ev M_X6_event 0 [vR 7 0, vI x, vI w] [] (conc K M G) _
  refine ev_aload_n dX6_event_0 rfl rfl ?_
  refine ev_getf dX6_event_1 fl_6_24 ?_
  refine ev_iload_n dX6_event_4 rfl ?_
  refine ev_iload_n dX6_event_5 rfl ?_
  refine evV3 dX6_event_6 cl_X6_event_309 ⟨rfl, rfl, fun _ => ⟨_, rfl⟩⟩ (Nat.le_of_ble_eq_true rfl) ha ?_
  exact ev_iret dX6_event_9 (Or.inl rfl)
def lookN (K : KT) (k : Nat) : Int32 := match k with
  | 0 => K.1 28 2
  | 1 => nI (K.2 0 0)
  | 2 => nI (K.2 0 1)
  | 3 => if K.1 28 1 = 0 then 0 else 1
  | 4 => mi (K.2 0 2)
  | _ => nI (K.2 0 3)
theorem e_look (K M : KT) (G : GT) (k : Nat) (hk : k ≤ 5) : Ev M_X6_look 0 (ent M_X6_look [vR 7 0, vI (nI k)]) [] (conc K M G) (0, some (vI (lookN K k)), conc K M G) := by
  show Ev M_X6_look 0 [vR 7 0, vI (nI k)] [] (conc K M G) _
  refine ev_iload_n dX6_look_0 rfl ?_
  match k, hk with
  | 0, _ =>
    refine ev_tsIn (tgt := 40) dX6_look_1 (by decide) (by decide) rfl rfl ?_
    refine ev_aload_n dX6_look_40 rfl rfl ?_
    refine ev_getf dX6_look_41 fl_6_125 ?_
    exact ev_iret dX6_look_44 (Or.inl rfl)
  | 1, _ =>
    refine ev_tsIn (tgt := 45) dX6_look_1 (by decide) (by decide) rfl rfl ?_
    refine ev_aload_n dX6_look_45 rfl rfl ?_
    refine ev_getf dX6_look_46 fl_6_46 ?_
    exact ev_iret dX6_look_49 (Or.inl rfl)
  | 2, _ =>
    refine ev_tsIn (tgt := 50) dX6_look_1 (by decide) (by decide) rfl rfl ?_
    refine ev_aload_n dX6_look_50 rfl rfl ?_
    refine ev_getf dX6_look_51 fl_6_67 ?_
    exact ev_iret dX6_look_54 (Or.inl rfl)
  | 3, _ =>
    refine ev_tsIn (tgt := 55) dX6_look_1 (by decide) (by decide) rfl rfl ?_
    refine ev_aload_n dX6_look_55 rfl rfl ?_
    refine ev_getf dX6_look_56 fl_6_43 ?_
    refine ev_if_eq (tgt := 66) dX6_look_59 rfl (fun c59 => ?_) (fun c59 => ?_)
    · refine ev_iconst (v := 0) dX6_look_66 rfl ?_
      rw [show lookN K 3 = 0 from if_pos c59]
      exact ev_iret dX6_look_67 (Or.inl rfl)
    · refine ev_iconst (v := 1) dX6_look_62 rfl ?_
      refine ev_goto (tgt := 67) dX6_look_63 rfl ?_
      rw [show lookN K 3 = 1 from if_neg c59]
      exact ev_iret dX6_look_67 (Or.inl rfl)
  | 4, _ =>
    refine ev_tsIn (tgt := 68) dX6_look_1 (by decide) (by decide) rfl rfl ?_
    rcases hw : K.2 0 2 with _ | t
    · rw [show lookN K 4 = -1 by show mi (K.2 0 2) = _; rw [hw]; rfl]
      refine ev_aload_n dX6_look_68 rfl rfl ?_
      refine ev_getfv dX6_look_69 fl_6_186 (co_last hw) ?_
      refine ev_ifnonnull (tgt := 79) dX6_look_72 rfl rfl (fun c72 => ?_) (fun c72 => ?_)
      · exact absurd rfl c72
      · refine ev_iconst (v := (-1)) dX6_look_75 rfl ?_
        refine ev_goto (tgt := 86) dX6_look_76 rfl ?_
        exact ev_iret dX6_look_86 (Or.inl rfl)
    · rw [show lookN K 4 = nI t by show mi (K.2 0 2) = _; rw [hw]; rfl]
      refine ev_aload_n dX6_look_68 rfl rfl ?_
      refine ev_getfv dX6_look_69 fl_6_186 (co_last hw) ?_
      refine ev_ifnonnull (tgt := 79) dX6_look_72 rfl rfl (fun c72 => ?_) (fun c72 => ?_)
      · refine ev_aload_n dX6_look_79 rfl rfl ?_
        refine ev_getfv dX6_look_80 fl_6_186 (co_last hw) ?_
        refine ev_getf dX6_look_83 fl_6_268 ?_
        exact ev_iret dX6_look_86 (Or.inl rfl)
      · exact nomatch c72
  | 5, _ =>
    refine ev_tsIn (tgt := 87) dX6_look_1 (by decide) (by decide) rfl rfl ?_
    refine ev_aload_n dX6_look_87 rfl rfl ?_
    refine ev_getf dX6_look_88 fl_6_24 ?_
    refine ev_getf dX6_look_91 fl_6_313 ?_
    exact ev_iret dX6_look_94 (Or.inl rfl)
  | k + 6, h => omega
theorem e_lookN (K M : KT) (G : GT) (w : Int32) (hw : w.toInt < 0 ∨ 5 < w.toInt) : Ev M_X6_look 0 (ent M_X6_look [vR 7 0, vI w]) [] (conc K M G) (0, some (vI (-1)), conc K M G) := by
  show Ev M_X6_look 0 [vR 7 0, vI w] [] (conc K M G) _
  refine ev_iload_n dX6_look_0 rfl ?_
  refine ev_tsOut (tgt := 95) dX6_look_1 hw rfl ?_
  refine ev_iconst (v := (-1)) dX6_look_95 rfl ?_
  exact ev_iret dX6_look_96 (Or.inl rfl)
theorem e_start (K M : KT) (G : GT) (hn : K.2 0 0 ≤ 8) (h1 : K.1 28 1 = 0) (h2 : ¬ K.2 0 0 = 0) : Ev M_X6_start 0 (ent M_X6_start [vR 7 0]) [] (conc K M G) (0, none, conc (sI K 28 1 1) M G) := by
  show Ev M_X6_start 0 [vR 7 0] [] (conc K M G) _
  refine ev_aload_n dX6_start_0 rfl rfl ?_
  refine ev_getf dX6_start_1 fl_6_43 ?_
  refine ev_if_ne (tgt := 14) dX6_start_4 rfl (fun c4 => ?_) (fun c4 => ?_)
  · exact absurd h1 c4
  · refine ev_aload_n dX6_start_7 rfl rfl ?_
    refine ev_getf dX6_start_8 fl_6_46 ?_
    refine ev_if_ne (tgt := 24) dX6_start_11 rfl (fun c11 => ?_) (fun c11 => ?_)
    · refine ev_aload_n dX6_start_24 rfl rfl ?_
      refine ev_iconst (v := 1) dX6_start_25 rfl ?_
      refine ev_putfS dX6_start_26 fl_6_43 rfl rfl (pu_ker_6 _ _ _ _) ?_
      exact ev_vret dX6_start_29 rfl
    · exact absurd (Classical.not_not.mp c11) (nI_ne0 (by omega) (by omega))
theorem e_startS (K M : KT) (G : GT) (h : ¬ (K.1 28 1 = 0 ∧ ¬ K.2 0 0 = 0)) : Ev M_X6_start 0 (ent M_X6_start [vR 7 0]) [] (conc K M G) (2, some (vR 19 (G.2.2 3)), conc K M (exG G)) := by
  show Ev M_X6_start 0 [vR 7 0] [] (conc K M G) _
  refine ev_aload_n dX6_start_0 rfl rfl ?_
  refine ev_getf dX6_start_1 fl_6_43 ?_
  refine ev_if_ne (tgt := 14) dX6_start_4 rfl (fun c4 => ?_) (fun c4 => ?_)
  · exact ev_thr th_X6_start_14 (Nat.le_of_ble_eq_true rfl)
  · refine ev_aload_n dX6_start_7 rfl rfl ?_
    refine ev_getf dX6_start_8 fl_6_46 ?_
    refine ev_if_ne (tgt := 24) dX6_start_11 rfl (fun c11 => ?_) (fun c11 => ?_)
    · exact absurd ⟨Classical.not_not.mp c4, fun q => c11 (by show nI (K.2 0 0) = 0; rw [q]; rfl)⟩ h
    · exact ev_thr th_X6_start_14 (Nat.le_of_ble_eq_true rfl)
theorem e_release (K M : KT) (G : GT) (t : Nat) (h : Inv K) (ht : t < K.2 0 0) (h1 : ¬ K.1 28 1 = 0) (h2 : K.1 1 t = 0) : Ev M_X6_release 0 (ent M_X6_release [vR 7 0, vI (nI t)]) [] (conc K M G) (0, some (vI 1), conc (beginK K t) M G) := by
  show Ev M_X6_release 0 [vR 7 0, vI (nI t)] [] (conc K M G) _
  have hn := h.1.1
  refine ev_aload_n dX6_release_0 rfl rfl ?_
  refine ev_getf dX6_release_1 fl_6_43 ?_
  refine ev_if_eq (tgt := 27) dX6_release_4 rfl (fun c4 => ?_) (fun c4 => ?_)
  · exact absurd c4 h1
  · refine ev_aload_n dX6_release_7 rfl rfl ?_
    refine ev_iload_n dX6_release_8 rfl ?_
    refine evV2 dX6_release_9 cl_X6_release_58 ⟨rfl, rfl, fun _ => ⟨_, rfl⟩⟩ (Nat.le_of_ble_eq_true rfl) (e_isTask K M G (nI t) hn) ?_
    refine ev_if_eq (tgt := 27) dX6_release_12 rfl (fun c12 => ?_) (fun c12 => ?_)
    · exact absurd (isT_of (by omega) ht) (bI_0.mp c12)
    · refine ev_aload_n dX6_release_15 rfl rfl ?_
      refine ev_getf dX6_release_16 fl_6_11 ?_
      refine ev_iload_n dX6_release_19 rfl ?_
      refine ev_aaldv dX6_release_20 rfl rfl (show _ < 8 from by omega) (co_tasks ht) ?_
      refine ev_getf dX6_release_21 fl_6_101 ?_
      refine ev_if_eq (tgt := 29) dX6_release_24 rfl (fun c24 => ?_) (fun c24 => ?_)
      · refine ev_aload_n dX6_release_29 rfl rfl ?_
        refine ev_aload_n dX6_release_30 rfl rfl ?_
        refine ev_getf dX6_release_31 fl_6_11 ?_
        refine ev_iload_n dX6_release_34 rfl ?_
        refine ev_aaldv dX6_release_35 rfl rfl (show _ < 8 from by omega) (co_tasks ht) ?_
        refine evV2 dX6_release_36 cl_X6_release_104 ⟨rfl, rfl, fun _ => ⟨_, rfl⟩⟩ (Nat.le_of_ble_eq_true rfl) (e_beginJob K M G t h) ?_
        refine ev_iconst (v := 1) dX6_release_39 rfl ?_
        exact ev_iret dX6_release_40 (Or.inr ⟨rfl, rfl⟩)
      · exact absurd h2 c24
theorem e_releaseN (K M : KT) (G : GT) (x : Int32) (hn : K.2 0 0 ≤ 8) (hx : ¬ (¬ K.1 28 1 = 0 ∧ ∃ t, t < K.2 0 0 ∧ x = nI t ∧ K.1 1 t = 0)) : Ev M_X6_release 0 (ent M_X6_release [vR 7 0, vI x]) [] (conc K M G) (0, some (vI 0), conc K M G) := by
  show Ev M_X6_release 0 [vR 7 0, vI x] [] (conc K M G) _
  by_cases ok : isT (K.2 0 0) x
  · obtain ⟨t, ht, e⟩ := isT_ex (by omega) ok
    subst e
    refine ev_aload_n dX6_release_0 rfl rfl ?_
    refine ev_getf dX6_release_1 fl_6_43 ?_
    refine ev_if_eq (tgt := 27) dX6_release_4 rfl (fun c4 => ?_) (fun c4 => ?_)
    · refine ev_iconst (v := 0) dX6_release_27 rfl ?_
      exact ev_iret dX6_release_28 (Or.inr ⟨rfl, rfl⟩)
    · refine ev_aload_n dX6_release_7 rfl rfl ?_
      refine ev_iload_n dX6_release_8 rfl ?_
      refine evV2 dX6_release_9 cl_X6_release_58 ⟨rfl, rfl, fun _ => ⟨_, rfl⟩⟩ (Nat.le_of_ble_eq_true rfl) (e_isTask K M G (nI t) hn) ?_
      refine ev_if_eq (tgt := 27) dX6_release_12 rfl (fun c12 => ?_) (fun c12 => ?_)
      · refine ev_iconst (v := 0) dX6_release_27 rfl ?_
        exact ev_iret dX6_release_28 (Or.inr ⟨rfl, rfl⟩)
      · refine ev_aload_n dX6_release_15 rfl rfl ?_
        refine ev_getf dX6_release_16 fl_6_11 ?_
        refine ev_iload_n dX6_release_19 rfl ?_
        refine ev_aaldv dX6_release_20 rfl rfl (show _ < 8 from by omega) (co_tasks ht) ?_
        refine ev_getf dX6_release_21 fl_6_101 ?_
        refine ev_if_eq (tgt := 29) dX6_release_24 rfl (fun c24 => ?_) (fun c24 => ?_)
        · exact absurd ⟨c4, t, ht, rfl, c24⟩ hx
        · refine ev_iconst (v := 0) dX6_release_27 rfl ?_
          exact ev_iret dX6_release_28 (Or.inr ⟨rfl, rfl⟩)
  · refine ev_aload_n dX6_release_0 rfl rfl ?_
    refine ev_getf dX6_release_1 fl_6_43 ?_
    refine ev_if_eq (tgt := 27) dX6_release_4 rfl (fun c4 => ?_) (fun c4 => ?_)
    · refine ev_iconst (v := 0) dX6_release_27 rfl ?_
      exact ev_iret dX6_release_28 (Or.inr ⟨rfl, rfl⟩)
    · refine ev_aload_n dX6_release_7 rfl rfl ?_
      refine ev_iload_n dX6_release_8 rfl ?_
      refine evV2 dX6_release_9 cl_X6_release_58 ⟨rfl, rfl, fun _ => ⟨_, rfl⟩⟩ (Nat.le_of_ble_eq_true rfl) (e_isTask K M G x hn) ?_
      refine ev_if_eq (tgt := 27) dX6_release_12 rfl (fun c12 => ?_) (fun c12 => ?_)
      · refine ev_iconst (v := 0) dX6_release_27 rfl ?_
        exact ev_iret dX6_release_28 (Or.inr ⟨rfl, rfl⟩)
      · exact absurd (bI_f ok) c12
theorem e_strict (K M : KT) (G : GT) (t : Nat) (b : Int32) (hb : b = 0 ∨ b = 1) (h : Inv K) (ht : t < K.2 0 0) : Ev M_X6_strict 0 (ent M_X6_strict [vR 7 0, vI (nI t), vI b]) [] (conc K M G) (0, some (vI 1), conc (sI K 5 t b) M G) := by
  show Ev M_X6_strict 0 [vR 7 0, vI (nI t), vI b] [] (conc K M G) _
  have hn := h.1.1
  have hf : fitF 6 9 (vI b) = true := by rcases hb with q | q <;> rw [q] <;> rfl
  refine ev_aload_n dX6_strict_0 rfl rfl ?_
  refine ev_iload_n dX6_strict_1 rfl ?_
  refine evV2 dX6_strict_2 cl_X6_strict_58 ⟨rfl, rfl, fun _ => ⟨_, rfl⟩⟩ (Nat.le_of_ble_eq_true rfl) (e_isTask K M G (nI t) hn) ?_
  refine ev_if_ne (tgt := 10) dX6_strict_5 rfl (fun c5 => ?_) (fun c5 => ?_)
  · refine ev_aload_n dX6_strict_10 rfl rfl ?_
    refine ev_getf dX6_strict_11 fl_6_11 ?_
    refine ev_iload_n dX6_strict_14 rfl ?_
    refine ev_aaldv dX6_strict_15 rfl rfl (show _ < 8 from by omega) (co_tasks ht) ?_
    refine ev_iload_n dX6_strict_16 rfl ?_
    refine ev_putfS dX6_strict_17 fl_6_62 hf rfl (pu_task_9 _ _ _ _ _) ?_
    refine ev_iconst (v := 1) dX6_strict_20 rfl ?_
    exact ev_iret dX6_strict_21 (Or.inr ⟨rfl, rfl⟩)
  · exact absurd (isT_of (by omega) ht) (bI_0.mp (Classical.not_not.mp c5))
theorem e_strictN (K M : KT) (G : GT) (x b : Int32) (hn : K.2 0 0 ≤ 8) (hx : ¬ isT (K.2 0 0) x) : Ev M_X6_strict 0 (ent M_X6_strict [vR 7 0, vI x, vI b]) [] (conc K M G) (0, some (vI 0), conc K M G) := by
  show Ev M_X6_strict 0 [vR 7 0, vI x, vI b] [] (conc K M G) _
  refine ev_aload_n dX6_strict_0 rfl rfl ?_
  refine ev_iload_n dX6_strict_1 rfl ?_
  refine evV2 dX6_strict_2 cl_X6_strict_58 ⟨rfl, rfl, fun _ => ⟨_, rfl⟩⟩ (Nat.le_of_ble_eq_true rfl) (e_isTask K M G x hn) ?_
  refine ev_if_ne (tgt := 10) dX6_strict_5 rfl (fun c5 => ?_) (fun c5 => ?_)
  · exact absurd (bI_f hx) c5
  · refine ev_iconst (v := 0) dX6_strict_8 rfl ?_
    exact ev_iret dX6_strict_9 (Or.inr ⟨rfl, rfl⟩)
