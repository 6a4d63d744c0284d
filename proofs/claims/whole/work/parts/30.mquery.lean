/-! THE REFERENCE: what can be seen, what is made -/
theorem sI_self (M : KT) (f i : Nat) : sI M f i (M.1 f i) = M := by
  refine KT_ext (fun f' i' => ?_) (fun _ _ => rfl)
  simp only [sI_1]
  by_cases h : f' = f
  · rw [if_pos h]
    by_cases h2 : i' = i
    · rw [if_pos h2, h, h2]
    · rw [if_neg h2]
  · rw [if_neg h]
theorem mcost_loop (K M : KT) (G : GT) (t : Nat) (ht : t < 8) (hz : M.2 2 t ≤ 10) : ∀ (j i : Nat) (c : Int32), i + j = M.2 2 t → Ev M_X7_cost 4 [vR 8 0, vI (nI t), vI c, vI (nI i)] [] (conc K M G) (0, some (vI (costN M t j i c)), conc K M G) := by
  intro j
  induction j with
  | zero =>
    intro i c hi
    refine ev_iload_n dX7_cost_4 rfl ?_
    refine ev_aload_n dX7_cost_5 rfl rfl ?_
    refine ev_getf dX7_cost_6 fl_7_33 ?_
    refine ev_iload_n dX7_cost_9 rfl ?_
    refine ev_iald dX7_cost_10 rfl rfl (show _ < 8 from by omega) ?_
    refine ev_icmp_ge (tgt := 52) dX7_cost_11 rfl (fun c11 => ?_) (fun c11 => ?_)
    · refine ev_iload_n dX7_cost_52 rfl ?_
      exact ev_iret dX7_cost_53 (Or.inl rfl)
    · exact absurd (nI_le (a := M.2 2 t) (b := i) (by omega) (by omega)) c11
  | succ j ih =>
    intro i c hi
    have e1 : nI i + Int32.ofInt 1 = nI (i + 1) := nI_1 i
    refine ev_iload_n dX7_cost_4 rfl ?_
    refine ev_aload_n dX7_cost_5 rfl rfl ?_
    refine ev_getf dX7_cost_6 fl_7_33 ?_
    refine ev_iload_n dX7_cost_9 rfl ?_
    refine ev_iald dX7_cost_10 rfl rfl (show _ < 8 from by omega) ?_
    refine ev_icmp_ge (tgt := 52) dX7_cost_11 rfl (fun c11 => ?_) (fun c11 => ?_)
    · exact absurd c11 (nI_ge (a := i) (b := M.2 2 t) (by omega) (by omega))
    · refine ev_iload_n dX7_cost_14 rfl ?_
      refine ev_aload_n dX7_cost_15 rfl rfl ?_
      refine ev_getf dX7_cost_16 fl_7_36 ?_
      refine ev_bipush (v := 10) dX7_cost_19 rfl ?_
      refine ev_iload_n dX7_cost_21 rfl ?_
      refine ev_imul dX7_cost_22 ?_
      refine ev_iload_n dX7_cost_23 rfl ?_
      refine ev_iadd dX7_cost_24 ?_
      refine ev_iald dX7_cost_25 rfl (ix10 t i) (show _ < 80 from by omega) ?_
      refine ev_if_ne (tgt := 43) dX7_cost_26 rfl (fun c26 => ?_) (fun c26 => ?_)
      · refine ev_iconst (v := 0) dX7_cost_43 rfl ?_
        refine ev_iadd dX7_cost_44 ?_
        refine ev_istore_n dX7_cost_45 rfl ?_
        refine ev_iinc dX7_cost_46 rfl ?_
        refine ev_goto (tgt := 4) dX7_cost_49 rfl ?_
        rw [e1, Int32.add_zero]
        simp only [costN]
        rw [if_neg c26]
        exact ih (i + 1) c (by omega)
      · refine ev_aload_n dX7_cost_29 rfl rfl ?_
        refine ev_getf dX7_cost_30 fl_7_39 ?_
        refine ev_bipush (v := 10) dX7_cost_33 rfl ?_
        refine ev_iload_n dX7_cost_35 rfl ?_
        refine ev_imul dX7_cost_36 ?_
        refine ev_iload_n dX7_cost_37 rfl ?_
        refine ev_iadd dX7_cost_38 ?_
        refine ev_iald dX7_cost_39 rfl (ix10 t i) (show _ < 80 from by omega) ?_
        refine ev_goto (tgt := 44) dX7_cost_40 rfl ?_
        refine ev_iadd dX7_cost_44 ?_
        refine ev_istore_n dX7_cost_45 rfl ?_
        refine ev_iinc dX7_cost_46 rfl ?_
        refine ev_goto (tgt := 4) dX7_cost_49 rfl ?_
        rw [e1]
        simp only [costN]
        rw [if_pos (Classical.not_not.mp c26)]
        exact ih (i + 1) _ (by omega)
theorem m_cost (K M : KT) (G : GT) (t : Nat) (ht : t < 8) (hz : M.2 2 t ≤ 10) : Ev M_X7_cost 0 (ent M_X7_cost [vR 8 0, vI (nI t)]) [] (conc K M G) (0, some (vI (costV M t)), conc K M G) := by
  show Ev M_X7_cost 0 [vR 8 0, vI (nI t), vU, vU] [] (conc K M G) _
  have hl := mcost_loop K M G t ht hz (M.2 2 t) 0 0 (by omega)
  refine ev_iconst (v := 0) dX7_cost_0 rfl ?_
  refine ev_istore_n dX7_cost_1 rfl ?_
  refine ev_iconst (v := 0) dX7_cost_2 rfl ?_
  refine ev_istore_n dX7_cost_3 rfl ?_
  exact hl
theorem mxI_idem (c p : Int32) : mxI (mxI c p) p = mxI c p := by
  unfold mxI
  by_cases h : c < p
  · rw [if_pos h, if_neg Int32.lt_irrefl]
  · rw [if_neg h, if_neg h]
def cin (M : KT) (t : Nat) (x : Int32) (j k : Nat) (c : Int32) : Int32 := if hasL M t x j k = true then mxI c (M.1 0 t) else c
theorem cin_s (M : KT) (t : Nat) (x : Int32) (j k : Nat) (c : Int32) : cin M t x (j + 1) k c = cin M t x j (k + 1) (if M.1 26 (10 * t + k) = 1 ∧ M.1 27 (10 * t + k) = x then mxI c (M.1 0 t) else c) := by
  unfold cin
  simp only [hasL, Bool.or_eq_true, Bool.and_eq_true, decide_eq_true_eq]
  by_cases h : M.1 26 (10 * t + k) = 1 ∧ M.1 27 (10 * t + k) = x
  · rw [if_pos (Or.inl h), if_pos h]
    split
    · rw [mxI_idem]
    · rfl
  · rw [if_neg h]
    by_cases h2 : hasL M t x j (k + 1) = true
    · rw [if_pos (Or.inr h2), if_pos h2]
    · rw [if_neg (fun q => q.elim h h2), if_neg h2]
theorem mc_in (K M : KT) (G : GT) (t : Nat) (x : Int32) (ht : t < 8) (hz : M.2 2 t ≤ 10) (r : Res) : ∀ (j k : Nat) (c : Int32), k + j = M.2 2 t → Ev M_X7_ceil 97 [vR 8 0, vI x, vI (cin M t x j k c), vI (nI t), vU, vU] [] (conc K M G) r → Ev M_X7_ceil 15 [vR 8 0, vI x, vI c, vI (nI t), vI (nI k), vU] [] (conc K M G) r := by
  intro j
  induction j with
  | zero =>
    intro k c hk h
    refine ev_iload dX7_ceil_15 rfl ?_
    refine ev_aload_n dX7_ceil_17 rfl rfl ?_
    refine ev_getf dX7_ceil_18 fl_7_33 ?_
    refine ev_iload_n dX7_ceil_21 rfl ?_
    refine ev_iald dX7_ceil_22 rfl rfl (show _ < 8 from by omega) ?_
    refine ev_icmp_ge (tgt := 97) dX7_ceil_23 rfl (fun c23 => ?_) (fun c23 => ?_)
    · refine ev_forget (ls2 := [_, _, _, _, vU, _]) (Fg_to ⟨Or.inr ⟨rfl, rfl⟩, Or.inr ⟨rfl, rfl⟩, Or.inr ⟨rfl, rfl⟩, Or.inr ⟨rfl, rfl⟩, Or.inl rfl, Or.inr ⟨rfl, rfl⟩, trivial⟩) ?_
      exact h
    · exact absurd (nI_le (a := M.2 2 t) (b := k) (by omega) (by omega)) c23
  | succ j ih =>
    intro k c hk h
    have e1 : nI k + Int32.ofInt 1 = nI (k + 1) := nI_1 k
    rw [cin_s] at h
    have h65 : ∀ z : Int32, z = bI (M.1 26 (10 * t + k) = 1 ∧ M.1 27 (10 * t + k) = x) → Ev M_X7_ceil 65 [vR 8 0, vI x, vI c, vI (nI t), vI (nI k), vI z] [] (conc K M G) r := by
      intro z hz2
      have h91 : ∀ c2, c2 = (if M.1 26 (10 * t + k) = 1 ∧ M.1 27 (10 * t + k) = x then mxI c (M.1 0 t) else c) → Ev M_X7_ceil 91 [vR 8 0, vI x, vI c2, vI (nI t), vI (nI k), vI z] [] (conc K M G) r := by
        intro c2 hc
        refine ev_iinc dX7_ceil_91 rfl ?_
        refine ev_goto (tgt := 15) dX7_ceil_94 rfl ?_
        refine ev_forget (ls2 := [_, _, _, _, _, vU]) (Fg_to ⟨Or.inr ⟨rfl, rfl⟩, Or.inr ⟨rfl, rfl⟩, Or.inr ⟨rfl, rfl⟩, Or.inr ⟨rfl, rfl⟩, Or.inr ⟨rfl, rfl⟩, Or.inl rfl, trivial⟩) ?_
        rw [e1]
        exact ih (k + 1) c2 (by omega) (by rw [hc]; exact h)
      refine ev_iload dX7_ceil_65 rfl ?_
      refine ev_if_eq (tgt := 89) dX7_ceil_67 rfl (fun c67 => ?_) (fun c67 => ?_)
      · refine ev_iload_n dX7_ceil_89 rfl ?_
        refine ev_istore_n dX7_ceil_90 rfl ?_
        exact h91 c (if_neg (bI_0.mp (hz2 ▸ c67))).symm
      · have hp := Classical.not_not.mp (fun q => c67 (hz2.trans (bI_f q)))
        refine ev_aload_n dX7_ceil_70 rfl rfl ?_
        refine ev_getf dX7_ceil_71 fl_7_13 ?_
        refine ev_iload_n dX7_ceil_74 rfl ?_
        refine ev_iald dX7_ceil_75 rfl rfl (show _ < 8 from by omega) ?_
        refine ev_iload_n dX7_ceil_76 rfl ?_
        refine ev_icmp_le (tgt := 89) dX7_ceil_77 rfl (fun c77 => ?_) (fun c77 => ?_)
        · refine ev_iload_n dX7_ceil_89 rfl ?_
          refine ev_istore_n dX7_ceil_90 rfl ?_
          exact h91 c ((if_pos hp).trans (if_neg (Int32.not_lt.mpr c77))).symm
        · refine ev_aload_n dX7_ceil_80 rfl rfl ?_
          refine ev_getf dX7_ceil_81 fl_7_13 ?_
          refine ev_iload_n dX7_ceil_84 rfl ?_
          refine ev_iald dX7_ceil_85 rfl rfl (show _ < 8 from by omega) ?_
          refine ev_goto (tgt := 90) dX7_ceil_86 rfl ?_
          refine ev_istore_n dX7_ceil_90 rfl ?_
          exact h91 _ ((if_pos hp).trans (if_pos (Int32.not_le.mp c77))).symm
    refine ev_iload dX7_ceil_15 rfl ?_
    refine ev_aload_n dX7_ceil_17 rfl rfl ?_
    refine ev_getf dX7_ceil_18 fl_7_33 ?_
    refine ev_iload_n dX7_ceil_21 rfl ?_
    refine ev_iald dX7_ceil_22 rfl rfl (show _ < 8 from by omega) ?_
    refine ev_icmp_ge (tgt := 97) dX7_ceil_23 rfl (fun c23 => ?_) (fun c23 => ?_)
    · exact absurd c23 (nI_ge (a := k) (b := M.2 2 t) (by omega) (by omega))
    · refine ev_aload_n dX7_ceil_26 rfl rfl ?_
      refine ev_getf dX7_ceil_27 fl_7_36 ?_
      refine ev_bipush (v := 10) dX7_ceil_30 rfl ?_
      refine ev_iload_n dX7_ceil_32 rfl ?_
      refine ev_imul dX7_ceil_33 ?_
      refine ev_iload dX7_ceil_34 rfl ?_
      refine ev_iadd dX7_ceil_36 ?_
      refine ev_iald dX7_ceil_37 rfl (ix10 t k) (show _ < 80 from by omega) ?_
      refine ev_iconst (v := 1) dX7_ceil_38 rfl ?_
      refine ev_icmp_ne (tgt := 62) dX7_ceil_39 rfl (fun c39 => ?_) (fun c39 => ?_)
      · refine ev_iconst (v := 0) dX7_ceil_62 rfl ?_
        refine ev_istore dX7_ceil_63 rfl ?_
        exact h65 0 (bI_f (fun q => c39 q.1)).symm
      · refine ev_aload_n dX7_ceil_42 rfl rfl ?_
        refine ev_getf dX7_ceil_43 fl_7_39 ?_
        refine ev_bipush (v := 10) dX7_ceil_46 rfl ?_
        refine ev_iload_n dX7_ceil_48 rfl ?_
        refine ev_imul dX7_ceil_49 ?_
        refine ev_iload dX7_ceil_50 rfl ?_
        refine ev_iadd dX7_ceil_52 ?_
        refine ev_iald dX7_ceil_53 rfl (ix10 t k) (show _ < 80 from by omega) ?_
        refine ev_iload_n dX7_ceil_54 rfl ?_
        refine ev_icmp_ne (tgt := 62) dX7_ceil_55 rfl (fun c55 => ?_) (fun c55 => ?_)
        · refine ev_iconst (v := 0) dX7_ceil_62 rfl ?_
          refine ev_istore dX7_ceil_63 rfl ?_
          exact h65 0 (bI_f (fun q => c55 q.2)).symm
        · refine ev_iconst (v := 1) dX7_ceil_58 rfl ?_
          refine ev_goto (tgt := 63) dX7_ceil_59 rfl ?_
          refine ev_istore dX7_ceil_63 rfl ?_
          exact h65 1 (bI_t ⟨Classical.not_not.mp c39, Classical.not_not.mp c55⟩).symm
theorem mc_out (K M : KT) (G : GT) (x : Int32) (h : Inv M) : ∀ (j i : Nat) (c : Int32), i + j = M.2 0 0 → Ev M_X7_ceil 4 [vR 8 0, vI x, vI c, vI (nI i), vU, vU] [] (conc K M G) (0, some (vI (ceilN M x j i c)), conc K M G) := by
  have hn := h.1.1
  intro j
  induction j with
  | zero =>
    intro i c hi
    refine ev_iload_n dX7_ceil_4 rfl ?_
    refine ev_aload_n dX7_ceil_5 rfl rfl ?_
    refine ev_getf dX7_ceil_6 fl_7_112 ?_
    refine ev_icmp_ge (tgt := 103) dX7_ceil_9 rfl (fun c9 => ?_) (fun c9 => ?_)
    · refine ev_iload_n dX7_ceil_103 rfl ?_
      exact ev_iret dX7_ceil_104 (Or.inl rfl)
    · exact absurd (nI_le (a := M.2 0 0) (b := i) (by omega) (by omega)) c9
  | succ j ih =>
    intro i c hi
    have e1 : nI i + Int32.ofInt 1 = nI (i + 1) := nI_1 i
    have hz := (h.2.2.1 i (by omega)).1
    have h97 : Ev M_X7_ceil 97 [vR 8 0, vI x, vI (cin M i x (M.2 2 i) 0 c), vI (nI i), vU, vU] [] (conc K M G) (0, some (vI (ceilN M x (j + 1) i c)), conc K M G) := by
      refine ev_iinc dX7_ceil_97 rfl ?_
      refine ev_goto (tgt := 4) dX7_ceil_100 rfl ?_
      rw [e1]
      exact ih (i + 1) _ (by omega)
    refine ev_iload_n dX7_ceil_4 rfl ?_
    refine ev_aload_n dX7_ceil_5 rfl rfl ?_
    refine ev_getf dX7_ceil_6 fl_7_112 ?_
    refine ev_icmp_ge (tgt := 103) dX7_ceil_9 rfl (fun c9 => ?_) (fun c9 => ?_)
    · exact absurd c9 (nI_ge (a := i) (b := M.2 0 0) (by omega) (by omega))
    · refine ev_iconst (v := 0) dX7_ceil_12 rfl ?_
      refine ev_istore dX7_ceil_13 rfl ?_
      exact mc_in K M G i x (by omega) hz _ (M.2 2 i) 0 c (by omega) h97
theorem m_ceil (K M : KT) (G : GT) (x : Int32) (h : Inv M) : Ev M_X7_ceil 0 (ent M_X7_ceil [vR 8 0, vI x]) [] (conc K M G) (0, some (vI (ceilV M x)), conc K M G) := by
  show Ev M_X7_ceil 0 [vR 8 0, vI x, vU, vU, vU, vU] [] (conc K M G) _
  have hl := mc_out K M G x h (M.2 0 0) 0 0 (by omega)
  refine ev_iconst (v := 0) dX7_ceil_0 rfl ?_
  refine ev_istore_n dX7_ceil_1 rfl ?_
  refine ev_iconst (v := 0) dX7_ceil_2 rfl ?_
  refine ev_istore_n dX7_ceil_3 rfl ?_
  exact hl
theorem ms_loop (K M : KT) (G : GT) (t : Nat) (x y : Int32) (ht : t < 8) (hz : M.2 2 t ≤ 10) : ∀ (j k : Nat) (c : Int32), k + j = M.2 2 t → Ev M_X7_section 20 [vR 8 0, vI (nI t), vI y, vI x, vI c, vI (nI k), vU] [] (conc K M G) (0, some (vI (secN M t x j k c)), conc K M G) := by
  intro j
  induction j with
  | zero =>
    intro k c hk
    refine ev_iload dX7_section_20 rfl ?_
    refine ev_aload_n dX7_section_22 rfl rfl ?_
    refine ev_getf dX7_section_23 fl_7_33 ?_
    refine ev_iload_n dX7_section_26 rfl ?_
    refine ev_iald dX7_section_27 rfl rfl (show _ < 8 from by omega) ?_
    refine ev_icmp_ge (tgt := 97) dX7_section_28 rfl (fun c28 => ?_) (fun c28 => ?_)
    · refine ev_iload dX7_section_97 rfl ?_
      exact ev_iret dX7_section_99 (Or.inl rfl)
    · exact absurd (nI_le (a := M.2 2 t) (b := k) (by omega) (by omega)) c28
  | succ j ih =>
    intro k c hk
    have e1 : nI k + Int32.ofInt 1 = nI (k + 1) := nI_1 k
    have h65 : ¬ (M.1 26 (10 * t + k) = 2 ∧ M.1 27 (10 * t + k) = x) → Ev M_X7_section 65 [vR 8 0, vI (nI t), vI y, vI x, vI c, vI (nI k), vI (nI (10 * t + k))] [] (conc K M G) (0, some (vI (secN M t x (j + 1) k c)), conc K M G) := by
      intro hn
      simp only [secN]
      rw [if_neg hn]
      refine ev_iload dX7_section_65 rfl ?_
      refine ev_aload_n dX7_section_67 rfl rfl ?_
      refine ev_getf dX7_section_68 fl_7_36 ?_
      refine ev_iload dX7_section_71 rfl ?_
      refine ev_iald dX7_section_73 rfl rfl (show _ < 80 from by omega) ?_
      refine ev_if_ne (tgt := 87) dX7_section_74 rfl (fun c74 => ?_) (fun c74 => ?_)
      · refine ev_iconst (v := 0) dX7_section_87 rfl ?_
        refine ev_iadd dX7_section_88 ?_
        refine ev_istore dX7_section_89 rfl ?_
        refine ev_iinc dX7_section_91 rfl ?_
        refine ev_goto (tgt := 20) dX7_section_94 rfl ?_
        refine ev_forget (ls2 := [_, _, _, _, _, _, vU]) (Fg_to ⟨Or.inr ⟨rfl, rfl⟩, Or.inr ⟨rfl, rfl⟩, Or.inr ⟨rfl, rfl⟩, Or.inr ⟨rfl, rfl⟩, Or.inr ⟨rfl, rfl⟩, Or.inr ⟨rfl, rfl⟩, Or.inl rfl, trivial⟩) ?_
        rw [e1, Int32.add_zero, if_neg c74]
        exact ih (k + 1) _ (by omega)
      · refine ev_aload_n dX7_section_77 rfl rfl ?_
        refine ev_getf dX7_section_78 fl_7_39 ?_
        refine ev_iload dX7_section_81 rfl ?_
        refine ev_iald dX7_section_83 rfl rfl (show _ < 80 from by omega) ?_
        refine ev_goto (tgt := 88) dX7_section_84 rfl ?_
        refine ev_iadd dX7_section_88 ?_
        refine ev_istore dX7_section_89 rfl ?_
        refine ev_iinc dX7_section_91 rfl ?_
        refine ev_goto (tgt := 20) dX7_section_94 rfl ?_
        refine ev_forget (ls2 := [_, _, _, _, _, _, vU]) (Fg_to ⟨Or.inr ⟨rfl, rfl⟩, Or.inr ⟨rfl, rfl⟩, Or.inr ⟨rfl, rfl⟩, Or.inr ⟨rfl, rfl⟩, Or.inr ⟨rfl, rfl⟩, Or.inr ⟨rfl, rfl⟩, Or.inl rfl, trivial⟩) ?_
        rw [e1, if_pos (Classical.not_not.mp c74)]
        exact ih (k + 1) _ (by omega)
    refine ev_iload dX7_section_20 rfl ?_
    refine ev_aload_n dX7_section_22 rfl rfl ?_
    refine ev_getf dX7_section_23 fl_7_33 ?_
    refine ev_iload_n dX7_section_26 rfl ?_
    refine ev_iald dX7_section_27 rfl rfl (show _ < 8 from by omega) ?_
    refine ev_icmp_ge (tgt := 97) dX7_section_28 rfl (fun c28 => ?_) (fun c28 => ?_)
    · exact absurd c28 (nI_ge (a := k) (b := M.2 2 t) (by omega) (by omega))
    · refine ev_bipush (v := 10) dX7_section_31 rfl ?_
      refine ev_iload_n dX7_section_33 rfl ?_
      refine ev_imul dX7_section_34 ?_
      refine ev_iload dX7_section_35 rfl ?_
      refine ev_iadd dX7_section_37 ?_
      rw [ix10 t k]
      refine ev_istore dX7_section_38 rfl ?_
      refine ev_aload_n dX7_section_40 rfl rfl ?_
      refine ev_getf dX7_section_41 fl_7_36 ?_
      refine ev_iload dX7_section_44 rfl ?_
      refine ev_iald dX7_section_46 rfl rfl (show _ < 80 from by omega) ?_
      refine ev_iconst (v := 2) dX7_section_47 rfl ?_
      refine ev_icmp_ne (tgt := 65) dX7_section_48 rfl (fun c48 => ?_) (fun c48 => ?_)
      · exact h65 (fun q => c48 q.1)
      · refine ev_aload_n dX7_section_51 rfl rfl ?_
        refine ev_getf dX7_section_52 fl_7_39 ?_
        refine ev_iload dX7_section_55 rfl ?_
        refine ev_iald dX7_section_57 rfl rfl (show _ < 80 from by omega) ?_
        refine ev_iload_n dX7_section_58 rfl ?_
        refine ev_icmp_ne (tgt := 65) dX7_section_59 rfl (fun c59 => ?_) (fun c59 => ?_)
        · exact h65 (fun q => c59 q.2)
        · refine ev_iload dX7_section_62 rfl ?_
          rw [show secN M t x (j + 1) k c = c from if_pos ⟨Classical.not_not.mp c48, Classical.not_not.mp c59⟩]
          exact ev_iret dX7_section_64 (Or.inl rfl)
theorem m_section (K M : KT) (G : GT) (t i : Nat) (ht : t < 8) (hz : M.2 2 t ≤ 10) (hi : i < M.2 2 t) : Ev M_X7_section 0 (ent M_X7_section [vR 8 0, vI (nI t), vI (nI i)]) [] (conc K M G) (0, some (vI (secN M t (M.1 27 (10 * t + i)) (M.2 2 t - (i + 1)) (i + 1) 0)), conc K M G) := by
  show Ev M_X7_section 0 [vR 8 0, vI (nI t), vI (nI i), vU, vU, vU, vU] [] (conc K M G) _
  have hl := ms_loop K M G t (M.1 27 (10 * t + i)) (nI i) ht hz (M.2 2 t - (i + 1)) (i + 1) 0 (by omega)
  have e1 : nI i + 1 = nI (i + 1) := nI_1 i
  refine ev_aload_n dX7_section_0 rfl rfl ?_
  refine ev_getf dX7_section_1 fl_7_39 ?_
  refine ev_bipush (v := 10) dX7_section_4 rfl ?_
  refine ev_iload_n dX7_section_6 rfl ?_
  refine ev_imul dX7_section_7 ?_
  refine ev_iload_n dX7_section_8 rfl ?_
  refine ev_iadd dX7_section_9 ?_
  refine ev_iald dX7_section_10 rfl (ix10 t i) (show _ < 80 from by omega) ?_
  refine ev_istore_n dX7_section_11 rfl ?_
  refine ev_iconst (v := 0) dX7_section_12 rfl ?_
  refine ev_istore dX7_section_13 rfl ?_
  refine ev_iload_n dX7_section_15 rfl ?_
  refine ev_iconst (v := 1) dX7_section_16 rfl ?_
  refine ev_iadd dX7_section_17 ?_
  refine ev_istore dX7_section_18 rfl ?_
  rw [e1]
  exact hl
/-! looks and events -/
theorem m_look (K M : KT) (G : GT) (k : Nat) (hk : k ≤ 5) : Ev M_X7_look 0 (ent M_X7_look [vR 8 0, vI (nI k)]) [] (conc K M G) (0, some (vI (lookN M k)), conc K (sI M 28 4 0) G) := by
  show Ev M_X7_look 0 [vR 8 0, vI (nI k)] [] (conc K M G) _
  have q : ∀ c : Nat, c ≤ 100 → nI k = nI c → k = c := fun c hc h => (nI_eq (by omega) (by omega)).mp h
  refine ev_aload_n dX7_look_0 rfl rfl ?_
  refine ev_iconst (v := 0) dX7_look_1 rfl ?_
  refine ev_putfS dX7_look_2 fl_7_109 rfl rfl (pu_mod_0 _ _ _ _) ?_
  refine ev_iload_n dX7_look_5 rfl ?_
  refine ev_if_ne (tgt := 16) dX7_look_6 rfl (fun c6 => ?_) (fun c6 => ?_)
  · have n0 : ¬ k = 0 := fun e => c6 (by rw [e]; rfl)
    refine ev_iload_n dX7_look_16 rfl ?_
    refine ev_iconst (v := 1) dX7_look_17 rfl ?_
    refine ev_icmp_ne (tgt := 28) dX7_look_18 rfl (fun c18 => ?_) (fun c18 => ?_)
    · have n1 : ¬ k = 1 := fun e => c18 (by rw [e]; rfl)
      refine ev_iload_n dX7_look_28 rfl ?_
      refine ev_iconst (v := 2) dX7_look_29 rfl ?_
      refine ev_icmp_ne (tgt := 40) dX7_look_30 rfl (fun c30 => ?_) (fun c30 => ?_)
      · have n2 : ¬ k = 2 := fun e => c30 (by rw [e]; rfl)
        refine ev_iload_n dX7_look_40 rfl ?_
        refine ev_iconst (v := 3) dX7_look_41 rfl ?_
        refine ev_icmp_ne (tgt := 60) dX7_look_42 rfl (fun c42 => ?_) (fun c42 => ?_)
        · have n3 : ¬ k = 3 := fun e => c42 (by rw [e]; rfl)
          refine ev_iload_n dX7_look_60 rfl ?_
          refine ev_iconst (v := 4) dX7_look_61 rfl ?_
          refine ev_icmp_ne (tgt := 72) dX7_look_62 rfl (fun c62 => ?_) (fun c62 => ?_)
          · have n4 : ¬ k = 4 := fun e => c62 (by rw [e]; rfl)
            refine ev_iload_n dX7_look_72 rfl ?_
            refine ev_iconst (v := 5) dX7_look_73 rfl ?_
            refine ev_icmp_ne (tgt := 84) dX7_look_74 rfl (fun c74 => ?_) (fun c74 => ?_)
            · exact absurd (show nI k = nI 5 by rw [show k = 5 by omega]) c74
            · refine ev_aload_n dX7_look_77 rfl rfl ?_
              refine ev_getf dX7_look_78 fl_7_136 ?_
              refine ev_goto (tgt := 85) dX7_look_81 rfl ?_
              rw [q 5 (by omega) (Classical.not_not.mp c74)]
              exact ev_iret dX7_look_85 (Or.inl rfl)
          · refine ev_aload_n dX7_look_65 rfl rfl ?_
            refine ev_getf dX7_look_66 fl_7_7 ?_
            refine ev_goto (tgt := 85) dX7_look_69 rfl ?_
            rw [q 4 (by omega) (Classical.not_not.mp c62)]
            exact ev_iret dX7_look_85 (Or.inl rfl)
        · refine ev_aload_n dX7_look_45 rfl rfl ?_
          refine ev_getf dX7_look_46 fl_7_119 ?_
          refine ev_if_eq (tgt := 56) dX7_look_49 rfl (fun c49 => ?_) (fun c49 => ?_)
          · refine ev_iconst (v := 0) dX7_look_56 rfl ?_
            refine ev_goto (tgt := 85) dX7_look_57 rfl ?_
            rw [q 3 (by omega) (Classical.not_not.mp c42), show lookN M 3 = 0 from if_pos c49]
            exact ev_iret dX7_look_85 (Or.inl rfl)
          · refine ev_iconst (v := 1) dX7_look_52 rfl ?_
            refine ev_goto (tgt := 85) dX7_look_53 rfl ?_
            rw [q 3 (by omega) (Classical.not_not.mp c42), show lookN M 3 = 1 from if_neg c49]
            exact ev_iret dX7_look_85 (Or.inl rfl)
      · refine ev_aload_n dX7_look_33 rfl rfl ?_
        refine ev_getf dX7_look_34 fl_7_126 ?_
        refine ev_goto (tgt := 85) dX7_look_37 rfl ?_
        rw [q 2 (by omega) (Classical.not_not.mp c30)]
        exact ev_iret dX7_look_85 (Or.inl rfl)
    · refine ev_aload_n dX7_look_21 rfl rfl ?_
      refine ev_getf dX7_look_22 fl_7_112 ?_
      refine ev_goto (tgt := 85) dX7_look_25 rfl ?_
      rw [q 1 (by omega) (Classical.not_not.mp c18)]
      exact ev_iret dX7_look_85 (Or.inl rfl)
  · refine ev_aload_n dX7_look_9 rfl rfl ?_
    refine ev_getf dX7_look_10 fl_7_139 ?_
    refine ev_goto (tgt := 85) dX7_look_13 rfl ?_
    rw [q 0 (by omega) (Classical.not_not.mp c6)]
    exact ev_iret dX7_look_85 (Or.inl rfl)
theorem ne_out {w : Int32} {n : Nat} (hn : n < 2 ^ 31) (h : w.toInt < 0 ∨ (n : Int) < w.toInt) {c : Nat} (hc : c ≤ n) : ¬ w = nI c := by
  intro e
  rw [e, nI_toInt (by omega)] at h
  omega
theorem m_lookN (K M : KT) (G : GT) (w : Int32) (hw : w.toInt < 0 ∨ 5 < w.toInt) : Ev M_X7_look 0 (ent M_X7_look [vR 8 0, vI w]) [] (conc K M G) (0, some (vI (-1)), conc K (sI M 28 4 0) G) := by
  show Ev M_X7_look 0 [vR 8 0, vI w] [] (conc K M G) _
  have q : ∀ c : Nat, c ≤ 5 → ¬ w = nI c := fun c hc => ne_out (n := 5) (by omega) hw hc
  refine ev_aload_n dX7_look_0 rfl rfl ?_
  refine ev_iconst (v := 0) dX7_look_1 rfl ?_
  refine ev_putfS dX7_look_2 fl_7_109 rfl rfl (pu_mod_0 _ _ _ _) ?_
  refine ev_iload_n dX7_look_5 rfl ?_
  refine ev_if_ne (tgt := 16) dX7_look_6 rfl (fun c6 => ?_) (fun c6 => ?_)
  · refine ev_iload_n dX7_look_16 rfl ?_
    refine ev_iconst (v := 1) dX7_look_17 rfl ?_
    refine ev_icmp_ne (tgt := 28) dX7_look_18 rfl (fun c18 => ?_) (fun c18 => ?_)
    · refine ev_iload_n dX7_look_28 rfl ?_
      refine ev_iconst (v := 2) dX7_look_29 rfl ?_
      refine ev_icmp_ne (tgt := 40) dX7_look_30 rfl (fun c30 => ?_) (fun c30 => ?_)
      · refine ev_iload_n dX7_look_40 rfl ?_
        refine ev_iconst (v := 3) dX7_look_41 rfl ?_
        refine ev_icmp_ne (tgt := 60) dX7_look_42 rfl (fun c42 => ?_) (fun c42 => ?_)
        · refine ev_iload_n dX7_look_60 rfl ?_
          refine ev_iconst (v := 4) dX7_look_61 rfl ?_
          refine ev_icmp_ne (tgt := 72) dX7_look_62 rfl (fun c62 => ?_) (fun c62 => ?_)
          · refine ev_iload_n dX7_look_72 rfl ?_
            refine ev_iconst (v := 5) dX7_look_73 rfl ?_
            refine ev_icmp_ne (tgt := 84) dX7_look_74 rfl (fun c74 => ?_) (fun c74 => ?_)
            · refine ev_iconst (v := (-1)) dX7_look_84 rfl ?_
              exact ev_iret dX7_look_85 (Or.inl rfl)
            · exact absurd (Classical.not_not.mp c74) (q 5 (by omega))
          · exact absurd (Classical.not_not.mp c62) (q 4 (by omega))
        · exact absurd (Classical.not_not.mp c42) (q 3 (by omega))
      · exact absurd (Classical.not_not.mp c30) (q 2 (by omega))
    · exact absurd (Classical.not_not.mp c18) (q 1 (by omega))
  · exact absurd (Classical.not_not.mp c6) (q 0 (by omega))
theorem m_event (K M : KT) (G : GT) (e k : Nat) (h : Inv M) (hb : M.2 0 3 < 2 ^ 31) (he : e < 40) (he2 : e < M.2 0 3) (hk : k ≤ 2) : Ev M_X7_event 0 (ent M_X7_event [vR 8 0, vI (nI e), vI (nI k)]) [] (conc K M G) (0, some (vI (evN M ((M.2 0 3 - 1 - e) % 40) k)), conc K (sI M 28 4 0) G) := by
  show Ev M_X7_event 0 [vR 8 0, vI (nI e), vI (nI k), vU] [] (conc K M G) _
  have q : ∀ c : Nat, c ≤ 100 → nI k = nI c → k = c := fun c hc h => (nI_eq (by omega) (by omega)).mp h
  have hr : (nI (M.2 0 3) - 1 - nI e) - (nI (M.2 0 3) - 1 - nI e) / 40 * 40 = nI ((M.2 0 3 - 1 - e) % 40) := by
    rw [show (1 : Int32) = nI 1 from rfl, pk_sub (by omega), pk_sub (by omega), show (40 : Int32) = nI 40 from rfl, pk_rem (by omega) (by omega) (by omega)]
  have hlt : (M.2 0 3 - 1 - e) % 40 < 40 := Nat.mod_lt _ (by omega)
  refine ev_aload_n dX7_event_0 rfl rfl ?_
  refine ev_iconst (v := 0) dX7_event_1 rfl ?_
  refine ev_putfS dX7_event_2 fl_7_109 rfl rfl (pu_mod_0 _ _ _ _) ?_
  refine ev_iload_n dX7_event_5 rfl ?_
  refine ev_if_lt (tgt := 32) dX7_event_6 rfl (fun c6 => ?_) (fun c6 => ?_)
  · exact absurd c6 (Int32.not_lt.mpr (nI_pos' (by omega)))
  · refine ev_iload_n dX7_event_9 rfl ?_
    refine ev_bipush (v := 40) dX7_event_10 rfl ?_
    refine ev_icmp_ge (tgt := 32) dX7_event_12 rfl (fun c12 => ?_) (fun c12 => ?_)
    · exact absurd c12 (nI_ge (a := e) (b := 40) he (by omega))
    · refine ev_iload_n dX7_event_15 rfl ?_
      refine ev_aload_n dX7_event_16 rfl rfl ?_
      refine ev_getf dX7_event_17 fl_7_136 ?_
      refine ev_icmp_ge (tgt := 32) dX7_event_20 rfl (fun c20 => ?_) (fun c20 => ?_)
      · exact absurd c20 (nI_ge (a := e) (b := M.2 0 3) he2 (by omega))
      · refine ev_iload_n dX7_event_23 rfl ?_
        refine ev_if_lt (tgt := 32) dX7_event_24 rfl (fun c24 => ?_) (fun c24 => ?_)
        · exact absurd c24 (Int32.not_lt.mpr (nI_pos' (by omega)))
        · refine ev_iload_n dX7_event_27 rfl ?_
          refine ev_iconst (v := 2) dX7_event_28 rfl ?_
          refine ev_icmp_le (tgt := 34) dX7_event_29 rfl (fun c29 => ?_) (fun c29 => ?_)
          · refine ev_aload_n dX7_event_34 rfl rfl ?_
            refine ev_getf dX7_event_35 fl_7_136 ?_
            refine ev_iconst (v := 1) dX7_event_38 rfl ?_
            refine ev_isub dX7_event_39 ?_
            refine ev_iload_n dX7_event_40 rfl ?_
            refine ev_isub dX7_event_41 ?_
            refine ev_bipush (v := 40) dX7_event_42 rfl ?_
            refine ev_irem dX7_event_44 (by decide) ?_
            refine ev_istore_n dX7_event_45 rfl ?_
            refine ev_iload_n dX7_event_46 rfl ?_
            refine ev_if_ne (tgt := 59) dX7_event_47 rfl (fun c47 => ?_) (fun c47 => ?_)
            · have n0 : ¬ k = 0 := fun e => c47 (by rw [e]; rfl)
              refine ev_iload_n dX7_event_59 rfl ?_
              refine ev_iconst (v := 1) dX7_event_60 rfl ?_
              refine ev_icmp_ne (tgt := 73) dX7_event_61 rfl (fun c61 => ?_) (fun c61 => ?_)
              · have n1 : ¬ k = 1 := fun e => c61 (by rw [e]; rfl)
                refine ev_aload_n dX7_event_73 rfl rfl ?_
                refine ev_getf dX7_event_74 fl_7_102 ?_
                refine ev_iload_n dX7_event_77 rfl ?_
                refine ev_iald dX7_event_78 rfl (hr) (show _ < 40 from hlt) ?_
                rw [show k = 2 by omega]
                exact ev_iret dX7_event_79 (Or.inl rfl)
              · refine ev_aload_n dX7_event_64 rfl rfl ?_
                refine ev_getf dX7_event_65 fl_7_99 ?_
                refine ev_iload_n dX7_event_68 rfl ?_
                refine ev_iald dX7_event_69 rfl (hr) (show _ < 40 from hlt) ?_
                refine ev_goto (tgt := 79) dX7_event_70 rfl ?_
                rw [q 1 (by omega) (Classical.not_not.mp c61)]
                exact ev_iret dX7_event_79 (Or.inl rfl)
            · refine ev_aload_n dX7_event_50 rfl rfl ?_
              refine ev_getf dX7_event_51 fl_7_96 ?_
              refine ev_iload_n dX7_event_54 rfl ?_
              refine ev_iald dX7_event_55 rfl (hr) (show _ < 40 from hlt) ?_
              refine ev_goto (tgt := 79) dX7_event_56 rfl ?_
              rw [q 0 (by omega) (Classical.not_not.mp c47)]
              exact ev_iret dX7_event_79 (Or.inl rfl)
          · exact absurd (nI_le (a := k) (b := 2) hk (by omega)) c29
theorem m_eventN (K M : KT) (G : GT) (x w : Int32) (hx : (x < 0 ∨ nI 40 ≤ x ∨ nI (M.2 0 3) ≤ x) ∨ (w.toInt < 0 ∨ 2 < w.toInt)) : Ev M_X7_event 0 (ent M_X7_event [vR 8 0, vI x, vI w]) [] (conc K M G) (0, some (vI (-1)), conc K (sI M 28 4 0) G) := by
  show Ev M_X7_event 0 [vR 8 0, vI x, vI w, vU] [] (conc K M G) _
  refine ev_aload_n dX7_event_0 rfl rfl ?_
  refine ev_iconst (v := 0) dX7_event_1 rfl ?_
  refine ev_putfS dX7_event_2 fl_7_109 rfl rfl (pu_mod_0 _ _ _ _) ?_
  refine ev_iload_n dX7_event_5 rfl ?_
  refine ev_if_lt (tgt := 32) dX7_event_6 rfl (fun c6 => ?_) (fun c6 => ?_)
  · refine ev_iconst (v := (-1)) dX7_event_32 rfl ?_
    exact ev_iret dX7_event_33 (Or.inl rfl)
  · refine ev_iload_n dX7_event_9 rfl ?_
    refine ev_bipush (v := 40) dX7_event_10 rfl ?_
    refine ev_icmp_ge (tgt := 32) dX7_event_12 rfl (fun c12 => ?_) (fun c12 => ?_)
    · refine ev_iconst (v := (-1)) dX7_event_32 rfl ?_
      exact ev_iret dX7_event_33 (Or.inl rfl)
    · refine ev_iload_n dX7_event_15 rfl ?_
      refine ev_aload_n dX7_event_16 rfl rfl ?_
      refine ev_getf dX7_event_17 fl_7_136 ?_
      refine ev_icmp_ge (tgt := 32) dX7_event_20 rfl (fun c20 => ?_) (fun c20 => ?_)
      · refine ev_iconst (v := (-1)) dX7_event_32 rfl ?_
        exact ev_iret dX7_event_33 (Or.inl rfl)
      · refine ev_iload_n dX7_event_23 rfl ?_
        refine ev_if_lt (tgt := 32) dX7_event_24 rfl (fun c24 => ?_) (fun c24 => ?_)
        · refine ev_iconst (v := (-1)) dX7_event_32 rfl ?_
          exact ev_iret dX7_event_33 (Or.inl rfl)
        · refine ev_iload_n dX7_event_27 rfl ?_
          refine ev_iconst (v := 2) dX7_event_28 rfl ?_
          refine ev_icmp_le (tgt := 34) dX7_event_29 rfl (fun c29 => ?_) (fun c29 => ?_)
          · exact hx.elim (fun q => absurd q (fun q => q.elim c6 (fun q => q.elim c12 c20))) (fun q => q.elim (fun q => absurd (Int32.lt_iff_toInt_lt.mpr q) c24) (fun q => absurd (Int32.le_iff_toInt_le.mp c29) (by have e2 : (2 : Int32).toInt = 2 := rfl; rw [e2]; omega)))
          · refine ev_iconst (v := (-1)) dX7_event_32 rfl ?_
            exact ev_iret dX7_event_33 (Or.inl rfl)
/-! tasks and mutexes seen -/
theorem m_seen (K M : KT) (G : GT) (t k : Nat) (h : Inv M) (hd : DueOk M) (ht : t < M.2 0 0) (hk : k ≤ 9) : Ev M_X7_seen 0 (ent M_X7_seen [vR 8 0, vI (nI t), vI (nI k)]) [] (conc K M G) (0, some (vI (seenN M t k)), conc K (if k = 2 then weighK (sI M 28 4 0) else sI M 28 4 0) G) := by
  show Ev M_X7_seen 0 [vR 8 0, vI (nI t), vI (nI k)] [] (conc K M G) _
  have hn := h.1.1
  have q : ∀ c : Nat, c ≤ 100 → nI k = nI c → k = c := fun c hc h => (nI_eq (by omega) (by omega)).mp h
  have nq : ∀ c : Nat, ¬ nI k = nI c → ¬ k = c := fun c hc e => hc (by rw [e])
  have ok : isT (M.2 0 0) (nI t) := isT_of (by omega) ht
  have hV : VR (sI M 28 4 0) = VR M := VR_congr rfl rfl rfl rfl rfl rfl rfl rfl rfl rfl
  have h2 : UM (sI M 28 4 0) t = sgn M (VR M t) := by
    unfold UM
    rw [if_pos (show t < (sI M 28 4 0).2 0 0 from ht), hV]
    rfl
  refine ev_aload_n dX7_seen_0 rfl rfl ?_
  refine ev_iconst (v := 0) dX7_seen_1 rfl ?_
  refine ev_putfS dX7_seen_2 fl_7_109 rfl rfl (pu_mod_0 _ _ _ _) ?_
  refine ev_aload_n dX7_seen_5 rfl rfl ?_
  refine ev_iload_n dX7_seen_6 rfl ?_
  refine evV2 dX7_seen_7 cl_X7_seen_122 ⟨rfl, rfl, fun _ => ⟨_, rfl⟩⟩ (Nat.le_of_ble_eq_true rfl) (m_isTask K (sI M 28 4 0) G (nI t)) ?_
  refine ev_if_eq (tgt := 23) dX7_seen_10 rfl (fun c10 => ?_) (fun c10 => ?_)
  · exact absurd ok (bI_0.mp c10)
  · refine ev_iload_n dX7_seen_13 rfl ?_
    refine ev_if_lt (tgt := 23) dX7_seen_14 rfl (fun c14 => ?_) (fun c14 => ?_)
    · exact absurd c14 (Int32.not_lt.mpr (nI_pos' (by omega)))
    · refine ev_iload_n dX7_seen_17 rfl ?_
      refine ev_bipush (v := 9) dX7_seen_18 rfl ?_
      refine ev_icmp_le (tgt := 25) dX7_seen_20 rfl (fun c20 => ?_) (fun c20 => ?_)
      · refine ev_iload_n dX7_seen_25 rfl ?_
        refine ev_iconst (v := 2) dX7_seen_26 rfl ?_
        refine ev_icmp_ne (tgt := 54) dX7_seen_27 rfl (fun c27 => ?_) (fun c27 => ?_)
        · rw [if_neg (nq 2 c27)]
          refine ev_iload_n dX7_seen_54 rfl ?_
          refine ev_iconst (v := 2) dX7_seen_55 rfl ?_
          refine ev_icmp_ge (tgt := 92) dX7_seen_56 rfl (fun c56 => ?_) (fun c56 => ?_)
          · have hge : ¬ k < 2 := fun q2 => nI_ge (a := k) (b := 2) q2 (by omega) c56
            refine ev_iload_n dX7_seen_92 rfl ?_
            refine ev_iconst (v := 3) dX7_seen_93 rfl ?_
            refine ev_icmp_ne (tgt := 106) dX7_seen_94 rfl (fun c94 => ?_) (fun c94 => ?_)
            · have n3 := nq 3 c94
              refine ev_iload_n dX7_seen_106 rfl ?_
              refine ev_iconst (v := 4) dX7_seen_107 rfl ?_
              refine ev_icmp_ne (tgt := 120) dX7_seen_108 rfl (fun c108 => ?_) (fun c108 => ?_)
              · have n4 := nq 4 c108
                refine ev_iload_n dX7_seen_120 rfl ?_
                refine ev_iconst (v := 5) dX7_seen_121 rfl ?_
                refine ev_icmp_ne (tgt := 134) dX7_seen_122 rfl (fun c122 => ?_) (fun c122 => ?_)
                · have n5 := nq 5 c122
                  refine ev_iload_n dX7_seen_134 rfl ?_
                  refine ev_bipush (v := 6) dX7_seen_135 rfl ?_
                  refine ev_icmp_ne (tgt := 149) dX7_seen_137 rfl (fun c137 => ?_) (fun c137 => ?_)
                  · have n6 := nq 6 c137
                    refine ev_iload_n dX7_seen_149 rfl ?_
                    refine ev_bipush (v := 7) dX7_seen_150 rfl ?_
                    refine ev_icmp_ne (tgt := 164) dX7_seen_152 rfl (fun c152 => ?_) (fun c152 => ?_)
                    · have n7 := nq 7 c152
                      refine ev_iload_n dX7_seen_164 rfl ?_
                      refine ev_bipush (v := 8) dX7_seen_165 rfl ?_
                      refine ev_icmp_ne (tgt := 179) dX7_seen_167 rfl (fun c167 => ?_) (fun c167 => ?_)
                      · have n8 := nq 8 c167
                        refine ev_aload_n dX7_seen_179 rfl rfl ?_
                        refine ev_getf dX7_seen_180 fl_7_60 ?_
                        refine ev_iload_n dX7_seen_183 rfl ?_
                        refine ev_iald dX7_seen_184 rfl rfl (show _ < 8 from by omega) ?_
                        rw [show k = 9 by have := nq 2 c27; omega]
                        exact ev_iret dX7_seen_185 (Or.inl rfl)
                      · refine ev_aload_n dX7_seen_170 rfl rfl ?_
                        refine ev_getf dX7_seen_171 fl_7_84 ?_
                        refine ev_iload_n dX7_seen_174 rfl ?_
                        refine ev_iald dX7_seen_175 rfl rfl (show _ < 8 from by omega) ?_
                        refine ev_goto (tgt := 185) dX7_seen_176 rfl ?_
                        rw [q 8 (by omega) (Classical.not_not.mp c167)]
                        exact ev_iret dX7_seen_185 (Or.inl rfl)
                    · refine ev_aload_n dX7_seen_155 rfl rfl ?_
                      refine ev_getf dX7_seen_156 fl_7_81 ?_
                      refine ev_iload_n dX7_seen_159 rfl ?_
                      refine ev_iald dX7_seen_160 rfl rfl (show _ < 8 from by omega) ?_
                      refine ev_goto (tgt := 185) dX7_seen_161 rfl ?_
                      rw [q 7 (by omega) (Classical.not_not.mp c152)]
                      exact ev_iret dX7_seen_185 (Or.inl rfl)
                  · refine ev_aload_n dX7_seen_140 rfl rfl ?_
                    refine ev_getf dX7_seen_141 fl_7_78 ?_
                    refine ev_iload_n dX7_seen_144 rfl ?_
                    refine ev_iald dX7_seen_145 rfl rfl (show _ < 8 from by omega) ?_
                    refine ev_goto (tgt := 185) dX7_seen_146 rfl ?_
                    rw [q 6 (by omega) (Classical.not_not.mp c137)]
                    exact ev_iret dX7_seen_185 (Or.inl rfl)
                · refine ev_aload_n dX7_seen_125 rfl rfl ?_
                  refine ev_getf dX7_seen_126 fl_7_75 ?_
                  refine ev_iload_n dX7_seen_129 rfl ?_
                  refine ev_iald dX7_seen_130 rfl rfl (show _ < 8 from by omega) ?_
                  refine ev_goto (tgt := 185) dX7_seen_131 rfl ?_
                  rw [q 5 (by omega) (Classical.not_not.mp c122)]
                  exact ev_iret dX7_seen_185 (Or.inl rfl)
              · refine ev_aload_n dX7_seen_111 rfl rfl ?_
                refine ev_getf dX7_seen_112 fl_7_72 ?_
                refine ev_iload_n dX7_seen_115 rfl ?_
                refine ev_iald dX7_seen_116 rfl rfl (show _ < 8 from by omega) ?_
                refine ev_goto (tgt := 185) dX7_seen_117 rfl ?_
                rw [q 4 (by omega) (Classical.not_not.mp c108)]
                exact ev_iret dX7_seen_185 (Or.inl rfl)
            · refine ev_aload_n dX7_seen_97 rfl rfl ?_
              refine ev_getf dX7_seen_98 fl_7_69 ?_
              refine ev_iload_n dX7_seen_101 rfl ?_
              refine ev_iald dX7_seen_102 rfl rfl (show _ < 8 from by omega) ?_
              refine ev_goto (tgt := 185) dX7_seen_103 rfl ?_
              rw [q 3 (by omega) (Classical.not_not.mp c94)]
              exact ev_iret dX7_seen_185 (Or.inl rfl)
          · have hlt : k < 2 := Classical.not_not.mp (fun q2 => c56 (nI_le (a := 2) (b := k) (by omega) (by omega)))
            refine ev_iload_n dX7_seen_59 rfl ?_
            refine ev_if_ne (tgt := 72) dX7_seen_60 rfl (fun c60 => ?_) (fun c60 => ?_)
            · have k1 : k = 1 := by have := nq 0 c60; omega
              subst k1
              refine ev_aload_n dX7_seen_72 rfl rfl ?_
              refine ev_getf dX7_seen_73 fl_7_42 ?_
              refine ev_iload_n dX7_seen_76 rfl ?_
              refine ev_iald dX7_seen_77 rfl rfl (show _ < 8 from by omega) ?_
              refine ev_if_ne (tgt := 85) dX7_seen_78 rfl (fun c78 => ?_) (fun c78 => ?_)
              · refine ev_aload_n dX7_seen_85 rfl rfl ?_
                refine ev_getf dX7_seen_86 fl_7_45 ?_
                refine ev_iload_n dX7_seen_89 rfl ?_
                refine ev_iald dX7_seen_90 rfl rfl (show _ < 8 from by omega) ?_
                rw [show seenN M t 1 = nI (M.2 1 t) from if_neg c78]
                exact ev_iret dX7_seen_91 (Or.inl rfl)
              · refine ev_iconst (v := (-1)) dX7_seen_81 rfl ?_
                refine ev_goto (tgt := 91) dX7_seen_82 rfl ?_
                rw [show seenN M t 1 = -1 from if_pos (Classical.not_not.mp c78)]
                exact ev_iret dX7_seen_91 (Or.inl rfl)
            · have k0 := q 0 (by omega) (Classical.not_not.mp c60)
              subst k0
              refine ev_aload_n dX7_seen_63 rfl rfl ?_
              refine ev_getf dX7_seen_64 fl_7_42 ?_
              refine ev_iload_n dX7_seen_67 rfl ?_
              refine ev_iald dX7_seen_68 rfl rfl (show _ < 8 from by omega) ?_
              refine ev_goto (tgt := 91) dX7_seen_69 rfl ?_
              skip
              exact ev_iret dX7_seen_91 (Or.inl rfl)
        · have k2 := q 2 (by omega) (Classical.not_not.mp c27)
          subst k2
          rw [if_pos rfl]
          refine ev_aload_n dX7_seen_30 rfl rfl ?_
          refine evV1 dX7_seen_31 cl_X7_seen_133 ⟨rfl, rfl, fun _ => ⟨_, rfl⟩⟩ (Nat.le_of_ble_eq_true rfl) (m_weigh K (sI M 28 4 0) G (Inv_irr h 4 _ (by decide) (by decide) (by decide)) hd) ?_
          refine ev_aload_n dX7_seen_34 rfl rfl ?_
          refine ev_getf dX7_seen_35 fl_7_42 ?_
          refine ev_iload_n dX7_seen_38 rfl ?_
          refine ev_iald dX7_seen_39 rfl rfl (show _ < 8 from by omega) ?_
          refine ev_if_ne (tgt := 47) dX7_seen_40 rfl (fun c40 => ?_) (fun c40 => ?_)
          · refine ev_aload_n dX7_seen_47 rfl rfl ?_
            refine ev_getf dX7_seen_48 fl_7_66 ?_
            refine ev_iload_n dX7_seen_51 rfl ?_
            refine ev_iald dX7_seen_52 rfl rfl (show _ < 8 from by omega) ?_
            rw [show seenN M t 2 = sgn M (VR M t) from if_neg c40, ← h2]
            exact ev_iret dX7_seen_53 (Or.inl rfl)
          · refine ev_iconst (v := 0) dX7_seen_43 rfl ?_
            refine ev_goto (tgt := 53) dX7_seen_44 rfl ?_
            rw [show seenN M t 2 = 0 from if_pos (Classical.not_not.mp c40)]
            exact ev_iret dX7_seen_53 (Or.inl rfl)
      · exact absurd (nI_le (a := k) (b := 9) hk (by omega)) c20
theorem m_seenN (K M : KT) (G : GT) (x : Int32) (w : Int32) (hx : ¬ isT (M.2 0 0) x ∨ (w.toInt < 0 ∨ 9 < w.toInt)) : Ev M_X7_seen 0 (ent M_X7_seen [vR 8 0, vI x, vI w]) [] (conc K M G) (0, some (vI (-1)), conc K (sI M 28 4 0) G) := by
  show Ev M_X7_seen 0 [vR 8 0, vI x, vI w] [] (conc K M G) _
  refine ev_aload_n dX7_seen_0 rfl rfl ?_
  refine ev_iconst (v := 0) dX7_seen_1 rfl ?_
  refine ev_putfS dX7_seen_2 fl_7_109 rfl rfl (pu_mod_0 _ _ _ _) ?_
  refine ev_aload_n dX7_seen_5 rfl rfl ?_
  refine ev_iload_n dX7_seen_6 rfl ?_
  refine evV2 dX7_seen_7 cl_X7_seen_122 ⟨rfl, rfl, fun _ => ⟨_, rfl⟩⟩ (Nat.le_of_ble_eq_true rfl) (m_isTask K (sI M 28 4 0) G x) ?_
  refine ev_if_eq (tgt := 23) dX7_seen_10 rfl (fun c10 => ?_) (fun c10 => ?_)
  · refine ev_iconst (v := (-1)) dX7_seen_23 rfl ?_
    exact ev_iret dX7_seen_24 (Or.inl rfl)
  · refine ev_iload_n dX7_seen_13 rfl ?_
    refine ev_if_lt (tgt := 23) dX7_seen_14 rfl (fun c14 => ?_) (fun c14 => ?_)
    · refine ev_iconst (v := (-1)) dX7_seen_23 rfl ?_
      exact ev_iret dX7_seen_24 (Or.inl rfl)
    · refine ev_iload_n dX7_seen_17 rfl ?_
      refine ev_bipush (v := 9) dX7_seen_18 rfl ?_
      refine ev_icmp_le (tgt := 25) dX7_seen_20 rfl (fun c20 => ?_) (fun c20 => ?_)
      · exact hx.elim (fun q => absurd (bI_f q) c10) (fun q => q.elim (fun q => absurd (Int32.lt_iff_toInt_lt.mpr q) c14) (fun q => absurd (Int32.le_iff_toInt_le.mp c20) (by have e2 : (9 : Int32).toInt = 9 := rfl; rw [e2]; omega)))
      · refine ev_iconst (v := (-1)) dX7_seen_23 rfl ?_
        exact ev_iret dX7_seen_24 (Or.inl rfl)
theorem mh_loop (K M : KT) (G : GT) (m : Nat) (w : Int32) (h : Inv M) (hm : m < M.2 0 1) (r : Res) : ∀ (j i c : Nat), i + j = M.2 0 0 → Ev M_X7_held 78 [vR 8 0, vI (nI m), vI w, vI (nI (cntB M m j i c)), vU] [] (conc K M G) r → Ev M_X7_held 33 [vR 8 0, vI (nI m), vI w, vI (nI c), vI (nI i)] [] (conc K M G) r := by
  have hn := h.1.1
  have hm4 := h.1.2.1
  intro j
  induction j with
  | zero =>
    intro i c hi hk
    refine ev_iload dX7_held_33 rfl ?_
    refine ev_aload_n dX7_held_35 rfl rfl ?_
    refine ev_getf dX7_held_36 fl_7_112 ?_
    refine ev_icmp_ge (tgt := 78) dX7_held_39 rfl (fun c39 => ?_) (fun c39 => ?_)
    · refine ev_forget (ls2 := [_, _, _, _, vU]) (Fg_to ⟨Or.inr ⟨rfl, rfl⟩, Or.inr ⟨rfl, rfl⟩, Or.inr ⟨rfl, rfl⟩, Or.inr ⟨rfl, rfl⟩, Or.inl rfl, trivial⟩) ?_
      exact hk
    · exact absurd (nI_le (a := M.2 0 0) (b := i) (by omega) (by omega)) c39
  | succ j ih =>
    intro i c hi hk
    have e1 : nI i + Int32.ofInt 1 = nI (i + 1) := nI_1 i
    have htk := h.2.2.1 i (by omega)
    have hw : (mi (M.2 3 i) = nI m) ↔ M.2 3 i = m + 1 := mi_eq (by have := htk.2.2.1; omega) (by omega)
    simp only [cntB] at hk
    refine ev_iload dX7_held_33 rfl ?_
    refine ev_aload_n dX7_held_35 rfl rfl ?_
    refine ev_getf dX7_held_36 fl_7_112 ?_
    refine ev_icmp_ge (tgt := 78) dX7_held_39 rfl (fun c39 => ?_) (fun c39 => ?_)
    · exact absurd c39 (nI_ge (a := i) (b := M.2 0 0) (by omega) (by omega))
    · refine ev_iload_n dX7_held_42 rfl ?_
      refine ev_aload_n dX7_held_43 rfl rfl ?_
      refine ev_getf dX7_held_44 fl_7_42 ?_
      refine ev_iload dX7_held_47 rfl ?_
      refine ev_iald dX7_held_49 rfl rfl (show _ < 8 from by omega) ?_
      refine ev_iconst (v := 2) dX7_held_50 rfl ?_
      refine ev_icmp_ne (tgt := 69) dX7_held_51 rfl (fun c51 => ?_) (fun c51 => ?_)
      · refine ev_iconst (v := 0) dX7_held_69 rfl ?_
        refine ev_iadd dX7_held_70 ?_
        refine ev_istore_n dX7_held_71 rfl ?_
        refine ev_iinc dX7_held_72 rfl ?_
        refine ev_goto (tgt := 33) dX7_held_75 rfl ?_
        rw [if_neg (fun q => c51 (htk.2.2.2.2.1.mpr (by omega)))] at hk
        rw [e1, Int32.add_zero]
        exact ih (i + 1) c (by omega) hk
      · refine ev_aload_n dX7_held_54 rfl rfl ?_
        refine ev_getf dX7_held_55 fl_7_60 ?_
        refine ev_iload dX7_held_58 rfl ?_
        refine ev_iald dX7_held_60 rfl rfl (show _ < 8 from by omega) ?_
        refine ev_iload_n dX7_held_61 rfl ?_
        refine ev_icmp_ne (tgt := 69) dX7_held_62 rfl (fun c62 => ?_) (fun c62 => ?_)
        · refine ev_iconst (v := 0) dX7_held_69 rfl ?_
          refine ev_iadd dX7_held_70 ?_
          refine ev_istore_n dX7_held_71 rfl ?_
          refine ev_iinc dX7_held_72 rfl ?_
          refine ev_goto (tgt := 33) dX7_held_75 rfl ?_
          rw [if_neg (fun q => c62 (hw.mpr q))] at hk
          rw [e1, Int32.add_zero]
          exact ih (i + 1) c (by omega) hk
        · refine ev_iconst (v := 1) dX7_held_65 rfl ?_
          refine ev_goto (tgt := 70) dX7_held_66 rfl ?_
          refine ev_iadd dX7_held_70 ?_
          refine ev_istore_n dX7_held_71 rfl ?_
          refine ev_iinc dX7_held_72 rfl ?_
          refine ev_goto (tgt := 33) dX7_held_75 rfl ?_
          rw [if_pos (hw.mp (Classical.not_not.mp c62))] at hk
          rw [e1, nI_1]
          exact ih (i + 1) (c + 1) (by omega) hk
theorem m_held (K M : KT) (G : GT) (m k : Nat) (h : Inv M) (hm : m < M.2 0 1) (hk : k ≤ 2) : Ev M_X7_held 0 (ent M_X7_held [vR 8 0, vI (nI m), vI (nI k)]) [] (conc K M G) (0, some (vI (heldN M m k)), conc K (sI M 28 4 0) G) := by
  show Ev M_X7_held 0 [vR 8 0, vI (nI m), vI (nI k), vU, vU] [] (conc K M G) _
  have hm4 := h.1.2.1
  have h' : Inv (sI M 28 4 0) := Inv_irr h 4 _ (by decide) (by decide) (by decide)
  have q : ∀ c : Nat, c ≤ 100 → nI k = nI c → k = c := fun c hc h => (nI_eq (by omega) (by omega)).mp h
  have nq : ∀ c : Nat, ¬ nI k = nI c → ¬ k = c := fun c hc e => hc (by rw [e])
  have cc : ∀ (j i c : Nat), cntB (sI M 28 4 0) m j i c = cntB M m j i c := by
    intro j
    induction j with
    | zero => intro i c; rfl
    | succ j ih => intro i c; exact ih _ _
  have ch : ∀ (t : Nat) (x : Int32) (j k : Nat), hasL (sI M 28 4 0) t x j k = hasL M t x j k := by
    intro t x j
    induction j with
    | zero => intro k; rfl
    | succ j ih => intro k; simp only [hasL]; rw [ih]; rfl
  have ce : ∀ (x : Int32) (j i : Nat) (c : Int32), ceilN (sI M 28 4 0) x j i c = ceilN M x j i c := by
    intro x j
    induction j with
    | zero => intro i c; rfl
    | succ j ih => intro i c; simp only [ceilN]; rw [ih, ch]; rfl
  have h78 : Ev M_X7_held 78 [vR 8 0, vI (nI m), vI (nI k), vI (nI (cntB (sI M 28 4 0) m (M.2 0 0) 0 0)), vU] [] (conc K (sI M 28 4 0) G) (0, some (vI (heldN M m k)), conc K (sI M 28 4 0) G) := by
    refine ev_iload_n dX7_held_78 rfl ?_
    refine ev_if_ne (tgt := 91) dX7_held_79 rfl (fun c79 => ?_) (fun c79 => ?_)
    · have n0 := nq 0 c79
      refine ev_iload_n dX7_held_91 rfl ?_
      refine ev_iconst (v := 1) dX7_held_92 rfl ?_
      refine ev_icmp_ne (tgt := 100) dX7_held_93 rfl (fun c93 => ?_) (fun c93 => ?_)
      · refine ev_aload_n dX7_held_100 rfl rfl ?_
        refine ev_iload_n dX7_held_101 rfl ?_
        refine evV2 dX7_held_102 cl_X7_held_187 ⟨rfl, rfl, fun _ => ⟨_, rfl⟩⟩ (Nat.le_of_ble_eq_true rfl) (m_ceil K (sI M 28 4 0) G (nI m) h') ?_
        rw [show k = 2 by have := nq 1 c93; omega, show ceilV (sI M 28 4 0) (nI m) = ceilV M (nI m) from ce _ _ _ _]
        exact ev_iret dX7_held_105 (Or.inl rfl)
      · refine ev_iload_n dX7_held_96 rfl ?_
        refine ev_goto (tgt := 105) dX7_held_97 rfl ?_
        rw [q 1 (by omega) (Classical.not_not.mp c93), cc]
        exact ev_iret dX7_held_105 (Or.inl rfl)
    · refine ev_aload_n dX7_held_82 rfl rfl ?_
      refine ev_getf dX7_held_83 fl_7_93 ?_
      refine ev_iload_n dX7_held_86 rfl ?_
      refine ev_iald dX7_held_87 rfl rfl (show _ < 4 from by omega) ?_
      refine ev_goto (tgt := 105) dX7_held_88 rfl ?_
      rw [q 0 (by omega) (Classical.not_not.mp c79)]
      exact ev_iret dX7_held_105 (Or.inl rfl)
  have hl := mh_loop K (sI M 28 4 0) G m (nI k) h' hm _ (M.2 0 0) 0 0 (by show 0 + M.2 0 0 = M.2 0 0; omega) h78
  refine ev_aload_n dX7_held_0 rfl rfl ?_
  refine ev_iconst (v := 0) dX7_held_1 rfl ?_
  refine ev_putfS dX7_held_2 fl_7_109 rfl rfl (pu_mod_0 _ _ _ _) ?_
  refine ev_iload_n dX7_held_5 rfl ?_
  refine ev_if_lt (tgt := 26) dX7_held_6 rfl (fun c6 => ?_) (fun c6 => ?_)
  · exact absurd c6 (Int32.not_lt.mpr (nI_pos' (by omega)))
  · refine ev_iload_n dX7_held_9 rfl ?_
    refine ev_aload_n dX7_held_10 rfl rfl ?_
    refine ev_getf dX7_held_11 fl_7_126 ?_
    refine ev_icmp_ge (tgt := 26) dX7_held_14 rfl (fun c14 => ?_) (fun c14 => ?_)
    · exact absurd c14 (nI_ge (a := m) (b := M.2 0 1) hm (by omega))
    · refine ev_iload_n dX7_held_17 rfl ?_
      refine ev_if_lt (tgt := 26) dX7_held_18 rfl (fun c18 => ?_) (fun c18 => ?_)
      · exact absurd c18 (Int32.not_lt.mpr (nI_pos' (by omega)))
      · refine ev_iload_n dX7_held_21 rfl ?_
        refine ev_iconst (v := 2) dX7_held_22 rfl ?_
        refine ev_icmp_le (tgt := 28) dX7_held_23 rfl (fun c23 => ?_) (fun c23 => ?_)
        · refine ev_iconst (v := 0) dX7_held_28 rfl ?_
          refine ev_istore_n dX7_held_29 rfl ?_
          refine ev_iconst (v := 0) dX7_held_30 rfl ?_
          refine ev_istore dX7_held_31 rfl ?_
          exact hl
        · exact absurd (nI_le (a := k) (b := 2) hk (by omega)) c23
theorem m_heldN (K M : KT) (G : GT) (x : Int32) (w : Int32) (hx : ¬ isT (M.2 0 1) x ∨ (w.toInt < 0 ∨ 2 < w.toInt)) : Ev M_X7_held 0 (ent M_X7_held [vR 8 0, vI x, vI w]) [] (conc K M G) (0, some (vI (-1)), conc K (sI M 28 4 0) G) := by
  show Ev M_X7_held 0 [vR 8 0, vI x, vI w, vU, vU] [] (conc K M G) _
  refine ev_aload_n dX7_held_0 rfl rfl ?_
  refine ev_iconst (v := 0) dX7_held_1 rfl ?_
  refine ev_putfS dX7_held_2 fl_7_109 rfl rfl (pu_mod_0 _ _ _ _) ?_
  refine ev_iload_n dX7_held_5 rfl ?_
  refine ev_if_lt (tgt := 26) dX7_held_6 rfl (fun c6 => ?_) (fun c6 => ?_)
  · refine ev_iconst (v := (-1)) dX7_held_26 rfl ?_
    exact ev_iret dX7_held_27 (Or.inl rfl)
  · refine ev_iload_n dX7_held_9 rfl ?_
    refine ev_aload_n dX7_held_10 rfl rfl ?_
    refine ev_getf dX7_held_11 fl_7_126 ?_
    refine ev_icmp_ge (tgt := 26) dX7_held_14 rfl (fun c14 => ?_) (fun c14 => ?_)
    · refine ev_iconst (v := (-1)) dX7_held_26 rfl ?_
      exact ev_iret dX7_held_27 (Or.inl rfl)
    · refine ev_iload_n dX7_held_17 rfl ?_
      refine ev_if_lt (tgt := 26) dX7_held_18 rfl (fun c18 => ?_) (fun c18 => ?_)
      · refine ev_iconst (v := (-1)) dX7_held_26 rfl ?_
        exact ev_iret dX7_held_27 (Or.inl rfl)
      · refine ev_iload_n dX7_held_21 rfl ?_
        refine ev_iconst (v := 2) dX7_held_22 rfl ?_
        refine ev_icmp_le (tgt := 28) dX7_held_23 rfl (fun c23 => ?_) (fun c23 => ?_)
        · exact hx.elim (fun q => absurd ⟨Int32.not_lt.mp c6, Int32.not_le.mp c14⟩ q) (fun q => q.elim (fun q => absurd (Int32.lt_iff_toInt_lt.mpr q) c18) (fun q => absurd (Int32.le_iff_toInt_le.mp c23) (by have e2 : (2 : Int32).toInt = 2 := rfl; rw [e2]; omega)))
        · refine ev_iconst (v := (-1)) dX7_held_26 rfl ?_
          exact ev_iret dX7_held_27 (Or.inl rfl)
/-! starting, releasing, strictness -/
theorem m_start (K M : KT) (G : GT) (hn : M.2 0 0 ≤ 8) (h1 : M.1 28 1 = 0) (h2 : ¬ M.2 0 0 = 0) : Ev M_X7_start 0 (ent M_X7_start [vR 8 0]) [] (conc K M G) (0, none, conc K (sI (sI M 28 4 0) 28 1 1) G) := by
  show Ev M_X7_start 0 [vR 8 0] [] (conc K M G) _
  have hnz : ¬ nI (M.2 0 0) = 0 := by rw [show (0 : Int32) = nI 0 from rfl, nI_eq (by omega) (by omega)]; exact h2
  refine ev_aload_n dX7_start_0 rfl rfl ?_
  refine ev_aload_n dX7_start_1 rfl rfl ?_
  refine ev_getf dX7_start_2 fl_7_119 ?_
  refine ev_if_ne (tgt := 15) dX7_start_5 rfl (fun c5 => ?_) (fun c5 => ?_)
  · exact absurd h1 c5
  · refine ev_aload_n dX7_start_8 rfl rfl ?_
    refine ev_getf dX7_start_9 fl_7_112 ?_
    refine ev_if_ne (tgt := 19) dX7_start_12 rfl (fun c12 => ?_) (fun c12 => ?_)
    · refine ev_iconst (v := 0) dX7_start_19 rfl ?_
      refine ev_putfS dX7_start_20 fl_7_109 rfl rfl (pu_mod_0 _ _ _ _) ?_
      refine ev_aload_n dX7_start_23 rfl rfl ?_
      refine ev_aload_n dX7_start_24 rfl rfl ?_
      refine ev_getf dX7_start_25 fl_7_119 ?_
      refine ev_if_ne (tgt := 38) dX7_start_28 rfl (fun c28 => ?_) (fun c28 => ?_)
      · exact absurd h1 c28
      · refine ev_aload_n dX7_start_31 rfl rfl ?_
        refine ev_getf dX7_start_32 fl_7_109 ?_
        refine ev_if_ne (tgt := 42) dX7_start_35 rfl (fun c35 => ?_) (fun c35 => ?_)
        · exact absurd rfl c35
        · refine ev_iconst (v := 1) dX7_start_38 rfl ?_
          refine ev_goto (tgt := 43) dX7_start_39 rfl ?_
          refine ev_putfS dX7_start_43 fl_7_119 rfl rfl (pu_mod_2 _ _ _ _) ?_
          exact ev_vret dX7_start_46 rfl
    · exact absurd (Classical.not_not.mp c12) hnz
theorem m_startS (K M : KT) (G : GT) (hb : M.1 28 1 = 0 ∨ M.1 28 1 = 1) (hn : M.2 0 0 ≤ 8) (h : ¬ (M.1 28 1 = 0 ∧ ¬ M.2 0 0 = 0)) : Ev M_X7_start 0 (ent M_X7_start [vR 8 0]) [] (conc K M G) (0, none, conc K (sI M 28 4 1) G) := by
  show Ev M_X7_start 0 [vR 8 0] [] (conc K M G) _
  have h23 : Ev M_X7_start 23 [vR 8 0] [] (conc K (sI M 28 4 1) G) (0, none, conc K (sI M 28 4 1) G) := by
    have e : sI (sI M 28 4 1) 28 1 (M.1 28 1) = sI M 28 4 1 := sI_self (sI M 28 4 1) 28 1
    refine ev_aload_n dX7_start_23 rfl rfl ?_
    refine ev_aload_n dX7_start_24 rfl rfl ?_
    refine ev_getf dX7_start_25 fl_7_119 ?_
    refine ev_if_ne (tgt := 38) dX7_start_28 rfl (fun c28 => ?_) (fun c28 => ?_)
    · rw [hb.elim (fun q => absurd q c28) id] at e
      refine ev_iconst (v := 1) dX7_start_38 rfl ?_
      refine ev_goto (tgt := 43) dX7_start_39 rfl ?_
      refine ev_putfS dX7_start_43 fl_7_119 rfl rfl ((pu_mod_2 _ _ _ _).trans (by rw [e])) ?_
      exact ev_vret dX7_start_46 rfl
    · rw [show M.1 28 1 = 0 from Classical.not_not.mp c28] at e
      refine ev_aload_n dX7_start_31 rfl rfl ?_
      refine ev_getf dX7_start_32 fl_7_109 ?_
      refine ev_if_ne (tgt := 42) dX7_start_35 rfl (fun c35 => ?_) (fun c35 => ?_)
      · refine ev_iconst (v := 0) dX7_start_42 rfl ?_
        refine ev_putfS dX7_start_43 fl_7_119 rfl rfl ((pu_mod_2 _ _ _ _).trans (by rw [e])) ?_
        exact ev_vret dX7_start_46 rfl
      · exact absurd (show (1 : Int32) = 0 from Classical.not_not.mp c35) (by decide)
  refine ev_aload_n dX7_start_0 rfl rfl ?_
  refine ev_aload_n dX7_start_1 rfl rfl ?_
  refine ev_getf dX7_start_2 fl_7_119 ?_
  refine ev_if_ne (tgt := 15) dX7_start_5 rfl (fun c5 => ?_) (fun c5 => ?_)
  · refine ev_iconst (v := 1) dX7_start_15 rfl ?_
    refine ev_goto (tgt := 20) dX7_start_16 rfl ?_
    refine ev_putfS dX7_start_20 fl_7_109 rfl rfl (pu_mod_0 _ _ _ _) ?_
    exact h23
  · refine ev_aload_n dX7_start_8 rfl rfl ?_
    refine ev_getf dX7_start_9 fl_7_112 ?_
    refine ev_if_ne (tgt := 19) dX7_start_12 rfl (fun c12 => ?_) (fun c12 => ?_)
    · exact absurd (Classical.not_not.mp c5) (fun q => h ⟨q, fun e => c12 (by show nI (M.2 0 0) = 0; rw [e]; rfl)⟩)
    · refine ev_iconst (v := 1) dX7_start_15 rfl ?_
      refine ev_goto (tgt := 20) dX7_start_16 rfl ?_
      refine ev_putfS dX7_start_20 fl_7_109 rfl rfl (pu_mod_0 _ _ _ _) ?_
      exact h23
theorem m_release (K M : KT) (G : GT) (t T X : Nat) (h : FI (sI M 28 4 0) T X) (b : Bd T X) (ht : t < M.2 0 0) (h1 : ¬ M.1 28 1 = 0) (h2 : M.1 1 t = 0) : Ev M_X7_release 0 (ent M_X7_release [vR 8 0, vI (nI t)]) [] (conc K M G) (0, some (vI 1), conc K (beginK (sI M 28 4 0) t) G) := by
  show Ev M_X7_release 0 [vR 8 0, vI (nI t)] [] (conc K M G) _
  have hn : M.2 0 0 ≤ 8 := h.1.1.1
  have ok : isT (M.2 0 0) (nI t) := isT_of (by omega) ht
  refine ev_aload_n dX7_release_0 rfl rfl ?_
  refine ev_iconst (v := 0) dX7_release_1 rfl ?_
  refine ev_putfS dX7_release_2 fl_7_109 rfl rfl (pu_mod_0 _ _ _ _) ?_
  refine ev_aload_n dX7_release_5 rfl rfl ?_
  refine ev_iload_n dX7_release_6 rfl ?_
  refine evV2 dX7_release_7 cl_X7_release_122 ⟨rfl, rfl, fun _ => ⟨_, rfl⟩⟩ (Nat.le_of_ble_eq_true rfl) (m_isTask K (sI M 28 4 0) G (nI t)) ?_
  refine ev_if_eq (tgt := 20) dX7_release_10 rfl (fun c10 => ?_) (fun c10 => ?_)
  · exact absurd ok (bI_0.mp c10)
  · refine ev_aload_n dX7_release_13 rfl rfl ?_
    refine ev_getf dX7_release_14 fl_7_119 ?_
    refine ev_if_ne (tgt := 22) dX7_release_17 rfl (fun c17 => ?_) (fun c17 => ?_)
    · refine ev_aload_n dX7_release_22 rfl rfl ?_
      refine ev_getf dX7_release_23 fl_7_17 ?_
      refine ev_iload_n dX7_release_26 rfl ?_
      refine ev_iald dX7_release_27 rfl rfl (show _ < 8 from by omega) ?_
      refine ev_if_le (tgt := 33) dX7_release_28 rfl (fun c28 => ?_) (fun c28 => ?_)
      · refine ev_aload_n dX7_release_33 rfl rfl ?_
        refine ev_iload_n dX7_release_34 rfl ?_
        refine evV2 dX7_release_35 cl_X7_release_167 ⟨rfl, rfl, fun _ => ⟨_, rfl⟩⟩ (Nat.le_of_ble_eq_true rfl) (m_begin K (sI M 28 4 0) G t T X h b ht) ?_
        refine ev_iconst (v := 1) dX7_release_38 rfl ?_
        exact ev_iret dX7_release_39 (Or.inr ⟨rfl, rfl⟩)
      · exact absurd (show M.1 1 t ≤ 0 by rw [h2]; decide) c28
    · exact absurd (Classical.not_not.mp c17) h1
theorem m_releaseN (K M : KT) (G : GT) (x : Int32) (hn : M.2 0 0 ≤ 8) (hp : ∀ t, t < M.2 0 0 → M.1 1 t = 0 ∨ 0 < M.1 1 t) (hx : ¬ (¬ M.1 28 1 = 0 ∧ ∃ t, t < M.2 0 0 ∧ x = nI t ∧ M.1 1 t = 0)) : Ev M_X7_release 0 (ent M_X7_release [vR 8 0, vI x]) [] (conc K M G) (0, some (vI 0), conc K (sI M 28 4 0) G) := by
  show Ev M_X7_release 0 [vR 8 0, vI x] [] (conc K M G) _
  have h22 : isT (M.2 0 0) x → ¬ M.1 28 1 = 0 → Ev M_X7_release 22 [vR 8 0, vI x] [] (conc K (sI M 28 4 0) G) (0, some (vI 0), conc K (sI M 28 4 0) G) := by
    intro ok h1
    obtain ⟨t, ht, e⟩ := isT_ex (by omega) ok
    subst e
    refine ev_aload_n dX7_release_22 rfl rfl ?_
    refine ev_getf dX7_release_23 fl_7_17 ?_
    refine ev_iload_n dX7_release_26 rfl ?_
    refine ev_iald dX7_release_27 rfl rfl (show _ < 8 from by omega) ?_
    refine ev_if_le (tgt := 33) dX7_release_28 rfl (fun c28 => ?_) (fun c28 => ?_)
    · exact absurd ((hp t ht).resolve_right (Int32.not_lt.mpr c28)) (fun q => hx ⟨h1, t, ht, rfl, q⟩)
    · refine ev_iconst (v := 0) dX7_release_31 rfl ?_
      exact ev_iret dX7_release_32 (Or.inr ⟨rfl, rfl⟩)
  refine ev_aload_n dX7_release_0 rfl rfl ?_
  refine ev_iconst (v := 0) dX7_release_1 rfl ?_
  refine ev_putfS dX7_release_2 fl_7_109 rfl rfl (pu_mod_0 _ _ _ _) ?_
  refine ev_aload_n dX7_release_5 rfl rfl ?_
  refine ev_iload_n dX7_release_6 rfl ?_
  refine evV2 dX7_release_7 cl_X7_release_122 ⟨rfl, rfl, fun _ => ⟨_, rfl⟩⟩ (Nat.le_of_ble_eq_true rfl) (m_isTask K (sI M 28 4 0) G x) ?_
  refine ev_if_eq (tgt := 20) dX7_release_10 rfl (fun c10 => ?_) (fun c10 => ?_)
  · refine ev_iconst (v := 0) dX7_release_20 rfl ?_
    exact ev_iret dX7_release_21 (Or.inr ⟨rfl, rfl⟩)
  · refine ev_aload_n dX7_release_13 rfl rfl ?_
    refine ev_getf dX7_release_14 fl_7_119 ?_
    refine ev_if_ne (tgt := 22) dX7_release_17 rfl (fun c17 => ?_) (fun c17 => ?_)
    · exact h22 (Classical.not_not.mp (fun q => c10 (bI_f q))) c17
    · refine ev_iconst (v := 0) dX7_release_20 rfl ?_
      exact ev_iret dX7_release_21 (Or.inr ⟨rfl, rfl⟩)
theorem m_strict (K M : KT) (G : GT) (t : Nat) (b : Int32) (hb : b = 0 ∨ b = 1) (h : Inv M) (ht : t < M.2 0 0) : Ev M_X7_strict 0 (ent M_X7_strict [vR 8 0, vI (nI t), vI b]) [] (conc K M G) (0, some (vI 1), conc K (sI (sI M 28 4 0) 5 t b) G) := by
  show Ev M_X7_strict 0 [vR 8 0, vI (nI t), vI b] [] (conc K M G) _
  have hn := h.1.1
  have ok : isT (M.2 0 0) (nI t) := isT_of (by omega) ht
  refine ev_aload_n dX7_strict_0 rfl rfl ?_
  refine ev_iconst (v := 0) dX7_strict_1 rfl ?_
  refine ev_putfS dX7_strict_2 fl_7_109 rfl rfl (pu_mod_0 _ _ _ _) ?_
  refine ev_aload_n dX7_strict_5 rfl rfl ?_
  refine ev_iload_n dX7_strict_6 rfl ?_
  refine evV2 dX7_strict_7 cl_X7_strict_122 ⟨rfl, rfl, fun _ => ⟨_, rfl⟩⟩ (Nat.le_of_ble_eq_true rfl) (m_isTask K (sI M 28 4 0) G (nI t)) ?_
  refine ev_if_ne (tgt := 15) dX7_strict_10 rfl (fun c10 => ?_) (fun c10 => ?_)
  · refine ev_aload_n dX7_strict_15 rfl rfl ?_
    refine ev_getf dX7_strict_16 fl_7_29 ?_
    refine ev_iload_n dX7_strict_19 rfl ?_
    refine ev_iload_n dX7_strict_20 rfl ?_
    refine ev_zastS dX7_strict_21 rfl rfl (show _ < 8 from by omega) (by rcases hb with q | q <;> rw [q] <;> rfl) (pu_ma_32 _ _ _ _ _) ?_
    refine ev_iconst (v := 1) dX7_strict_22 rfl ?_
    exact ev_iret dX7_strict_23 (Or.inr ⟨rfl, rfl⟩)
  · exact absurd ok (bI_0.mp (Classical.not_not.mp c10))
theorem m_strictN (K M : KT) (G : GT) (x b : Int32) (hx : ¬ isT (M.2 0 0) x) : Ev M_X7_strict 0 (ent M_X7_strict [vR 8 0, vI x, vI b]) [] (conc K M G) (0, some (vI 0), conc K (sI M 28 4 0) G) := by
  show Ev M_X7_strict 0 [vR 8 0, vI x, vI b] [] (conc K M G) _
  refine ev_aload_n dX7_strict_0 rfl rfl ?_
  refine ev_iconst (v := 0) dX7_strict_1 rfl ?_
  refine ev_putfS dX7_strict_2 fl_7_109 rfl rfl (pu_mod_0 _ _ _ _) ?_
  refine ev_aload_n dX7_strict_5 rfl rfl ?_
  refine ev_iload_n dX7_strict_6 rfl ?_
  refine evV2 dX7_strict_7 cl_X7_strict_122 ⟨rfl, rfl, fun _ => ⟨_, rfl⟩⟩ (Nat.le_of_ble_eq_true rfl) (m_isTask K (sI M 28 4 0) G x) ?_
  refine ev_if_ne (tgt := 15) dX7_strict_10 rfl (fun c10 => ?_) (fun c10 => ?_)
  · exact absurd (bI_f hx) c10
  · refine ev_iconst (v := 0) dX7_strict_13 rfl ?_
    exact ev_iret dX7_strict_14 (Or.inr ⟨rfl, rfl⟩)
