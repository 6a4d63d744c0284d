/-! THE REFERENCE: a unit of work, a tick -/
theorem FI_unit {K : KT} {T X : Nat} (h : FI K T X) {t : Nat} (ht : t < K.2 0 0) (h6 : K.1 6 t = 1) (ha : atWorkK K t = true) (hl : leftK K t = 0) : ∀ K1, K1 = unitK K t ∨ K1 = noteK (unitK K t) 7 t → FI (passK K1 t) T (X + 1) := by
  intro K1 hK
  obtain ⟨u8, u7, u4, u6, u14⟩ := unit_1 K t
  have hlt : K.2 1 t < K.2 2 t := by simp only [atWorkK, Bool.and_eq_true, decide_eq_true_eq] at ha; exact ha.1
  have o7 : ∀ i, i ≠ t → (unitK K t).1 7 i = K.1 7 i := fun i e => ne1 t i e _ _
  have o14 : ∀ i, i ≠ t → (unitK K t).1 14 i = K.1 14 i := fun i e => ne1 t i e _ _
  have hPu : Ph (unitK K t) = Ph K := Ph_eq rfl (fun _ => rfl)
  have i1 : Inv K1 := hK.elim (fun e => by rw [e]; exact Inv_unit h.1 ht) (fun e => by rw [e]; exact Inv_note (Inv_unit h.1 ht) 7 t)
  have i2 : K1.2 0 0 = K.2 0 0 := hK.elim (fun e => by rw [e]; rfl) (fun e => by rw [e]; rfl)
  have i5 : K1.1 14 t = 0 := hK.elim (fun e => by rw [e]; exact u14.trans hl) (fun e => by rw [e]; exact u14.trans hl)
  have i6 : K1.1 6 t = 1 := hK.elim (fun e => by rw [e]; exact h6) (fun e => by rw [e]; exact h6)
  have i7 : K1.2 1 t = K.2 1 t ∧ K1.2 2 t = K.2 2 t := hK.elim (fun e => by rw [e]; exact ⟨rfl, rfl⟩) (fun e => by rw [e]; exact ⟨rfl, rfl⟩)
  have i12 : Num K1 T := hK.elim (fun e => by rw [e]; exact h.2.2.1) (fun e => by rw [e]; exact h.2.2.1)
  have i3 : ∀ i, i < K.2 0 0 → i ≠ t → ¬ K1.1 6 i = 0 → wlOk K1 i := by
    intro i hi e q
    have e6 : K1.1 6 i = K.1 6 i := hK.elim (fun e => by rw [e]; rfl) (fun e => by rw [e]; rfl)
    have := h.2.1 i hi (by rw [← e6]; exact q)
    rcases hK with hK | hK
    · subst hK; unfold wlOk at this ⊢; rw [o7 i e, o14 i e]; exact this
    · subst hK; unfold wlOk at this ⊢; rw [show (noteK (unitK K t) 7 t).1 7 i = (unitK K t).1 7 i from rfl, show (noteK (unitK K t) 7 t).1 14 i = (unitK K t).1 14 i from rfl, o7 i e, o14 i e]; exact this
  have h4 := h.2.2.2
  have i13 : K1.2 0 3 + Ph K1 ≤ X + 1 := by
    rcases hK with hK | hK
    · subst hK; rw [hPu]; show K.2 0 3 + Ph K ≤ _; omega
    · subst hK; rw [note_Ph, hPu]; show K.2 0 3 + 1 + Ph K ≤ _; omega
  have hp : Inv (passK K1 t) := Inv_pass i1 t (by rw [i7.1, i7.2]; exact hlt) (by rw [i6]; decide)
  refine ⟨hp, fun i hi q => ?_, i12, ?_⟩
  · by_cases e : i = t
    · subst e; exact Or.inl ⟨by show (if i = i then (0 : Int32) else _) = 0; rw [if_pos rfl], i5⟩
    · have o1 : (passK K1 t).2 1 i = K1.2 1 i := ne1 t i e _ _
      have o7' : (passK K1 t).1 7 i = K1.1 7 i := ne1 t i e _ _
      have := i3 i (by rw [← i2]; exact hi) e q
      unfold wlOk at this ⊢
      rw [o1, o7']
      exact this
  · have := Ph_one (K := K1) (L := passK K1 t) rfl (t := t) (by rw [i2]; exact ht) (fun i e => by unfold ph; rw [show (passK K1 t).2 1 i = K1.2 1 i from ne1 t i e _ _]; rfl)
    have p1 := ph_rdy i6
    have p2 := ph_rdy (K := passK K1 t) (t := t) i6
    rw [pass_self] at p2
    have e2 : (passK K1 t).2 2 t = K1.2 2 t := rfl
    show K1.2 0 3 + Ph (passK K1 t) ≤ _
    omega
theorem m_work (K M : KT) (G : GT) (t T X : Nat) (h : FI M T X) (b : Bd T (X + 1)) (ht : t < M.2 0 0) (h6 : M.1 6 t = 1) (ha : atWorkK M t = true) : Ev M_X7_work 0 (ent M_X7_work [vR 8 0, vI (nI t)]) [] (conc K M G) (0, none, conc K (workK M t) G) := by
  show Ev M_X7_work 0 [vR 8 0, vI (nI t), vU] [] (conc K M G) _
  have hn := h.1.1.1
  have hz := (h.1.2.2.1 t ht).1
  have hlt : M.2 1 t < M.2 2 t := by simp only [atWorkK, Bool.and_eq_true, decide_eq_true_eq] at ha; exact ha.1
  obtain ⟨u8, u7, u4, u6, u14⟩ := unit_1 M t
  have b0 : Bd T X := ⟨b.1, by have := b.2; omega⟩
  have h101 : ∀ M1, M1 = unitK M t ∨ M1 = noteK (unitK M t) 7 t → Ev M_X7_work 101 [vR 8 0, vI (nI t), vU] [] (conc K M1 G) (0, none, conc K (if leftK M t = 0 then goOnK (passK M1 t) t (M.1 28 2 + 1) else M1) G) := by
    intro M1 hM
    have i14 : M1.1 14 t = leftK M t := hM.elim (fun e => by rw [e]; exact u14) (fun e => by rw [e]; exact u14)
    have i6 : M1.1 6 t = 1 := hM.elim (fun e => by rw [e]; exact h6) (fun e => by rw [e]; exact h6)
    have i2 : M1.2 0 0 = M.2 0 0 := hM.elim (fun e => by rw [e]; rfl) (fun e => by rw [e]; rfl)
    have i8 : M1.1 28 2 = M.1 28 2 := hM.elim (fun e => by rw [e]; rfl) (fun e => by rw [e]; rfl)
    refine ev_aload_n dX7_work_101 rfl rfl ?_
    refine ev_getf dX7_work_102 fl_7_48 ?_
    refine ev_iload_n dX7_work_105 rfl ?_
    refine ev_iald dX7_work_106 rfl rfl (show _ < 8 from by omega) ?_
    refine ev_if_ne (tgt := 131) dX7_work_107 rfl (fun c107 => ?_) (fun c107 => ?_)
    · rw [if_neg (fun q => c107 (i14.trans q))]
      exact ev_vret dX7_work_131 rfl
    · have hl : leftK M t = 0 := i14.symm.trans (Classical.not_not.mp c107)
      rw [if_pos hl, ← i8]
      refine ev_aload_n dX7_work_110 rfl rfl ?_
      refine ev_getf dX7_work_111 fl_7_45 ?_
      refine ev_iload_n dX7_work_114 rfl ?_
      refine ev_dup2 dX7_work_115 rfl rfl ?_
      refine ev_iald dX7_work_116 rfl rfl (show _ < 8 from by omega) ?_
      refine ev_iconst (v := 1) dX7_work_117 rfl ?_
      refine ev_iadd dX7_work_118 ?_
      refine ev_iastS dX7_work_119 rfl (by decide) rfl (show _ < 8 from by omega) (setS_v (congrArg vI (nI_1 _)) (pu_ma_37 _ _ _ _ _)) ?_
      refine ev_aload_n dX7_work_120 rfl rfl ?_
      refine ev_iload_n dX7_work_121 rfl ?_
      refine ev_aload_n dX7_work_122 rfl rfl ?_
      refine ev_getf dX7_work_123 fl_7_139 ?_
      refine ev_iconst (v := 1) dX7_work_126 rfl ?_
      refine ev_iadd dX7_work_127 ?_
      refine evV3 dX7_work_128 cl_X7_work_170 ⟨rfl, rfl, fun _ => ⟨_, rfl⟩⟩ (Nat.le_of_ble_eq_true rfl) (m_goOn K (passK M1 t) G t T (X + 1) _ (FI_unit h ht h6 ha hl M1 hM) b (by show t < M1.2 0 0; rw [i2]; exact ht) i6) ?_
      exact ev_vret dX7_work_131 rfl
  have h42 : ∀ (y z : Int32), z = (if M.1 14 t = 0 then M.1 27 (10 * t + M.2 1 t) else M.1 14 t) → Ev M_X7_work 42 [vR 8 0, vI (nI t), vI y] [] (conc K (sI M 14 t z) G) (0, none, conc K (workK M t) G) := by
    intro y z hz2
    have el : z - 1 = leftK M t := by rw [hz2]; rfl
    have hs : (sI M 14 t z).1 14 t = z := by show (if t = t then z else _) = z; rw [if_pos rfl]
    refine ev_aload_n dX7_work_42 rfl rfl ?_
    refine ev_getf dX7_work_43 fl_7_48 ?_
    refine ev_iload_n dX7_work_46 rfl ?_
    refine ev_dup2 dX7_work_47 rfl rfl ?_
    refine ev_iald dX7_work_48 rfl rfl (show _ < 8 from by omega) ?_
    refine ev_iconst (v := 1) dX7_work_49 rfl ?_
    refine ev_isub dX7_work_50 ?_
    refine ev_iastS dX7_work_51 rfl (by decide) rfl (show _ < 8 from by omega) ((pu_ma_38 _ _ _ _ _).trans (by rw [hs, sI_sI, el])) ?_
    refine ev_aload_n dX7_work_52 rfl rfl ?_
    refine ev_getf dX7_work_53 fl_7_81 ?_
    refine ev_iload_n dX7_work_56 rfl ?_
    refine ev_dup2 dX7_work_57 rfl rfl ?_
    refine ev_iald dX7_work_58 rfl rfl (show _ < 8 from by omega) ?_
    refine ev_iconst (v := 1) dX7_work_59 rfl ?_
    refine ev_iadd dX7_work_60 ?_
    refine ev_iastS dX7_work_61 rfl (by decide) rfl (show _ < 8 from by omega) (pu_ma_49 _ _ _ _ _) ?_
    refine ev_aload_n dX7_work_62 rfl rfl ?_
    refine ev_getf dX7_work_63 fl_7_63 ?_
    refine ev_iload_n dX7_work_66 rfl ?_
    refine ev_dup2 dX7_work_67 rfl rfl ?_
    refine ev_iald dX7_work_68 rfl rfl (show _ < 8 from by omega) ?_
    refine ev_iconst (v := 1) dX7_work_69 rfl ?_
    refine ev_iadd dX7_work_70 ?_
    refine ev_iastS dX7_work_71 rfl (by decide) rfl (show _ < 8 from by omega) (pu_ma_43 _ _ _ _ _) ?_
    refine ev_aload_n dX7_work_72 rfl rfl ?_
    refine ev_iload_n dX7_work_73 rfl ?_
    refine ev_putfS dX7_work_74 fl_7_7 rfl rfl (pu_mod_4 _ _ _ t) ?_
    show Ev _ _ _ _ (conc K (unitK M t) G) _
    refine ev_aload_n dX7_work_77 rfl rfl ?_
    refine ev_getf dX7_work_78 fl_7_63 ?_
    refine ev_iload_n dX7_work_81 rfl ?_
    refine ev_iald dX7_work_82 rfl rfl (show _ < 8 from by omega) ?_
    refine ev_aload_n dX7_work_83 rfl rfl ?_
    refine ev_getf dX7_work_84 fl_7_26 ?_
    refine ev_iload_n dX7_work_87 rfl ?_
    refine ev_iald dX7_work_88 rfl rfl (show _ < 8 from by omega) ?_
    refine ev_iconst (v := 1) dX7_work_89 rfl ?_
    refine ev_iadd dX7_work_90 ?_
    refine ev_icmp_ne (tgt := 101) dX7_work_91 rfl (fun c91 => ?_) (fun c91 => ?_)
    · have c91' : ¬ (M.1 8 t + 1 = M.1 4 t + 1) := fun q => c91 (u8.trans q)
      rw [show workK M t = (if leftK M t = 0 then goOnK (passK (unitK M t) t) t (M.1 28 2 + 1) else unitK M t) by simp only [workK, if_neg c91']]
      refine ev_forget (ls2 := [_, _, vU]) (Fg_to ⟨Or.inr ⟨rfl, rfl⟩, Or.inr ⟨rfl, rfl⟩, Or.inl rfl, trivial⟩) ?_
      exact h101 _ (Or.inl rfl)
    · have c91' : M.1 8 t + 1 = M.1 4 t + 1 := u8.symm.trans (Classical.not_not.mp c91)
      rw [show workK M t = (if leftK M t = 0 then goOnK (passK (noteK (unitK M t) 7 t) t) t (M.1 28 2 + 1) else noteK (unitK M t) 7 t) by simp only [workK, if_pos c91']]
      refine ev_aload_n dX7_work_94 rfl rfl ?_
      refine ev_bipush (v := 7) dX7_work_95 rfl ?_
      refine ev_iload_n dX7_work_97 rfl ?_
      refine evV3 dX7_work_98 cl_X7_work_145 ⟨rfl, rfl, fun _ => ⟨_, rfl⟩⟩ (Nat.le_of_ble_eq_true rfl) (m_note K _ G 7 t h.1.1.2.2.2 (h.ev b0)) ?_
      refine ev_forget (ls2 := [_, _, vU]) (Fg_to ⟨Or.inr ⟨rfl, rfl⟩, Or.inr ⟨rfl, rfl⟩, Or.inl rfl, trivial⟩) ?_
      exact h101 _ (Or.inr rfl)
  refine ev_bipush (v := 10) dX7_work_0 rfl ?_
  refine ev_iload_n dX7_work_2 rfl ?_
  refine ev_imul dX7_work_3 ?_
  refine ev_aload_n dX7_work_4 rfl rfl ?_
  refine ev_getf dX7_work_5 fl_7_45 ?_
  refine ev_iload_n dX7_work_8 rfl ?_
  refine ev_iald dX7_work_9 rfl rfl (show _ < 8 from by omega) ?_
  refine ev_iadd dX7_work_10 ?_
  refine ev_istore_n dX7_work_11 rfl ?_
  refine ev_aload_n dX7_work_12 rfl rfl ?_
  refine ev_getf dX7_work_13 fl_7_48 ?_
  refine ev_iload_n dX7_work_16 rfl ?_
  refine ev_aload_n dX7_work_17 rfl rfl ?_
  refine ev_getf dX7_work_18 fl_7_48 ?_
  refine ev_iload_n dX7_work_21 rfl ?_
  refine ev_iald dX7_work_22 rfl rfl (show _ < 8 from by omega) ?_
  refine ev_if_ne (tgt := 35) dX7_work_23 rfl (fun c23 => ?_) (fun c23 => ?_)
  · refine ev_aload_n dX7_work_35 rfl rfl ?_
    refine ev_getf dX7_work_36 fl_7_48 ?_
    refine ev_iload_n dX7_work_39 rfl ?_
    refine ev_iald dX7_work_40 rfl rfl (show _ < 8 from by omega) ?_
    refine ev_iastS dX7_work_41 rfl (by decide) rfl (show _ < 8 from by omega) (pu_ma_38 _ _ _ _ _) ?_
    exact h42 _ _ (if_neg c23).symm
  · refine ev_aload_n dX7_work_26 rfl rfl ?_
    refine ev_getf dX7_work_27 fl_7_39 ?_
    refine ev_iload_n dX7_work_30 rfl ?_
    refine ev_iald dX7_work_31 rfl (ix10 t _) (show _ < 80 from by omega) ?_
    refine ev_goto (tgt := 41) dX7_work_32 rfl ?_
    refine ev_iastS dX7_work_41 rfl (by decide) rfl (show _ < 8 from by omega) (pu_ma_38 _ _ _ _ _) ?_
    exact h42 _ _ (if_pos (Classical.not_not.mp c23)).symm
theorem mp_loop (K : KT) (G : GT) (T X : Nat) (b : Bd T X) (r : Res) : ∀ (j : Nat) (M : KT), FI M T X → Ph M < j → Ev M_X7_pass 38 [vR 8 0, vI (mi (settleK j M).2)] [] (conc K (settleK j M).1 G) r → Ev M_X7_pass 9 [vR 8 0, vI (mi (firstK M))] [] (conc K (weighK M) G) r := by
  intro j
  induction j with
  | zero => intro M _ hp; omega
  | succ j ih =>
    intro M h hp hk
    have hn := h.1.1.1
    simp only [settleK] at hk
    cases e : firstK M with
    | zero =>
      rw [e] at hk
      refine ev_iload_n dX7_pass_9 rfl ?_
      refine ev_if_lt (tgt := 38) dX7_pass_10 rfl (fun c10 => ?_) (fun c10 => ?_)
      · exact hk
      · exact absurd (show mi 0 < 0 by decide) c10
    | succ t =>
      obtain ⟨ht, h6⟩ := firstK_in e
      rw [e] at hk
      dsimp only at hk
      have hw := FI_weigh h
      refine ev_iload_n dX7_pass_9 rfl ?_
      refine ev_if_lt (tgt := 38) dX7_pass_10 rfl (fun c10 => ?_) (fun c10 => ?_)
      · exact absurd ((mi_neg (w := t + 1) (by omega)).mp c10) (by omega)
      · refine ev_aload_n dX7_pass_13 rfl rfl ?_
        refine ev_iload_n dX7_pass_14 rfl ?_
        refine evV2 dX7_pass_15 cl_X7_pass_156 ⟨rfl, rfl, fun _ => ⟨_, rfl⟩⟩ (Nat.le_of_ble_eq_true rfl) (m_atWork K (weighK M) G t hw.1 ht) ?_
        refine ev_if_ne (tgt := 38) dX7_pass_18 rfl (fun c18 => ?_) (fun c18 => ?_)
        · rw [if_pos (show atWorkK M t = true from Classical.not_not.mp (fun q => c18 (bI_f q)))] at hk
          exact hk
        · have hna : ¬ atWorkK M t = true := bI_0.mp (Classical.not_not.mp c18)
          rw [if_neg hna] at hk
          have hA := go_A t (M.1 28 2) _ (weighK M) hw.1 hw.2.1 ht h6 rfl
          have hF : FI (goOnK (weighK M) t (M.1 28 2)) T X := hw.aft (Inv_goOn t _ hw.1 ht h6) hA.1
          have hPw : Ph (weighK M) = Ph M := Ph_eq rfl (fun _ => rfl)
          have hP : Ph (goOnK (weighK M) t (M.1 28 2)) < Ph M := by
            rw [← hPw]
            exact hA.2 (Bool.eq_false_iff.mpr hna)
          refine ev_aload_n dX7_pass_21 rfl rfl ?_
          refine ev_iload_n dX7_pass_22 rfl ?_
          refine ev_aload_n dX7_pass_23 rfl rfl ?_
          refine ev_getf dX7_pass_24 fl_7_139 ?_
          refine evV3 dX7_pass_27 cl_X7_pass_170 ⟨rfl, rfl, fun _ => ⟨_, rfl⟩⟩ (Nat.le_of_ble_eq_true rfl) (m_goOn K (weighK M) G t T X (M.1 28 2) hw b ht h6) ?_
          refine ev_aload_n dX7_pass_30 rfl rfl ?_
          refine evV1 dX7_pass_31 cl_X7_pass_176 ⟨rfl, rfl, fun _ => ⟨_, rfl⟩⟩ (Nat.le_of_ble_eq_true rfl) (m_first K (goOnK (weighK M) t (M.1 28 2)) G hF.1 (hF.due b)) ?_
          refine ev_istore_n dX7_pass_34 rfl ?_
          refine ev_goto (tgt := 9) dX7_pass_35 rfl ?_
          exact ih _ hF (by omega) hk
theorem m_pass (K M : KT) (G : GT) (T X : Nat) (h : FI M T X) (b : Bd T (X + 193)) : Ev M_X7_pass 0 (ent M_X7_pass [vR 8 0]) [] (conc K M G) (0, some (vI (nI (tickK M).2)), conc K (tickK M).1 G) := by
  show Ev M_X7_pass 0 [vR 8 0, vU] [] (conc K M G) _
  obtain ⟨hm, -⟩ := FI_mid h
  have b1 : Bd T (X + 192) := ⟨b.1, by have := b.2; omega⟩
  have hs := FI_settle hm 1000
  have hx := (Inv_settle 1000 (midK M) hm.1).2
  have hn := hs.1.1.1
  have hPh := Ph_le hm.1
  have h38 : Ev M_X7_pass 38 [vR 8 0, vI (mi (settleK 1000 (midK M)).2)] [] (conc K (settleK 1000 (midK M)).1 G) (0, some (vI (nI (tickK M).2)), conc K (tickK M).1 G) := by
    cases e : (settleK 1000 (midK M)).2 with
    | zero =>
      rw [tick_0 e]
      refine ev_iload_n dX7_pass_38 rfl ?_
      refine ev_if_lt (tgt := 47) dX7_pass_39 rfl (fun c39 => ?_) (fun c39 => ?_)
      · refine ev_aload_n dX7_pass_47 rfl rfl ?_
        refine ev_dup dX7_pass_48 rfl ?_
        refine ev_getf dX7_pass_49 fl_7_139 ?_
        refine ev_iconst (v := 1) dX7_pass_52 rfl ?_
        refine ev_iadd dX7_pass_53 ?_
        refine ev_putfS dX7_pass_54 fl_7_139 rfl rfl (pu_mod_3 _ _ _ _) ?_
        refine ev_iload_n dX7_pass_57 rfl ?_
        refine ev_if_lt (tgt := 65) dX7_pass_58 rfl (fun c58 => ?_) (fun c58 => ?_)
        · refine ev_iconst (v := 0) dX7_pass_65 rfl ?_
          exact ev_iret dX7_pass_66 (Or.inr ⟨rfl, rfl⟩)
        · exact absurd (show mi 0 < 0 by decide) c58
      · exact absurd (show mi 0 < 0 by decide) c39
    | succ t =>
      obtain ⟨x1, x2, x3⟩ := hx t e
      have hnn : ¬ mi (t + 1) < 0 := fun q => absurd ((mi_neg (by omega)).mp q) (by omega)
      rw [tick_s e]
      refine ev_iload_n dX7_pass_38 rfl ?_
      refine ev_if_lt (tgt := 47) dX7_pass_39 rfl (fun c39 => ?_) (fun c39 => ?_)
      · exact absurd c39 hnn
      · refine ev_aload_n dX7_pass_42 rfl rfl ?_
        refine ev_iload_n dX7_pass_43 rfl ?_
        refine evV2 dX7_pass_44 cl_X7_pass_180 ⟨rfl, rfl, fun _ => ⟨_, rfl⟩⟩ (Nat.le_of_ble_eq_true rfl) (m_work K _ G t T (X + 192) hs b x1 x2 x3) ?_
        refine ev_aload_n dX7_pass_47 rfl rfl ?_
        refine ev_dup dX7_pass_48 rfl ?_
        refine ev_getf dX7_pass_49 fl_7_139 ?_
        refine ev_iconst (v := 1) dX7_pass_52 rfl ?_
        refine ev_iadd dX7_pass_53 ?_
        refine ev_putfS dX7_pass_54 fl_7_139 rfl rfl (pu_mod_3 _ _ _ _) ?_
        refine ev_iload_n dX7_pass_57 rfl ?_
        refine ev_if_lt (tgt := 65) dX7_pass_58 rfl (fun c58 => ?_) (fun c58 => ?_)
        · exact absurd c58 hnn
        · refine ev_iconst (v := 1) dX7_pass_61 rfl ?_
          refine ev_goto (tgt := 66) dX7_pass_62 rfl ?_
          exact ev_iret dX7_pass_66 (Or.inr ⟨rfl, rfl⟩)
  have hl := mp_loop K G T (X + 192) b1 _ 1000 (midK M) hm (by omega) h38
  refine ev_aload_n dX7_pass_0 rfl rfl ?_
  refine evV1 dX7_pass_1 cl_X7_pass_173 ⟨rfl, rfl, fun _ => ⟨_, rfl⟩⟩ (Nat.le_of_ble_eq_true rfl) (m_arrivals K M G T X h b1) ?_
  refine ev_aload_n dX7_pass_4 rfl rfl ?_
  refine evV1 dX7_pass_5 cl_X7_pass_176 ⟨rfl, rfl, fun _ => ⟨_, rfl⟩⟩ (Nat.le_of_ble_eq_true rfl) (m_first K (midK M) G hm.1 (hm.due b1)) ?_
  refine ev_istore_n dX7_pass_8 rfl ?_
  exact hl
/-- what no operation of a tick changes -/
def thr (K : KT) : Int32 × Int32 := (K.1 28 4, K.1 28 1)
theorem thr_give (K : KT) (m : Nat) : thr (giveK K m) = thr K := by unfold giveK; cases heirK K m <;> rfl
theorem thr_giveN (t : Nat) : ∀ (j m : Nat) (K : KT), thr (giveN t j m K) = thr K := by
  intro j
  induction j with
  | zero => intro m K; rfl
  | succ j ih =>
    intro m K
    simp only [giveN]
    rw [ih]
    split
    · exact thr_give K m
    · rfl
theorem thr_end (K : KT) (t : Nat) (c : Int32) : thr (endK K t c) = thr K := thr_giveN t _ _ _
theorem thr_fail (K : KT) (t : Nat) : thr (failK K t) = thr K := thr_end _ t 3
theorem thr_done (K : KT) (t : Nat) (w : Int32) : thr (doneK K t w) = thr K := thr_end _ t 2
theorem thr_go (t : Nat) (w : Int32) : ∀ (j : Nat) (K : KT), thr (goK j K t w) = thr K := by
  intro j
  induction j with
  | zero => intro K; exact thr_done K t w
  | succ j ih =>
    intro K
    unfold goK
    split
    · rfl
    · split
      · exact thr_fail K t
      · split
        · rw [ih]; exact thr_give K _
        · split
          · rw [ih]; rfl
          · rfl
theorem thr_miss1 (K : KT) (t : Nat) : thr (missK1 K t) = thr K := by
  unfold missK1
  split
  · split
    · rfl
    · exact thr_fail _ t
  · rfl
theorem thr_missN : ∀ (j t : Nat) (K : KT), thr (missN j t K) = thr K := by
  intro j
  induction j with
  | zero => intro t K; rfl
  | succ j ih => intro t K; exact (ih _ _).trans (thr_miss1 K t)
theorem thr_begin (K : KT) (t : Nat) : thr (beginK K t) = thr K := by unfold beginK; split <;> rfl
theorem thr_relN : ∀ (j t : Nat) (K : KT), thr (relN j t K) = thr K := by
  intro j
  induction j with
  | zero => intro t K; rfl
  | succ j ih =>
    intro t K
    refine (ih _ _).trans ?_
    split
    · exact thr_begin K t
    · rfl
theorem thr_settle : ∀ (j : Nat) (K : KT), thr (settleK j K).1 = thr K := by
  intro j
  induction j with
  | zero => intro K; rfl
  | succ j ih =>
    intro K
    simp only [settleK]
    split
    · rfl
    · split
      · rfl
      · exact (ih _).trans (thr_go _ _ _ _)
theorem thr_work (K : KT) (t : Nat) : thr (workK K t) = thr K := by
  unfold workK
  dsimp only
  split
  · refine (thr_go _ _ _ _).trans ?_
    split <;> rfl
  · split <;> rfl
theorem thr_tick (K : KT) : thr (tickK K).1 = thr K := by
  have h : thr (settleK 1000 (midK K)).1 = thr K := (thr_settle _ _).trans ((thr_relN _ _ _).trans (thr_missN _ _ _))
  cases e : (settleK 1000 (midK K)).2 with
  | zero => rw [tick_0 e]; exact h
  | succ t => rw [tick_s e]; exact (thr_work _ t).trans h
theorem thr_ticks : ∀ (j : Nat) (K : KT) (b : Nat), thr (ticksK j K b).1 = thr K := by
  intro j
  induction j with
  | zero => intro K b; rfl
  | succ j ih => intro K b; exact (ih _ _).trans (thr_tick K)
theorem tick_thr {K : KT} (h : K.1 28 4 = 0) : (tickK K).1.1 28 4 = 0 := (congrArg Prod.fst (thr_tick K)).trans h
theorem mt_loop (K : KT) (G : GT) (N : Nat) (hN : N ≤ 500) : ∀ (j i c : Nat) (M : KT) (T X : Nat), i + j = N → FI M T X → Bd (T + j) (X + 193 * j) → M.1 28 4 = 0 → Ev M_X7_tick 35 [vR 8 0, vI (nI N), vI (nI c), vI (nI i)] [] (conc K M G) (0, some (vI (nI (ticksK j M c).2)), conc K (ticksK j M c).1 G) := by
  intro j
  induction j with
  | zero =>
    intro i c M T X hi h b h4
    refine ev_iload_n dX7_tick_35 rfl ?_
    refine ev_iload_n dX7_tick_36 rfl ?_
    refine ev_icmp_ge (tgt := 68) dX7_tick_37 rfl (fun c37 => ?_) (fun c37 => ?_)
    · refine ev_iload_n dX7_tick_68 rfl ?_
      exact ev_iret dX7_tick_69 (Or.inl rfl)
    · exact absurd (nI_le (a := N) (b := i) (by omega) (by omega)) c37
  | succ j ih =>
    intro i c M T X hi h b h4
    have e1 : nI i + Int32.ofInt 1 = nI (i + 1) := nI_1 i
    obtain ⟨f1, f2, f3⟩ := FI_tick h
    have h5 : ∀ z : Int32, z = nI (tickK M).2 → Ev M_X7_tick 60 [vR 8 0, vI (nI N), vI (nI c), vI (nI i)] [vI z, vI (nI c)] (conc K (tickK M).1 G) (0, some (vI (nI (ticksK (j + 1) M c).2)), conc K (ticksK (j + 1) M c).1 G) := by
      intro z hz
      refine ev_iadd dX7_tick_60 ?_
      refine ev_istore_n dX7_tick_61 rfl ?_
      refine ev_iinc dX7_tick_62 rfl ?_
      refine ev_goto (tgt := 35) dX7_tick_65 rfl ?_
      rw [e1, hz, nI_add]
      exact ih (i + 1) (c + (tickK M).2) (tickK M).1 (T + 1) (X + 193) (by omega) f1 ⟨by have := b.1; omega, by have := b.2; omega⟩ (tick_thr h4)
    refine ev_iload_n dX7_tick_35 rfl ?_
    refine ev_iload_n dX7_tick_36 rfl ?_
    refine ev_icmp_ge (tgt := 68) dX7_tick_37 rfl (fun c37 => ?_) (fun c37 => ?_)
    · exact absurd c37 (nI_ge (a := i) (b := N) (by omega) (by omega))
    · refine ev_aload_n dX7_tick_40 rfl rfl ?_
      refine ev_getf dX7_tick_41 fl_7_109 ?_
      refine ev_if_ne (tgt := 68) dX7_tick_44 rfl (fun c44 => ?_) (fun c44 => ?_)
      · exact absurd h4 c44
      · refine ev_iload_n dX7_tick_47 rfl ?_
        refine ev_aload_n dX7_tick_48 rfl rfl ?_
        refine evV1 dX7_tick_49 cl_X7_tick_183 ⟨rfl, rfl, fun _ => ⟨_, rfl⟩⟩ (Nat.le_of_ble_eq_true rfl) (m_pass K M G T X h ⟨by have := b.1; omega, by have := b.2; omega⟩) ?_
        refine ev_if_eq (tgt := 59) dX7_tick_52 rfl (fun c52 => ?_) (fun c52 => ?_)
        · refine ev_iconst (v := 0) dX7_tick_59 rfl ?_
          exact h5 0 c52.symm
        · refine ev_iconst (v := 1) dX7_tick_55 rfl ?_
          refine ev_goto (tgt := 60) dX7_tick_56 rfl ?_
          refine h5 1 ?_
          have : (tickK M).2 = 1 := by
            rcases Nat.le_one_iff_eq_zero_or_eq_one.mp f2 with q | q
            · rw [q] at c52; exact absurd rfl c52
            · exact q
          rw [this]; rfl
theorem m_tick (K M : KT) (G : GT) (T X n : Nat) (hn : n ≤ 500) (hs : ¬ M.1 28 1 = 0) (h : FI (sI M 28 4 0) T X) (b : Bd (T + n) (X + 193 * n)) : Ev M_X7_tick 0 (ent M_X7_tick [vR 8 0, vI (nI n)]) [] (conc K M G) (0, some (vI (nI (ticksK n (sI M 28 4 0) 0).2)), conc K (ticksK n (sI M 28 4 0) 0).1 G) := by
  show Ev M_X7_tick 0 [vR 8 0, vI (nI n), vU, vU] [] (conc K M G) _
  have hl := mt_loop K G n hn n 0 0 (sI M 28 4 0) T X (by omega) h b rfl
  have hr : (0 : Int32) ≤ nI n ∧ nI n ≤ 500 := ⟨nI_pos' (by omega), nI_le (a := n) (b := 500) (by omega) (by omega)⟩
  refine ev_aload_n dX7_tick_0 rfl rfl ?_
  refine ev_iload_n dX7_tick_1 rfl ?_
  refine ev_iconst (v := 0) dX7_tick_2 rfl ?_
  refine ev_sipush (v := 500) dX7_tick_3 rfl ?_
  refine evS3 dX7_tick_6 cl_X7_tick_115 ⟨rfl, rfl, fun h => nomatch h⟩ (Nat.le_of_ble_eq_true rfl) (m_in _ _ _ _) ?_
  refine ev_if_ne (tgt := 16) dX7_tick_9 rfl (fun c9 => ?_) (fun c9 => ?_)
  · refine ev_aload_n dX7_tick_16 rfl rfl ?_
    refine ev_getf dX7_tick_17 fl_7_119 ?_
    refine ev_if_ne (tgt := 27) dX7_tick_20 rfl (fun c20 => ?_) (fun c20 => ?_)
    · refine ev_iconst (v := 0) dX7_tick_27 rfl ?_
      refine ev_putfS dX7_tick_28 fl_7_109 rfl rfl (pu_mod_0 _ _ _ _) ?_
      refine ev_iconst (v := 0) dX7_tick_31 rfl ?_
      refine ev_istore_n dX7_tick_32 rfl ?_
      refine ev_iconst (v := 0) dX7_tick_33 rfl ?_
      refine ev_istore_n dX7_tick_34 rfl ?_
      exact hl
    · exact absurd (Classical.not_not.mp c20) hs
  · exact absurd (bI_t hr) (by rw [Classical.not_not.mp c9]; decide)
theorem m_tickA (K M : KT) (G : GT) (x : Int32) (hx : ¬ ((0 : Int32) ≤ x ∧ x ≤ 500)) : Ev M_X7_tick 0 (ent M_X7_tick [vR 8 0, vI x]) [] (conc K M G) (0, some (vI 0), conc K (sI M 28 4 1) G) := by
  show Ev M_X7_tick 0 [vR 8 0, vI x, vU, vU] [] (conc K M G) _
  refine ev_aload_n dX7_tick_0 rfl rfl ?_
  refine ev_iload_n dX7_tick_1 rfl ?_
  refine ev_iconst (v := 0) dX7_tick_2 rfl ?_
  refine ev_sipush (v := 500) dX7_tick_3 rfl ?_
  refine evS3 dX7_tick_6 cl_X7_tick_115 ⟨rfl, rfl, fun h => nomatch h⟩ (Nat.le_of_ble_eq_true rfl) (m_in _ _ _ _) ?_
  refine ev_if_ne (tgt := 16) dX7_tick_9 rfl (fun c9 => ?_) (fun c9 => ?_)
  · exact absurd (bI_f hx) c9
  · refine ev_iconst (v := 1) dX7_tick_12 rfl ?_
    refine ev_goto (tgt := 28) dX7_tick_13 rfl ?_
    refine ev_putfS dX7_tick_28 fl_7_109 rfl rfl (pu_mod_0 _ _ _ _) ?_
    refine ev_iconst (v := 0) dX7_tick_31 rfl ?_
    refine ev_istore_n dX7_tick_32 rfl ?_
    refine ev_iconst (v := 0) dX7_tick_33 rfl ?_
    refine ev_istore_n dX7_tick_34 rfl ?_
    refine ev_iload_n dX7_tick_35 rfl ?_
    refine ev_iload_n dX7_tick_36 rfl ?_
    refine ev_icmp_ge (tgt := 68) dX7_tick_37 rfl (fun c37 => ?_) (fun c37 => ?_)
    · refine ev_iload_n dX7_tick_68 rfl ?_
      exact ev_iret dX7_tick_69 (Or.inl rfl)
    · refine ev_aload_n dX7_tick_40 rfl rfl ?_
      refine ev_getf dX7_tick_41 fl_7_109 ?_
      refine ev_if_ne (tgt := 68) dX7_tick_44 rfl (fun c44 => ?_) (fun c44 => ?_)
      · refine ev_iload_n dX7_tick_68 rfl ?_
        exact ev_iret dX7_tick_69 (Or.inl rfl)
      · exact absurd (show (1 : Int32) = 0 from Classical.not_not.mp c44) (by decide)
theorem m_tickS (K M : KT) (G : GT) (x : Int32) (hx : ((0 : Int32) ≤ x ∧ x ≤ 500)) (hs : M.1 28 1 = 0) : Ev M_X7_tick 0 (ent M_X7_tick [vR 8 0, vI x]) [] (conc K M G) (0, some (vI 0), conc K (sI M 28 4 2) G) := by
  show Ev M_X7_tick 0 [vR 8 0, vI x, vU, vU] [] (conc K M G) _
  refine ev_aload_n dX7_tick_0 rfl rfl ?_
  refine ev_iload_n dX7_tick_1 rfl ?_
  refine ev_iconst (v := 0) dX7_tick_2 rfl ?_
  refine ev_sipush (v := 500) dX7_tick_3 rfl ?_
  refine evS3 dX7_tick_6 cl_X7_tick_115 ⟨rfl, rfl, fun h => nomatch h⟩ (Nat.le_of_ble_eq_true rfl) (m_in _ _ _ _) ?_
  refine ev_if_ne (tgt := 16) dX7_tick_9 rfl (fun c9 => ?_) (fun c9 => ?_)
  · refine ev_aload_n dX7_tick_16 rfl rfl ?_
    refine ev_getf dX7_tick_17 fl_7_119 ?_
    refine ev_if_ne (tgt := 27) dX7_tick_20 rfl (fun c20 => ?_) (fun c20 => ?_)
    · exact absurd hs c20
    · refine ev_iconst (v := 2) dX7_tick_23 rfl ?_
      refine ev_goto (tgt := 28) dX7_tick_24 rfl ?_
      refine ev_putfS dX7_tick_28 fl_7_109 rfl rfl (pu_mod_0 _ _ _ _) ?_
      refine ev_iconst (v := 0) dX7_tick_31 rfl ?_
      refine ev_istore_n dX7_tick_32 rfl ?_
      refine ev_iconst (v := 0) dX7_tick_33 rfl ?_
      refine ev_istore_n dX7_tick_34 rfl ?_
      refine ev_iload_n dX7_tick_35 rfl ?_
      refine ev_iload_n dX7_tick_36 rfl ?_
      refine ev_icmp_ge (tgt := 68) dX7_tick_37 rfl (fun c37 => ?_) (fun c37 => ?_)
      · refine ev_iload_n dX7_tick_68 rfl ?_
        exact ev_iret dX7_tick_69 (Or.inl rfl)
      · refine ev_aload_n dX7_tick_40 rfl rfl ?_
        refine ev_getf dX7_tick_41 fl_7_109 ?_
        refine ev_if_ne (tgt := 68) dX7_tick_44 rfl (fun c44 => ?_) (fun c44 => ?_)
        · refine ev_iload_n dX7_tick_68 rfl ?_
          exact ev_iret dX7_tick_69 (Or.inl rfl)
        · exact absurd (show (2 : Int32) = 0 from Classical.not_not.mp c44) (by decide)
  · exact absurd (bI_t hx) (by rw [Classical.not_not.mp c9]; decide)
