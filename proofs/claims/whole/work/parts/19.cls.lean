/-! THE CLASS: a unit of work, ticks, what can be seen -/
def wlEq (K : KT) (t : Nat) : Prop := (K.1 7 t + 1 < K.1 27 (10 * t + K.2 1 t)) ↔ ¬ leftK K t = 0
theorem unit_1 (K : KT) (t : Nat) : (unitK K t).1 8 t = K.1 8 t + 1 ∧ (unitK K t).1 7 t = K.1 7 t + 1 ∧ (unitK K t).1 4 t = K.1 4 t ∧ (unitK K t).1 6 t = K.1 6 t ∧ (unitK K t).1 14 t = leftK K t := by
  refine ⟨?_, ?_, rfl, rfl, ?_⟩
  · show (if t = t then _ else _) = _; rw [if_pos rfl]
  · show (if t = t then _ else _) = _; rw [if_pos rfl]
  · show (if t = t then _ else _) = _; rw [if_pos rfl]
theorem Inv_unit {K : KT} (h : Inv K) {t : Nat} (ht : t < K.2 0 0) : Inv (unitK K t) :=
  Inv_irr (Inv_irr (Inv_irr (Inv_irr (Inv_last h (t + 1) ht) t _ (by decide) (by decide) (by decide)) t _ (by decide) (by decide) (by decide)) t _ (by decide) (by decide) (by decide)) t _ (by decide) (by decide) (by decide)
theorem e_work (K M : KT) (G : GT) (t : Nat) (h : Inv K) (ht : t < K.2 0 0) (h6 : K.1 6 t = 1) (ha : atWorkK K t = true) (hw : wlEq K t) : Ev M_X6_workOneUnit 0 (ent M_X6_workOneUnit [vR 7 0, vR 6 t]) [] (conc K M G) (0, none, conc (workK K t) M G) := by
  show Ev M_X6_workOneUnit 0 [vR 7 0, vR 6 t, vU] [] (conc K M G) _
  have hz := (h.2.2.1 t ht).1
  have hlt : K.2 1 t < K.2 2 t := by simp only [atWorkK, Bool.and_eq_true, decide_eq_true_eq] at ha; exact ha.1
  obtain ⟨u8, u7, u4, u6, -⟩ := unit_1 K t
  have h63 : ∀ K1, Inv K1 → K1.2 0 0 = K.2 0 0 → K1.1 7 t = K.1 7 t + 1 → K1.1 6 t = 1 → K1.2 1 t = K.2 1 t → K1.2 2 t = K.2 2 t → K1.1 27 = K.1 27 → K1.1 28 2 = K.1 28 2 → Ev M_X6_workOneUnit 63 [vR 7 0, vR 6 t, vR 2 t] [] (conc K1 M G) (0, none, conc (if leftK K t = 0 then goOnK (passK K1 t) t (K.1 28 2 + 1) else K1) M G) := by
    intro K1 i1 i2 i3 i4 i5 i6 i7 i8
    have hp : Inv (passK K1 t) := Inv_pass i1 t (by rw [i5, i6]; exact hlt) (by rw [i4]; decide)
    refine ev_aload_n dX6_workOneUnit_63 rfl rfl ?_
    refine ev_getf dX6_workOneUnit_64 fl_6_193 ?_
    refine ev_aload_n dX6_workOneUnit_67 rfl rfl ?_
    refine ev_getf dX6_workOneUnit_68 fl_6_81 ?_
    refine ev_getf dX6_workOneUnit_71 fl_6_200 ?_
    refine ev_aload_n dX6_workOneUnit_74 rfl rfl ?_
    refine ev_getf dX6_workOneUnit_75 fl_6_204 ?_
    refine ev_ialdv dX6_workOneUnit_78 rfl rfl (show _ < 10 from by rw [i5]; omega) (co_ba (by rw [i5]; omega)) ?_
    refine ev_icmp_lt (tgt := 97) dX6_workOneUnit_79 rfl (fun c79 => ?_) (fun c79 => ?_)
    · rw [i3, i5, i7] at c79
      rw [if_neg (hw.mp c79)]
      exact ev_vret dX6_workOneUnit_97 rfl
    · rw [i3, i5, i7] at c79
      have hl : leftK K t = 0 := Classical.not_not.mp (fun q => c79 (hw.mpr q))
      rw [if_pos hl, ← i8]
      refine ev_aload_n dX6_workOneUnit_82 rfl rfl ?_
      refine evV1 dX6_workOneUnit_83 cl_X6_workOneUnit_207 ⟨rfl, rfl, fun _ => ⟨_, rfl⟩⟩ (Nat.le_of_ble_eq_true rfl) (e_passStep K1 M G t) ?_
      refine ev_aload_n dX6_workOneUnit_86 rfl rfl ?_
      refine ev_aload_n dX6_workOneUnit_87 rfl rfl ?_
      refine ev_aload_n dX6_workOneUnit_88 rfl rfl ?_
      refine ev_getf dX6_workOneUnit_89 fl_6_125 ?_
      refine ev_iconst (v := 1) dX6_workOneUnit_92 rfl ?_
      refine ev_iadd dX6_workOneUnit_93 ?_
      refine evV3 dX6_workOneUnit_94 cl_X6_workOneUnit_183 ⟨rfl, rfl, fun _ => ⟨_, rfl⟩⟩ (Nat.le_of_ble_eq_true rfl) (e_goOn _ M G t _ hp (by show t < K1.2 0 0; rw [i2]; exact ht) i4) ?_
      skip
      exact ev_vret dX6_workOneUnit_97 rfl
  refine ev_aload_n dX6_workOneUnit_0 rfl rfl ?_
  refine ev_getf dX6_workOneUnit_1 fl_6_128 ?_
  refine ev_astore_n dX6_workOneUnit_4 rfl rfl ?_
  refine ev_aload_n dX6_workOneUnit_5 rfl rfl ?_
  refine ev_aload_n dX6_workOneUnit_6 rfl rfl ?_
  refine ev_putfS dX6_workOneUnit_7 fl_6_186 rfl rfl (pu_ker_8 _ _ _ _) ?_
  refine ev_aload_n dX6_workOneUnit_10 rfl rfl ?_
  refine ev_dup dX6_workOneUnit_11 rfl ?_
  refine ev_getf dX6_workOneUnit_12 fl_6_190 ?_
  refine ev_iconst (v := 1) dX6_workOneUnit_15 rfl ?_
  refine ev_iadd dX6_workOneUnit_16 ?_
  refine ev_putfS dX6_workOneUnit_17 fl_6_190 rfl rfl (pu_job_3 _ _ _ _ _) ?_
  refine ev_aload_n dX6_workOneUnit_20 rfl rfl ?_
  refine ev_dup dX6_workOneUnit_21 rfl ?_
  refine ev_getf dX6_workOneUnit_22 fl_6_193 ?_
  refine ev_iconst (v := 1) dX6_workOneUnit_25 rfl ?_
  refine ev_iadd dX6_workOneUnit_26 ?_
  refine ev_putfS dX6_workOneUnit_27 fl_6_193 rfl rfl (pu_job_2 _ _ _ _ _) ?_
  refine ev_aload_n dX6_workOneUnit_30 rfl rfl ?_
  refine ev_getf dX6_workOneUnit_31 fl_6_140 ?_
  refine ev_dup dX6_workOneUnit_34 rfl ?_
  refine ev_getf dX6_workOneUnit_35 fl_6_196 ?_
  refine ev_iconst (v := 1) dX6_workOneUnit_38 rfl ?_
  refine ev_iadd dX6_workOneUnit_39 ?_
  refine ev_putfS dX6_workOneUnit_40 fl_6_196 rfl rfl (pu_tal_4 _ _ _ _ _) ?_
  show Ev _ _ _ _ (conc (unitK K t) M G) _
  refine ev_aload_n dX6_workOneUnit_43 rfl rfl ?_
  refine ev_getf dX6_workOneUnit_44 fl_6_190 ?_
  refine ev_aload_n dX6_workOneUnit_47 rfl rfl ?_
  refine ev_getf dX6_workOneUnit_48 fl_6_197 ?_
  refine ev_iconst (v := 1) dX6_workOneUnit_51 rfl ?_
  refine ev_iadd dX6_workOneUnit_52 ?_
  refine ev_icmp_ne (tgt := 63) dX6_workOneUnit_53 rfl (fun c53 => ?_) (fun c53 => ?_)
  · rw [u8, u4] at c53
    rw [show workK K t = (if leftK K t = 0 then goOnK (passK (unitK K t) t) t (K.1 28 2 + 1) else unitK K t) by simp only [workK, if_neg c53]]
    exact h63 _ (Inv_unit h ht) rfl u7 (u6.trans h6) rfl rfl rfl rfl
  · rw [u8, u4] at c53
    rw [show workK K t = (if leftK K t = 0 then goOnK (passK (noteK (unitK K t) 7 t) t) t (K.1 28 2 + 1) else noteK (unitK K t) 7 t) by simp only [workK, if_pos (Classical.not_not.mp c53)]]
    refine ev_aload_n dX6_workOneUnit_56 rfl rfl ?_
    refine ev_bipush (v := 7) dX6_workOneUnit_57 rfl ?_
    refine ev_aload_n dX6_workOneUnit_59 rfl rfl ?_
    refine evV3 dX6_workOneUnit_60 cl_X6_workOneUnit_149 ⟨rfl, rfl, fun _ => ⟨_, rfl⟩⟩ (Nat.le_of_ble_eq_true rfl) (e_note _ M G 7 t (Inv_unit h ht).next) ?_
    exact h63 _ (Inv_note (Inv_unit h ht) 7 t) rfl u7 (u6.trans h6) rfl rfl rfl rfl
theorem newX_conc (K M : KT) (G : GT) : newX (conc K M G) = conc K M (G.1, G.2.1, fun j => if j = 3 then G.2.2 3 + 1 else if j = 1 then G.2.2 1 + 1 else if j = 2 then G.2.2 2 + 6 else G.2.2 j) := by
  refine Prod.ext rfl (funext fun t => ?_)
  show bump (concC K G) 19 6 t = concC K (G.1, G.2.1, fun j => if j = 3 then G.2.2 3 + 1 else if j = 1 then G.2.2 1 + 1 else if j = 2 then G.2.2 2 + 6 else G.2.2 j) t
  unfold bump
  by_cases h1 : t = 19
  · subst h1; rfl
  · rw [if_neg h1]
    by_cases h2 : t = 100
    · subst h2; rfl
    · rw [if_neg h2]
      by_cases h3 : t = 101
      · subst h3; rfl
      · rw [if_neg h3]
        simp only [concC, if_neg h1, if_neg h2, if_neg h3]
        rfl
def exG (G : GT) : GT := (G.1, G.2.1, fun j => if j = 3 then G.2.2 3 + 1 else if j = 1 then G.2.2 1 + 1 else if j = 2 then G.2.2 2 + 6 else G.2.2 j)
theorem ev_thr {M : MT} {pc : Nat} {ls st : List AV} {K KM : KT} {G : GT} {E : Nat} (h0 : ThrowAt M pc E) (h1 : wsum st ≤ 8) : Ev M pc ls st (conc K KM G) (E, some (vR 19 (G.2.2 3)), conc K KM (exG G)) := by
  have h := ev_throw (ls := ls) (S := conc K KM G) h0 h1
  rw [newX_conc] at h
  exact h
