/-! THE CLASS: steps, mutexes, tasks -/
theorem pu_bk (K M : KT) (G : GT) (i k : Nat) (v : Int32) (hk : k < 10) : setS (conc K M G) 10 i k (vI v) = conc (sI K 26 (10 * i + k) v) M G := by
  refine Prod.ext (funext fun t' => funext fun i' => funext fun k' => ?_) rfl
  show (if t' = 10 ∧ i' = i ∧ k' = k then _ else concF K M G t' i' k') = concF (sI K 26 (10 * i + k) v) M G t' i' k'
  by_cases ht : t' = 10
  · subst ht
    show _ = (if k' < 10 then vI (if 10 * i' + k' = 10 * i + k then v else K.1 26 (10 * i' + k')) else vN)
    by_cases hi : i' = i ∧ k' = k
    · rw [if_pos ⟨rfl, hi⟩, hi.1, hi.2, if_pos hk, if_pos rfl]
    · rw [if_neg (fun c => hi c.2)]
      show (if k' < 10 then vI (K.1 26 (10 * i' + k')) else vN) = _
      by_cases h10 : k' < 10
      · rw [if_pos h10, if_pos h10, if_neg (fun q => hi (by omega))]
      · rw [if_neg h10, if_neg h10]
  · rw [if_neg (fun c => ht c.1)]
    simp only [concF, cLow, if_neg ht]
    rfl
theorem pu_ba (K M : KT) (G : GT) (i k : Nat) (v : Int32) (hk : k < 10) : setS (conc K M G) 11 i k (vI v) = conc (sI K 27 (10 * i + k) v) M G := by
  refine Prod.ext (funext fun t' => funext fun i' => funext fun k' => ?_) rfl
  show (if t' = 11 ∧ i' = i ∧ k' = k then _ else concF K M G t' i' k') = concF (sI K 27 (10 * i + k) v) M G t' i' k'
  by_cases ht : t' = 11
  · subst ht
    show _ = (if k' < 10 then vI (if 10 * i' + k' = 10 * i + k then v else K.1 27 (10 * i' + k')) else vN)
    by_cases hi : i' = i ∧ k' = k
    · rw [if_pos ⟨rfl, hi⟩, hi.1, hi.2, if_pos hk, if_pos rfl]
    · rw [if_neg (fun c => hi c.2)]
      show (if k' < 10 then vI (K.1 27 (10 * i' + k')) else vN) = _
      by_cases h10 : k' < 10
      · rw [if_pos h10, if_pos h10, if_neg (fun q => hi (by omega))]
      · rw [if_neg h10, if_neg h10]
  · rw [if_neg (fun c => ht c.1)]
    simp only [concF, cLow, if_neg ht]
    rfl
def stepK (K : KT) (t : Nat) (kd a : Int32) : KT := sN (sI (sI K 26 (10 * t + K.2 2 t) kd) 27 (10 * t + K.2 2 t) a) 2 t (K.2 2 t + 1)
theorem e_append (K M : KT) (G : GT) (t : Nat) (kd a : Int32) (hz : K.2 2 t < 10) : Ev M_X0_append 0 (ent M_X0_append [vR 1 t, vI kd, vI a]) [] (conc K M G) (0, none, conc (stepK K t kd a) M G) := by
  show Ev M_X0_append 0 [vR 1 t, vI kd, vI a] [] (conc K M G) _
  refine ev_aload_n dX0_append_0 rfl rfl ?_
  refine ev_getf dX0_append_1 fl_0_9 ?_
  refine ev_aload_n dX0_append_4 rfl rfl ?_
  refine ev_getf dX0_append_5 fl_0_18 ?_
  refine ev_iload_n dX0_append_8 rfl ?_
  refine ev_iastS dX0_append_9 rfl (by decide) rfl (show _ < 10 from hz) (pu_bk _ _ _ _ _ _ hz) ?_
  refine ev_aload_n dX0_append_10 rfl rfl ?_
  refine ev_getf dX0_append_11 fl_0_15 ?_
  refine ev_aload_n dX0_append_14 rfl rfl ?_
  refine ev_getf dX0_append_15 fl_0_18 ?_
  refine ev_iload_n dX0_append_18 rfl ?_
  refine ev_iastS dX0_append_19 rfl (by decide) rfl (show _ < 10 from hz) (pu_ba _ _ _ _ _ _ hz) ?_
  refine ev_aload_n dX0_append_20 rfl rfl ?_
  refine ev_dup dX0_append_21 rfl ?_
  refine ev_getf dX0_append_22 fl_0_18 ?_
  refine ev_iconst (v := 1) dX0_append_25 rfl ?_
  refine ev_iadd dX0_append_26 ?_
  refine ev_putfS dX0_append_27 fl_0_18 rfl rfl (setS_v (congrArg vI (nI_1 _)) (pu_body_2 _ _ _ _ _)) ?_
  exact ev_vret dX0_append_30 rfl
theorem e_step (K M : KT) (G : GT) (t : Nat) (kd a : Int32) (h : Inv K) (ht : t < K.2 0 0) (hk : stepOk K kd a) (h1 : K.1 28 1 = 0) (hz : K.2 2 t < 10) : Ev M_X6_step 0 (ent M_X6_step [vR 7 0, vI (nI t), vI kd, vI a]) [] (conc K M G) (0, some (vI (nI (K.2 2 t + 1))), conc (stepK K t kd a) M G) := by
  show Ev M_X6_step 0 [vR 7 0, vI (nI t), vI kd, vI a, vU] [] (conc K M G) _
  have hn := h.1.1
  have hm := h.1.2.1
  have e2 : (stepK K t kd a).2 2 t = K.2 2 t + 1 := by show (if t = t then _ else _) = _; rw [if_pos rfl]
  rw [← e2]
  refine ev_aload_n dX6_step_0 rfl rfl ?_
  refine ev_iload_n dX6_step_1 rfl ?_
  refine evV2 dX6_step_2 cl_X6_step_58 ⟨rfl, rfl, fun _ => ⟨_, rfl⟩⟩ (Nat.le_of_ble_eq_true rfl) (e_isTask K M G (nI t) hn) ?_
  refine ev_if_eq (tgt := 17) dX6_step_5 rfl (fun c5 => ?_) (fun c5 => ?_)
  · exact absurd (isT_of (by omega) ht) (bI_0.mp c5)
  · refine ev_aload_n dX6_step_8 rfl rfl ?_
    refine ev_iload_n dX6_step_9 rfl ?_
    refine ev_iload_n dX6_step_10 rfl ?_
    refine evV3 dX6_step_11 cl_X6_step_75 ⟨rfl, rfl, fun _ => ⟨_, rfl⟩⟩ (Nat.le_of_ble_eq_true rfl) (e_isStep K M G kd a (by omega)) ?_
    refine ev_if_ne (tgt := 27) dX6_step_14 rfl (fun c14 => ?_) (fun c14 => ?_)
    · refine ev_aload_n dX6_step_27 rfl rfl ?_
      refine ev_getf dX6_step_28 fl_6_11 ?_
      refine ev_iload_n dX6_step_31 rfl ?_
      refine ev_aaldv dX6_step_32 rfl rfl (show _ < 8 from by omega) (co_tasks ht) ?_
      refine ev_getf dX6_step_33 fl_6_81 ?_
      refine ev_astore dX6_step_36 rfl rfl ?_
      refine ev_aload_n dX6_step_38 rfl rfl ?_
      refine ev_getf dX6_step_39 fl_6_43 ?_
      refine ev_if_ne (tgt := 55) dX6_step_42 rfl (fun c42 => ?_) (fun c42 => ?_)
      · exact absurd h1 c42
      · refine ev_aload dX6_step_45 rfl rfl ?_
        refine ev_getf dX6_step_47 fl_6_85 ?_
        refine ev_bipush (v := 10) dX6_step_50 rfl ?_
        refine ev_icmp_lt (tgt := 65) dX6_step_52 rfl (fun c52 => ?_) (fun c52 => ?_)
        · refine ev_aload dX6_step_65 rfl rfl ?_
          refine ev_iload_n dX6_step_67 rfl ?_
          refine ev_iload_n dX6_step_68 rfl ?_
          refine evV3 dX6_step_69 cl_X6_step_92 ⟨rfl, rfl, fun _ => ⟨_, rfl⟩⟩ (Nat.le_of_ble_eq_true rfl) (e_append K M G t kd a hz) ?_
          refine ev_aload dX6_step_72 rfl rfl ?_
          refine ev_getf dX6_step_74 fl_6_85 ?_
          exact ev_iret dX6_step_77 (Or.inl rfl)
        · exact absurd (nI_lt (a := K.2 2 t) (b := 10) hz (by omega)) c52
    · exact absurd hk (bI_0.mp (Classical.not_not.mp c14))
theorem e_stepA (K M : KT) (G : GT) (x kd a : Int32) (h : Inv K) (hx : ¬ (isT (K.2 0 0) x ∧ stepOk K kd a)) : Ev M_X6_step 0 (ent M_X6_step [vR 7 0, vI x, vI kd, vI a]) [] (conc K M G) (1, some (vR 19 (G.2.2 3)), conc K M (exG G)) := by
  show Ev M_X6_step 0 [vR 7 0, vI x, vI kd, vI a, vU] [] (conc K M G) _
  have hn := h.1.1
  have hm := h.1.2.1
  refine ev_aload_n dX6_step_0 rfl rfl ?_
  refine ev_iload_n dX6_step_1 rfl ?_
  refine evV2 dX6_step_2 cl_X6_step_58 ⟨rfl, rfl, fun _ => ⟨_, rfl⟩⟩ (Nat.le_of_ble_eq_true rfl) (e_isTask K M G x hn) ?_
  refine ev_if_eq (tgt := 17) dX6_step_5 rfl (fun c5 => ?_) (fun c5 => ?_)
  · exact ev_thr th_X6_step_17 (Nat.le_of_ble_eq_true rfl)
  · refine ev_aload_n dX6_step_8 rfl rfl ?_
    refine ev_iload_n dX6_step_9 rfl ?_
    refine ev_iload_n dX6_step_10 rfl ?_
    refine evV3 dX6_step_11 cl_X6_step_75 ⟨rfl, rfl, fun _ => ⟨_, rfl⟩⟩ (Nat.le_of_ble_eq_true rfl) (e_isStep K M G kd a (by omega)) ?_
    refine ev_if_ne (tgt := 27) dX6_step_14 rfl (fun c14 => ?_) (fun c14 => ?_)
    · exact absurd ⟨Classical.not_not.mp (fun q => c5 (bI_f q)), Classical.not_not.mp (fun q => c14 (bI_f q))⟩ hx
    · exact ev_thr th_X6_step_17 (Nat.le_of_ble_eq_true rfl)
theorem e_stepS (K M : KT) (G : GT) (t : Nat) (kd a : Int32) (h : Inv K) (ht : t < K.2 0 0) (hk : stepOk K kd a) (h1 : ¬ (K.1 28 1 = 0 ∧ K.2 2 t < 10)) : Ev M_X6_step 0 (ent M_X6_step [vR 7 0, vI (nI t), vI kd, vI a]) [] (conc K M G) (2, some (vR 19 (G.2.2 3)), conc K M (exG G)) := by
  show Ev M_X6_step 0 [vR 7 0, vI (nI t), vI kd, vI a, vU] [] (conc K M G) _
  have hn := h.1.1
  have hm := h.1.2.1
  have hz := (h.2.2.1 t ht).1
  refine ev_aload_n dX6_step_0 rfl rfl ?_
  refine ev_iload_n dX6_step_1 rfl ?_
  refine evV2 dX6_step_2 cl_X6_step_58 ⟨rfl, rfl, fun _ => ⟨_, rfl⟩⟩ (Nat.le_of_ble_eq_true rfl) (e_isTask K M G (nI t) hn) ?_
  refine ev_if_eq (tgt := 17) dX6_step_5 rfl (fun c5 => ?_) (fun c5 => ?_)
  · exact absurd (isT_of (by omega) ht) (bI_0.mp c5)
  · refine ev_aload_n dX6_step_8 rfl rfl ?_
    refine ev_iload_n dX6_step_9 rfl ?_
    refine ev_iload_n dX6_step_10 rfl ?_
    refine evV3 dX6_step_11 cl_X6_step_75 ⟨rfl, rfl, fun _ => ⟨_, rfl⟩⟩ (Nat.le_of_ble_eq_true rfl) (e_isStep K M G kd a (by omega)) ?_
    refine ev_if_ne (tgt := 27) dX6_step_14 rfl (fun c14 => ?_) (fun c14 => ?_)
    · refine ev_aload_n dX6_step_27 rfl rfl ?_
      refine ev_getf dX6_step_28 fl_6_11 ?_
      refine ev_iload_n dX6_step_31 rfl ?_
      refine ev_aaldv dX6_step_32 rfl rfl (show _ < 8 from by omega) (co_tasks ht) ?_
      refine ev_getf dX6_step_33 fl_6_81 ?_
      refine ev_astore dX6_step_36 rfl rfl ?_
      refine ev_aload_n dX6_step_38 rfl rfl ?_
      refine ev_getf dX6_step_39 fl_6_43 ?_
      refine ev_if_ne (tgt := 55) dX6_step_42 rfl (fun c42 => ?_) (fun c42 => ?_)
      · exact ev_thr th_X6_step_55 (Nat.le_of_ble_eq_true rfl)
      · refine ev_aload dX6_step_45 rfl rfl ?_
        refine ev_getf dX6_step_47 fl_6_85 ?_
        refine ev_bipush (v := 10) dX6_step_50 rfl ?_
        refine ev_icmp_lt (tgt := 65) dX6_step_52 rfl (fun c52 => ?_) (fun c52 => ?_)
        · exact absurd ⟨Classical.not_not.mp c42, (nI_ltI (by omega) (by omega)).mp (show nI (K.2 2 t) < nI 10 from c52)⟩ h1
        · exact ev_thr th_X6_step_55 (Nat.le_of_ble_eq_true rfl)
    · exact absurd hk (bI_0.mp (Classical.not_not.mp c14))
/-! a mutex -/
abbrev mutOk (p c : Int32) : Prop := (0 ≤ p ∧ p ≤ 2) ∧ (¬ p = 2 ∨ (1 ≤ c ∧ c ≤ 31))
def mutexK (K : KT) (p c : Int32) : KT := sN (sN (sI (sI K 21 (K.2 0 1) p) 22 (K.2 0 1) c) 4 (K.2 0 1) 0) 0 1 (K.2 0 1 + 1)
def mkG (G : GT) (a b : Nat) : GT := (G.1, G.2.1, fun j => if j = 1 then G.2.2 1 + a else if j = 2 then G.2.2 2 + b else G.2.2 j)
def mutS (S : Sto) (i : Nat) (n p c : Int32) : Sto := setS (setS (setS S 4 i 0 (vI n)) 4 i 1 (vI p)) 4 i 2 (vI c)
theorem e_X3_init (S : Sto) (i : Nat) (n p c : Int32) : Ev M_X3_init 0 (ent M_X3_init [vR 4 i, vI n, vI p, vI c]) [] S (0, none, mutS S i n p c) := by
  show Ev M_X3_init 0 [vR 4 i, vI n, vI p, vI c] [] S _
  refine ev_aload_n dX3_init_0 rfl rfl ?_
  refine ev_objinit dX3_init_1 ml_3_1 (Nat.le_of_ble_eq_true rfl) rfl ?_
  refine ev_aload_n dX3_init_4 rfl rfl ?_
  refine ev_iload_n dX3_init_5 rfl ?_
  refine ev_putf dX3_init_6 fl_3_7 rfl rfl ?_
  refine ev_aload_n dX3_init_9 rfl rfl ?_
  refine ev_iload_n dX3_init_10 rfl ?_
  refine ev_putf dX3_init_11 fl_3_13 rfl rfl ?_
  refine ev_aload_n dX3_init_14 rfl rfl ?_
  refine ev_iload_n dX3_init_15 rfl ?_
  refine ev_putf dX3_init_16 fl_3_16 rfl rfl ?_
  exact ev_vret dX3_init_19 rfl
theorem mut_eq (K M : KT) (G : GT) (p c : Int32) : EqS (setS (setS (mutS (newO (conc K M G) 4) (K.2 0 1) (nI (K.2 0 1)) p c) 16 0 (K.2 0 1) (vR 4 (K.2 0 1))) 7 0 5 (vI (nI (K.2 0 1) + 1))) (conc (mutexK K p c) M (mkG G 1 4)) := by
  refine ⟨funext fun t => ?_, fun t i k hi hk => ?_⟩
  · show bump (concC K G) 4 4 t = concC (mutexK K p c) (mkG G 1 4) t
    unfold bump
    by_cases h1 : t = 4
    · subst h1; rfl
    · rw [if_neg h1]
      by_cases h2 : t = 100
      · subst h2; rfl
      · rw [if_neg h2]
        by_cases h3 : t = 101
        · subst h3; rfl
        · rw [if_neg h3]
          simp only [concC, if_neg h1, if_neg h2, if_neg h3]
          rfl
  · by_cases h7 : t = 7
    · subst h7
      have hi0 : i = 0 := by have : i < 1 := hi; omega
      subst hi0
      by_cases hk5 : k = 5
      · subst hk5
        show vI (nI (K.2 0 1) + 1) = vI (nI (K.2 0 1 + 1))
        rw [nI_1]
      · simp only [setS, mutS, newO]
        simp [hk5, concF, cLow, conc, cKer, mutexK, sI, sN]
    · by_cases h16 : t = 16
      · subst h16
        have hi0 : i = 0 := by have : i < 1 := hi; omega
        subst hi0
        by_cases hkn : k = K.2 0 1
        · subst hkn
          simp [setS, mutS, newO, concF, cLow, conc, mutexK, sI, sN]
        · have e1 : (k < K.2 0 1 + 1) ↔ k < K.2 0 1 := by omega
          simp [setS, mutS, newO, concF, cLow, conc, mutexK, sI, sN, hkn, e1]
      · by_cases h4 : t = 4
        · subst h4
          have hk4 : k < 4 := hk
          by_cases hin : i = K.2 0 1
          · subst hin
            match k, hk4 with
            | 0, _ => simp [setS, mutS, newO, concF, cLow, conc, cMut, mutexK, sI, sN]
            | 1, _ => simp [setS, mutS, newO, concF, cLow, conc, cMut, mutexK, sI, sN]
            | 2, _ => simp [setS, mutS, newO, concF, cLow, conc, cMut, mutexK, sI, sN]
            | 3, _ => simp [setS, mutS, newO, concF, concC, cLow, conc, cMut, mutexK, sI, sN, dflt, tyT, tyX3, rfq]
            | k + 4, h => omega
          · simp [setS, mutS, newO, concF, concC, cLow, conc, cMut, mutexK, sI, sN, hin]
        · simp only [setS, mutS, newO, h7, h16, h4, false_and, if_false]
          show concF K M G t i k = concF (mutexK K p c) M (mkG G 1 4) t i k
          simp only [concF, cLow, if_neg h7, if_neg h16, if_neg h4]
          rfl
theorem e_mutex (K M : KT) (G : GT) (p c : Int32) (hm : K.2 0 1 < 4) (ok : mutOk p c) (h1 : K.1 28 1 = 0) : Ev M_X6_mutex 0 (ent M_X6_mutex [vR 7 0, vI p, vI c]) [] (conc K M G) (0, some (vI (nI (K.2 0 1))), conc (mutexK K p c) M (mkG G 1 4)) := by
  show Ev M_X6_mutex 0 [vR 7 0, vI p, vI c, vU, vU] [] (conc K M G) _
  have h20 : ∀ b : Int32, ¬ b = 0 → Ev M_X6_mutex 20 [vR 7 0, vI p, vI c, vU, vU] [vI b] (conc K M G) (0, some (vI (nI (K.2 0 1))), conc (mutexK K p c) M (mkG G 1 4)) := by
    intro b hb
    refine ev_istore_n dX6_mutex_20 rfl ?_
    refine ev_iload_n dX6_mutex_21 rfl ?_
    refine ev_iconst (v := 0) dX6_mutex_22 rfl ?_
    refine ev_iconst (v := 2) dX6_mutex_23 rfl ?_
    refine evS3 dX6_mutex_24 cl_X6_mutex_32 ⟨rfl, rfl, fun h => nomatch h⟩ (Nat.le_of_ble_eq_true rfl) (e_within _ _ _ _) ?_
    refine ev_if_eq (tgt := 34) dX6_mutex_27 rfl (fun c27 => ?_) (fun c27 => ?_)
    · exact absurd ok.1 (bI_0.mp c27)
    · refine ev_iload_n dX6_mutex_30 rfl ?_
      refine ev_if_ne (tgt := 44) dX6_mutex_31 rfl (fun c31 => ?_) (fun c31 => ?_)
      · refine ev_aload_n dX6_mutex_44 rfl rfl ?_
        refine ev_getf dX6_mutex_45 fl_6_43 ?_
        refine ev_if_ne (tgt := 59) dX6_mutex_48 rfl (fun c48 => ?_) (fun c48 => ?_)
        · exact absurd h1 c48
        · refine ev_aload_n dX6_mutex_51 rfl rfl ?_
          refine ev_getf dX6_mutex_52 fl_6_67 ?_
          refine ev_iconst (v := 4) dX6_mutex_55 rfl ?_
          refine ev_icmp_lt (tgt := 69) dX6_mutex_56 rfl (fun c56 => ?_) (fun c56 => ?_)
          · refine ev_aload_n dX6_mutex_69 rfl rfl ?_
            refine ev_getf dX6_mutex_70 fl_6_67 ?_
            refine ev_istore dX6_mutex_73 rfl ?_
            refine ev_aload_n dX6_mutex_75 rfl rfl ?_
            refine ev_getf dX6_mutex_76 fl_6_17 ?_
            refine ev_iload dX6_mutex_79 rfl ?_
            refine ev_new dX6_mutex_81 no_6_15 ?_
            refine ev_dup dX6_mutex_84 rfl ?_
            refine ev_iload dX6_mutex_85 rfl ?_
            refine ev_iload_n dX6_mutex_87 rfl ?_
            refine ev_iload_n dX6_mutex_88 rfl ?_
            refine evI4 dX6_mutex_89 cl_X6_mutex_72 ⟨rfl, rfl, fun _ => ⟨_, rfl⟩⟩ (Nat.le_of_ble_eq_true rfl) (e_X3_init _ _ _ _ _) ?_
            refine ev_aast dX6_mutex_92 rfl rfl (show _ < 4 from hm) ?_
            refine ev_aload_n dX6_mutex_93 rfl rfl ?_
            refine ev_dup dX6_mutex_94 rfl ?_
            refine ev_getf dX6_mutex_95 fl_6_67 ?_
            refine ev_iconst (v := 1) dX6_mutex_98 rfl ?_
            refine ev_iadd dX6_mutex_99 ?_
            refine ev_putf dX6_mutex_100 fl_6_67 rfl rfl ?_
            refine ev_eqv (mut_eq K M G p c) ?_
            refine ev_iload dX6_mutex_103 rfl ?_
            exact ev_iret dX6_mutex_105 (Or.inl rfl)
          · exact absurd (nI_lt (a := K.2 0 1) (b := 4) hm (by omega)) c56
      · exact absurd (Classical.not_not.mp c31) hb
  refine ev_iload_n dX6_mutex_0 rfl ?_
  refine ev_iconst (v := 2) dX6_mutex_1 rfl ?_
  refine ev_icmp_ne (tgt := 15) dX6_mutex_2 rfl (fun c2 => ?_) (fun c2 => ?_)
  · refine ev_iconst (v := 1) dX6_mutex_15 rfl ?_
    refine ev_goto (tgt := 20) dX6_mutex_16 rfl ?_
    exact h20 1 (by decide)
  · refine ev_iload_n dX6_mutex_5 rfl ?_
    refine ev_iconst (v := 1) dX6_mutex_6 rfl ?_
    refine ev_bipush (v := 31) dX6_mutex_7 rfl ?_
    refine evS3 dX6_mutex_9 cl_X6_mutex_32 ⟨rfl, rfl, fun h => nomatch h⟩ (Nat.le_of_ble_eq_true rfl) (e_within _ _ _ _) ?_
    refine ev_if_eq (tgt := 19) dX6_mutex_12 rfl (fun c12 => ?_) (fun c12 => ?_)
    · exact absurd (ok.2.resolve_left (fun q => q (Classical.not_not.mp c2))) (bI_0.mp c12)
    · refine ev_iconst (v := 1) dX6_mutex_15 rfl ?_
      refine ev_goto (tgt := 20) dX6_mutex_16 rfl ?_
      exact h20 1 (by decide)
theorem e_mutexA (K M : KT) (G : GT) (p c : Int32) (ok : ¬ mutOk p c) : Ev M_X6_mutex 0 (ent M_X6_mutex [vR 7 0, vI p, vI c]) [] (conc K M G) (1, some (vR 19 (G.2.2 3)), conc K M (exG G)) := by
  show Ev M_X6_mutex 0 [vR 7 0, vI p, vI c, vU, vU] [] (conc K M G) _
  have h20 : ∀ b : Int32, (¬ b = 0 → (¬ p = 2 ∨ (1 ≤ c ∧ c ≤ 31))) → Ev M_X6_mutex 20 [vR 7 0, vI p, vI c, vU, vU] [vI b] (conc K M G) (1, some (vR 19 (G.2.2 3)), conc K M (exG G)) := by
    intro b hb
    refine ev_istore_n dX6_mutex_20 rfl ?_
    refine ev_iload_n dX6_mutex_21 rfl ?_
    refine ev_iconst (v := 0) dX6_mutex_22 rfl ?_
    refine ev_iconst (v := 2) dX6_mutex_23 rfl ?_
    refine evS3 dX6_mutex_24 cl_X6_mutex_32 ⟨rfl, rfl, fun h => nomatch h⟩ (Nat.le_of_ble_eq_true rfl) (e_within _ _ _ _) ?_
    refine ev_if_eq (tgt := 34) dX6_mutex_27 rfl (fun c27 => ?_) (fun c27 => ?_)
    · exact ev_thr th_X6_mutex_34 (Nat.le_of_ble_eq_true rfl)
    · refine ev_iload_n dX6_mutex_30 rfl ?_
      refine ev_if_ne (tgt := 44) dX6_mutex_31 rfl (fun c31 => ?_) (fun c31 => ?_)
      · exact absurd ⟨Classical.not_not.mp (fun q => c27 (bI_f q)), hb c31⟩ ok
      · exact ev_thr th_X6_mutex_34 (Nat.le_of_ble_eq_true rfl)
  refine ev_iload_n dX6_mutex_0 rfl ?_
  refine ev_iconst (v := 2) dX6_mutex_1 rfl ?_
  refine ev_icmp_ne (tgt := 15) dX6_mutex_2 rfl (fun c2 => ?_) (fun c2 => ?_)
  · refine ev_iconst (v := 1) dX6_mutex_15 rfl ?_
    refine ev_goto (tgt := 20) dX6_mutex_16 rfl ?_
    exact h20 1 (fun _ => Or.inl c2)
  · refine ev_iload_n dX6_mutex_5 rfl ?_
    refine ev_iconst (v := 1) dX6_mutex_6 rfl ?_
    refine ev_bipush (v := 31) dX6_mutex_7 rfl ?_
    refine evS3 dX6_mutex_9 cl_X6_mutex_32 ⟨rfl, rfl, fun h => nomatch h⟩ (Nat.le_of_ble_eq_true rfl) (e_within _ _ _ _) ?_
    refine ev_if_eq (tgt := 19) dX6_mutex_12 rfl (fun c12 => ?_) (fun c12 => ?_)
    · refine ev_iconst (v := 0) dX6_mutex_19 rfl ?_
      exact h20 0 (fun q => absurd rfl q)
    · refine ev_iconst (v := 1) dX6_mutex_15 rfl ?_
      refine ev_goto (tgt := 20) dX6_mutex_16 rfl ?_
      exact h20 1 (fun _ => Or.inr (Classical.not_not.mp (fun q => c12 (bI_f q))))
theorem e_mutexS (K M : KT) (G : GT) (p c : Int32) (hm : K.2 0 1 ≤ 4) (ok : mutOk p c) (h1 : ¬ (K.1 28 1 = 0 ∧ K.2 0 1 < 4)) : Ev M_X6_mutex 0 (ent M_X6_mutex [vR 7 0, vI p, vI c]) [] (conc K M G) (2, some (vR 19 (G.2.2 3)), conc K M (exG G)) := by
  show Ev M_X6_mutex 0 [vR 7 0, vI p, vI c, vU, vU] [] (conc K M G) _
  have h20 : ∀ b : Int32, ¬ b = 0 → Ev M_X6_mutex 20 [vR 7 0, vI p, vI c, vU, vU] [vI b] (conc K M G) (2, some (vR 19 (G.2.2 3)), conc K M (exG G)) := by
    intro b hb
    refine ev_istore_n dX6_mutex_20 rfl ?_
    refine ev_iload_n dX6_mutex_21 rfl ?_
    refine ev_iconst (v := 0) dX6_mutex_22 rfl ?_
    refine ev_iconst (v := 2) dX6_mutex_23 rfl ?_
    refine evS3 dX6_mutex_24 cl_X6_mutex_32 ⟨rfl, rfl, fun h => nomatch h⟩ (Nat.le_of_ble_eq_true rfl) (e_within _ _ _ _) ?_
    refine ev_if_eq (tgt := 34) dX6_mutex_27 rfl (fun c27 => ?_) (fun c27 => ?_)
    · exact absurd ok.1 (bI_0.mp c27)
    · refine ev_iload_n dX6_mutex_30 rfl ?_
      refine ev_if_ne (tgt := 44) dX6_mutex_31 rfl (fun c31 => ?_) (fun c31 => ?_)
      · refine ev_aload_n dX6_mutex_44 rfl rfl ?_
        refine ev_getf dX6_mutex_45 fl_6_43 ?_
        refine ev_if_ne (tgt := 59) dX6_mutex_48 rfl (fun c48 => ?_) (fun c48 => ?_)
        · exact ev_thr th_X6_mutex_59 (Nat.le_of_ble_eq_true rfl)
        · refine ev_aload_n dX6_mutex_51 rfl rfl ?_
          refine ev_getf dX6_mutex_52 fl_6_67 ?_
          refine ev_iconst (v := 4) dX6_mutex_55 rfl ?_
          refine ev_icmp_lt (tgt := 69) dX6_mutex_56 rfl (fun c56 => ?_) (fun c56 => ?_)
          · exact absurd ⟨Classical.not_not.mp c48, (nI_ltI (by omega) (by omega)).mp (show nI (K.2 0 1) < nI 4 from c56)⟩ h1
          · exact ev_thr th_X6_mutex_59 (Nat.le_of_ble_eq_true rfl)
      · exact absurd (Classical.not_not.mp c31) hb
  refine ev_iload_n dX6_mutex_0 rfl ?_
  refine ev_iconst (v := 2) dX6_mutex_1 rfl ?_
  refine ev_icmp_ne (tgt := 15) dX6_mutex_2 rfl (fun c2 => ?_) (fun c2 => ?_)
  · refine ev_iconst (v := 1) dX6_mutex_15 rfl ?_
    refine ev_goto (tgt := 20) dX6_mutex_16 rfl ?_
    exact h20 1 (by decide)
  · refine ev_iload_n dX6_mutex_5 rfl ?_
    refine ev_iconst (v := 1) dX6_mutex_6 rfl ?_
    refine ev_bipush (v := 31) dX6_mutex_7 rfl ?_
    refine evS3 dX6_mutex_9 cl_X6_mutex_32 ⟨rfl, rfl, fun h => nomatch h⟩ (Nat.le_of_ble_eq_true rfl) (e_within _ _ _ _) ?_
    refine ev_if_eq (tgt := 19) dX6_mutex_12 rfl (fun c12 => ?_) (fun c12 => ?_)
    · exact absurd (ok.2.resolve_left (fun q => q (Classical.not_not.mp c2))) (bI_0.mp c12)
    · refine ev_iconst (v := 1) dX6_mutex_15 rfl ?_
      refine ev_goto (tgt := 20) dX6_mutex_16 rfl ?_
      exact h20 1 (by decide)
