/-! THE LAW'S OWN METHODS -/
theorem pu_out (K M : KT) (G : GT) (v : Int64) : setS (conc K M G) 17 0 0 (vL v) = conc K M (v, G.2) := by
  refine Prod.ext (funext fun t' => funext fun i' => funext fun k' => ?_) rfl
  show (if t' = 17 ∧ i' = 0 ∧ k' = 0 then _ else concF K M G t' i' k') = concF K M (v, G.2) t' i' k'
  by_cases ht : t' = 17
  · subst ht
    by_cases hi : i' = 0
    · subst hi
      by_cases hk : k' = 0
      · subst hk
        rfl
      · rw [if_neg (fun c => hk c.2.2)]
        simp [concF, cLow, hk]
    · rw [if_neg (fun c => hi c.2.1)]
      simp [concF, cLow, hi]
  · rw [if_neg (fun c => ht c.1)]
    simp only [concF, cLow, cMa1, cMa2, if_neg ht]
def oG (G : GT) (v : Int64) : GT := (v, G.2)
theorem l_cell (S : Sto) (x : Int32) (h0 : 0 < S.2 102 → S.1 18 0 0 = vI x) (h1 : ¬ 0 < S.2 102 → x = 0) (hL : S.2 102 < 2 ^ 31) : Ev M_L_cell 0 (ent M_L_cell [vR 18 0, vI 0]) [] S (0, some (vI x), S) := by
  show Ev M_L_cell 0 [vR 18 0, vI 0] [] S _
  refine ev_iload_n dL_cell_0 rfl ?_
  refine ev_aload_n dL_cell_1 rfl rfl ?_
  refine ev_alen dL_cell_2 rfl ?_
  refine ev_icmp_ge (tgt := 12) dL_cell_3 rfl (fun c3 => ?_) (fun c3 => ?_)
  · have q : ¬ 0 < S.2 102 := fun q => nI_ge (a := 0) (b := S.2 102) q hL c3
    refine ev_iconst (v := 0) dL_cell_12 rfl ?_
    rw [h1 q]
    exact ev_iret dL_cell_13 (Or.inl rfl)
  · have q : 0 < S.2 102 := Classical.not_not.mp (fun q => c3 (nI_le (a := S.2 102) (b := 0) (by omega) (by omega)))
    refine ev_aload_n dL_cell_6 rfl rfl ?_
    refine ev_iload_n dL_cell_7 rfl ?_
    refine ev_ialdv dL_cell_8 rfl ((rfl : (0 : Int32) = nI 0)) q ((h0 q)) ?_
    refine ev_goto (tgt := 13) dL_cell_9 rfl ?_
    skip
    exact ev_iret dL_cell_13 (Or.inl rfl)
theorem l_task (K M : KT) (G : GT) (p e f d b v : Int32) (K2 : KT) (G2 : GT) (h : Ev M_X6_task 0 (ent M_X6_task [vR 7 0, vI p, vI e, vI f, vI d, vI b]) [] (conc K M G) (0, some (vI v), conc K2 M G2)) : Ev M_L_task 0 (ent M_L_task [vR 7 0, vI p, vI e, vI f, vI d, vI b, vR 17 0]) [] (conc K M G) (0, some (vI 0), conc K2 M (oG G2 v.toInt64)) := by
  show Ev M_L_task 0 [vR 7 0, vI p, vI e, vI f, vI d, vI b, vR 17 0, vU] [] (conc K M G) _
  refine ev_aload dL_task_0 rfl rfl ?_
  refine ev_iconst (v := 0) dL_task_2 rfl ?_
  refine ev_aload_n dL_task_3 rfl rfl ?_
  refine ev_iload_n dL_task_4 rfl ?_
  refine ev_iload_n dL_task_5 rfl ?_
  refine ev_iload_n dL_task_6 rfl ?_
  refine ev_iload dL_task_7 rfl ?_
  refine ev_iload dL_task_9 rfl ?_
  refine evV6 dL_task_11 cl_L_task_7 ⟨rfl, rfl, fun _ => ⟨_, rfl⟩⟩ (Nat.le_of_ble_eq_true rfl) h ?_
  refine ev_i2l dL_task_14 ?_
  refine ev_lastS dL_task_15 rfl ((rfl : (0 : Int32) = nI 0)) (show _ < 1 from Nat.zero_lt_one) (pu_out _ _ _ _) ?_
  refine ev_goto (tgt := 27) dL_task_16 rfl ?_
  refine ev_iconst (v := 0) dL_task_27 rfl ?_
  exact ev_iret dL_task_28 (Or.inl rfl)
theorem l_taskX (K M : KT) (G : GT) (p e f d b : Int32) (E : Nat) (hE : E = 1 ∨ E = 2) (h : Ev M_X6_task 0 (ent M_X6_task [vR 7 0, vI p, vI e, vI f, vI d, vI b]) [] (conc K M G) (E, some (vR 19 (G.2.2 3)), conc K M (exG G))) : Ev M_L_task 0 (ent M_L_task [vR 7 0, vI p, vI e, vI f, vI d, vI b, vR 17 0]) [] (conc K M G) (0, some (vI (nI E)), conc K M (exG G)) := by
  show Ev M_L_task 0 [vR 7 0, vI p, vI e, vI f, vI d, vI b, vR 17 0, vU] [] (conc K M G) _
  rcases hE with hE | hE
  · subst hE
    refine ev_aload dL_task_0 rfl rfl ?_
    refine ev_iconst (v := 0) dL_task_2 rfl ?_
    refine ev_aload_n dL_task_3 rfl rfl ?_
    refine ev_iload_n dL_task_4 rfl ?_
    refine ev_iload_n dL_task_5 rfl ?_
    refine ev_iload_n dL_task_6 rfl ?_
    refine ev_iload dL_task_7 rfl ?_
    refine ev_iload dL_task_9 rfl ?_
    refine evX6 dL_task_11 cl_L_task_7 ⟨rfl, rfl, fun _ => ⟨_, rfl⟩⟩ (Nat.le_of_ble_eq_true rfl) ⟨rfl, Or.inl ⟨rfl, _, _, _, rfl, by decide, by decide⟩⟩ h ?_
    refine ev_astore dL_task_19 rfl rfl ?_
    refine ev_iconst (v := 1) dL_task_21 rfl ?_
    exact ev_iret dL_task_22 (Or.inl rfl)
  · subst hE
    refine ev_aload dL_task_0 rfl rfl ?_
    refine ev_iconst (v := 0) dL_task_2 rfl ?_
    refine ev_aload_n dL_task_3 rfl rfl ?_
    refine ev_iload_n dL_task_4 rfl ?_
    refine ev_iload_n dL_task_5 rfl ?_
    refine ev_iload_n dL_task_6 rfl ?_
    refine ev_iload dL_task_7 rfl ?_
    refine ev_iload dL_task_9 rfl ?_
    refine evX6 dL_task_11 cl_L_task_7 ⟨rfl, rfl, fun _ => ⟨_, rfl⟩⟩ (Nat.le_of_ble_eq_true rfl) ⟨rfl, Or.inr (Or.inr ⟨rfl, _, _, _, _, _, _, rfl, by decide, by decide⟩)⟩ h ?_
    refine ev_astore dL_task_23 rfl rfl ?_
    refine ev_iconst (v := 2) dL_task_25 rfl ?_
    exact ev_iret dL_task_26 (Or.inl rfl)
theorem l_mutex (K M : KT) (G : GT) (p c v : Int32) (K2 : KT) (G2 : GT) (h : Ev M_X6_mutex 0 (ent M_X6_mutex [vR 7 0, vI p, vI c]) [] (conc K M G) (0, some (vI v), conc K2 M G2)) : Ev M_L_mutex 0 (ent M_L_mutex [vR 7 0, vI p, vI c, vR 17 0]) [] (conc K M G) (0, some (vI 0), conc K2 M (oG G2 v.toInt64)) := by
  show Ev M_L_mutex 0 [vR 7 0, vI p, vI c, vR 17 0, vU] [] (conc K M G) _
  refine ev_aload_n dL_mutex_0 rfl rfl ?_
  refine ev_iconst (v := 0) dL_mutex_1 rfl ?_
  refine ev_aload_n dL_mutex_2 rfl rfl ?_
  refine ev_iload_n dL_mutex_3 rfl ?_
  refine ev_iload_n dL_mutex_4 rfl ?_
  refine evV3 dL_mutex_5 cl_L_mutex_17 ⟨rfl, rfl, fun _ => ⟨_, rfl⟩⟩ (Nat.le_of_ble_eq_true rfl) h ?_
  refine ev_i2l dL_mutex_8 ?_
  refine ev_lastS dL_mutex_9 rfl ((rfl : (0 : Int32) = nI 0)) (show _ < 1 from Nat.zero_lt_one) (pu_out _ _ _ _) ?_
  refine ev_goto (tgt := 21) dL_mutex_10 rfl ?_
  refine ev_iconst (v := 0) dL_mutex_21 rfl ?_
  exact ev_iret dL_mutex_22 (Or.inl rfl)
theorem l_mutexX (K M : KT) (G : GT) (p c : Int32) (E : Nat) (hE : E = 1 ∨ E = 2) (h : Ev M_X6_mutex 0 (ent M_X6_mutex [vR 7 0, vI p, vI c]) [] (conc K M G) (E, some (vR 19 (G.2.2 3)), conc K M (exG G))) : Ev M_L_mutex 0 (ent M_L_mutex [vR 7 0, vI p, vI c, vR 17 0]) [] (conc K M G) (0, some (vI (nI E)), conc K M (exG G)) := by
  show Ev M_L_mutex 0 [vR 7 0, vI p, vI c, vR 17 0, vU] [] (conc K M G) _
  rcases hE with hE | hE
  · subst hE
    refine ev_aload_n dL_mutex_0 rfl rfl ?_
    refine ev_iconst (v := 0) dL_mutex_1 rfl ?_
    refine ev_aload_n dL_mutex_2 rfl rfl ?_
    refine ev_iload_n dL_mutex_3 rfl ?_
    refine ev_iload_n dL_mutex_4 rfl ?_
    refine evX3 dL_mutex_5 cl_L_mutex_17 ⟨rfl, rfl, fun _ => ⟨_, rfl⟩⟩ (Nat.le_of_ble_eq_true rfl) ⟨rfl, Or.inl ⟨rfl, _, _, _, rfl, by decide, by decide⟩⟩ h ?_
    refine ev_astore dL_mutex_13 rfl rfl ?_
    refine ev_iconst (v := 1) dL_mutex_15 rfl ?_
    exact ev_iret dL_mutex_16 (Or.inl rfl)
  · subst hE
    refine ev_aload_n dL_mutex_0 rfl rfl ?_
    refine ev_iconst (v := 0) dL_mutex_1 rfl ?_
    refine ev_aload_n dL_mutex_2 rfl rfl ?_
    refine ev_iload_n dL_mutex_3 rfl ?_
    refine ev_iload_n dL_mutex_4 rfl ?_
    refine evX3 dL_mutex_5 cl_L_mutex_17 ⟨rfl, rfl, fun _ => ⟨_, rfl⟩⟩ (Nat.le_of_ble_eq_true rfl) ⟨rfl, Or.inr (Or.inr ⟨rfl, _, _, _, _, _, _, rfl, by decide, by decide⟩)⟩ h ?_
    refine ev_astore dL_mutex_17 rfl rfl ?_
    refine ev_iconst (v := 2) dL_mutex_19 rfl ?_
    exact ev_iret dL_mutex_20 (Or.inl rfl)
theorem l_step (K M : KT) (G : GT) (t p c v : Int32) (K2 : KT) (G2 : GT) (h : Ev M_X6_step 0 (ent M_X6_step [vR 7 0, vI t, vI p, vI c]) [] (conc K M G) (0, some (vI v), conc K2 M G2)) : Ev M_L_step 0 (ent M_L_step [vR 7 0, vI t, vI p, vI c, vR 17 0]) [] (conc K M G) (0, some (vI 0), conc K2 M (oG G2 v.toInt64)) := by
  show Ev M_L_step 0 [vR 7 0, vI t, vI p, vI c, vR 17 0, vU] [] (conc K M G) _
  refine ev_aload dL_step_0 rfl rfl ?_
  refine ev_iconst (v := 0) dL_step_2 rfl ?_
  refine ev_aload_n dL_step_3 rfl rfl ?_
  refine ev_iload_n dL_step_4 rfl ?_
  refine ev_iload_n dL_step_5 rfl ?_
  refine ev_iload_n dL_step_6 rfl ?_
  refine evV4 dL_step_7 cl_L_step_21 ⟨rfl, rfl, fun _ => ⟨_, rfl⟩⟩ (Nat.le_of_ble_eq_true rfl) h ?_
  refine ev_i2l dL_step_10 ?_
  refine ev_lastS dL_step_11 rfl ((rfl : (0 : Int32) = nI 0)) (show _ < 1 from Nat.zero_lt_one) (pu_out _ _ _ _) ?_
  refine ev_goto (tgt := 23) dL_step_12 rfl ?_
  refine ev_iconst (v := 0) dL_step_23 rfl ?_
  exact ev_iret dL_step_24 (Or.inl rfl)
theorem l_stepX (K M : KT) (G : GT) (t p c : Int32) (E : Nat) (hE : E = 1 ∨ E = 2) (h : Ev M_X6_step 0 (ent M_X6_step [vR 7 0, vI t, vI p, vI c]) [] (conc K M G) (E, some (vR 19 (G.2.2 3)), conc K M (exG G))) : Ev M_L_step 0 (ent M_L_step [vR 7 0, vI t, vI p, vI c, vR 17 0]) [] (conc K M G) (0, some (vI (nI E)), conc K M (exG G)) := by
  show Ev M_L_step 0 [vR 7 0, vI t, vI p, vI c, vR 17 0, vU] [] (conc K M G) _
  rcases hE with hE | hE
  · subst hE
    refine ev_aload dL_step_0 rfl rfl ?_
    refine ev_iconst (v := 0) dL_step_2 rfl ?_
    refine ev_aload_n dL_step_3 rfl rfl ?_
    refine ev_iload_n dL_step_4 rfl ?_
    refine ev_iload_n dL_step_5 rfl ?_
    refine ev_iload_n dL_step_6 rfl ?_
    refine evX4 dL_step_7 cl_L_step_21 ⟨rfl, rfl, fun _ => ⟨_, rfl⟩⟩ (Nat.le_of_ble_eq_true rfl) ⟨rfl, Or.inl ⟨rfl, _, _, _, rfl, by decide, by decide⟩⟩ h ?_
    refine ev_astore dL_step_15 rfl rfl ?_
    refine ev_iconst (v := 1) dL_step_17 rfl ?_
    exact ev_iret dL_step_18 (Or.inl rfl)
  · subst hE
    refine ev_aload dL_step_0 rfl rfl ?_
    refine ev_iconst (v := 0) dL_step_2 rfl ?_
    refine ev_aload_n dL_step_3 rfl rfl ?_
    refine ev_iload_n dL_step_4 rfl ?_
    refine ev_iload_n dL_step_5 rfl ?_
    refine ev_iload_n dL_step_6 rfl ?_
    refine evX4 dL_step_7 cl_L_step_21 ⟨rfl, rfl, fun _ => ⟨_, rfl⟩⟩ (Nat.le_of_ble_eq_true rfl) ⟨rfl, Or.inr (Or.inr ⟨rfl, _, _, _, _, _, _, rfl, by decide, by decide⟩)⟩ h ?_
    refine ev_astore dL_step_19 rfl rfl ?_
    refine ev_iconst (v := 2) dL_step_21 rfl ?_
    exact ev_iret dL_step_22 (Or.inl rfl)
theorem l_start (K M : KT) (G : GT) (K2 : KT) (G2 : GT) (h : Ev M_X6_start 0 (ent M_X6_start [vR 7 0]) [] (conc K M G) (0, none, conc K2 M G2)) : Ev M_L_start 0 (ent M_L_start [vR 7 0]) [] (conc K M G) (0, some (vI 0), conc K2 M G2) := by
  show Ev M_L_start 0 [vR 7 0, vU] [] (conc K M G) _
  refine ev_aload_n dL_start_0 rfl rfl ?_
  refine evV1 dL_start_1 cl_L_start_25 ⟨rfl, rfl, fun _ => ⟨_, rfl⟩⟩ (Nat.le_of_ble_eq_true rfl) h ?_
  refine ev_goto (tgt := 10) dL_start_4 rfl ?_
  refine ev_iconst (v := 0) dL_start_10 rfl ?_
  exact ev_iret dL_start_11 (Or.inl rfl)
theorem l_startX (K M : KT) (G : GT) (h : Ev M_X6_start 0 (ent M_X6_start [vR 7 0]) [] (conc K M G) (2, some (vR 19 (G.2.2 3)), conc K M (exG G))) : Ev M_L_start 0 (ent M_L_start [vR 7 0]) [] (conc K M G) (0, some (vI 1), conc K M (exG G)) := by
  show Ev M_L_start 0 [vR 7 0, vU] [] (conc K M G) _
  refine ev_aload_n dL_start_0 rfl rfl ?_
  refine evX1 dL_start_1 cl_L_start_25 ⟨rfl, rfl, fun _ => ⟨_, rfl⟩⟩ (Nat.le_of_ble_eq_true rfl) ⟨rfl, Or.inr (Or.inl ⟨rfl, _, _, _, rfl, by decide, by decide⟩)⟩ h ?_
  refine ev_astore_n dL_start_7 rfl rfl ?_
  refine ev_iconst (v := 1) dL_start_8 rfl ?_
  exact ev_iret dL_start_9 (Or.inl rfl)
theorem l_tick (K M : KT) (G : GT) (x v : Int32) (K2 : KT) (G2 : GT) (h : Ev M_X6_tick 0 (ent M_X6_tick [vR 7 0, vI x]) [] (conc K M G) (0, some (vI v), conc K2 M G2)) : Ev M_L_tick 0 (ent M_L_tick [vR 7 0, vI x, vR 17 0]) [] (conc K M G) (0, some (vI 0), conc K2 M (oG G2 v.toInt64)) := by
  show Ev M_L_tick 0 [vR 7 0, vI x, vR 17 0, vU] [] (conc K M G) _
  refine ev_aload_n dL_tick_0 rfl rfl ?_
  refine ev_iconst (v := 0) dL_tick_1 rfl ?_
  refine ev_aload_n dL_tick_2 rfl rfl ?_
  refine ev_iload_n dL_tick_3 rfl ?_
  refine evV2 dL_tick_4 cl_L_tick_28 ⟨rfl, rfl, fun _ => ⟨_, rfl⟩⟩ (Nat.le_of_ble_eq_true rfl) h ?_
  refine ev_i2l dL_tick_7 ?_
  refine ev_lastS dL_tick_8 rfl ((rfl : (0 : Int32) = nI 0)) (show _ < 1 from Nat.zero_lt_one) (pu_out _ _ _ _) ?_
  refine ev_goto (tgt := 18) dL_tick_9 rfl ?_
  refine ev_iconst (v := 0) dL_tick_18 rfl ?_
  exact ev_iret dL_tick_19 (Or.inl rfl)
theorem l_tickX (K M : KT) (G : GT) (x : Int32) (E : Nat) (hE : E = 1 ∨ E = 2) (h : Ev M_X6_tick 0 (ent M_X6_tick [vR 7 0, vI x]) [] (conc K M G) (E, some (vR 19 (G.2.2 3)), conc K M (exG G))) : Ev M_L_tick 0 (ent M_L_tick [vR 7 0, vI x, vR 17 0]) [] (conc K M G) (0, some (vI (nI E)), conc K M (exG G)) := by
  show Ev M_L_tick 0 [vR 7 0, vI x, vR 17 0, vU] [] (conc K M G) _
  rcases hE with hE | hE
  · subst hE
    refine ev_aload_n dL_tick_0 rfl rfl ?_
    refine ev_iconst (v := 0) dL_tick_1 rfl ?_
    refine ev_aload_n dL_tick_2 rfl rfl ?_
    refine ev_iload_n dL_tick_3 rfl ?_
    refine evX2 dL_tick_4 cl_L_tick_28 ⟨rfl, rfl, fun _ => ⟨_, rfl⟩⟩ (Nat.le_of_ble_eq_true rfl) ⟨rfl, Or.inl ⟨rfl, _, _, _, rfl, by decide, by decide⟩⟩ h ?_
    refine ev_astore_n dL_tick_12 rfl rfl ?_
    refine ev_iconst (v := 1) dL_tick_13 rfl ?_
    exact ev_iret dL_tick_14 (Or.inl rfl)
  · subst hE
    refine ev_aload_n dL_tick_0 rfl rfl ?_
    refine ev_iconst (v := 0) dL_tick_1 rfl ?_
    refine ev_aload_n dL_tick_2 rfl rfl ?_
    refine ev_iload_n dL_tick_3 rfl ?_
    refine evX2 dL_tick_4 cl_L_tick_28 ⟨rfl, rfl, fun _ => ⟨_, rfl⟩⟩ (Nat.le_of_ble_eq_true rfl) ⟨rfl, Or.inr (Or.inr ⟨rfl, _, _, _, _, _, _, rfl, by decide, by decide⟩)⟩ h ?_
    refine ev_astore_n dL_tick_15 rfl rfl ?_
    refine ev_iconst (v := 2) dL_tick_16 rfl ?_
    exact ev_iret dL_tick_17 (Or.inl rfl)
theorem l_response (K M : KT) (G : GT) (x v : Int32) (K2 : KT) (G2 : GT) (h : Ev M_X6_response 0 (ent M_X6_response [vR 7 0, vI x]) [] (conc K M G) (0, some (vI v), conc K2 M G2)) : Ev M_L_response 0 (ent M_L_response [vR 7 0, vI x, vR 17 0]) [] (conc K M G) (0, some (vI 0), conc K2 M (oG G2 v.toInt64)) := by
  show Ev M_L_response 0 [vR 7 0, vI x, vR 17 0, vU] [] (conc K M G) _
  refine ev_aload_n dL_response_0 rfl rfl ?_
  refine ev_iconst (v := 0) dL_response_1 rfl ?_
  refine ev_aload_n dL_response_2 rfl rfl ?_
  refine ev_iload_n dL_response_3 rfl ?_
  refine evV2 dL_response_4 cl_L_response_32 ⟨rfl, rfl, fun _ => ⟨_, rfl⟩⟩ (Nat.le_of_ble_eq_true rfl) h ?_
  refine ev_i2l dL_response_7 ?_
  refine ev_lastS dL_response_8 rfl ((rfl : (0 : Int32) = nI 0)) (show _ < 1 from Nat.zero_lt_one) (pu_out _ _ _ _) ?_
  refine ev_goto (tgt := 15) dL_response_9 rfl ?_
  refine ev_iconst (v := 0) dL_response_15 rfl ?_
  exact ev_iret dL_response_16 (Or.inl rfl)
theorem l_responseX (K M : KT) (G : GT) (x : Int32) (h : Ev M_X6_response 0 (ent M_X6_response [vR 7 0, vI x]) [] (conc K M G) (1, some (vR 19 (G.2.2 3)), conc K M (exG G))) : Ev M_L_response 0 (ent M_L_response [vR 7 0, vI x, vR 17 0]) [] (conc K M G) (0, some (vI 1), conc K M (exG G)) := by
  show Ev M_L_response 0 [vR 7 0, vI x, vR 17 0, vU] [] (conc K M G) _
  refine ev_aload_n dL_response_0 rfl rfl ?_
  refine ev_iconst (v := 0) dL_response_1 rfl ?_
  refine ev_aload_n dL_response_2 rfl rfl ?_
  refine ev_iload_n dL_response_3 rfl ?_
  refine evX2 dL_response_4 cl_L_response_32 ⟨rfl, rfl, fun _ => ⟨_, rfl⟩⟩ (Nat.le_of_ble_eq_true rfl) ⟨rfl, Or.inl ⟨rfl, _, _, _, rfl, by decide, by decide⟩⟩ h ?_
  refine ev_astore_n dL_response_12 rfl rfl ?_
  refine ev_iconst (v := 1) dL_response_13 rfl ?_
  exact ev_iret dL_response_14 (Or.inl rfl)
