/-! THE CLASS: a task -/
def bodyS (S : Sto) (i : Nat) : Sto := setS (newA (setS (newA S 10) 1 i 0 (vR 10 (S.2 10))) 11) 1 i 1 (vR 11 (S.2 11))
theorem e_X0_init (S : Sto) (i : Nat) : Ev M_X0_init 0 (ent M_X0_init [vR 1 i]) [] S (0, none, bodyS S i) := by
  show Ev M_X0_init 0 [vR 1 i] [] S _
  refine ev_aload_n dX0_init_0 rfl rfl ?_
  refine ev_objinit dX0_init_1 ml_0_3 (Nat.le_of_ble_eq_true rfl) rfl ?_
  refine ev_aload_n dX0_init_4 rfl rfl ?_
  refine ev_bipush (v := 10) dX0_init_5 rfl ?_
  refine ev_newa (t := 10) dX0_init_7 rfl (by decide) rfl ?_
  refine ev_putf dX0_init_9 fl_0_9 rfl rfl ?_
  refine ev_aload_n dX0_init_12 rfl rfl ?_
  refine ev_bipush (v := 10) dX0_init_13 rfl ?_
  refine ev_newa (t := 11) dX0_init_15 rfl (by decide) rfl ?_
  refine ev_putf dX0_init_17 fl_0_15 rfl rfl ?_
  exact ev_vret dX0_init_20 rfl
theorem e_X1_init (S : Sto) (i : Nat) : Ev M_X1_init 0 (ent M_X1_init [vR 2 i]) [] S (0, none, setS S 2 i 0 (vI 0)) := by
  show Ev M_X1_init 0 [vR 2 i] [] S _
  refine ev_aload_n dX1_init_0 rfl rfl ?_
  refine ev_objinit dX1_init_1 ml_1_3 (Nat.le_of_ble_eq_true rfl) rfl ?_
  refine ev_aload_n dX1_init_4 rfl rfl ?_
  refine ev_iconst (v := 0) dX1_init_5 rfl ?_
  refine ev_putf dX1_init_6 fl_1_9 rfl rfl ?_
  exact ev_vret dX1_init_9 rfl
theorem e_X4_init (S : Sto) (i : Nat) : Ev M_X4_init 0 (ent M_X4_init [vR 5 i]) [] S (0, none, S) := by
  show Ev M_X4_init 0 [vR 5 i] [] S _
  refine ev_aload_n dX4_init_0 rfl rfl ?_
  refine ev_objinit dX4_init_1 ml_4_1 (Nat.le_of_ble_eq_true rfl) rfl ?_
  exact ev_vret dX4_init_4 rfl
def taskS1 (S : Sto) (i : Nat) : Sto := setS (bodyS (newO S 1) (S.2 1)) 6 i 6 (vR 1 (S.2 1))
def taskS2 (S : Sto) (i : Nat) : Sto := setS (setS (newO (taskS1 S i) 2) 2 (S.2 2) 0 (vI 0)) 6 i 7 (vR 2 (S.2 2))
def taskS3 (S : Sto) (i : Nat) : Sto := setS (newO (taskS2 S i) 5) 6 i 8 (vR 5 (S.2 5))
def taskS (S : Sto) (i : Nat) (n p e f d b : Int32) : Sto := setS (setS (setS (setS (setS (setS (taskS3 S i) 6 i 0 (vI n)) 6 i 1 (vI p)) 6 i 2 (vI e)) 6 i 3 (vI f)) 6 i 4 (vI d)) 6 i 5 (vI b)
theorem e_X5_init (S : Sto) (i : Nat) (n p e f d b : Int32) : Ev M_X5_init 0 (ent M_X5_init [vR 6 i, vI n, vI p, vI e, vI f, vI d, vI b]) [] S (0, none, taskS S i n p e f d b) := by
  show Ev M_X5_init 0 [vR 6 i, vI n, vI p, vI e, vI f, vI d, vI b] [] S _
  refine ev_aload_n dX5_init_0 rfl rfl ?_
  refine ev_objinit dX5_init_1 ml_5_3 (Nat.le_of_ble_eq_true rfl) rfl ?_
  refine ev_aload_n dX5_init_4 rfl rfl ?_
  refine ev_new dX5_init_5 no_5_9 ?_
  refine ev_dup dX5_init_8 rfl ?_
  refine evI1 dX5_init_9 cl_X5_init_11 ⟨rfl, rfl, fun _ => ⟨_, rfl⟩⟩ (Nat.le_of_ble_eq_true rfl) (e_X0_init _ _) ?_
  refine ev_putf dX5_init_12 fl_5_12 rfl rfl ?_
  refine ev_aload_n dX5_init_15 rfl rfl ?_
  refine ev_new dX5_init_16 no_5_18 ?_
  refine ev_dup dX5_init_19 rfl ?_
  refine evI1 dX5_init_20 cl_X5_init_20 ⟨rfl, rfl, fun _ => ⟨_, rfl⟩⟩ (Nat.le_of_ble_eq_true rfl) (e_X1_init _ _) ?_
  refine ev_putf dX5_init_23 fl_5_21 rfl rfl ?_
  refine ev_aload_n dX5_init_26 rfl rfl ?_
  refine ev_new dX5_init_27 no_5_25 ?_
  refine ev_dup dX5_init_30 rfl ?_
  refine evI1 dX5_init_31 cl_X5_init_27 ⟨rfl, rfl, fun _ => ⟨_, rfl⟩⟩ (Nat.le_of_ble_eq_true rfl) (e_X4_init _ _) ?_
  refine ev_putf dX5_init_34 fl_5_28 rfl rfl ?_
  refine ev_aload_n dX5_init_37 rfl rfl ?_
  refine ev_iload_n dX5_init_38 rfl ?_
  refine ev_putf dX5_init_39 fl_5_32 rfl rfl ?_
  refine ev_aload_n dX5_init_42 rfl rfl ?_
  refine ev_iload_n dX5_init_43 rfl ?_
  refine ev_putf dX5_init_44 fl_5_36 rfl rfl ?_
  refine ev_aload_n dX5_init_47 rfl rfl ?_
  refine ev_iload_n dX5_init_48 rfl ?_
  refine ev_putf dX5_init_49 fl_5_39 rfl rfl ?_
  refine ev_aload_n dX5_init_52 rfl rfl ?_
  refine ev_iload dX5_init_53 rfl ?_
  refine ev_putf dX5_init_55 fl_5_42 rfl rfl ?_
  refine ev_aload_n dX5_init_58 rfl rfl ?_
  refine ev_iload dX5_init_59 rfl ?_
  refine ev_putf dX5_init_61 fl_5_45 rfl rfl ?_
  refine ev_aload_n dX5_init_64 rfl rfl ?_
  refine ev_iload dX5_init_65 rfl ?_
  refine ev_putf dX5_init_67 fl_5_48 rfl rfl ?_
  exact ev_vret dX5_init_70 rfl
abbrev taskOk (p e f d b : Int32) : Prop := (e = 0 ∨ (2 ≤ e ∧ e ≤ 200)) ∧ (1 ≤ p ∧ p ≤ 31) ∧ (0 ≤ f ∧ f ≤ 50) ∧ (1 ≤ d ∧ d ≤ 200) ∧ (1 ≤ b ∧ b ≤ 200)
def taskK (K : KT) (p e f d b : Int32) : KT := sN (sN (sI (sI (sI (sI (sI K 0 (K.2 0 0) p) 1 (K.2 0 0) e) 2 (K.2 0 0) f) 3 (K.2 0 0) d) 4 (K.2 0 0) b) 3 (K.2 0 0) 0) 0 0 (K.2 0 0 + 1)
/-- what is not a task's yet holds zeros -/
def Fr1 (K : KT) (i : Nat) : Prop := (K.1 5 i = 0 ∧ K.1 6 i = 0 ∧ K.1 7 i = 0 ∧ K.1 8 i = 0 ∧ K.1 9 i = 0 ∧ K.1 10 i = 0 ∧ K.1 11 i = 0 ∧ K.1 12 i = 0) ∧ (K.1 15 i = 0 ∧ K.1 16 i = 0 ∧ K.1 17 i = 0 ∧ K.1 18 i = 0 ∧ K.1 19 i = 0 ∧ K.1 20 i = 0) ∧ K.2 1 i = 0 ∧ K.2 2 i = 0 ∧ (∀ k, k < 10 → K.1 26 (10 * i + k) = 0 ∧ K.1 27 (10 * i + k) = 0)
def Fr (K : KT) : Prop := ∀ i, K.2 0 0 ≤ i → Fr1 K i
theorem task_eq (K M : KT) (G : GT) (p e f d b : Int32) (hf : Fr1 K (K.2 0 0)) : EqS (setS (setS (taskS (newO (conc K M G) 6) (K.2 0 0) (nI (K.2 0 0)) p e f d b) 15 0 (K.2 0 0) (vR 6 (K.2 0 0))) 7 0 4 (vI (nI (K.2 0 0) + 1))) (conc (taskK K p e f d b) M (mkG G 6 48)) := by
  obtain ⟨⟨f5, f6, f7, f8, f9, f10, f11, f12⟩, ⟨f15, f16, f17, f18, f19, f20⟩, g1, g2, g3⟩ := hf
  refine ⟨funext fun t => ?_, fun t i k hi hk => ?_⟩
  · show bump (bump (bump (bump (bump (bump (concC K G) 6 10) 1 3) 10 10) 11 10) 2 9) 5 6 t = concC (taskK K p e f d b) (mkG G 6 48) t
    unfold bump
    by_cases h5 : t = 5
    · subst h5; rfl
    by_cases h2 : t = 2
    · subst h2; rfl
    by_cases h11 : t = 11
    · subst h11; rfl
    by_cases h10 : t = 10
    · subst h10; rfl
    by_cases h1 : t = 1
    · subst h1; rfl
    by_cases h6 : t = 6
    · subst h6; rfl
    by_cases hc : t = 100
    · subst hc; rfl
    by_cases hs : t = 101
    · subst hs; rfl
    simp only [if_neg h5, if_neg h2, if_neg h11, if_neg h10, if_neg h1, if_neg h6, if_neg hc, if_neg hs, concC]
    rfl
  · by_cases h7 : t = 7
    · subst h7
      have hi0 : i = 0 := by have : i < 1 := hi; omega
      subst hi0
      by_cases hk4 : k = 4
      · subst hk4
        show vI (nI (K.2 0 0) + 1) = vI (nI (K.2 0 0 + 1))
        rw [nI_1]
      · simp [setS, taskS, taskS1, taskS2, taskS3, bodyS, newO, newA, hk4, concF, cLow, conc, cKer, taskK, sI, sN]
    by_cases h15 : t = 15
    · subst h15
      have hi0 : i = 0 := by have : i < 1 := hi; omega
      subst hi0
      by_cases hkn : k = K.2 0 0
      · subst hkn
        simp [setS, taskS, taskS1, taskS2, taskS3, bodyS, newO, newA, concF, cLow, conc, taskK, sI, sN]
      · have e1 : (k < K.2 0 0 + 1) ↔ k < K.2 0 0 := by omega
        simp [setS, taskS, taskS1, taskS2, taskS3, bodyS, newO, newA, concF, cLow, conc, taskK, sI, sN, hkn, e1]
    by_cases h6 : t = 6
    · subst h6
      have hk6 : k < 10 := hk
      by_cases hin : i = K.2 0 0
      · subst hin
        match k, hk6 with
        | 0, _ => simp [setS, taskS, taskS1, taskS2, taskS3, bodyS, newO, newA, concF, cLow, conc, cTask, taskK, sI, sN]
        | 1, _ => simp [setS, taskS, taskS1, taskS2, taskS3, bodyS, newO, newA, concF, cLow, conc, cTask, taskK, sI, sN]
        | 2, _ => simp [setS, taskS, taskS1, taskS2, taskS3, bodyS, newO, newA, concF, cLow, conc, cTask, taskK, sI, sN]
        | 3, _ => simp [setS, taskS, taskS1, taskS2, taskS3, bodyS, newO, newA, concF, cLow, conc, cTask, taskK, sI, sN]
        | 4, _ => simp [setS, taskS, taskS1, taskS2, taskS3, bodyS, newO, newA, concF, cLow, conc, cTask, taskK, sI, sN]
        | 5, _ => simp [setS, taskS, taskS1, taskS2, taskS3, bodyS, newO, newA, concF, cLow, conc, cTask, taskK, sI, sN]
        | 6, _ => simp [setS, taskS, taskS1, taskS2, taskS3, bodyS, newO, newA, concF, concC, bump, cLow, conc, cTask, taskK, sI, sN]
        | 7, _ => simp [setS, taskS, taskS1, taskS2, taskS3, bodyS, newO, newA, concF, concC, bump, cLow, conc, cTask, taskK, sI, sN]
        | 8, _ => simp [setS, taskS, taskS1, taskS2, taskS3, bodyS, newO, newA, concF, concC, bump, cLow, conc, cTask, taskK, sI, sN]
        | 9, _ => simp [setS, taskS, taskS1, taskS2, taskS3, bodyS, newO, newA, concF, concC, bump, cLow, conc, cTask, taskK, sI, sN, dflt, tyT, tyX5, f5]
        | k + 10, h => omega
      · simp [setS, taskS, taskS1, taskS2, taskS3, bodyS, newO, newA, concF, concC, bump, cLow, conc, cTask, taskK, sI, sN, hin]
    by_cases h1 : t = 1
    · subst h1
      have hk3 : k < 3 := hk
      by_cases hin : i = K.2 0 0
      · subst hin
        match k, hk3 with
        | 0, _ => simp [setS, taskS, taskS1, taskS2, taskS3, bodyS, newO, newA, concF, concC, bump, cLow, conc, cBody, taskK, sI, sN]
        | 1, _ => simp [setS, taskS, taskS1, taskS2, taskS3, bodyS, newO, newA, concF, concC, bump, cLow, conc, cBody, taskK, sI, sN]
        | 2, _ => simp [setS, taskS, taskS1, taskS2, taskS3, bodyS, newO, newA, concF, concC, bump, cLow, conc, cBody, taskK, sI, sN, dflt, tyT, tyX0, g2, nI_0]
        | k + 3, h => omega
      · simp [setS, taskS, taskS1, taskS2, taskS3, bodyS, newO, newA, concF, concC, bump, cLow, conc, cBody, taskK, sI, sN, hin]
    by_cases h2 : t = 2
    · subst h2
      have hk9 : k < 9 := hk
      by_cases hin : i = K.2 0 0
      · subst hin
        match k, hk9 with
        | 0, _ => simp [setS, taskS, taskS1, taskS2, taskS3, bodyS, newO, newA, concF, concC, bump, cLow, conc, cJob, taskK, sI, sN, dflt, tyT, tyX1, f6]
        | 1, _ => simp [setS, taskS, taskS1, taskS2, taskS3, bodyS, newO, newA, concF, concC, bump, cLow, conc, cJob, taskK, sI, sN, dflt, tyT, tyX1, g1, nI_0]
        | 2, _ => simp [setS, taskS, taskS1, taskS2, taskS3, bodyS, newO, newA, concF, concC, bump, cLow, conc, cJob, taskK, sI, sN, dflt, tyT, tyX1, f7]
        | 3, _ => simp [setS, taskS, taskS1, taskS2, taskS3, bodyS, newO, newA, concF, concC, bump, cLow, conc, cJob, taskK, sI, sN, dflt, tyT, tyX1, f8]
        | 4, _ => simp [setS, taskS, taskS1, taskS2, taskS3, bodyS, newO, newA, concF, concC, bump, cLow, conc, cJob, taskK, sI, sN, dflt, tyT, tyX1, f9]
        | 5, _ => simp [setS, taskS, taskS1, taskS2, taskS3, bodyS, newO, newA, concF, concC, bump, cLow, conc, cJob, taskK, sI, sN, dflt, tyT, tyX1, f10]
        | 6, _ => simp [setS, taskS, taskS1, taskS2, taskS3, bodyS, newO, newA, concF, concC, bump, cLow, conc, cJob, taskK, sI, sN, dflt, tyT, tyX1, f11]
        | 7, _ => simp [setS, taskS, taskS1, taskS2, taskS3, bodyS, newO, newA, concF, concC, bump, cLow, conc, cJob, taskK, sI, sN, dflt, tyT, tyX1, rfq]
        | 8, _ => simp [setS, taskS, taskS1, taskS2, taskS3, bodyS, newO, newA, concF, concC, bump, cLow, conc, cJob, taskK, sI, sN, dflt, tyT, tyX1, f12]
        | k + 9, h => omega
      · simp [setS, taskS, taskS1, taskS2, taskS3, bodyS, newO, newA, concF, concC, bump, cLow, conc, cJob, taskK, sI, sN, hin]
    by_cases h5 : t = 5
    · subst h5
      have hk6 : k < 6 := hk
      by_cases hin : i = K.2 0 0
      · subst hin
        match k, hk6 with
        | 0, _ => simp [setS, taskS, taskS1, taskS2, taskS3, bodyS, newO, newA, concF, concC, bump, cLow, conc, cTal, taskK, sI, sN, dflt, tyT, tyX4, f15]
        | 1, _ => simp [setS, taskS, taskS1, taskS2, taskS3, bodyS, newO, newA, concF, concC, bump, cLow, conc, cTal, taskK, sI, sN, dflt, tyT, tyX4, f16]
        | 2, _ => simp [setS, taskS, taskS1, taskS2, taskS3, bodyS, newO, newA, concF, concC, bump, cLow, conc, cTal, taskK, sI, sN, dflt, tyT, tyX4, f17]
        | 3, _ => simp [setS, taskS, taskS1, taskS2, taskS3, bodyS, newO, newA, concF, concC, bump, cLow, conc, cTal, taskK, sI, sN, dflt, tyT, tyX4, f18]
        | 4, _ => simp [setS, taskS, taskS1, taskS2, taskS3, bodyS, newO, newA, concF, concC, bump, cLow, conc, cTal, taskK, sI, sN, dflt, tyT, tyX4, f19]
        | 5, _ => simp [setS, taskS, taskS1, taskS2, taskS3, bodyS, newO, newA, concF, concC, bump, cLow, conc, cTal, taskK, sI, sN, dflt, tyT, tyX4, f20]
        | k + 6, h => omega
      · simp [setS, taskS, taskS1, taskS2, taskS3, bodyS, newO, newA, concF, concC, bump, cLow, conc, cTal, taskK, sI, sN, hin]
    by_cases h10 : t = 10
    · subst h10
      have hk10 : k < 10 := hk
      by_cases hin : i = K.2 0 0
      · subst hin
        simp [setS, taskS, taskS1, taskS2, taskS3, bodyS, newO, newA, concF, concC, bump, cLow, conc, taskK, sI, sN, dflt, aTy, hk10, (g3 k hk10).1]
      · simp [setS, taskS, taskS1, taskS2, taskS3, bodyS, newO, newA, concF, concC, bump, cLow, conc, taskK, sI, sN, hin, hk10]
    by_cases h11 : t = 11
    · subst h11
      have hk10 : k < 10 := hk
      by_cases hin : i = K.2 0 0
      · subst hin
        simp [setS, taskS, taskS1, taskS2, taskS3, bodyS, newO, newA, concF, concC, bump, cLow, conc, taskK, sI, sN, dflt, aTy, hk10, (g3 k hk10).2]
      · simp [setS, taskS, taskS1, taskS2, taskS3, bodyS, newO, newA, concF, concC, bump, cLow, conc, taskK, sI, sN, hin, hk10]
    simp only [setS, taskS, taskS1, taskS2, taskS3, bodyS, newO, newA, h7, h15, h6, h1, h2, h5, h10, h11, false_and, if_false]
    show concF K M G t i k = concF (taskK K p e f d b) M (mkG G 6 48) t i k
    simp only [concF, cLow, if_neg h7, if_neg h15, if_neg h6, if_neg h1, if_neg h2, if_neg h5, if_neg h10, if_neg h11]
    rfl
theorem e_task (K M : KT) (G : GT) (p e f d b : Int32) (hn : K.2 0 0 < 8) (ok : taskOk p e f d b) (h1 : K.1 28 1 = 0) (hf : Fr1 K (K.2 0 0)) : Ev M_X6_task 0 (ent M_X6_task [vR 7 0, vI p, vI e, vI f, vI d, vI b]) [] (conc K M G) (0, some (vI (nI (K.2 0 0))), conc (taskK K p e f d b) M (mkG G 6 48)) := by
  show Ev M_X6_task 0 [vR 7 0, vI p, vI e, vI f, vI d, vI b, vU, vU] [] (conc K M G) _
  have h20 : ∀ c : Int32, ¬ c = 0 → Ev M_X6_task 20 [vR 7 0, vI p, vI e, vI f, vI d, vI b, vU, vU] [vI c] (conc K M G) (0, some (vI (nI (K.2 0 0))), conc (taskK K p e f d b) M (mkG G 6 48)) := by
    intro c hc
    refine ev_istore dX6_task_20 rfl ?_
    refine ev_iload dX6_task_22 rfl ?_
    refine ev_if_eq (tgt := 71) dX6_task_24 rfl (fun c24 => ?_) (fun c24 => ?_)
    · exact absurd c24 hc
    · refine ev_iload_n dX6_task_27 rfl ?_
      refine ev_iconst (v := 1) dX6_task_28 rfl ?_
      refine ev_bipush (v := 31) dX6_task_29 rfl ?_
      refine evS3 dX6_task_31 cl_X6_task_32 ⟨rfl, rfl, fun h => nomatch h⟩ (Nat.le_of_ble_eq_true rfl) (e_within _ _ _ _) ?_
      refine ev_if_eq (tgt := 71) dX6_task_34 rfl (fun c34 => ?_) (fun c34 => ?_)
      · exact absurd ok.2.1 (bI_0.mp c34)
      · refine ev_iload_n dX6_task_37 rfl ?_
        refine ev_iconst (v := 0) dX6_task_38 rfl ?_
        refine ev_bipush (v := 50) dX6_task_39 rfl ?_
        refine evS3 dX6_task_41 cl_X6_task_32 ⟨rfl, rfl, fun h => nomatch h⟩ (Nat.le_of_ble_eq_true rfl) (e_within _ _ _ _) ?_
        refine ev_if_eq (tgt := 71) dX6_task_44 rfl (fun c44 => ?_) (fun c44 => ?_)
        · exact absurd ok.2.2.1 (bI_0.mp c44)
        · refine ev_iload dX6_task_47 rfl ?_
          refine ev_iconst (v := 1) dX6_task_49 rfl ?_
          refine ev_sipush (v := 200) dX6_task_50 rfl ?_
          refine evS3 dX6_task_53 cl_X6_task_32 ⟨rfl, rfl, fun h => nomatch h⟩ (Nat.le_of_ble_eq_true rfl) (e_within _ _ _ _) ?_
          refine ev_if_eq (tgt := 71) dX6_task_56 rfl (fun c56 => ?_) (fun c56 => ?_)
          · exact absurd ok.2.2.2.1 (bI_0.mp c56)
          · refine ev_iload dX6_task_59 rfl ?_
            refine ev_iconst (v := 1) dX6_task_61 rfl ?_
            refine ev_sipush (v := 200) dX6_task_62 rfl ?_
            refine evS3 dX6_task_65 cl_X6_task_32 ⟨rfl, rfl, fun h => nomatch h⟩ (Nat.le_of_ble_eq_true rfl) (e_within _ _ _ _) ?_
            refine ev_if_ne (tgt := 81) dX6_task_68 rfl (fun c68 => ?_) (fun c68 => ?_)
            · refine ev_aload_n dX6_task_81 rfl rfl ?_
              refine ev_getf dX6_task_82 fl_6_43 ?_
              refine ev_if_ne (tgt := 97) dX6_task_85 rfl (fun c85 => ?_) (fun c85 => ?_)
              · exact absurd h1 c85
              · refine ev_aload_n dX6_task_88 rfl rfl ?_
                refine ev_getf dX6_task_89 fl_6_46 ?_
                refine ev_bipush (v := 8) dX6_task_92 rfl ?_
                refine ev_icmp_lt (tgt := 107) dX6_task_94 rfl (fun c94 => ?_) (fun c94 => ?_)
                · refine ev_aload_n dX6_task_107 rfl rfl ?_
                  refine ev_getf dX6_task_108 fl_6_46 ?_
                  refine ev_istore dX6_task_111 rfl ?_
                  refine ev_aload_n dX6_task_113 rfl rfl ?_
                  refine ev_getf dX6_task_114 fl_6_11 ?_
                  refine ev_iload dX6_task_117 rfl ?_
                  refine ev_new dX6_task_119 no_6_9 ?_
                  refine ev_dup dX6_task_122 rfl ?_
                  refine ev_iload dX6_task_123 rfl ?_
                  refine ev_iload_n dX6_task_125 rfl ?_
                  refine ev_iload_n dX6_task_126 rfl ?_
                  refine ev_iload_n dX6_task_127 rfl ?_
                  refine ev_iload dX6_task_128 rfl ?_
                  refine ev_iload dX6_task_130 rfl ?_
                  refine evI7 dX6_task_132 cl_X6_task_55 ⟨rfl, rfl, fun _ => ⟨_, rfl⟩⟩ (Nat.le_of_ble_eq_true rfl) (e_X5_init _ _ _ _ _ _ _ _) ?_
                  refine ev_aast dX6_task_135 rfl rfl (show _ < 8 from hn) ?_
                  refine ev_aload_n dX6_task_136 rfl rfl ?_
                  refine ev_dup dX6_task_137 rfl ?_
                  refine ev_getf dX6_task_138 fl_6_46 ?_
                  refine ev_iconst (v := 1) dX6_task_141 rfl ?_
                  refine ev_iadd dX6_task_142 ?_
                  refine ev_putf dX6_task_143 fl_6_46 rfl rfl ?_
                  refine ev_eqv (task_eq K M G p e f d b hf) ?_
                  refine ev_iload dX6_task_146 rfl ?_
                  exact ev_iret dX6_task_148 (Or.inl rfl)
                · exact absurd (nI_lt (a := K.2 0 0) (b := 8) hn (by omega)) c94
            · exact absurd ok.2.2.2.2 (bI_0.mp (Classical.not_not.mp c68))
  refine ev_iload_n dX6_task_0 rfl ?_
  refine ev_if_eq (tgt := 15) dX6_task_1 rfl (fun c1 => ?_) (fun c1 => ?_)
  · refine ev_iconst (v := 1) dX6_task_15 rfl ?_
    refine ev_goto (tgt := 20) dX6_task_16 rfl ?_
    exact h20 1 (by decide)
  · refine ev_iload_n dX6_task_4 rfl ?_
    refine ev_iconst (v := 2) dX6_task_5 rfl ?_
    refine ev_sipush (v := 200) dX6_task_6 rfl ?_
    refine evS3 dX6_task_9 cl_X6_task_32 ⟨rfl, rfl, fun h => nomatch h⟩ (Nat.le_of_ble_eq_true rfl) (e_within _ _ _ _) ?_
    refine ev_if_eq (tgt := 19) dX6_task_12 rfl (fun c12 => ?_) (fun c12 => ?_)
    · exact absurd (ok.1.resolve_left (fun q => c1 q)) (bI_0.mp c12)
    · refine ev_iconst (v := 1) dX6_task_15 rfl ?_
      refine ev_goto (tgt := 20) dX6_task_16 rfl ?_
      exact h20 1 (by decide)
theorem e_taskA (K M : KT) (G : GT) (p e f d b : Int32) (ok : ¬ taskOk p e f d b) : Ev M_X6_task 0 (ent M_X6_task [vR 7 0, vI p, vI e, vI f, vI d, vI b]) [] (conc K M G) (1, some (vR 19 (G.2.2 3)), conc K M (exG G)) := by
  show Ev M_X6_task 0 [vR 7 0, vI p, vI e, vI f, vI d, vI b, vU, vU] [] (conc K M G) _
  have h20 : ∀ c : Int32, (¬ c = 0 → (e = 0 ∨ (2 ≤ e ∧ e ≤ 200))) → Ev M_X6_task 20 [vR 7 0, vI p, vI e, vI f, vI d, vI b, vU, vU] [vI c] (conc K M G) (1, some (vR 19 (G.2.2 3)), conc K M (exG G)) := by
    intro c hc
    refine ev_istore dX6_task_20 rfl ?_
    refine ev_iload dX6_task_22 rfl ?_
    refine ev_if_eq (tgt := 71) dX6_task_24 rfl (fun c24 => ?_) (fun c24 => ?_)
    · exact ev_thr th_X6_task_71 (Nat.le_of_ble_eq_true rfl)
    · refine ev_iload_n dX6_task_27 rfl ?_
      refine ev_iconst (v := 1) dX6_task_28 rfl ?_
      refine ev_bipush (v := 31) dX6_task_29 rfl ?_
      refine evS3 dX6_task_31 cl_X6_task_32 ⟨rfl, rfl, fun h => nomatch h⟩ (Nat.le_of_ble_eq_true rfl) (e_within _ _ _ _) ?_
      refine ev_if_eq (tgt := 71) dX6_task_34 rfl (fun c34 => ?_) (fun c34 => ?_)
      · exact ev_thr th_X6_task_71 (Nat.le_of_ble_eq_true rfl)
      · refine ev_iload_n dX6_task_37 rfl ?_
        refine ev_iconst (v := 0) dX6_task_38 rfl ?_
        refine ev_bipush (v := 50) dX6_task_39 rfl ?_
        refine evS3 dX6_task_41 cl_X6_task_32 ⟨rfl, rfl, fun h => nomatch h⟩ (Nat.le_of_ble_eq_true rfl) (e_within _ _ _ _) ?_
        refine ev_if_eq (tgt := 71) dX6_task_44 rfl (fun c44 => ?_) (fun c44 => ?_)
        · exact ev_thr th_X6_task_71 (Nat.le_of_ble_eq_true rfl)
        · refine ev_iload dX6_task_47 rfl ?_
          refine ev_iconst (v := 1) dX6_task_49 rfl ?_
          refine ev_sipush (v := 200) dX6_task_50 rfl ?_
          refine evS3 dX6_task_53 cl_X6_task_32 ⟨rfl, rfl, fun h => nomatch h⟩ (Nat.le_of_ble_eq_true rfl) (e_within _ _ _ _) ?_
          refine ev_if_eq (tgt := 71) dX6_task_56 rfl (fun c56 => ?_) (fun c56 => ?_)
          · exact ev_thr th_X6_task_71 (Nat.le_of_ble_eq_true rfl)
          · refine ev_iload dX6_task_59 rfl ?_
            refine ev_iconst (v := 1) dX6_task_61 rfl ?_
            refine ev_sipush (v := 200) dX6_task_62 rfl ?_
            refine evS3 dX6_task_65 cl_X6_task_32 ⟨rfl, rfl, fun h => nomatch h⟩ (Nat.le_of_ble_eq_true rfl) (e_within _ _ _ _) ?_
            refine ev_if_ne (tgt := 81) dX6_task_68 rfl (fun c68 => ?_) (fun c68 => ?_)
            · exact absurd ⟨hc c24, Classical.not_not.mp (fun q => c34 (bI_f q)), Classical.not_not.mp (fun q => c44 (bI_f q)), Classical.not_not.mp (fun q => c56 (bI_f q)), Classical.not_not.mp (fun q => c68 (bI_f q))⟩ ok
            · exact ev_thr th_X6_task_71 (Nat.le_of_ble_eq_true rfl)
  refine ev_iload_n dX6_task_0 rfl ?_
  refine ev_if_eq (tgt := 15) dX6_task_1 rfl (fun c1 => ?_) (fun c1 => ?_)
  · refine ev_iconst (v := 1) dX6_task_15 rfl ?_
    refine ev_goto (tgt := 20) dX6_task_16 rfl ?_
    exact h20 1 (fun _ => Or.inl c1)
  · refine ev_iload_n dX6_task_4 rfl ?_
    refine ev_iconst (v := 2) dX6_task_5 rfl ?_
    refine ev_sipush (v := 200) dX6_task_6 rfl ?_
    refine evS3 dX6_task_9 cl_X6_task_32 ⟨rfl, rfl, fun h => nomatch h⟩ (Nat.le_of_ble_eq_true rfl) (e_within _ _ _ _) ?_
    refine ev_if_eq (tgt := 19) dX6_task_12 rfl (fun c12 => ?_) (fun c12 => ?_)
    · refine ev_iconst (v := 0) dX6_task_19 rfl ?_
      exact h20 0 (fun q => absurd rfl q)
    · refine ev_iconst (v := 1) dX6_task_15 rfl ?_
      refine ev_goto (tgt := 20) dX6_task_16 rfl ?_
      exact h20 1 (fun _ => Or.inr (Classical.not_not.mp (fun q => c12 (bI_f q))))
theorem e_taskS (K M : KT) (G : GT) (p e f d b : Int32) (hn : K.2 0 0 ≤ 8) (ok : taskOk p e f d b) (h1 : ¬ (K.1 28 1 = 0 ∧ K.2 0 0 < 8)) : Ev M_X6_task 0 (ent M_X6_task [vR 7 0, vI p, vI e, vI f, vI d, vI b]) [] (conc K M G) (2, some (vR 19 (G.2.2 3)), conc K M (exG G)) := by
  show Ev M_X6_task 0 [vR 7 0, vI p, vI e, vI f, vI d, vI b, vU, vU] [] (conc K M G) _
  have h20 : ∀ c : Int32, ¬ c = 0 → Ev M_X6_task 20 [vR 7 0, vI p, vI e, vI f, vI d, vI b, vU, vU] [vI c] (conc K M G) (2, some (vR 19 (G.2.2 3)), conc K M (exG G)) := by
    intro c hc
    refine ev_istore dX6_task_20 rfl ?_
    refine ev_iload dX6_task_22 rfl ?_
    refine ev_if_eq (tgt := 71) dX6_task_24 rfl (fun c24 => ?_) (fun c24 => ?_)
    · exact absurd c24 hc
    · refine ev_iload_n dX6_task_27 rfl ?_
      refine ev_iconst (v := 1) dX6_task_28 rfl ?_
      refine ev_bipush (v := 31) dX6_task_29 rfl ?_
      refine evS3 dX6_task_31 cl_X6_task_32 ⟨rfl, rfl, fun h => nomatch h⟩ (Nat.le_of_ble_eq_true rfl) (e_within _ _ _ _) ?_
      refine ev_if_eq (tgt := 71) dX6_task_34 rfl (fun c34 => ?_) (fun c34 => ?_)
      · exact absurd ok.2.1 (bI_0.mp c34)
      · refine ev_iload_n dX6_task_37 rfl ?_
        refine ev_iconst (v := 0) dX6_task_38 rfl ?_
        refine ev_bipush (v := 50) dX6_task_39 rfl ?_
        refine evS3 dX6_task_41 cl_X6_task_32 ⟨rfl, rfl, fun h => nomatch h⟩ (Nat.le_of_ble_eq_true rfl) (e_within _ _ _ _) ?_
        refine ev_if_eq (tgt := 71) dX6_task_44 rfl (fun c44 => ?_) (fun c44 => ?_)
        · exact absurd ok.2.2.1 (bI_0.mp c44)
        · refine ev_iload dX6_task_47 rfl ?_
          refine ev_iconst (v := 1) dX6_task_49 rfl ?_
          refine ev_sipush (v := 200) dX6_task_50 rfl ?_
          refine evS3 dX6_task_53 cl_X6_task_32 ⟨rfl, rfl, fun h => nomatch h⟩ (Nat.le_of_ble_eq_true rfl) (e_within _ _ _ _) ?_
          refine ev_if_eq (tgt := 71) dX6_task_56 rfl (fun c56 => ?_) (fun c56 => ?_)
          · exact absurd ok.2.2.2.1 (bI_0.mp c56)
          · refine ev_iload dX6_task_59 rfl ?_
            refine ev_iconst (v := 1) dX6_task_61 rfl ?_
            refine ev_sipush (v := 200) dX6_task_62 rfl ?_
            refine evS3 dX6_task_65 cl_X6_task_32 ⟨rfl, rfl, fun h => nomatch h⟩ (Nat.le_of_ble_eq_true rfl) (e_within _ _ _ _) ?_
            refine ev_if_ne (tgt := 81) dX6_task_68 rfl (fun c68 => ?_) (fun c68 => ?_)
            · refine ev_aload_n dX6_task_81 rfl rfl ?_
              refine ev_getf dX6_task_82 fl_6_43 ?_
              refine ev_if_ne (tgt := 97) dX6_task_85 rfl (fun c85 => ?_) (fun c85 => ?_)
              · exact ev_thr th_X6_task_97 (Nat.le_of_ble_eq_true rfl)
              · refine ev_aload_n dX6_task_88 rfl rfl ?_
                refine ev_getf dX6_task_89 fl_6_46 ?_
                refine ev_bipush (v := 8) dX6_task_92 rfl ?_
                refine ev_icmp_lt (tgt := 107) dX6_task_94 rfl (fun c94 => ?_) (fun c94 => ?_)
                · exact absurd ⟨Classical.not_not.mp c85, (nI_ltI (by omega) (by omega)).mp (show nI (K.2 0 0) < nI 8 from c94)⟩ h1
                · exact ev_thr th_X6_task_97 (Nat.le_of_ble_eq_true rfl)
            · exact absurd ok.2.2.2.2 (bI_0.mp (Classical.not_not.mp c68))
  refine ev_iload_n dX6_task_0 rfl ?_
  refine ev_if_eq (tgt := 15) dX6_task_1 rfl (fun c1 => ?_) (fun c1 => ?_)
  · refine ev_iconst (v := 1) dX6_task_15 rfl ?_
    refine ev_goto (tgt := 20) dX6_task_16 rfl ?_
    exact h20 1 (by decide)
  · refine ev_iload_n dX6_task_4 rfl ?_
    refine ev_iconst (v := 2) dX6_task_5 rfl ?_
    refine ev_sipush (v := 200) dX6_task_6 rfl ?_
    refine evS3 dX6_task_9 cl_X6_task_32 ⟨rfl, rfl, fun h => nomatch h⟩ (Nat.le_of_ble_eq_true rfl) (e_within _ _ _ _) ?_
    refine ev_if_eq (tgt := 19) dX6_task_12 rfl (fun c12 => ?_) (fun c12 => ?_)
    · exact absurd (ok.1.resolve_left (fun q => c1 q)) (bI_0.mp c12)
    · refine ev_iconst (v := 1) dX6_task_15 rfl ?_
      refine ev_goto (tgt := 20) dX6_task_16 rfl ?_
      exact h20 1 (by decide)
