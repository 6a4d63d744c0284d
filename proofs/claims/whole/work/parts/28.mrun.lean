/-! THE REFERENCE: going on, arrivals, a unit of work, a tick -/
theorem ix10 (t a : Nat) : (10 : Int32) * nI t + nI a = nI (10 * t + a) := by rw [show (10 : Int32) = nI 10 from rfl, pk_mul, nI_add]
theorem m_atWork (K M : KT) (G : GT) (t : Nat) (h : Inv M) (ht : t < M.2 0 0) : Ev M_X7_atWork 0 (ent M_X7_atWork [vR 8 0, vI (nI t)]) [] (conc K M G) (0, some (vI (bI (atWorkK M t = true))), conc K M G) := by
  show Ev M_X7_atWork 0 [vR 8 0, vI (nI t)] [] (conc K M G) _
  have hn := h.1.1
  obtain ⟨z1, z2, -⟩ := h.2.2.1 t ht
  refine ev_aload_n dX7_atWork_0 rfl rfl ?_
  refine ev_getf dX7_atWork_1 fl_7_45 ?_
  refine ev_iload_n dX7_atWork_4 rfl ?_
  refine ev_iald dX7_atWork_5 rfl rfl (show _ < 8 from by omega) ?_
  refine ev_aload_n dX7_atWork_6 rfl rfl ?_
  refine ev_getf dX7_atWork_7 fl_7_33 ?_
  refine ev_iload_n dX7_atWork_10 rfl ?_
  refine ev_iald dX7_atWork_11 rfl rfl (show _ < 8 from by omega) ?_
  refine ev_icmp_ge (tgt := 38) dX7_atWork_12 rfl (fun c12 => ?_) (fun c12 => ?_)
  · refine ev_iconst (v := 0) dX7_atWork_38 rfl ?_
    rw [bI_f (fun q => by simp only [atWorkK, Bool.and_eq_true, decide_eq_true_eq] at q; exact nI_ge (a := M.2 1 t) (b := M.2 2 t) q.1 (by omega) c12)]
    exact ev_iret dX7_atWork_39 (Or.inr ⟨rfl, rfl⟩)
  · have hlt : M.2 1 t < M.2 2 t := Classical.not_not.mp (fun q => c12 (nI_le (by omega) (by omega)))
    refine ev_aload_n dX7_atWork_15 rfl rfl ?_
    refine ev_getf dX7_atWork_16 fl_7_36 ?_
    refine ev_bipush (v := 10) dX7_atWork_19 rfl ?_
    refine ev_iload_n dX7_atWork_21 rfl ?_
    refine ev_imul dX7_atWork_22 ?_
    refine ev_aload_n dX7_atWork_23 rfl rfl ?_
    refine ev_getf dX7_atWork_24 fl_7_45 ?_
    refine ev_iload_n dX7_atWork_27 rfl ?_
    refine ev_iald dX7_atWork_28 rfl rfl (show _ < 8 from by omega) ?_
    refine ev_iadd dX7_atWork_29 ?_
    refine ev_iald dX7_atWork_30 rfl (ix10 t _) (show _ < 80 from by omega) ?_
    refine ev_if_ne (tgt := 38) dX7_atWork_31 rfl (fun c31 => ?_) (fun c31 => ?_)
    · refine ev_iconst (v := 0) dX7_atWork_38 rfl ?_
      rw [bI_f (fun q => by simp only [atWorkK, Bool.and_eq_true, decide_eq_true_eq] at q; exact c31 q.2)]
      exact ev_iret dX7_atWork_39 (Or.inr ⟨rfl, rfl⟩)
    · refine ev_iconst (v := 1) dX7_atWork_34 rfl ?_
      refine ev_goto (tgt := 39) dX7_atWork_35 rfl ?_
      rw [bI_t (by simp only [atWorkK, Bool.and_eq_true, decide_eq_true_eq]; exact ⟨hlt, Classical.not_not.mp c31⟩)]
      exact ev_iret dX7_atWork_39 (Or.inr ⟨rfl, rfl⟩)
theorem giveN_off (u t : Nat) : ∀ (j m : Nat) (K : KT), K.2 3 t = 0 → (giveN u j m K).1 6 t = K.1 6 t ∧ (giveN u j m K).2 3 t = 0 := by
  intro j
  induction j with
  | zero => intro m K h; exact ⟨rfl, h⟩
  | succ j ih =>
    intro m K h
    simp only [giveN]
    by_cases c : K.2 4 m = u + 1
    · rw [if_pos c]
      obtain ⟨g1, -, -, g4, -⟩ := give_off (K := K) m t h
      have := ih (m + 1) (giveK K m) g4
      rw [g1] at this
      exact this
    · rw [if_neg c]; exact ih _ _ h
theorem end_6 (K : KT) (t : Nat) (c : Int32) : (endK K t c).1 6 t = 0 := by
  unfold endK
  rw [(giveN_off t t _ _ _ (by show (if t = t then 0 else _) = 0; rw [if_pos rfl])).1]
  show (if t = t then (0 : Int32) else _) = 0
  rw [if_pos rfl]
theorem lendN_congr {K L : KT} (h : ∀ u, lendTo L u = lendTo K u) : ∀ (j i : Nat) (R : Nat → Int32), lendN L j i R = lendN K j i R := by
  intro j
  induction j with
  | zero => intro i R; rfl
  | succ j ih => intro i R; simp only [lendN, lendF]; rw [h i]; exact ih _ _
theorem itF_congr {K L : KT} (h : ∀ u, lendTo L u = lendTo K u) (hn : L.2 0 0 = K.2 0 0) : ∀ (j : Nat) (R : Nat → Int32), itF L j R = itF K j R := by
  intro j
  induction j with
  | zero => intro R; rfl
  | succ j ih => intro R; simp only [itF]; rw [lendN_congr h, hn]; exact ih _
theorem liftN_congr {K L : KT} (h4 : L.2 4 = K.2 4) (h21 : L.1 21 = K.1 21) (h22 : L.1 22 = K.1 22) : ∀ (j i : Nat) (R : Nat → Int32), liftN L j i R = liftN K j i R := by
  intro j
  induction j with
  | zero => intro i R; rfl
  | succ j ih => intro i R; simp only [liftN, liftF]; rw [h4, h21, h22]; exact ih _ _
theorem VR_congr {K L : KT} (h3 : L.2 3 = K.2 3) (h4 : L.2 4 = K.2 4) (h0 : L.2 0 0 = K.2 0 0) (hm : L.2 0 1 = K.2 0 1) (a0 : L.1 0 = K.1 0) (a10 : L.1 10 = K.1 10) (a12 : L.1 12 = K.1 12) (h21 : L.1 21 = K.1 21) (h22 : L.1 22 = K.1 22) (hd : L.1 28 0 = K.1 28 0) : VR L = VR K := by
  have hl : ∀ u, lendTo L u = lendTo K u := fun u => by unfold lendTo; rw [h3, h4, h21]
  have hb : RB L = RB K := by funext t; unfold RB base; rw [h0, hd, a0, a10, a12]
  unfold VR
  rw [itF_congr hl h0]
  unfold RL1
  rw [hd, hm, hb, liftN_congr h4 h21 h22]
theorem heirN_congr {K L : KT} (R : Nat → Int32) (m : Nat) (h3 : L.2 3 = K.2 3) (h11 : L.1 11 = K.1 11) : ∀ (j i b : Nat), heirN L R m j i b = heirN K R m j i b := by
  intro j
  induction j with
  | zero => intro i b; rfl
  | succ j ih =>
    intro i b
    have hi : ∀ a c, inher L R a c = inher K R a c := fun a c => by unfold inher; rw [h11]
    simp only [heirN, heir1, hi]
    rw [h3]
    exact ih _ _
theorem give_pass (K : KT) (m t : Nat) (ht : K.2 3 t = 0) : giveK (passK K t) m = passK (giveK K m) t := by
  have hV : VR (passK K t) = VR K := VR_congr rfl rfl rfl rfl rfl rfl rfl rfl rfl rfl
  have hw : weighK (passK K t) = passK (weighK K) t := by
    have hU : UM (passK K t) = UM K := by
      funext u
      unfold UM
      rw [hV]
      rfl
    unfold weighK
    rw [hV, hU]
    refine KT_ext (fun f i => ?_) (fun _ _ => rfl)
    by_cases h7 : f = 7
    · subst h7; rfl
    · simp only [passK, sI, sN, setA, if_neg h7]
  unfold giveK
  rw [show heirK (passK K t) m = heirK K m from by unfold heirK; rw [hV]; exact heirN_congr (K := K) (L := passK K t) _ m rfl rfl _ _ _, hw]
  cases e : heirK K m with
  | zero =>
    dsimp only
    refine KT_ext (fun _ _ => rfl) (fun f i => ?_)
    by_cases h4 : f = 4
    · subst h4; rfl
    · by_cases h1 : f = 1
      · subst h1; rfl
      · simp only [passK, sI, sN, if_neg h4, if_neg h1]
  | succ h =>
    have hne : ¬ h = t := fun q => by have := (heirK_in e).2; rw [q] at this; omega
    have hne2 : ¬ t = h := fun q => hne q.symm
    dsimp only
    refine KT_ext (fun f i => ?_) (fun f i => ?_)
    · by_cases h7 : f = 7
      · subst h7
        show (if i = h then (0 : Int32) else if i = t then 0 else K.1 7 i) = (if i = t then 0 else if i = h then (0 : Int32) else K.1 7 i)
        split <;> split <;> rfl
      · simp only [wakeK, noteK, passK, sI, sN, weighK, setA, if_neg h7]
        rfl
    · by_cases h1 : f = 1
      · subst h1
        show (if i = h then (if h = t then K.2 1 t + 1 else K.2 1 h) + 1 else if i = t then K.2 1 t + 1 else K.2 1 i) = (if i = t then (if t = h then K.2 1 h + 1 else K.2 1 t) + 1 else if i = h then K.2 1 h + 1 else K.2 1 i)
        rw [if_neg hne, if_neg hne2]
        by_cases c1 : i = h
        · subst c1; rw [if_pos rfl, if_neg hne, if_pos rfl]
        · rw [if_neg c1]
          split <;> rfl
      · simp only [wakeK, noteK, passK, sI, sN, weighK, setA, if_neg h1]
        rfl
theorem m_lock (K M : KT) (G : GT) (t m T X : Nat) (w : Int32) (h : FI M T X) (b : Bd T X) (ht : t < M.2 0 0) (h6 : M.1 6 t = 1) (hm : m < M.2 0 1) : Ev M_X7_lock 0 (ent M_X7_lock [vR 8 0, vI (nI t), vI (nI m), vI w]) [] (conc K M G) (0, none, conc K (if failsK M t m 1 = true then failK M t else if M.2 4 m = 0 then passK (sN M 4 m (t + 1)) t else blockK M t m) G) := by
  show Ev M_X7_lock 0 [vR 8 0, vI (nI t), vI (nI m), vI w] [] (conc K M G) _
  have hn := h.1.1.1
  have hm4 := h.1.1.2.1
  have ho8 := h.1.2.1 m hm
  have h0 : ¬ M.1 6 t = 0 := by rw [h6]; decide
  have hq : (mi (M.2 4 m) = nI t) ↔ M.2 4 m = t + 1 := mi_eq (by omega) (by omega)
  have hf : failsK M t m 1 = (decide (M.2 4 m = t + 1) || (decide (M.1 28 0 = 0) && decide (M.1 21 m = 2) && decide (M.1 22 m < M.1 0 t))) := rfl
  have h42 : failsK M t m 1 = true → Ev M_X7_lock 42 [vR 8 0, vI (nI t), vI (nI m), vI w] [] (conc K M G) (0, none, conc K (if failsK M t m 1 = true then failK M t else if M.2 4 m = 0 then passK (sN M 4 m (t + 1)) t else blockK M t m) G) := by
    intro q
    rw [if_pos q]
    refine ev_aload_n dX7_lock_42 rfl rfl ?_
    refine ev_iload_n dX7_lock_43 rfl ?_
    refine ev_iconst (v := 1) dX7_lock_44 rfl ?_
    refine ev_iload_n dX7_lock_45 rfl ?_
    refine evV4 dX7_lock_46 cl_X7_lock_159 ⟨rfl, rfl, fun _ => ⟨_, rfl⟩⟩ (Nat.le_of_ble_eq_true rfl) (m_fail K M G t T X w h b ht h0) ?_
    refine ev_goto (tgt := 121) dX7_lock_49 rfl ?_
    exact ev_vret dX7_lock_121 rfl
  have h52 : ¬ failsK M t m 1 = true → Ev M_X7_lock 52 [vR 8 0, vI (nI t), vI (nI m), vI w] [] (conc K M G) (0, none, conc K (if failsK M t m 1 = true then failK M t else if M.2 4 m = 0 then passK (sN M 4 m (t + 1)) t else blockK M t m) G) := by
    intro q
    rw [if_neg q]
    refine ev_aload_n dX7_lock_52 rfl rfl ?_
    refine ev_getf dX7_lock_53 fl_7_93 ?_
    refine ev_iload_n dX7_lock_56 rfl ?_
    refine ev_iald dX7_lock_57 rfl rfl (show _ < 4 from by omega) ?_
    refine ev_if_lt (tgt := 104) dX7_lock_58 rfl (fun c58 => ?_) (fun c58 => ?_)
    · rw [if_pos ((mi_neg (by omega)).mp c58)]
      refine ev_aload_n dX7_lock_104 rfl rfl ?_
      refine ev_getf dX7_lock_105 fl_7_93 ?_
      refine ev_iload_n dX7_lock_108 rfl ?_
      refine ev_iload_n dX7_lock_109 rfl ?_
      refine ev_iastS dX7_lock_110 rfl (by decide) rfl (show _ < 4 from by omega) (pu_ma_54 _ _ _ _ (t + 1)) ?_
      refine ev_aload_n dX7_lock_111 rfl rfl ?_
      refine ev_getf dX7_lock_112 fl_7_45 ?_
      refine ev_iload_n dX7_lock_115 rfl ?_
      refine ev_dup2 dX7_lock_116 rfl rfl ?_
      refine ev_iald dX7_lock_117 rfl rfl (show _ < 8 from by omega) ?_
      refine ev_iconst (v := 1) dX7_lock_118 rfl ?_
      refine ev_iadd dX7_lock_119 ?_
      refine ev_iastS dX7_lock_120 rfl (by decide) rfl (show _ < 8 from by omega) (setS_v (congrArg vI (nI_1 _)) (pu_ma_37 _ _ _ _ _)) ?_
      exact ev_vret dX7_lock_121 rfl
    · rw [if_neg (fun q2 => c58 ((mi_neg (by omega)).mpr q2))]
      refine ev_aload_n dX7_lock_61 rfl rfl ?_
      refine ev_getf dX7_lock_62 fl_7_42 ?_
      refine ev_iload_n dX7_lock_65 rfl ?_
      refine ev_iconst (v := 2) dX7_lock_66 rfl ?_
      refine ev_iastS dX7_lock_67 rfl (by decide) rfl (show _ < 8 from by omega) (pu_ma_36 _ _ _ _ _) ?_
      refine ev_aload_n dX7_lock_68 rfl rfl ?_
      refine ev_getf dX7_lock_69 fl_7_60 ?_
      refine ev_iload_n dX7_lock_72 rfl ?_
      refine ev_iload_n dX7_lock_73 rfl ?_
      refine ev_iastS dX7_lock_74 rfl (by decide) rfl (show _ < 8 from by omega) (pu_ma_42 _ _ _ _ (m + 1)) ?_
      refine ev_aload_n dX7_lock_75 rfl rfl ?_
      refine ev_dup dX7_lock_76 rfl ?_
      refine ev_getf dX7_lock_77 fl_7_142 ?_
      refine ev_iconst (v := 1) dX7_lock_80 rfl ?_
      refine ev_iadd dX7_lock_81 ?_
      refine ev_putfS dX7_lock_82 fl_7_142 rfl rfl (pu_mod_5 _ _ _ _) ?_
      refine ev_aload_n dX7_lock_85 rfl rfl ?_
      refine ev_getf dX7_lock_86 fl_7_57 ?_
      refine ev_iload_n dX7_lock_89 rfl ?_
      refine ev_aload_n dX7_lock_90 rfl rfl ?_
      refine ev_getf dX7_lock_91 fl_7_142 ?_
      refine ev_iastS dX7_lock_94 rfl (by decide) rfl (show _ < 8 from by omega) (pu_ma_41 _ _ _ _ _) ?_
      refine ev_aload_n dX7_lock_95 rfl rfl ?_
      refine ev_iconst (v := 5) dX7_lock_96 rfl ?_
      refine ev_iload_n dX7_lock_97 rfl ?_
      refine evV3 dX7_lock_98 cl_X7_lock_145 ⟨rfl, rfl, fun _ => ⟨_, rfl⟩⟩ (Nat.le_of_ble_eq_true rfl) (m_note K _ G 5 t h.1.1.2.2.2 (h.ev b)) ?_
      refine ev_goto (tgt := 121) dX7_lock_101 rfl ?_
      exact ev_vret dX7_lock_121 rfl
  refine ev_aload_n dX7_lock_0 rfl rfl ?_
  refine ev_getf dX7_lock_1 fl_7_93 ?_
  refine ev_iload_n dX7_lock_4 rfl ?_
  refine ev_iald dX7_lock_5 rfl rfl (show _ < 4 from by omega) ?_
  refine ev_iload_n dX7_lock_6 rfl ?_
  refine ev_icmp_eq (tgt := 42) dX7_lock_7 rfl (fun c7 => ?_) (fun c7 => ?_)
  · exact h42 (by rw [hf, decide_eq_true (hq.mp c7), Bool.true_or])
  · have ho : ¬ M.2 4 m = t + 1 := fun q => c7 (hq.mpr q)
    refine ev_aload_n dX7_lock_10 rfl rfl ?_
    refine ev_getf dX7_lock_11 fl_7_105 ?_
    refine ev_if_ne (tgt := 52) dX7_lock_14 rfl (fun c14 => ?_) (fun c14 => ?_)
    · exact h52 (by rw [hf]; simp [ho, show ¬ M.1 28 0 = 0 from c14])
    · refine ev_aload_n dX7_lock_17 rfl rfl ?_
      refine ev_getf dX7_lock_18 fl_7_87 ?_
      refine ev_iload_n dX7_lock_21 rfl ?_
      refine ev_iald dX7_lock_22 rfl rfl (show _ < 4 from by omega) ?_
      refine ev_iconst (v := 2) dX7_lock_23 rfl ?_
      refine ev_icmp_ne (tgt := 52) dX7_lock_24 rfl (fun c24 => ?_) (fun c24 => ?_)
      · exact h52 (by rw [hf]; simp [ho, show ¬ M.1 21 m = 2 from c24])
      · refine ev_aload_n dX7_lock_27 rfl rfl ?_
        refine ev_getf dX7_lock_28 fl_7_13 ?_
        refine ev_iload_n dX7_lock_31 rfl ?_
        refine ev_iald dX7_lock_32 rfl rfl (show _ < 8 from by omega) ?_
        refine ev_aload_n dX7_lock_33 rfl rfl ?_
        refine ev_getf dX7_lock_34 fl_7_90 ?_
        refine ev_iload_n dX7_lock_37 rfl ?_
        refine ev_iald dX7_lock_38 rfl rfl (show _ < 4 from by omega) ?_
        refine ev_icmp_le (tgt := 52) dX7_lock_39 rfl (fun c39 => ?_) (fun c39 => ?_)
        · exact h52 (by rw [hf]; simp only [Bool.or_eq_true, Bool.and_eq_true, decide_eq_true_eq]; exact fun q => q.elim ho (fun q => Int32.not_lt.mpr c39 q.2))
        · exact h42 (by rw [hf]; simp only [Bool.or_eq_true, Bool.and_eq_true, decide_eq_true_eq]; exact Or.inr ⟨⟨Classical.not_not.mp c14, Classical.not_not.mp c24⟩, Int32.not_le.mp c39⟩)
theorem FI_fin {M : KT} {T X : Nat} (h : FI M T X) {t : Nat} (ht : t < M.2 0 0) (h6 : M.1 6 t = 1) (hlt : M.2 1 t < M.2 2 t) (hl0 : M.1 14 t = 0) : FI (passK M t) T X := h.aft (Inv_pass h.1 t hlt (by rw [h6]; decide)) (pass_A ht h6 hlt hl0).1
theorem FI_own {M : KT} {T X : Nat} (h : FI M T X) (m o : Nat) (ho : o ≤ M.2 0 0) : FI (sN M 4 m o) T X := h.aft (Inv_own h.1 m o ho) (own_A M m o)
theorem mgo_loop (K : KT) (G : GT) (T X : Nat) (b : Bd T X) (t : Nat) (w : Int32) : ∀ (j : Nat) (M : KT), FI M T X → t < M.2 0 0 → M.1 6 t = 1 → M.2 2 t - M.2 1 t = j → Ev M_X7_goOn 0 [vR 8 0, vI (nI t), vI w, vU] [] (conc K M G) (0, none, conc K (goK j M t w) G) := by
  have hx : ∀ M : KT, t < 8 → ¬ M.1 6 t = 1 → Ev M_X7_goOn 0 [vR 8 0, vI (nI t), vI w, vU] [] (conc K M G) (0, none, conc K M G) := by
    intro M ht h6
    refine ev_aload_n dX7_goOn_0 rfl rfl ?_
    refine ev_getf dX7_goOn_1 fl_7_42 ?_
    refine ev_iload_n dX7_goOn_4 rfl ?_
    refine ev_iald dX7_goOn_5 rfl rfl (show _ < 8 from by omega) ?_
    refine ev_iconst (v := 1) dX7_goOn_6 rfl ?_
    refine ev_icmp_ne (tgt := 128) dX7_goOn_7 rfl (fun c7 => ?_) (fun c7 => ?_)
    · exact ev_vret dX7_goOn_128 rfl
    · exact absurd (Classical.not_not.mp c7) h6
  intro j
  induction j with
  | zero =>
    intro M h ht h6 hj
    have hn := h.1.1.1
    obtain ⟨z1, z2, -⟩ := h.1.2.2.1 t ht
    have ea : M.2 1 t = M.2 2 t := by omega
    have hx' := hx (doneK M t w) (by omega) (by rw [show (doneK M t w).1 6 t = 0 from end_6 _ t 2]; decide)
    refine ev_aload_n dX7_goOn_0 rfl rfl ?_
    refine ev_getf dX7_goOn_1 fl_7_42 ?_
    refine ev_iload_n dX7_goOn_4 rfl ?_
    refine ev_iald dX7_goOn_5 rfl rfl (show _ < 8 from by omega) ?_
    refine ev_iconst (v := 1) dX7_goOn_6 rfl ?_
    refine ev_icmp_ne (tgt := 128) dX7_goOn_7 rfl (fun c7 => ?_) (fun c7 => ?_)
    · exact absurd h6 c7
    · refine ev_aload_n dX7_goOn_10 rfl rfl ?_
      refine ev_iload_n dX7_goOn_11 rfl ?_
      refine evV2 dX7_goOn_12 cl_X7_goOn_156 ⟨rfl, rfl, fun _ => ⟨_, rfl⟩⟩ (Nat.le_of_ble_eq_true rfl) (m_atWork K M G t h.1 ht) ?_
      refine ev_if_ne (tgt := 128) dX7_goOn_15 rfl (fun c15 => ?_) (fun c15 => ?_)
      · exact absurd (bI_f (fun q => by simp only [atWorkK, Bool.and_eq_true, decide_eq_true_eq] at q; omega)) c15
      · refine ev_bipush (v := 10) dX7_goOn_18 rfl ?_
        refine ev_iload_n dX7_goOn_20 rfl ?_
        refine ev_imul dX7_goOn_21 ?_
        refine ev_aload_n dX7_goOn_22 rfl rfl ?_
        refine ev_getf dX7_goOn_23 fl_7_45 ?_
        refine ev_iload_n dX7_goOn_26 rfl ?_
        refine ev_iald dX7_goOn_27 rfl rfl (show _ < 8 from by omega) ?_
        refine ev_iadd dX7_goOn_28 ?_
        refine ev_istore_n dX7_goOn_29 rfl ?_
        refine ev_aload_n dX7_goOn_30 rfl rfl ?_
        refine ev_getf dX7_goOn_31 fl_7_45 ?_
        refine ev_iload_n dX7_goOn_34 rfl ?_
        refine ev_iald dX7_goOn_35 rfl rfl (show _ < 8 from by omega) ?_
        refine ev_aload_n dX7_goOn_36 rfl rfl ?_
        refine ev_getf dX7_goOn_37 fl_7_33 ?_
        refine ev_iload_n dX7_goOn_40 rfl ?_
        refine ev_iald dX7_goOn_41 rfl rfl (show _ < 8 from by omega) ?_
        refine ev_icmp_ne (tgt := 55) dX7_goOn_42 rfl (fun c42 => ?_) (fun c42 => ?_)
        · exact absurd (congrArg nI ea) c42
        · refine ev_aload_n dX7_goOn_45 rfl rfl ?_
          refine ev_iload_n dX7_goOn_46 rfl ?_
          refine ev_iconst (v := 0) dX7_goOn_47 rfl ?_
          refine ev_iload_n dX7_goOn_48 rfl ?_
          refine evV4 dX7_goOn_49 cl_X7_goOn_159 ⟨rfl, rfl, fun _ => ⟨_, rfl⟩⟩ (Nat.le_of_ble_eq_true rfl) (m_done K M G t T X w h b ht (by rw [h6]; decide)) ?_
          refine ev_goto (tgt := 125) dX7_goOn_52 rfl ?_
          refine ev_goto (tgt := 0) dX7_goOn_125 rfl ?_
          refine ev_forget (ls2 := [_, _, _, vU]) (Fg_to ⟨Or.inr ⟨rfl, rfl⟩, Or.inr ⟨rfl, rfl⟩, Or.inr ⟨rfl, rfl⟩, Or.inl rfl, trivial⟩) ?_
          exact hx'
  | succ j ih =>
    intro M h ht h6 hj
    have hn := h.1.1.1
    have hm4 := h.1.1.2.1
    obtain ⟨z1, z2, -⟩ := h.1.2.2.1 t ht
    have hlt : M.2 1 t < M.2 2 t := by omega
    have hna : ¬ nI (M.2 1 t) = nI (M.2 2 t) := by rw [nI_eq (by omega) (by omega)]; omega
    rcases h.1.2.2.2 t (M.2 1 t) ht hlt with ⟨k0, -⟩ | ⟨k12, m, hm, ea⟩
    · have e0 : goK (j + 1) M t w = M := if_pos k0
      rw [e0]
      refine ev_aload_n dX7_goOn_0 rfl rfl ?_
      refine ev_getf dX7_goOn_1 fl_7_42 ?_
      refine ev_iload_n dX7_goOn_4 rfl ?_
      refine ev_iald dX7_goOn_5 rfl rfl (show _ < 8 from by omega) ?_
      refine ev_iconst (v := 1) dX7_goOn_6 rfl ?_
      refine ev_icmp_ne (tgt := 128) dX7_goOn_7 rfl (fun c7 => ?_) (fun c7 => ?_)
      · exact absurd h6 c7
      · refine ev_aload_n dX7_goOn_10 rfl rfl ?_
        refine ev_iload_n dX7_goOn_11 rfl ?_
        refine evV2 dX7_goOn_12 cl_X7_goOn_156 ⟨rfl, rfl, fun _ => ⟨_, rfl⟩⟩ (Nat.le_of_ble_eq_true rfl) (m_atWork K M G t h.1 ht) ?_
        refine ev_if_ne (tgt := 128) dX7_goOn_15 rfl (fun c15 => ?_) (fun c15 => ?_)
        · exact ev_vret dX7_goOn_128 rfl
        · exact absurd (bI_0.mp (Classical.not_not.mp c15)) (fun q => q (by simp only [atWorkK, Bool.and_eq_true, decide_eq_true_eq]; exact ⟨hlt, k0⟩))
    · have ek : ¬ kdK M t = 0 := by show ¬ M.1 26 _ = 0; rcases k12 with q | q <;> rw [q] <;> decide
      have eam : amK M t = m := amK_of (by omega) ea
      have ho8 := h.1.2.1 m hm
      have hq : (mi (M.2 4 m) = nI t) ↔ M.2 4 m = t + 1 := mi_eq (by omega) (by omega)
      obtain ⟨⟨a1, a2, a3, a4⟩, ⟨b1, b2, b3, b4⟩⟩ := go_next h.1 (m := m) ht h6 hlt
      have w0 := wl_0 h.2.1 ht h6 ek
      have hF : failsK M t m (kdK M t) = true → goK (j + 1) M t w = failK M t := fun q => by
        show (if kdK M t = 0 then _ else if failsK M t (amK M t) (kdK M t) = true then _ else _) = _
        rw [if_neg ek, eam, if_pos q]
      have hfx : Ev M_X7_goOn 0 [vR 8 0, vI (nI t), vI w, vU] [] (conc K (failK M t) G) (0, none, conc K (failK M t) G) := hx _ (by omega) (by rw [show (failK M t).1 6 t = 0 from end_6 _ t 3]; decide)
      have hlock : kdK M t = 1 → Ev M_X7_goOn 0 [vR 8 0, vI (nI t), vI w, vU] [] (conc K (if failsK M t m 1 = true then failK M t else if M.2 4 m = 0 then passK (sN M 4 m (t + 1)) t else blockK M t m) G) (0, none, conc K (goK (j + 1) M t w) G) := by
        intro k1
        by_cases hf : failsK M t m 1 = true
        · rw [if_pos hf, hF (by rw [k1]; exact hf)]; exact hfx
        · rw [if_neg hf]
          by_cases ho : M.2 4 m = 0
          · rw [if_pos ho, show goK (j + 1) M t w = goK j (passK (sN M 4 m (t + 1)) t) t w from by
              show (if kdK M t = 0 then _ else if failsK M t (amK M t) (kdK M t) = true then _ else if kdK M t = 2 then _ else if M.2 4 (amK M t) = 0 then _ else _) = _
              rw [if_neg ek, eam, k1, if_neg hf, if_neg (by decide), if_pos ho]]
            exact ih _ (FI_fin (FI_own h m (t + 1) ht) ht h6 hlt w0.2) b2 b3 (by rw [b4]; omega)
          · rw [if_neg ho, show goK (j + 1) M t w = blockK M t m from by
              show (if kdK M t = 0 then _ else if failsK M t (amK M t) (kdK M t) = true then _ else if kdK M t = 2 then _ else if M.2 4 (amK M t) = 0 then _ else _) = _
              rw [if_neg ek, eam, k1, if_neg hf, if_neg (by decide), if_neg ho]]
            exact hx _ (by omega) (by rw [show (blockK M t m).1 6 t = 2 by show (if t = t then (2 : Int32) else _) = 2; rw [if_pos rfl]]; decide)
      have hFp := FI_fin h ht h6 hlt w0.2
      have hgp := give_pass M m t (h.1.w0 ht h6)
      refine ev_aload_n dX7_goOn_0 rfl rfl ?_
      refine ev_getf dX7_goOn_1 fl_7_42 ?_
      refine ev_iload_n dX7_goOn_4 rfl ?_
      refine ev_iald dX7_goOn_5 rfl rfl (show _ < 8 from by omega) ?_
      refine ev_iconst (v := 1) dX7_goOn_6 rfl ?_
      refine ev_icmp_ne (tgt := 128) dX7_goOn_7 rfl (fun c7 => ?_) (fun c7 => ?_)
      · exact absurd h6 c7
      · refine ev_aload_n dX7_goOn_10 rfl rfl ?_
        refine ev_iload_n dX7_goOn_11 rfl ?_
        refine evV2 dX7_goOn_12 cl_X7_goOn_156 ⟨rfl, rfl, fun _ => ⟨_, rfl⟩⟩ (Nat.le_of_ble_eq_true rfl) (m_atWork K M G t h.1 ht) ?_
        refine ev_if_ne (tgt := 128) dX7_goOn_15 rfl (fun c15 => ?_) (fun c15 => ?_)
        · exact absurd (bI_f (fun q => by simp only [atWorkK, Bool.and_eq_true, decide_eq_true_eq] at q; exact ek q.2)) c15
        · refine ev_bipush (v := 10) dX7_goOn_18 rfl ?_
          refine ev_iload_n dX7_goOn_20 rfl ?_
          refine ev_imul dX7_goOn_21 ?_
          refine ev_aload_n dX7_goOn_22 rfl rfl ?_
          refine ev_getf dX7_goOn_23 fl_7_45 ?_
          refine ev_iload_n dX7_goOn_26 rfl ?_
          refine ev_iald dX7_goOn_27 rfl rfl (show _ < 8 from by omega) ?_
          refine ev_iadd dX7_goOn_28 ?_
          refine ev_istore_n dX7_goOn_29 rfl ?_
          refine ev_aload_n dX7_goOn_30 rfl rfl ?_
          refine ev_getf dX7_goOn_31 fl_7_45 ?_
          refine ev_iload_n dX7_goOn_34 rfl ?_
          refine ev_iald dX7_goOn_35 rfl rfl (show _ < 8 from by omega) ?_
          refine ev_aload_n dX7_goOn_36 rfl rfl ?_
          refine ev_getf dX7_goOn_37 fl_7_33 ?_
          refine ev_iload_n dX7_goOn_40 rfl ?_
          refine ev_iald dX7_goOn_41 rfl rfl (show _ < 8 from by omega) ?_
          refine ev_icmp_ne (tgt := 55) dX7_goOn_42 rfl (fun c42 => ?_) (fun c42 => ?_)
          · refine ev_aload_n dX7_goOn_55 rfl rfl ?_
            refine ev_getf dX7_goOn_56 fl_7_36 ?_
            refine ev_iload_n dX7_goOn_59 rfl ?_
            refine ev_iald dX7_goOn_60 rfl (ix10 t _) (show _ < 80 from by omega) ?_
            refine ev_iconst (v := 1) dX7_goOn_61 rfl ?_
            refine ev_icmp_ne (tgt := 80) dX7_goOn_62 rfl (fun c62 => ?_) (fun c62 => ?_)
            · have k2 : kdK M t = 2 := k12.elim (fun q => absurd q c62) id
              refine ev_aload_n dX7_goOn_80 rfl rfl ?_
              refine ev_getf dX7_goOn_81 fl_7_93 ?_
              refine ev_aload_n dX7_goOn_84 rfl rfl ?_
              refine ev_getf dX7_goOn_85 fl_7_39 ?_
              refine ev_iload_n dX7_goOn_88 rfl ?_
              refine ev_ialdv dX7_goOn_89 rfl (ix10 t _) (show _ < 80 from by omega) (show _ = vI (nI m) from congrArg vI ea) ?_
              refine ev_iald dX7_goOn_90 rfl rfl (show _ < 4 from by omega) ?_
              refine ev_iload_n dX7_goOn_91 rfl ?_
              refine ev_icmp_eq (tgt := 105) dX7_goOn_92 rfl (fun c92 => ?_) (fun c92 => ?_)
              · refine ev_aload_n dX7_goOn_105 rfl rfl ?_
                refine ev_getf dX7_goOn_106 fl_7_45 ?_
                refine ev_iload_n dX7_goOn_109 rfl ?_
                refine ev_dup2 dX7_goOn_110 rfl rfl ?_
                refine ev_iald dX7_goOn_111 rfl rfl (show _ < 8 from by omega) ?_
                refine ev_iconst (v := 1) dX7_goOn_112 rfl ?_
                refine ev_iadd dX7_goOn_113 ?_
                refine ev_iastS dX7_goOn_114 rfl (by decide) rfl (show _ < 8 from by omega) (setS_v (congrArg vI (nI_1 _)) (pu_ma_37 _ _ _ _ _)) ?_
                refine ev_aload_n dX7_goOn_115 rfl rfl ?_
                refine ev_aload_n dX7_goOn_116 rfl rfl ?_
                refine ev_getf dX7_goOn_117 fl_7_39 ?_
                refine ev_iload_n dX7_goOn_120 rfl ?_
                refine ev_ialdv dX7_goOn_121 rfl (ix10 t _) (show _ < 80 from by omega) (show _ = vI (nI m) from congrArg vI ea) ?_
                refine evV2 dX7_goOn_122 cl_X7_goOn_153 ⟨rfl, rfl, fun _ => ⟨_, rfl⟩⟩ (Nat.le_of_ble_eq_true rfl) (m_give K (passK M t) G m T X hFp b hm) ?_
                refine ev_goto (tgt := 0) dX7_goOn_125 rfl ?_
                refine ev_forget (ls2 := [_, _, _, vU]) (Fg_to ⟨Or.inr ⟨rfl, rfl⟩, Or.inr ⟨rfl, rfl⟩, Or.inr ⟨rfl, rfl⟩, Or.inl rfl, trivial⟩) ?_
                rw [show goK (j + 1) M t w = goK j (giveK (passK M t) m) t w from by
                    rw [hgp]
                    show (if kdK M t = 0 then _ else if failsK M t (amK M t) (kdK M t) = true then _ else if kdK M t = 2 then _ else _) = _
                    rw [if_neg ek, eam, k2, if_neg (by show ¬ (!decide (M.2 4 m = t + 1)) = true; rw [decide_eq_true (hq.mp c92)]; decide), if_pos rfl]]
                refine ih _ (FI_give hFp m) ?_ ?_ ?_
                · rw [hgp]; exact a2
                · rw [hgp]; exact a3
                · rw [hgp, a4]; omega
              · refine ev_aload_n dX7_goOn_95 rfl rfl ?_
                refine ev_iload_n dX7_goOn_96 rfl ?_
                refine ev_iconst (v := 1) dX7_goOn_97 rfl ?_
                refine ev_iload_n dX7_goOn_98 rfl ?_
                refine evV4 dX7_goOn_99 cl_X7_goOn_159 ⟨rfl, rfl, fun _ => ⟨_, rfl⟩⟩ (Nat.le_of_ble_eq_true rfl) (m_fail K M G t T X w h b ht (by rw [h6]; decide)) ?_
                refine ev_goto (tgt := 125) dX7_goOn_102 rfl ?_
                refine ev_goto (tgt := 0) dX7_goOn_125 rfl ?_
                refine ev_forget (ls2 := [_, _, _, vU]) (Fg_to ⟨Or.inr ⟨rfl, rfl⟩, Or.inr ⟨rfl, rfl⟩, Or.inr ⟨rfl, rfl⟩, Or.inl rfl, trivial⟩) ?_
                rw [hF (by rw [k2]; show (!decide (M.2 4 m = t + 1)) = true; rw [decide_eq_false (fun q => c92 (hq.mpr q))]; rfl)]
                exact hfx
            · have k1 : kdK M t = 1 := Classical.not_not.mp c62
              refine ev_aload_n dX7_goOn_65 rfl rfl ?_
              refine ev_iload_n dX7_goOn_66 rfl ?_
              refine ev_aload_n dX7_goOn_67 rfl rfl ?_
              refine ev_getf dX7_goOn_68 fl_7_39 ?_
              refine ev_iload_n dX7_goOn_71 rfl ?_
              refine ev_ialdv dX7_goOn_72 rfl (ix10 t _) (show _ < 80 from by omega) (show _ = vI (nI m) from congrArg vI ea) ?_
              refine ev_iload_n dX7_goOn_73 rfl ?_
              refine evV4 dX7_goOn_74 cl_X7_goOn_163 ⟨rfl, rfl, fun _ => ⟨_, rfl⟩⟩ (Nat.le_of_ble_eq_true rfl) (m_lock K M G t m T X w h b ht h6 hm) ?_
              refine ev_goto (tgt := 125) dX7_goOn_77 rfl ?_
              refine ev_goto (tgt := 0) dX7_goOn_125 rfl ?_
              refine ev_forget (ls2 := [_, _, _, vU]) (Fg_to ⟨Or.inr ⟨rfl, rfl⟩, Or.inr ⟨rfl, rfl⟩, Or.inr ⟨rfl, rfl⟩, Or.inl rfl, trivial⟩) ?_
              exact hlock k1
          · exact absurd (Classical.not_not.mp c42) hna
theorem m_goOn (K M : KT) (G : GT) (t T X : Nat) (w : Int32) (h : FI M T X) (b : Bd T X) (ht : t < M.2 0 0) (h6 : M.1 6 t = 1) : Ev M_X7_goOn 0 (ent M_X7_goOn [vR 8 0, vI (nI t), vI w]) [] (conc K M G) (0, none, conc K (goOnK M t w) G) := mgo_loop K G T X b t w _ M h ht h6 rfl
theorem m_begin (K M : KT) (G : GT) (t T X : Nat) (h : FI M T X) (b : Bd T X) (ht : t < M.2 0 0) : Ev M_X7_begin 0 (ent M_X7_begin [vR 8 0, vI (nI t)]) [] (conc K M G) (0, none, conc K (beginK M t) G) := by
  show Ev M_X7_begin 0 [vR 8 0, vI (nI t)] [] (conc K M G) _
  have hn := h.1.1.1
  refine ev_aload_n dX7_begin_0 rfl rfl ?_
  refine ev_getf dX7_begin_1 fl_7_42 ?_
  refine ev_iload_n dX7_begin_4 rfl ?_
  refine ev_iald dX7_begin_5 rfl rfl (show _ < 8 from by omega) ?_
  refine ev_if_eq (tgt := 26) dX7_begin_6 rfl (fun c6 => ?_) (fun c6 => ?_)
  · rw [show beginK M t = _ from if_pos c6]
    refine ev_aload_n dX7_begin_26 rfl rfl ?_
    refine ev_getf dX7_begin_27 fl_7_45 ?_
    refine ev_iload_n dX7_begin_30 rfl ?_
    refine ev_iconst (v := 0) dX7_begin_31 rfl ?_
    refine ev_iastS dX7_begin_32 rfl (by decide) rfl (show _ < 8 from by omega) (setS_v (show vI 0 = vI (nI 0) from rfl) (pu_ma_37 _ _ _ _ _)) ?_
    refine ev_aload_n dX7_begin_33 rfl rfl ?_
    refine ev_getf dX7_begin_34 fl_7_48 ?_
    refine ev_iload_n dX7_begin_37 rfl ?_
    refine ev_iconst (v := 0) dX7_begin_38 rfl ?_
    refine ev_iastS dX7_begin_39 rfl (by decide) rfl (show _ < 8 from by omega) (pu_ma_38 _ _ _ _ _) ?_
    refine ev_aload_n dX7_begin_40 rfl rfl ?_
    refine ev_getf dX7_begin_41 fl_7_63 ?_
    refine ev_iload_n dX7_begin_44 rfl ?_
    refine ev_iconst (v := 0) dX7_begin_45 rfl ?_
    refine ev_iastS dX7_begin_46 rfl (by decide) rfl (show _ < 8 from by omega) (pu_ma_43 _ _ _ _ _) ?_
    refine ev_aload_n dX7_begin_47 rfl rfl ?_
    refine ev_getf dX7_begin_48 fl_7_51 ?_
    refine ev_iload_n dX7_begin_51 rfl ?_
    refine ev_aload_n dX7_begin_52 rfl rfl ?_
    refine ev_getf dX7_begin_53 fl_7_139 ?_
    refine ev_aload_n dX7_begin_56 rfl rfl ?_
    refine ev_getf dX7_begin_57 fl_7_23 ?_
    refine ev_iload_n dX7_begin_60 rfl ?_
    refine ev_iald dX7_begin_61 rfl rfl (show _ < 8 from by omega) ?_
    refine ev_iadd dX7_begin_62 ?_
    refine ev_iastS dX7_begin_63 rfl (by decide) rfl (show _ < 8 from by omega) (pu_ma_39 _ _ _ _ _) ?_
    refine ev_aload_n dX7_begin_64 rfl rfl ?_
    refine ev_getf dX7_begin_65 fl_7_54 ?_
    refine ev_iload_n dX7_begin_68 rfl ?_
    refine ev_aload_n dX7_begin_69 rfl rfl ?_
    refine ev_getf dX7_begin_70 fl_7_139 ?_
    refine ev_iastS dX7_begin_73 rfl (by decide) rfl (show _ < 8 from by omega) (pu_ma_40 _ _ _ _ _) ?_
    refine ev_aload_n dX7_begin_74 rfl rfl ?_
    refine ev_iload_n dX7_begin_75 rfl ?_
    refine evV2 dX7_begin_76 cl_X7_begin_149 ⟨rfl, rfl, fun _ => ⟨_, rfl⟩⟩ (Nat.le_of_ble_eq_true rfl) (m_ready K _ G t (by omega)) ?_
    refine ev_aload_n dX7_begin_79 rfl rfl ?_
    refine ev_iconst (v := 0) dX7_begin_80 rfl ?_
    refine ev_iload_n dX7_begin_81 rfl ?_
    refine evV3 dX7_begin_82 cl_X7_begin_145 ⟨rfl, rfl, fun _ => ⟨_, rfl⟩⟩ (Nat.le_of_ble_eq_true rfl) (m_note K _ G 0 t h.1.1.2.2.2 (h.ev b)) ?_
    exact ev_vret dX7_begin_85 rfl
  · refine ev_aload_n dX7_begin_9 rfl rfl ?_
    refine ev_getf dX7_begin_10 fl_7_78 ?_
    refine ev_iload_n dX7_begin_13 rfl ?_
    refine ev_dup2 dX7_begin_14 rfl rfl ?_
    refine ev_iald dX7_begin_15 rfl rfl (show _ < 8 from by omega) ?_
    refine ev_iconst (v := 1) dX7_begin_16 rfl ?_
    refine ev_iadd dX7_begin_17 ?_
    refine ev_iastS dX7_begin_18 rfl (by decide) rfl (show _ < 8 from by omega) (pu_ma_48 _ _ _ _ _) ?_
    refine ev_aload_n dX7_begin_19 rfl rfl ?_
    refine ev_iconst (v := 1) dX7_begin_20 rfl ?_
    refine ev_iload_n dX7_begin_21 rfl ?_
    refine evV3 dX7_begin_22 cl_X7_begin_145 ⟨rfl, rfl, fun _ => ⟨_, rfl⟩⟩ (Nat.le_of_ble_eq_true rfl) (m_note K _ G 1 t h.1.1.2.2.2 (h.ev b)) ?_
    rw [show beginK M t = noteK (sI M 18 t (M.1 18 t + 1)) 1 t from if_neg c6]
    exact ev_vret dX7_begin_25 rfl
theorem mm_loop (K : KT) (G : GT) (T : Nat) (r : Res) (Z : KT) (hk : Ev M_X7_arrivals 73 [vR 8 0, vU] [] (conc K Z G) r) : ∀ (j i X : Nat) (M : KT), FI M T X → Bd T (X + j) → i + j = M.2 0 0 → missN j i M = Z → Ev M_X7_arrivals 2 [vR 8 0, vI (nI i)] [] (conc K M G) r := by
  intro j
  induction j with
  | zero =>
    intro i X M h b hi hz
    have hn := h.1.1.1
    rw [← hz] at hk
    refine ev_iload_n dX7_arrivals_2 rfl ?_
    refine ev_aload_n dX7_arrivals_3 rfl rfl ?_
    refine ev_getf dX7_arrivals_4 fl_7_112 ?_
    refine ev_icmp_ge (tgt := 73) dX7_arrivals_7 rfl (fun c7 => ?_) (fun c7 => ?_)
    · refine ev_forget (ls2 := [_, vU]) (Fg_to ⟨Or.inr ⟨rfl, rfl⟩, Or.inl rfl, trivial⟩) ?_
      exact hk
    · exact absurd (nI_le (a := M.2 0 0) (b := i) (by omega) (by omega)) c7
  | succ j ih =>
    intro i X M h b hi hz
    have hn := h.1.1.1
    have hin : i < M.2 0 0 := by omega
    have e1 : nI i + Int32.ofInt 1 = nI (i + 1) := nI_1 i
    have b1 : Bd T (X + 1) := ⟨b.1, by have := b.2; omega⟩
    have b0 : Bd T X := ⟨b.1, by have := b.2; omega⟩
    have h67 : Ev M_X7_arrivals 67 [vR 8 0, vI (nI i)] [] (conc K (missK1 M i) G) r := by
      refine ev_iinc dX7_arrivals_67 rfl ?_
      refine ev_goto (tgt := 2) dX7_arrivals_70 rfl ?_
      rw [e1]
      exact ih (i + 1) (X + 1) _ (FI_miss1 h hin) ⟨b.1, by have := b.2; omega⟩ (by rw [miss1_n]; omega) hz
    have hN : FI (noteK (sI M 17 i (M.1 17 i + 1)) 4 i) T (X + 1) := FI_note (FI_irr17 h i _) 4 i
    refine ev_iload_n dX7_arrivals_2 rfl ?_
    refine ev_aload_n dX7_arrivals_3 rfl rfl ?_
    refine ev_getf dX7_arrivals_4 fl_7_112 ?_
    refine ev_icmp_ge (tgt := 73) dX7_arrivals_7 rfl (fun c7 => ?_) (fun c7 => ?_)
    · exact absurd c7 (nI_ge (a := i) (b := M.2 0 0) (by omega) (by omega))
    · refine ev_aload_n dX7_arrivals_10 rfl rfl ?_
      refine ev_getf dX7_arrivals_11 fl_7_42 ?_
      refine ev_iload_n dX7_arrivals_14 rfl ?_
      refine ev_iald dX7_arrivals_15 rfl rfl (show _ < 8 from by omega) ?_
      refine ev_if_eq (tgt := 67) dX7_arrivals_16 rfl (fun c16 => ?_) (fun c16 => ?_)
      · rw [show missK1 M i = M from if_neg (fun q => q.1 c16)] at h67
        exact h67
      · refine ev_aload_n dX7_arrivals_19 rfl rfl ?_
        refine ev_getf dX7_arrivals_20 fl_7_51 ?_
        refine ev_iload_n dX7_arrivals_23 rfl ?_
        refine ev_iald dX7_arrivals_24 rfl rfl (show _ < 8 from by omega) ?_
        refine ev_aload_n dX7_arrivals_25 rfl rfl ?_
        refine ev_getf dX7_arrivals_26 fl_7_139 ?_
        refine ev_icmp_ne (tgt := 67) dX7_arrivals_29 rfl (fun c29 => ?_) (fun c29 => ?_)
        · rw [show missK1 M i = M from if_neg (fun q => c29 q.2)] at h67
          exact h67
        · refine ev_aload_n dX7_arrivals_32 rfl rfl ?_
          refine ev_getf dX7_arrivals_33 fl_7_75 ?_
          refine ev_iload_n dX7_arrivals_36 rfl ?_
          refine ev_dup2 dX7_arrivals_37 rfl rfl ?_
          refine ev_iald dX7_arrivals_38 rfl rfl (show _ < 8 from by omega) ?_
          refine ev_iconst (v := 1) dX7_arrivals_39 rfl ?_
          refine ev_iadd dX7_arrivals_40 ?_
          refine ev_iastS dX7_arrivals_41 rfl (by decide) rfl (show _ < 8 from by omega) (pu_ma_47 _ _ _ _ _) ?_
          refine ev_aload_n dX7_arrivals_42 rfl rfl ?_
          refine ev_iconst (v := 4) dX7_arrivals_43 rfl ?_
          refine ev_iload_n dX7_arrivals_44 rfl ?_
          refine evV3 dX7_arrivals_45 cl_X7_arrivals_145 ⟨rfl, rfl, fun _ => ⟨_, rfl⟩⟩ (Nat.le_of_ble_eq_true rfl) (m_note K _ G 4 i h.1.1.2.2.2 (h.ev b0)) ?_
          refine ev_aload_n dX7_arrivals_48 rfl rfl ?_
          refine ev_getf dX7_arrivals_49 fl_7_29 ?_
          refine ev_iload_n dX7_arrivals_52 rfl ?_
          refine ev_zald dX7_arrivals_53 rfl rfl (show _ < 8 from by omega) ?_
          refine ev_if_eq (tgt := 67) dX7_arrivals_54 rfl (fun c54 => ?_) (fun c54 => ?_)
          · rw [show missK1 M i = _ from (if_pos ⟨c16, Classical.not_not.mp c29⟩).trans (if_pos c54)] at h67
            exact h67
          · refine ev_aload_n dX7_arrivals_57 rfl rfl ?_
            refine ev_iload_n dX7_arrivals_58 rfl ?_
            refine ev_iconst (v := 1) dX7_arrivals_59 rfl ?_
            refine ev_aload_n dX7_arrivals_60 rfl rfl ?_
            refine ev_getf dX7_arrivals_61 fl_7_139 ?_
            refine evV4 dX7_arrivals_64 cl_X7_arrivals_159 ⟨rfl, rfl, fun _ => ⟨_, rfl⟩⟩ (Nat.le_of_ble_eq_true rfl) (m_fail K _ G i T (X + 1) _ hN b1 hin c16) ?_
            rw [show missK1 M i = _ from (if_pos ⟨c16, Classical.not_not.mp c29⟩).trans (if_neg c54)] at h67
            exact h67
theorem mr_loop (K : KT) (G : GT) (T : Nat) : ∀ (j i X : Nat) (M : KT), FI M T X → Bd T (X + 23 * j) → i + j = M.2 0 0 → Ev M_X7_arrivals 75 [vR 8 0, vI (nI i)] [] (conc K M G) (0, none, conc K (relN j i M) G) := by
  intro j
  induction j with
  | zero =>
    intro i X M h b hi
    have hn := h.1.1.1
    refine ev_iload_n dX7_arrivals_75 rfl ?_
    refine ev_aload_n dX7_arrivals_76 rfl rfl ?_
    refine ev_getf dX7_arrivals_77 fl_7_112 ?_
    refine ev_icmp_ge (tgt := 137) dX7_arrivals_80 rfl (fun c80 => ?_) (fun c80 => ?_)
    · exact ev_vret dX7_arrivals_137 rfl
    · exact absurd (nI_le (a := M.2 0 0) (b := i) (by omega) (by omega)) c80
  | succ j ih =>
    intro i X M h b hi
    have hn := h.1.1.1
    have hin : i < M.2 0 0 := by omega
    have e1 : nI i + Int32.ofInt 1 = nI (i + 1) := nI_1 i
    have b0 : Bd T X := ⟨b.1, by have := b.2; omega⟩
    have hno : ¬ perK M i = true → Ev M_X7_arrivals 131 [vR 8 0, vI (nI i)] [] (conc K M G) (0, none, conc K (relN (j + 1) i M) G) := by
      intro hp
      simp only [relN]
      rw [if_neg hp]
      refine ev_iinc dX7_arrivals_131 rfl ?_
      refine ev_goto (tgt := 75) dX7_arrivals_134 rfl ?_
      rw [e1]
      exact ih (i + 1) X _ h ⟨b.1, by have := b.2; omega⟩ (by omega)
    refine ev_iload_n dX7_arrivals_75 rfl ?_
    refine ev_aload_n dX7_arrivals_76 rfl rfl ?_
    refine ev_getf dX7_arrivals_77 fl_7_112 ?_
    refine ev_icmp_ge (tgt := 137) dX7_arrivals_80 rfl (fun c80 => ?_) (fun c80 => ?_)
    · exact absurd c80 (nI_ge (a := i) (b := M.2 0 0) (by omega) (by omega))
    · refine ev_aload_n dX7_arrivals_83 rfl rfl ?_
      refine ev_getf dX7_arrivals_84 fl_7_17 ?_
      refine ev_iload_n dX7_arrivals_87 rfl ?_
      refine ev_iald dX7_arrivals_88 rfl rfl (show _ < 8 from by omega) ?_
      refine ev_if_le (tgt := 131) dX7_arrivals_89 rfl (fun c89 => ?_) (fun c89 => ?_)
      · exact hno (by simp only [perK, Bool.and_eq_true, decide_eq_true_eq]; exact fun q => Int32.not_lt.mpr c89 q.1.1)
      · refine ev_aload_n dX7_arrivals_92 rfl rfl ?_
        refine ev_getf dX7_arrivals_93 fl_7_139 ?_
        refine ev_aload_n dX7_arrivals_96 rfl rfl ?_
        refine ev_getf dX7_arrivals_97 fl_7_20 ?_
        refine ev_iload_n dX7_arrivals_100 rfl ?_
        refine ev_iald dX7_arrivals_101 rfl rfl (show _ < 8 from by omega) ?_
        refine ev_icmp_lt (tgt := 131) dX7_arrivals_102 rfl (fun c102 => ?_) (fun c102 => ?_)
        · exact hno (by simp only [perK, Bool.and_eq_true, decide_eq_true_eq]; exact fun q => Int32.not_lt.mpr q.1.2 c102)
        · refine ev_aload_n dX7_arrivals_105 rfl rfl ?_
          refine ev_getf dX7_arrivals_106 fl_7_139 ?_
          refine ev_aload_n dX7_arrivals_109 rfl rfl ?_
          refine ev_getf dX7_arrivals_110 fl_7_20 ?_
          refine ev_iload_n dX7_arrivals_113 rfl ?_
          refine ev_iald dX7_arrivals_114 rfl rfl (show _ < 8 from by omega) ?_
          refine ev_isub dX7_arrivals_115 ?_
          refine ev_aload_n dX7_arrivals_116 rfl rfl ?_
          refine ev_getf dX7_arrivals_117 fl_7_17 ?_
          refine ev_iload_n dX7_arrivals_120 rfl ?_
          refine ev_iald dX7_arrivals_121 rfl rfl (show _ < 8 from by omega) ?_
          refine ev_irem dX7_arrivals_122 (fun q => c89 (by rw [show M.1 1 i = 0 from q]; decide)) ?_
          refine ev_if_ne (tgt := 131) dX7_arrivals_123 rfl (fun c123 => ?_) (fun c123 => ?_)
          · exact hno (by simp only [perK, Bool.and_eq_true, decide_eq_true_eq]; exact fun q => c123 q.2)
          · refine ev_aload_n dX7_arrivals_126 rfl rfl ?_
            refine ev_iload_n dX7_arrivals_127 rfl ?_
            refine evV2 dX7_arrivals_128 cl_X7_arrivals_167 ⟨rfl, rfl, fun _ => ⟨_, rfl⟩⟩ (Nat.le_of_ble_eq_true rfl) (m_begin K M G i T X h b0 hin) ?_
            simp only [relN]
            rw [if_pos (by simp only [perK, Bool.and_eq_true, decide_eq_true_eq]; exact ⟨⟨Int32.not_le.mp c89, Int32.not_lt.mp c102⟩, Classical.not_not.mp c123⟩)]
            refine ev_iinc dX7_arrivals_131 rfl ?_
            refine ev_goto (tgt := 75) dX7_arrivals_134 rfl ?_
            rw [e1]
            exact ih (i + 1) (X + 23) _ (FI_begin h hin) ⟨b.1, by have := b.2; omega⟩ (by rw [begin_n]; omega)
theorem m_arrivals (K M : KT) (G : GT) (T X : Nat) (h : FI M T X) (b : Bd T (X + 192)) : Ev M_X7_arrivals 0 (ent M_X7_arrivals [vR 8 0]) [] (conc K M G) (0, none, conc K (midK M) G) := by
  show Ev M_X7_arrivals 0 [vR 8 0, vU] [] (conc K M G) _
  have hn := h.1.1.1
  obtain ⟨h1, e1⟩ := FI_missN (M.2 0 0) 0 M X h (by omega)
  have hr := mr_loop K G T (M.2 0 0) 0 (X + M.2 0 0) _ h1 ⟨b.1, by have := b.2; omega⟩ (by rw [e1]; omega)
  have h73 : Ev M_X7_arrivals 73 [vR 8 0, vU] [] (conc K (missN (M.2 0 0) 0 M) G) (0, none, conc K (midK M) G) := by
    refine ev_iconst (v := 0) dX7_arrivals_73 rfl ?_
    refine ev_istore_n dX7_arrivals_74 rfl ?_
    exact hr
  have hl := mm_loop K G T _ _ h73 (M.2 0 0) 0 X M h ⟨b.1, by have := b.2; omega⟩ (by omega) rfl
  refine ev_iconst (v := 0) dX7_arrivals_0 rfl ?_
  refine ev_istore_n dX7_arrivals_1 rfl ?_
  exact hl
