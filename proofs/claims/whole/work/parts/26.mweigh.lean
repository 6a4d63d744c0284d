/-! THE REFERENCE: leaves, and the weighing -/
theorem m_in (S : Sto) (a b c : Int32) : Ev M_X7_in 0 (ent M_X7_in [vI a, vI b, vI c]) [] S (0, some (vI (bI (b ≤ a ∧ a ≤ c))), S) := by
  show Ev M_X7_in 0 [vI a, vI b, vI c] [] S _
  refine ev_iload_n dX7_in_0 rfl ?_
  refine ev_iload_n dX7_in_1 rfl ?_
  refine ev_icmp_lt (tgt := 14) dX7_in_2 rfl (fun c2 => ?_) (fun c2 => ?_)
  · refine ev_iconst (v := 0) dX7_in_14 rfl ?_
    rw [bI_f (fun h => Int32.not_lt.mpr h.1 c2)]
    exact ev_iret dX7_in_15 (Or.inr ⟨rfl, rfl⟩)
  · refine ev_iload_n dX7_in_5 rfl ?_
    refine ev_iload_n dX7_in_6 rfl ?_
    refine ev_icmp_gt (tgt := 14) dX7_in_7 rfl (fun c7 => ?_) (fun c7 => ?_)
    · refine ev_iconst (v := 0) dX7_in_14 rfl ?_
      rw [bI_f (fun h => Int32.not_lt.mpr h.2 c7)]
      exact ev_iret dX7_in_15 (Or.inr ⟨rfl, rfl⟩)
    · refine ev_iconst (v := 1) dX7_in_10 rfl ?_
      refine ev_goto (tgt := 15) dX7_in_11 rfl ?_
      rw [bI_t ⟨Int32.not_lt.mp c2, Int32.not_lt.mp c7⟩]
      exact ev_iret dX7_in_15 (Or.inr ⟨rfl, rfl⟩)
theorem m_isTask (K M : KT) (G : GT) (x : Int32) : Ev M_X7_isTask 0 (ent M_X7_isTask [vR 8 0, vI x]) [] (conc K M G) (0, some (vI (bI (isT (M.2 0 0) x))), conc K M G) := by
  show Ev M_X7_isTask 0 [vR 8 0, vI x] [] (conc K M G) _
  refine ev_iload_n dX7_isTask_0 rfl ?_
  refine ev_if_lt (tgt := 16) dX7_isTask_1 rfl (fun c1 => ?_) (fun c1 => ?_)
  · refine ev_iconst (v := 0) dX7_isTask_16 rfl ?_
    rw [bI_f (fun h => Int32.not_lt.mpr h.1 c1)]
    exact ev_iret dX7_isTask_17 (Or.inr ⟨rfl, rfl⟩)
  · refine ev_iload_n dX7_isTask_4 rfl ?_
    refine ev_aload_n dX7_isTask_5 rfl rfl ?_
    refine ev_getf dX7_isTask_6 fl_7_112 ?_
    refine ev_icmp_ge (tgt := 16) dX7_isTask_9 rfl (fun c9 => ?_) (fun c9 => ?_)
    · refine ev_iconst (v := 0) dX7_isTask_16 rfl ?_
      rw [bI_f (fun h => Int32.not_lt.mpr c9 h.2)]
      exact ev_iret dX7_isTask_17 (Or.inr ⟨rfl, rfl⟩)
    · refine ev_iconst (v := 1) dX7_isTask_12 rfl ?_
      refine ev_goto (tgt := 17) dX7_isTask_13 rfl ?_
      rw [bI_t ⟨Int32.not_lt.mp c1, Int32.not_le.mp c9⟩]
      exact ev_iret dX7_isTask_17 (Or.inr ⟨rfl, rfl⟩)
def betK (M : KT) (a b : Int32) : Bool := if M.1 28 0 = 0 then decide (b < a) else decide (a < b)
theorem m_better (K M : KT) (G : GT) (a b : Int32) : Ev M_X7_better 0 (ent M_X7_better [vR 8 0, vI a, vI b]) [] (conc K M G) (0, some (vI (bI (betK M a b = true))), conc K M G) := by
  show Ev M_X7_better 0 [vR 8 0, vI a, vI b] [] (conc K M G) _
  refine ev_aload_n dX7_better_0 rfl rfl ?_
  refine ev_getf dX7_better_1 fl_7_105 ?_
  refine ev_if_eq (tgt := 20) dX7_better_4 rfl (fun c4 => ?_) (fun c4 => ?_)
  · refine ev_iload_n dX7_better_20 rfl ?_
    refine ev_iload_n dX7_better_21 rfl ?_
    refine ev_icmp_le (tgt := 29) dX7_better_22 rfl (fun c22 => ?_) (fun c22 => ?_)
    · refine ev_iconst (v := 0) dX7_better_29 rfl ?_
      rw [bI_f (by simp [betK, c4, Int32.not_lt.mpr c22])]
      exact ev_iret dX7_better_30 (Or.inr ⟨rfl, rfl⟩)
    · refine ev_iconst (v := 1) dX7_better_25 rfl ?_
      refine ev_goto (tgt := 30) dX7_better_26 rfl ?_
      rw [bI_t (by simp [betK, c4, Int32.not_le.mp c22])]
      exact ev_iret dX7_better_30 (Or.inr ⟨rfl, rfl⟩)
  · refine ev_iload_n dX7_better_7 rfl ?_
    refine ev_iload_n dX7_better_8 rfl ?_
    refine ev_icmp_ge (tgt := 16) dX7_better_9 rfl (fun c9 => ?_) (fun c9 => ?_)
    · refine ev_iconst (v := 0) dX7_better_16 rfl ?_
      refine ev_goto (tgt := 30) dX7_better_17 rfl ?_
      rw [bI_f (by simp [betK, c4, Int32.not_lt.mpr c9])]
      exact ev_iret dX7_better_30 (Or.inr ⟨rfl, rfl⟩)
    · refine ev_iconst (v := 1) dX7_better_12 rfl ?_
      refine ev_goto (tgt := 30) dX7_better_13 rfl ?_
      rw [bI_t (by simp [betK, c4, Int32.not_le.mp c9])]
      exact ev_iret dX7_better_30 (Or.inr ⟨rfl, rfl⟩)
theorem m_thrown (K M : KT) (G : GT) : Ev M_X7_thrown 0 (ent M_X7_thrown [vR 8 0]) [] (conc K M G) (0, some (vI (M.1 28 4)), conc K M G) := by
  show Ev M_X7_thrown 0 [vR 8 0] [] (conc K M G) _
  refine ev_aload_n dX7_thrown_0 rfl rfl ?_
  refine ev_getf dX7_thrown_1 fl_7_109 ?_
  exact ev_iret dX7_thrown_4 (Or.inl rfl)
def EB (M : KT) : Prop := M.2 0 3 + Ph M ≤ 2 ^ 30
theorem m_note (K M : KT) (G : GT) (w : Int32) (t : Nat) (h : Inv M) (hb : M.2 0 3 < 2 ^ 31) : Ev M_X7_note 0 (ent M_X7_note [vR 8 0, vI w, vI (nI t)]) [] (conc K M G) (0, none, conc K (noteK M w t) G) := by
  show Ev M_X7_note 0 [vR 8 0, vI w, vI (nI t)] [] (conc K M G) _
  have hr : nI (M.2 0 3) - nI (M.2 0 3) / 40 * 40 = nI (M.2 0 4) := by
    rw [show (40 : Int32) = nI 40 from rfl, pk_rem hb (by omega) (by omega), h.1.2.2.2]
  have hx := h.next
  refine ev_aload_n dX7_note_0 rfl rfl ?_
  refine ev_getf dX7_note_1 fl_7_96 ?_
  refine ev_aload_n dX7_note_4 rfl rfl ?_
  refine ev_getf dX7_note_5 fl_7_136 ?_
  refine ev_bipush (v := 40) dX7_note_8 rfl ?_
  refine ev_irem dX7_note_10 (by decide) ?_
  refine ev_iload_n dX7_note_11 rfl ?_
  refine ev_iastS dX7_note_12 rfl (by decide) (hr) (show _ < 40 from hx) (pu_ma_56 _ _ _ _ _) ?_
  refine ev_aload_n dX7_note_13 rfl rfl ?_
  refine ev_getf dX7_note_14 fl_7_99 ?_
  refine ev_aload_n dX7_note_17 rfl rfl ?_
  refine ev_getf dX7_note_18 fl_7_136 ?_
  refine ev_bipush (v := 40) dX7_note_21 rfl ?_
  refine ev_irem dX7_note_23 (by decide) ?_
  refine ev_aload_n dX7_note_24 rfl rfl ?_
  refine ev_getf dX7_note_25 fl_7_139 ?_
  refine ev_iastS dX7_note_28 rfl (by decide) (hr) (show _ < 40 from hx) (pu_ma_57 _ _ _ _ _) ?_
  refine ev_aload_n dX7_note_29 rfl rfl ?_
  refine ev_getf dX7_note_30 fl_7_102 ?_
  refine ev_aload_n dX7_note_33 rfl rfl ?_
  refine ev_getf dX7_note_34 fl_7_136 ?_
  refine ev_bipush (v := 40) dX7_note_37 rfl ?_
  refine ev_irem dX7_note_39 (by decide) ?_
  refine ev_iload_n dX7_note_40 rfl ?_
  refine ev_iastS dX7_note_41 rfl (by decide) (hr) (show _ < 40 from hx) (pu_ma_58 _ _ _ _ _) ?_
  refine ev_aload_n dX7_note_42 rfl rfl ?_
  refine ev_dup dX7_note_43 rfl ?_
  refine ev_getf dX7_note_44 fl_7_136 ?_
  refine ev_iconst (v := 1) dX7_note_47 rfl ?_
  refine ev_iadd dX7_note_48 ?_
  refine ev_putfS dX7_note_49 fl_7_136 rfl rfl (setS_v (congrArg vI (nI_1 _)) (pu_mod_35 _ _ _ _)) ?_
  exact ev_vret dX7_note_52 rfl
theorem m_ready (K M : KT) (G : GT) (t : Nat) (ht : t < 8) : Ev M_X7_ready 0 (ent M_X7_ready [vR 8 0, vI (nI t)]) [] (conc K M G) (0, none, conc K (sI (sI (sI M 6 t 1) 28 3 (M.1 28 3 + 1)) 11 t (M.1 28 3 + 1)) G) := by
  show Ev M_X7_ready 0 [vR 8 0, vI (nI t)] [] (conc K M G) _
  refine ev_aload_n dX7_ready_0 rfl rfl ?_
  refine ev_getf dX7_ready_1 fl_7_42 ?_
  refine ev_iload_n dX7_ready_4 rfl ?_
  refine ev_iconst (v := 1) dX7_ready_5 rfl ?_
  refine ev_iastS dX7_ready_6 rfl (by decide) rfl (show _ < 8 from by omega) (pu_ma_36 _ _ _ _ _) ?_
  refine ev_aload_n dX7_ready_7 rfl rfl ?_
  refine ev_dup dX7_ready_8 rfl ?_
  refine ev_getf dX7_ready_9 fl_7_142 ?_
  refine ev_iconst (v := 1) dX7_ready_12 rfl ?_
  refine ev_iadd dX7_ready_13 ?_
  refine ev_putfS dX7_ready_14 fl_7_142 rfl rfl (pu_mod_5 _ _ _ _) ?_
  refine ev_aload_n dX7_ready_17 rfl rfl ?_
  refine ev_getf dX7_ready_18 fl_7_57 ?_
  refine ev_iload_n dX7_ready_21 rfl ?_
  refine ev_aload_n dX7_ready_22 rfl rfl ?_
  refine ev_getf dX7_ready_23 fl_7_142 ?_
  refine ev_iastS dX7_ready_26 rfl (by decide) rfl (show _ < 8 from by omega) (pu_ma_41 _ _ _ _ _) ?_
  exact ev_vret dX7_ready_27 rfl
/-! the weighing -/
def li1 (M : KT) (t m : Nat) (u : Int32) : Int32 := if M.2 4 m = t + 1 ∧ M.1 21 m = 2 ∧ u < M.1 22 m then M.1 22 m else u
def liT (M : KT) (t : Nat) : Nat → Nat → Int32 → Int32
  | 0, _, u => u
  | j + 1, m, u => liT M t j (m + 1) (li1 M t m u)
theorem liftN_t (M : KT) (t : Nat) : ∀ (j m : Nat) (R : Nat → Int32), liftN M j m R t = liT M t j m (R t) := by
  intro j
  induction j with
  | zero => intro m R; rfl
  | succ j ih =>
    intro m R
    simp only [liftN, liT]
    rw [ih]
    congr 1
    unfold liftF li1
    cases e : M.2 4 m with
    | zero => rw [if_neg (fun q => nomatch q.1)]
    | succ o =>
      dsimp only
      by_cases ho : t = o
      · subst ho
        by_cases c : M.1 21 m = 2 ∧ R t < M.1 22 m
        · rw [if_pos c, if_pos ⟨rfl, c⟩]; unfold updF; rw [if_pos rfl]
        · rw [if_neg c, if_neg (fun q => c q.2)]
      · rw [if_neg (fun q => ho (by omega))]
        split
        · unfold updF; rw [if_neg ho]
        · rfl
theorem updF_get (R : Nat → Int32) (t : Nat) (v : Int32) : updF R t v t = v := if_pos rfl
theorem updF_upd (R : Nat → Int32) (t : Nat) (v w : Int32) : updF (updF R t v) t w = updF R t w := by
  funext i
  unfold updF
  split <;> rfl
theorem set13 (K M : KT) (G : GT) (R : Nat → Int32) (j : Nat) (v : Int32) : setS (conc K (setA M 13 R) G) 44 0 j (vI v) = conc K (setA M 13 (updF R j v)) G := (pu_ma_44 _ _ _ _ _).trans (by rw [sI_setA])
theorem mw_inner (K M : KT) (G : GT) (t : Nat) (ht : t < M.2 0 0) (h : Inv M) (hd : M.1 28 0 = 0) (r : Res) (R : Nat → Int32) (hk : Ev M_X7_weigh 127 [vR 8 0, vI (nI t), vU, vU, vU] [] (conc K (setA M 13 (updF R t (liT M t (M.2 0 1) 0 (R t)))) G) r) : ∀ (j m : Nat) (u : Int32), m + j = M.2 0 1 → liT M t j m u = liT M t (M.2 0 1) 0 (R t) → Ev M_X7_weigh 40 [vR 8 0, vI (nI t), vI (nI m), vU, vU] [] (conc K (setA M 13 (updF R t u)) G) r := by
  have hn := h.1.1
  have hm4 := h.1.2.1
  have hq : ∀ m, (mi (M.2 4 m) = nI t) ↔ M.2 4 m = t + 1 := by
    intro m
    rcases e : M.2 4 m with _ | o
    · exact ⟨fun q => absurd q (by show ¬ (-1 : Int32) = nI t; intro q2; have q3 := congrArg Int32.toInt q2; rw [nI_toInt (by omega)] at q3; have : (-1 : Int32).toInt = -1 := rfl; omega), fun q => by omega⟩
    · show nI o = nI t ↔ _
      by_cases hb : o < 2 ^ 31
      · rw [nI_eq hb (by omega)]; omega
      · constructor
        · intro q
          sorry
        · intro q; omega
  sorry
