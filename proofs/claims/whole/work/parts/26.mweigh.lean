/-! THE REFERENCE: leaves, and the weighing -/
theorem m_in (S : Sto) (a b c : Int32) : Ev M_X7_in 0 (ent M_X7_in [vI a, vI b, vI c]) [] S (0, some (vI (bI (b ≤ a ∧ a ≤ c))), S) := by
  show Ev M_X7_in 0 [vI a, vI b, vI c] [] S _
  refine ev_iload_n dX7_in_0 rfl ?_
  refine ev_iload_n dX7_in_1 rfl ?_
  refine ev_icmp_lt (tgt := 14) dX7_in_2 rfl (fun c2 => ?_) (fun c2 => ?_)
  · refine ev_iconst (v := 0) dX7_in_14 rfl ?_
    rw [bI_f (fun h => Int32.not_lt.mpr h.1 c2)]
    exact ev_iret dX7_in_15 (Or.inr ⟨rfl, rfl⟩)
  · refine ev_iload_n dX7_in_5 rfl ?_
    refine ev_iload_n dX7_in_6 rfl ?_
    refine ev_icmp_gt (tgt := 14) dX7_in_7 rfl (fun c7 => ?_) (fun c7 => ?_)
    · refine ev_iconst (v := 0) dX7_in_14 rfl ?_
      rw [bI_f (fun h => Int32.not_lt.mpr h.2 c7)]
      exact ev_iret dX7_in_15 (Or.inr ⟨rfl, rfl⟩)
    · refine ev_iconst (v := 1) dX7_in_10 rfl ?_
      refine ev_goto (tgt := 15) dX7_in_11 rfl ?_
      rw [bI_t ⟨Int32.not_lt.mp c2, Int32.not_lt.mp c7⟩]
      exact ev_iret dX7_in_15 (Or.inr ⟨rfl, rfl⟩)
theorem m_isTask (K M : KT) (G : GT) (x : Int32) : Ev M_X7_isTask 0 (ent M_X7_isTask [vR 8 0, vI x]) [] (conc K M G) (0, some (vI (bI (isT (M.2 0 0) x))), conc K M G) := by
  show Ev M_X7_isTask 0 [vR 8 0, vI x] [] (conc K M G) _
  refine ev_iload_n dX7_isTask_0 rfl ?_
  refine ev_if_lt (tgt := 16) dX7_isTask_1 rfl (fun c1 => ?_) (fun c1 => ?_)
  · refine ev_iconst (v := 0) dX7_isTask_16 rfl ?_
    rw [bI_f (fun h => Int32.not_lt.mpr h.1 c1)]
    exact ev_iret dX7_isTask_17 (Or.inr ⟨rfl, rfl⟩)
  · refine ev_iload_n dX7_isTask_4 rfl ?_
    refine ev_aload_n dX7_isTask_5 rfl rfl ?_
    refine ev_getf dX7_isTask_6 fl_7_112 ?_
    refine ev_icmp_ge (tgt := 16) dX7_isTask_9 rfl (fun c9 => ?_) (fun c9 => ?_)
    · refine ev_iconst (v := 0) dX7_isTask_16 rfl ?_
      rw [bI_f (fun h => Int32.not_lt.mpr c9 h.2)]
      exact ev_iret dX7_isTask_17 (Or.inr ⟨rfl, rfl⟩)
    · refine ev_iconst (v := 1) dX7_isTask_12 rfl ?_
      refine ev_goto (tgt := 17) dX7_isTask_13 rfl ?_
      rw [bI_t ⟨Int32.not_lt.mp c1, Int32.not_le.mp c9⟩]
      exact ev_iret dX7_isTask_17 (Or.inr ⟨rfl, rfl⟩)
def betK (M : KT) (a b : Int32) : Bool := if M.1 28 0 = 0 then decide (b < a) else decide (a < b)
theorem m_better (K M : KT) (G : GT) (a b : Int32) : Ev M_X7_better 0 (ent M_X7_better [vR 8 0, vI a, vI b]) [] (conc K M G) (0, some (vI (bI (betK M a b = true))), conc K M G) := by
  show Ev M_X7_better 0 [vR 8 0, vI a, vI b] [] (conc K M G) _
  refine ev_aload_n dX7_better_0 rfl rfl ?_
  refine ev_getf dX7_better_1 fl_7_105 ?_
  refine ev_if_eq (tgt := 20) dX7_better_4 rfl (fun c4 => ?_) (fun c4 => ?_)
  · refine ev_iload_n dX7_better_20 rfl ?_
    refine ev_iload_n dX7_better_21 rfl ?_
    refine ev_icmp_le (tgt := 29) dX7_better_22 rfl (fun c22 => ?_) (fun c22 => ?_)
    · refine ev_iconst (v := 0) dX7_better_29 rfl ?_
      rw [bI_f (by simp [betK, c4, Int32.not_lt.mpr c22])]
      exact ev_iret dX7_better_30 (Or.inr ⟨rfl, rfl⟩)
    · refine ev_iconst (v := 1) dX7_better_25 rfl ?_
      refine ev_goto (tgt := 30) dX7_better_26 rfl ?_
      rw [bI_t (by simp [betK, c4, Int32.not_le.mp c22])]
      exact ev_iret dX7_better_30 (Or.inr ⟨rfl, rfl⟩)
  · refine ev_iload_n dX7_better_7 rfl ?_
    refine ev_iload_n dX7_better_8 rfl ?_
    refine ev_icmp_ge (tgt := 16) dX7_better_9 rfl (fun c9 => ?_) (fun c9 => ?_)
    · refine ev_iconst (v := 0) dX7_better_16 rfl ?_
      refine ev_goto (tgt := 30) dX7_better_17 rfl ?_
      rw [bI_f (by simp [betK, c4, Int32.not_lt.mpr c9])]
      exact ev_iret dX7_better_30 (Or.inr ⟨rfl, rfl⟩)
    · refine ev_iconst (v := 1) dX7_better_12 rfl ?_
      refine ev_goto (tgt := 30) dX7_better_13 rfl ?_
      rw [bI_t (by simp [betK, c4, Int32.not_le.mp c9])]
      exact ev_iret dX7_better_30 (Or.inr ⟨rfl, rfl⟩)
theorem m_thrown (K M : KT) (G : GT) : Ev M_X7_thrown 0 (ent M_X7_thrown [vR 8 0]) [] (conc K M G) (0, some (vI (M.1 28 4)), conc K M G) := by
  show Ev M_X7_thrown 0 [vR 8 0] [] (conc K M G) _
  refine ev_aload_n dX7_thrown_0 rfl rfl ?_
  refine ev_getf dX7_thrown_1 fl_7_109 ?_
  exact ev_iret dX7_thrown_4 (Or.inl rfl)
def EB (M : KT) : Prop := M.2 0 3 + Ph M ≤ 2 ^ 30
theorem m_note (K M : KT) (G : GT) (w : Int32) (t : Nat) (h : M.2 0 4 = M.2 0 3 % 40) (hb : M.2 0 3 < 2 ^ 31) : Ev M_X7_note 0 (ent M_X7_note [vR 8 0, vI w, vI (nI t)]) [] (conc K M G) (0, none, conc K (noteK M w t) G) := by
  show Ev M_X7_note 0 [vR 8 0, vI w, vI (nI t)] [] (conc K M G) _
  have hr : nI (M.2 0 3) - nI (M.2 0 3) / 40 * 40 = nI (M.2 0 4) := by
    rw [show (40 : Int32) = nI 40 from rfl, pk_rem hb (by omega) (by omega), h]
  have hx : M.2 0 4 < 40 := by rw [h]; omega
  refine ev_aload_n dX7_note_0 rfl rfl ?_
  refine ev_getf dX7_note_1 fl_7_96 ?_
  refine ev_aload_n dX7_note_4 rfl rfl ?_
  refine ev_getf dX7_note_5 fl_7_136 ?_
  refine ev_bipush (v := 40) dX7_note_8 rfl ?_
  refine ev_irem dX7_note_10 (by decide) ?_
  refine ev_iload_n dX7_note_11 rfl ?_
  refine ev_iastS dX7_note_12 rfl (by decide) (hr) (show _ < 40 from hx) (pu_ma_56 _ _ _ _ _) ?_
  refine ev_aload_n dX7_note_13 rfl rfl ?_
  refine ev_getf dX7_note_14 fl_7_99 ?_
  refine ev_aload_n dX7_note_17 rfl rfl ?_
  refine ev_getf dX7_note_18 fl_7_136 ?_
  refine ev_bipush (v := 40) dX7_note_21 rfl ?_
  refine ev_irem dX7_note_23 (by decide) ?_
  refine ev_aload_n dX7_note_24 rfl rfl ?_
  refine ev_getf dX7_note_25 fl_7_139 ?_
  refine ev_iastS dX7_note_28 rfl (by decide) (hr) (show _ < 40 from hx) (pu_ma_57 _ _ _ _ _) ?_
  refine ev_aload_n dX7_note_29 rfl rfl ?_
  refine ev_getf dX7_note_30 fl_7_102 ?_
  refine ev_aload_n dX7_note_33 rfl rfl ?_
  refine ev_getf dX7_note_34 fl_7_136 ?_
  refine ev_bipush (v := 40) dX7_note_37 rfl ?_
  refine ev_irem dX7_note_39 (by decide) ?_
  refine ev_iload_n dX7_note_40 rfl ?_
  refine ev_iastS dX7_note_41 rfl (by decide) (hr) (show _ < 40 from hx) (pu_ma_58 _ _ _ _ _) ?_
  refine ev_aload_n dX7_note_42 rfl rfl ?_
  refine ev_dup dX7_note_43 rfl ?_
  refine ev_getf dX7_note_44 fl_7_136 ?_
  refine ev_iconst (v := 1) dX7_note_47 rfl ?_
  refine ev_iadd dX7_note_48 ?_
  refine ev_putfS dX7_note_49 fl_7_136 rfl rfl (setS_v (congrArg vI (nI_1 _)) (pu_mod_35 _ _ _ _)) ?_
  exact ev_vret dX7_note_52 rfl
theorem m_ready (K M : KT) (G : GT) (t : Nat) (ht : t < 8) : Ev M_X7_ready 0 (ent M_X7_ready [vR 8 0, vI (nI t)]) [] (conc K M G) (0, none, conc K (sI (sI (sI M 6 t 1) 28 3 (M.1 28 3 + 1)) 11 t (M.1 28 3 + 1)) G) := by
  show Ev M_X7_ready 0 [vR 8 0, vI (nI t)] [] (conc K M G) _
  refine ev_aload_n dX7_ready_0 rfl rfl ?_
  refine ev_getf dX7_ready_1 fl_7_42 ?_
  refine ev_iload_n dX7_ready_4 rfl ?_
  refine ev_iconst (v := 1) dX7_ready_5 rfl ?_
  refine ev_iastS dX7_ready_6 rfl (by decide) rfl (show _ < 8 from by omega) (pu_ma_36 _ _ _ _ _) ?_
  refine ev_aload_n dX7_ready_7 rfl rfl ?_
  refine ev_dup dX7_ready_8 rfl ?_
  refine ev_getf dX7_ready_9 fl_7_142 ?_
  refine ev_iconst (v := 1) dX7_ready_12 rfl ?_
  refine ev_iadd dX7_ready_13 ?_
  refine ev_putfS dX7_ready_14 fl_7_142 rfl rfl (pu_mod_5 _ _ _ _) ?_
  refine ev_aload_n dX7_ready_17 rfl rfl ?_
  refine ev_getf dX7_ready_18 fl_7_57 ?_
  refine ev_iload_n dX7_ready_21 rfl ?_
  refine ev_aload_n dX7_ready_22 rfl rfl ?_
  refine ev_getf dX7_ready_23 fl_7_142 ?_
  refine ev_iastS dX7_ready_26 rfl (by decide) rfl (show _ < 8 from by omega) (pu_ma_41 _ _ _ _ _) ?_
  exact ev_vret dX7_ready_27 rfl
/-! the weighing -/
def li1 (M : KT) (t m : Nat) (u : Int32) : Int32 := if M.2 4 m = t + 1 ∧ M.1 21 m = 2 ∧ u < M.1 22 m then M.1 22 m else u
def liT (M : KT) (t : Nat) : Nat → Nat → Int32 → Int32
  | 0, _, u => u
  | j + 1, m, u => liT M t j (m + 1) (li1 M t m u)
theorem updF_get (R : Nat → Int32) (t : Nat) (v : Int32) : updF R t v t = v := if_pos rfl
theorem updF_ne (R : Nat → Int32) {t i : Nat} (v : Int32) (h : ¬ i = t) : updF R t v i = R i := if_neg h
theorem updF_upd (R : Nat → Int32) (t : Nat) (v w : Int32) : updF (updF R t v) t w = updF R t w := by
  funext i
  unfold updF
  split <;> rfl
theorem liftF_t (M : KT) (t m : Nat) (R : Nat → Int32) : liftF M R m t = li1 M t m (R t) := by
  unfold liftF li1
  cases e : M.2 4 m with
  | zero => rw [if_neg (fun q => nomatch q.1)]
  | succ o =>
    dsimp only
    by_cases ho : t = o
    · subst ho
      by_cases c : M.1 21 m = 2 ∧ R t < M.1 22 m
      · rw [if_pos c, if_pos ⟨rfl, c⟩, updF_get]
      · rw [if_neg c, if_neg (fun q => c q.2)]
    · rw [if_neg (show ¬ (o + 1 = t + 1 ∧ M.1 21 m = 2 ∧ R t < M.1 22 m) from fun q => ho (Nat.succ.inj q.1).symm)]
      by_cases c : M.1 21 m = 2 ∧ R o < M.1 22 m
      · rw [if_pos c, updF_ne _ _ ho]
      · rw [if_neg c]
theorem liftN_t (M : KT) (t : Nat) : ∀ (j m : Nat) (R : Nat → Int32), liftN M j m R t = liT M t j m (R t) := by
  intro j
  induction j with
  | zero => intro m R; rfl
  | succ j ih =>
    intro m R
    simp only [liftN, liT]
    rw [ih, liftF_t]
theorem mi_neg {w : Nat} (h : w ≤ 100) : mi w < 0 ↔ w = 0 := by
  cases w with
  | zero => exact ⟨fun _ => rfl, fun _ => (by decide : (-1 : Int32) < 0)⟩
  | succ o => exact ⟨fun q => absurd q (by show ¬ nI o < nI 0; rw [nI_ltI (by omega) (by omega)]; omega), fun q => by omega⟩
theorem mi_eq {w t : Nat} (h : w ≤ 100) (ht : t ≤ 100) : mi w = nI t ↔ w = t + 1 := by
  cases w with
  | zero => exact ⟨fun q => absurd (show mi 0 < 0 by decide) (by rw [q]; show ¬ nI t < nI 0; rw [nI_ltI (by omega) (by omega)]; omega), fun q => by omega⟩
  | succ o => show nI o = nI t ↔ _; rw [nI_eq (by omega) (by omega)]; omega
theorem set13 (K M : KT) (G : GT) (R : Nat → Int32) (j : Nat) (v : Int32) : setS (conc K (setA M 13 R) G) 44 0 j (vI v) = conc K (setA M 13 (updF R j v)) G := (pu_ma_44 _ _ _ _ _).trans (by rw [sI_setA])
theorem co_mw {K M : KT} {G : GT} {i w : Nat} (h : M.2 3 i = w) : (conc K M G).1 42 0 i = vI (mi w) := by rw [← h]; rfl
theorem co_mo {K M : KT} {G : GT} {i w : Nat} (h : M.2 4 i = w) : (conc K M G).1 54 0 i = vI (mi w) := by rw [← h]; rfl
theorem mw_inner (K M : KT) (G : GT) (t : Nat) (ht : t < M.2 0 0) (h : Inv M) (hd : M.1 28 0 = 0) (r : Res) (R : Nat → Int32) (b : Int32) (hk : Ev M_X7_weigh 127 [vR 8 0, vI (nI t), vU, vU, vU] [] (conc K (setA M 13 (updF R t (liT M t (M.2 0 1) 0 b))) G) r) : ∀ (j m : Nat) (u : Int32), m + j = M.2 0 1 → liT M t j m u = liT M t (M.2 0 1) 0 b → Ev M_X7_weigh 40 [vR 8 0, vI (nI t), vI (nI m), vU, vU] [] (conc K (setA M 13 (updF R t u)) G) r := by
  have hn := h.1.1
  have hm4 := h.1.2.1
  intro j
  induction j with
  | zero =>
    intro m u hm hl
    rw [← hl] at hk
    refine ev_iload_n dX7_weigh_40 rfl ?_
    refine ev_aload_n dX7_weigh_41 rfl rfl ?_
    refine ev_getf dX7_weigh_42 fl_7_126 ?_
    refine ev_icmp_ge (tgt := 127) dX7_weigh_45 rfl (fun c45 => ?_) (fun c45 => ?_)
    · refine ev_forget (ls2 := [_, _, vU, _, _]) (Fg_to ⟨Or.inr ⟨rfl, rfl⟩, Or.inr ⟨rfl, rfl⟩, Or.inl rfl, Or.inr ⟨rfl, rfl⟩, Or.inr ⟨rfl, rfl⟩, trivial⟩) ?_
      exact hk
    · exact absurd (nI_le (a := M.2 0 1) (b := m) (by omega) (by omega)) c45
  | succ j ih =>
    intro m u hm hl
    have e1 : nI m + Int32.ofInt 1 = nI (m + 1) := nI_1 m
    have hmo := h.2.1 m (by omega)
    have hu : updF R t u t = u := updF_get R t u
    have h96 : ∀ (z v : Int32), (z = 0 → v = u) → (¬ z = 0 → v = M.1 22 m) → li1 M t m u = v → Ev M_X7_weigh 96 [vR 8 0, vI (nI t), vI (nI m), vI z, vU] [] (conc K (setA M 13 (updF R t u)) G) r := by
      intro z v h0 h1 hv
      have h121 : Ev M_X7_weigh 121 [vR 8 0, vI (nI t), vI (nI m), vI z, vU] [] (conc K (setA M 13 (updF R t v)) G) r := by
        refine ev_iinc dX7_weigh_121 rfl ?_
        refine ev_goto (tgt := 40) dX7_weigh_124 rfl ?_
        refine ev_forget (ls2 := [_, _, _, vU, _]) (Fg_to ⟨Or.inr ⟨rfl, rfl⟩, Or.inr ⟨rfl, rfl⟩, Or.inr ⟨rfl, rfl⟩, Or.inl rfl, Or.inr ⟨rfl, rfl⟩, trivial⟩) ?_
        rw [e1]
        refine ih (m + 1) v (by omega) ?_
        rw [← hl, ← hv]
        rfl
      refine ev_aload_n dX7_weigh_96 rfl rfl ?_
      refine ev_getf dX7_weigh_97 fl_7_66 ?_
      refine ev_iload_n dX7_weigh_100 rfl ?_
      refine ev_iload_n dX7_weigh_101 rfl ?_
      refine ev_if_eq (tgt := 114) dX7_weigh_102 rfl (fun c102 => ?_) (fun c102 => ?_)
      · refine ev_aload_n dX7_weigh_114 rfl rfl ?_
        refine ev_getf dX7_weigh_115 fl_7_66 ?_
        refine ev_iload_n dX7_weigh_118 rfl ?_
        refine ev_iald dX7_weigh_119 rfl rfl (show _ < 8 from by omega) ?_
        refine ev_iastS dX7_weigh_120 rfl (by decide) rfl (show _ < 8 from by omega) (set13 _ _ _ _ _ _) ?_
        rw [show (setA M 13 (updF R t u)).1 13 t = u from hu, updF_upd, ← h0 c102]
        exact h121
      · refine ev_aload_n dX7_weigh_105 rfl rfl ?_
        refine ev_getf dX7_weigh_106 fl_7_90 ?_
        refine ev_iload_n dX7_weigh_109 rfl ?_
        refine ev_iald dX7_weigh_110 rfl rfl (show _ < 4 from by omega) ?_
        refine ev_goto (tgt := 120) dX7_weigh_111 rfl ?_
        refine ev_iastS dX7_weigh_120 rfl (by decide) rfl (show _ < 8 from by omega) (set13 _ _ _ _ _ _) ?_
        rw [show (setA M 13 (updF R t u)).1 22 m = v from (h1 c102).symm, updF_upd]
        exact h121
    refine ev_iload_n dX7_weigh_40 rfl ?_
    refine ev_aload_n dX7_weigh_41 rfl rfl ?_
    refine ev_getf dX7_weigh_42 fl_7_126 ?_
    refine ev_icmp_ge (tgt := 127) dX7_weigh_45 rfl (fun c45 => ?_) (fun c45 => ?_)
    · exact absurd c45 (nI_ge (a := m) (b := M.2 0 1) (by omega) (by omega))
    · refine ev_aload_n dX7_weigh_48 rfl rfl ?_
      refine ev_getf dX7_weigh_49 fl_7_105 ?_
      refine ev_if_ne (tgt := 127) dX7_weigh_52 rfl (fun c52 => ?_) (fun c52 => ?_)
      · exact absurd hd c52
      · refine ev_aload_n dX7_weigh_55 rfl rfl ?_
        refine ev_getf dX7_weigh_56 fl_7_93 ?_
        refine ev_iload_n dX7_weigh_59 rfl ?_
        refine ev_iald dX7_weigh_60 rfl rfl (show _ < 4 from by omega) ?_
        refine ev_iload_n dX7_weigh_61 rfl ?_
        refine ev_icmp_ne (tgt := 94) dX7_weigh_62 rfl (fun c62 => ?_) (fun c62 => ?_)
        · refine ev_iconst (v := 0) dX7_weigh_94 rfl ?_
          refine ev_istore_n dX7_weigh_95 rfl ?_
          exact h96 0 u (fun _ => rfl) (fun q => absurd rfl q) (if_neg (fun q => c62 ((mi_eq (w := M.2 4 m) (by omega) (by omega)).mpr q.1)))
        · refine ev_aload_n dX7_weigh_65 rfl rfl ?_
          refine ev_getf dX7_weigh_66 fl_7_87 ?_
          refine ev_iload_n dX7_weigh_69 rfl ?_
          refine ev_iald dX7_weigh_70 rfl rfl (show _ < 4 from by omega) ?_
          refine ev_iconst (v := 2) dX7_weigh_71 rfl ?_
          refine ev_icmp_ne (tgt := 94) dX7_weigh_72 rfl (fun c72 => ?_) (fun c72 => ?_)
          · refine ev_iconst (v := 0) dX7_weigh_94 rfl ?_
            refine ev_istore_n dX7_weigh_95 rfl ?_
            exact h96 0 u (fun _ => rfl) (fun q => absurd rfl q) (if_neg (fun q => c72 q.2.1))
          · refine ev_aload_n dX7_weigh_75 rfl rfl ?_
            refine ev_getf dX7_weigh_76 fl_7_90 ?_
            refine ev_iload_n dX7_weigh_79 rfl ?_
            refine ev_iald dX7_weigh_80 rfl rfl (show _ < 4 from by omega) ?_
            refine ev_aload_n dX7_weigh_81 rfl rfl ?_
            refine ev_getf dX7_weigh_82 fl_7_66 ?_
            refine ev_iload_n dX7_weigh_85 rfl ?_
            refine ev_iald dX7_weigh_86 rfl rfl (show _ < 8 from by omega) ?_
            refine ev_icmp_le (tgt := 94) dX7_weigh_87 rfl (fun c87 => ?_) (fun c87 => ?_)
            · refine ev_iconst (v := 0) dX7_weigh_94 rfl ?_
              refine ev_istore_n dX7_weigh_95 rfl ?_
              exact h96 0 u (fun _ => rfl) (fun q => absurd rfl q) (if_neg (fun q => Int32.not_lt.mpr c87 (show updF R t u t < _ from hu.symm ▸ q.2.2)))
            · refine ev_iconst (v := 1) dX7_weigh_90 rfl ?_
              refine ev_goto (tgt := 95) dX7_weigh_91 rfl ?_
              refine ev_istore_n dX7_weigh_95 rfl ?_
              exact h96 1 (M.1 22 m) (fun q => absurd q (by decide)) (fun _ => rfl) (if_pos ⟨(mi_eq (w := M.2 4 m) (by omega) (by omega)).mp (Classical.not_not.mp c62), Classical.not_not.mp c72, by rw [← hu]; exact Int32.not_le.mp c87⟩)
/-- the first loop -/
def u0 (M : KT) (t : Nat) : Int32 := if M.1 28 0 = 0 then liT M t (M.2 0 1) 0 (M.1 0 t) else M.1 10 t
def ubF (M : KT) (i : Nat) : Nat → Int32 := fun t => if t < i then u0 M t else M.1 13 t
theorem ubF_0 (M : KT) : setA M 13 (ubF M 0) = M := by
  rw [show ubF M 0 = M.1 13 from funext fun t => if_neg (Nat.not_lt_zero t)]
  exact setA_self M 13
theorem ubF_s (M : KT) (i : Nat) : updF (ubF M i) i (u0 M i) = ubF M (i + 1) := by
  funext t
  simp only [updF, ubF]
  by_cases h : t = i
  · rw [if_pos h, if_pos (by omega), h]
  · rw [if_neg h]
    by_cases h2 : t < i
    · rw [if_pos h2, if_pos (by omega)]
    · rw [if_neg h2, if_neg (by omega)]
theorem mw_A (K M : KT) (G : GT) (h : Inv M) (r : Res) (hk : Ev M_X7_weigh 133 [vR 8 0, vU, vU, vU, vU] [] (conc K (setA M 13 (ubF M (M.2 0 0))) G) r) : ∀ (j i : Nat), i + j = M.2 0 0 → Ev M_X7_weigh 2 [vR 8 0, vI (nI i), vU, vU, vU] [] (conc K (setA M 13 (ubF M i)) G) r := by
  have hn := h.1.1
  have hm4 := h.1.2.1
  intro j
  induction j with
  | zero =>
    intro i hi
    rw [show M.2 0 0 = i by omega] at hk
    refine ev_iload_n dX7_weigh_2 rfl ?_
    refine ev_aload_n dX7_weigh_3 rfl rfl ?_
    refine ev_getf dX7_weigh_4 fl_7_112 ?_
    refine ev_icmp_ge (tgt := 133) dX7_weigh_7 rfl (fun c7 => ?_) (fun c7 => ?_)
    · refine ev_forget (ls2 := [_, vU, _, _, _]) (Fg_to ⟨Or.inr ⟨rfl, rfl⟩, Or.inl rfl, Or.inr ⟨rfl, rfl⟩, Or.inr ⟨rfl, rfl⟩, Or.inr ⟨rfl, rfl⟩, trivial⟩) ?_
      exact hk
    · exact absurd (nI_le (a := M.2 0 0) (b := i) (by omega) (by omega)) c7
  | succ j ih =>
    intro i hi
    have e1 : nI i + Int32.ofInt 1 = nI (i + 1) := nI_1 i
    have h127 : Ev M_X7_weigh 127 [vR 8 0, vI (nI i), vU, vU, vU] [] (conc K (setA M 13 (updF (ubF M i) i (u0 M i))) G) r := by
      rw [ubF_s]
      refine ev_iinc dX7_weigh_127 rfl ?_
      refine ev_goto (tgt := 2) dX7_weigh_130 rfl ?_
      rw [e1]
      exact ih (i + 1) (by omega)
    refine ev_iload_n dX7_weigh_2 rfl ?_
    refine ev_aload_n dX7_weigh_3 rfl rfl ?_
    refine ev_getf dX7_weigh_4 fl_7_112 ?_
    refine ev_icmp_ge (tgt := 133) dX7_weigh_7 rfl (fun c7 => ?_) (fun c7 => ?_)
    · exact absurd c7 (nI_ge (a := i) (b := M.2 0 0) (by omega) (by omega))
    · refine ev_aload_n dX7_weigh_10 rfl rfl ?_
      refine ev_getf dX7_weigh_11 fl_7_66 ?_
      refine ev_iload_n dX7_weigh_14 rfl ?_
      refine ev_aload_n dX7_weigh_15 rfl rfl ?_
      refine ev_getf dX7_weigh_16 fl_7_105 ?_
      refine ev_if_eq (tgt := 31) dX7_weigh_19 rfl (fun c19 => ?_) (fun c19 => ?_)
      · refine ev_aload_n dX7_weigh_31 rfl rfl ?_
        refine ev_getf dX7_weigh_32 fl_7_13 ?_
        refine ev_iload_n dX7_weigh_35 rfl ?_
        refine ev_iald dX7_weigh_36 rfl rfl (show _ < 8 from by omega) ?_
        refine ev_iastS dX7_weigh_37 rfl (by decide) rfl (show _ < 8 from by omega) (set13 _ _ _ _ _ _) ?_
        refine ev_iconst (v := 0) dX7_weigh_38 rfl ?_
        refine ev_istore_n dX7_weigh_39 rfl ?_
        exact mw_inner K M G i (by omega) h c19 r (ubF M i) (M.1 0 i) (by rw [show u0 M i = _ from if_pos c19] at h127; exact h127) (M.2 0 1) 0 _ (by omega) rfl
      · rw [show u0 M i = M.1 10 i from if_neg c19] at h127
        refine ev_aload_n dX7_weigh_22 rfl rfl ?_
        refine ev_getf dX7_weigh_23 fl_7_51 ?_
        refine ev_iload_n dX7_weigh_26 rfl ?_
        refine ev_iald dX7_weigh_27 rfl rfl (show _ < 8 from by omega) ?_
        refine ev_goto (tgt := 37) dX7_weigh_28 rfl ?_
        refine ev_iastS dX7_weigh_37 rfl (by decide) rfl (show _ < 8 from by omega) (set13 _ _ _ _ _ _) ?_
        refine ev_iconst (v := 0) dX7_weigh_38 rfl ?_
        refine ev_istore_n dX7_weigh_39 rfl ?_
        have q40 := c19
        refine ev_iload_n dX7_weigh_40 rfl ?_
        refine ev_aload_n dX7_weigh_41 rfl rfl ?_
        refine ev_getf dX7_weigh_42 fl_7_126 ?_
        refine ev_icmp_ge (tgt := 127) dX7_weigh_45 rfl (fun c45 => ?_) (fun c45 => ?_)
        · refine ev_forget (ls2 := [_, _, vU, _, _]) (Fg_to ⟨Or.inr ⟨rfl, rfl⟩, Or.inr ⟨rfl, rfl⟩, Or.inl rfl, Or.inr ⟨rfl, rfl⟩, Or.inr ⟨rfl, rfl⟩, trivial⟩) ?_
          exact h127
        · refine ev_aload_n dX7_weigh_48 rfl rfl ?_
          refine ev_getf dX7_weigh_49 fl_7_105 ?_
          refine ev_if_ne (tgt := 127) dX7_weigh_52 rfl (fun c52 => ?_) (fun c52 => ?_)
          · refine ev_forget (ls2 := [_, _, vU, _, _]) (Fg_to ⟨Or.inr ⟨rfl, rfl⟩, Or.inr ⟨rfl, rfl⟩, Or.inl rfl, Or.inr ⟨rfl, rfl⟩, Or.inr ⟨rfl, rfl⟩, trivial⟩) ?_
            exact h127
          · exact absurd (Classical.not_not.mp c52) c19
/-- urgencies and ranks -/
def Rel (M : KT) (R U : Nat → Int32) : Prop := ∀ t, (t < M.2 0 0 → U t = sgn M (R t) ∧ (¬ M.1 28 0 = 0 → ∃ d : Nat, d < 2 ^ 31 ∧ R t = - nI d)) ∧ (¬ t < M.2 0 0 → U t = M.1 13 t)
theorem neg_nI_lt {a b : Nat} (ha : a < 2 ^ 31) (hb : b < 2 ^ 31) : - nI a < - nI b ↔ b < a := by
  have e : ∀ {c : Nat}, c < 2 ^ 31 → (- nI c).toInt = - (c : Int) := by
    intro c hc
    rw [Int32.toInt_neg, nI_toInt hc]
    exact Int.bmod_eq_of_le (by omega) (by omega)
  rw [Int32.lt_iff_toInt_lt, e ha, e hb]
  omega
theorem neg_neg_nI (a : Nat) : - - nI a = nI a := Int32.neg_neg
theorem Rel_bet {M : KT} {R U : Nat → Int32} (h : Rel M R U) {a b : Nat} (ha : a < M.2 0 0) (hb : b < M.2 0 0) : betK M (U a) (U b) = true ↔ R b < R a := by
  obtain ⟨a1, a2⟩ := (h a).1 ha
  obtain ⟨b1, b2⟩ := (h b).1 hb
  rw [a1, b1]
  unfold betK sgn
  by_cases hd : M.1 28 0 = 0
  · rw [if_pos hd, if_pos hd, if_pos hd]; exact decide_eq_true_iff
  · rw [if_neg hd, if_neg hd, if_neg hd]
    obtain ⟨d, d1, d2⟩ := a2 hd
    obtain ⟨e, e1, e2⟩ := b2 hd
    rw [d2, e2, neg_neg_nI, neg_neg_nI, decide_eq_true_iff, nI_ltI d1 e1, neg_nI_lt e1 d1]
theorem Rel_eq {M : KT} {R U : Nat → Int32} (h : Rel M R U) {a b : Nat} (ha : a < M.2 0 0) (hb : b < M.2 0 0) : U a = U b ↔ R a = R b := by
  obtain ⟨a1, a2⟩ := (h a).1 ha
  obtain ⟨b1, b2⟩ := (h b).1 hb
  rw [a1, b1]
  unfold sgn
  by_cases hd : M.1 28 0 = 0
  · rw [if_pos hd, if_pos hd]
  · rw [if_neg hd, if_neg hd]
    exact Int32.neg_inj
theorem Rel_upd {M : KT} {R U : Nat → Int32} (h : Rel M R U) {a b : Nat} (ha : a < M.2 0 0) (hb : b < M.2 0 0) : Rel M (updF R b (R a)) (updF U b (U a)) := by
  intro t
  refine ⟨fun ht => ?_, fun ht => ?_⟩
  · by_cases e : t = b
    · subst e; rw [updF_get, updF_get]; exact (h a).1 ha
    · rw [updF_ne _ _ e, updF_ne _ _ e]; exact (h t).1 ht
  · rw [updF_ne _ _ (fun e => ht (by omega))]; exact (h t).2 ht
theorem mw_D (K M : KT) (G : GT) (h : Inv M) (r : Res) (k : Nat) (L : Nat → Int32) (hk : ∀ U, Rel M L U → Ev M_X7_weigh 259 [vR 8 0, vI (nI k), vU, vU, vU] [] (conc K (setA M 13 U) G) r) : ∀ (j i : Nat) (R U : Nat → Int32), i + j = M.2 0 0 → lendN M j i R = L → Rel M R U → Ev M_X7_weigh 143 [vR 8 0, vI (nI k), vI (nI i), vU, vU] [] (conc K (setA M 13 U) G) r := by
  have hn := h.1.1
  have hm4 := h.1.2.1
  intro j
  induction j with
  | zero =>
    intro i R U hi hl hr
    refine ev_iload_n dX7_weigh_143 rfl ?_
    refine ev_aload_n dX7_weigh_144 rfl rfl ?_
    refine ev_getf dX7_weigh_145 fl_7_112 ?_
    refine ev_icmp_ge (tgt := 259) dX7_weigh_148 rfl (fun c148 => ?_) (fun c148 => ?_)
    · refine ev_forget (ls2 := [_, _, vU, _, _]) (Fg_to ⟨Or.inr ⟨rfl, rfl⟩, Or.inr ⟨rfl, rfl⟩, Or.inl rfl, Or.inr ⟨rfl, rfl⟩, Or.inr ⟨rfl, rfl⟩, trivial⟩) ?_
      exact hk U (hl ▸ hr)
    · exact absurd (nI_le (a := M.2 0 0) (b := i) (by omega) (by omega)) c148
  | succ j ih =>
    intro i R U hi hl hr
    have hin : i < M.2 0 0 := by omega
    have e1 : nI i + Int32.ofInt 1 = nI (i + 1) := nI_1 i
    have htk := h.2.2.1 i hin
    have h253 : ∀ (x y : Int32) (V : Nat → Int32), Rel M (lendF M R i) V → Ev M_X7_weigh 253 [vR 8 0, vI (nI k), vI (nI i), vI x, vI y] [] (conc K (setA M 13 V) G) r := by
      intro x y V hv
      refine ev_iinc dX7_weigh_253 rfl ?_
      refine ev_goto (tgt := 143) dX7_weigh_256 rfl ?_
      refine ev_forget (ls2 := [_, _, _, vU, vU]) (Fg_to ⟨Or.inr ⟨rfl, rfl⟩, Or.inr ⟨rfl, rfl⟩, Or.inr ⟨rfl, rfl⟩, Or.inl rfl, Or.inl rfl, trivial⟩) ?_
      rw [e1]
      exact ih (i + 1) (lendF M R i) V (by omega) hl hv
    have h206 : ∀ (x : Int32) (w : Nat), lendTo M i = w → Ev M_X7_weigh 206 [vR 8 0, vI (nI k), vI (nI i), vI x, vI (mi w)] [] (conc K (setA M 13 U) G) r := by
      intro x w hw
      have hw8 := lendTo_le h hin
      rw [hw] at hw8
      rcases w with _ | o
      · refine ev_iload dX7_weigh_206 rfl ?_
        refine ev_if_lt (tgt := 253) dX7_weigh_208 rfl (fun c208 => ?_) (fun c208 => ?_)
        · refine h253 x _ U ?_
          unfold lendF
          rw [hw]
          exact hr
        · exact absurd (show mi 0 < 0 by decide) c208
      · have ho : o < M.2 0 0 := by omega
        refine ev_iload dX7_weigh_206 rfl ?_
        refine ev_if_lt (tgt := 253) dX7_weigh_208 rfl (fun c208 => ?_) (fun c208 => ?_)
        · exact absurd ((mi_neg (w := o + 1) (by omega)).mp c208) (by omega)
        · refine ev_aload_n dX7_weigh_211 rfl rfl ?_
          refine ev_aload_n dX7_weigh_212 rfl rfl ?_
          refine ev_getf dX7_weigh_213 fl_7_66 ?_
          refine ev_iload_n dX7_weigh_216 rfl ?_
          refine ev_iald dX7_weigh_217 rfl rfl (show _ < 8 from by omega) ?_
          refine ev_aload_n dX7_weigh_218 rfl rfl ?_
          refine ev_getf dX7_weigh_219 fl_7_66 ?_
          refine ev_iload dX7_weigh_222 rfl ?_
          refine ev_if_ge (tgt := 231) dX7_weigh_224 rfl (fun c224 => ?_) (fun c224 => ?_)
          · refine ev_iload dX7_weigh_231 rfl ?_
            refine ev_iald dX7_weigh_233 rfl rfl (show _ < 8 from by omega) ?_
            refine evV3 dX7_weigh_234 cl_X7_weigh_129 ⟨rfl, rfl, fun _ => ⟨_, rfl⟩⟩ (Nat.le_of_ble_eq_true rfl) (m_better K (setA M 13 U) G (U i) (U o)) ?_
            refine ev_if_eq (tgt := 253) dX7_weigh_237 rfl (fun c237 => ?_) (fun c237 => ?_)
            · refine h253 x _ U ?_
              have hb : ¬ R o < R i := fun q => bI_0.mp c237 ((Rel_bet hr hin ho).mpr q)
              unfold lendF
              rw [hw]
              dsimp only
              rw [if_neg hb]
              exact hr
            · refine ev_aload_n dX7_weigh_240 rfl rfl ?_
              refine ev_getf dX7_weigh_241 fl_7_66 ?_
              refine ev_iload dX7_weigh_244 rfl ?_
              refine ev_aload_n dX7_weigh_246 rfl rfl ?_
              refine ev_getf dX7_weigh_247 fl_7_66 ?_
              refine ev_iload_n dX7_weigh_250 rfl ?_
              refine ev_iald dX7_weigh_251 rfl rfl (show _ < 8 from by omega) ?_
              refine ev_iastS dX7_weigh_252 rfl (by decide) rfl (show _ < 8 from by omega) (set13 _ _ _ _ _ _) ?_
              refine h253 x _ _ ?_
              have hb : R o < R i := (Rel_bet hr hin ho).mp (Classical.not_not.mp (fun q => c237 (bI_f q)))
              unfold lendF
              rw [hw]
              dsimp only
              rw [if_pos hb]
              exact Rel_upd hr hin ho
          · exact absurd (Int32.not_lt.mp c208) c224
    have h172 : ∀ (w : Nat), M.2 3 i = w → Ev M_X7_weigh 172 [vR 8 0, vI (nI k), vI (nI i), vI (mi w), vU] [] (conc K (setA M 13 U) G) r := by
      intro w hw
      have hw4 := htk.2.2.1
      rw [hw] at hw4
      rcases w with _ | m
      · refine ev_iload_n dX7_weigh_172 rfl ?_
        refine ev_if_lt (tgt := 203) dX7_weigh_173 rfl (fun c173 => ?_) (fun c173 => ?_)
        · refine ev_iconst (v := (-1)) dX7_weigh_203 rfl ?_
          refine ev_istore dX7_weigh_204 rfl ?_
          exact h206 _ 0 (by unfold lendTo; rw [hw])
        · exact absurd (show mi 0 < 0 by decide) c173
      · have hmo := h.2.1 m (by omega)
        refine ev_iload_n dX7_weigh_172 rfl ?_
        refine ev_if_lt (tgt := 203) dX7_weigh_173 rfl (fun c173 => ?_) (fun c173 => ?_)
        · exact absurd ((mi_neg (w := m + 1) (by omega)).mp c173) (by omega)
        · refine ev_aload_n dX7_weigh_176 rfl rfl ?_
          refine ev_getf dX7_weigh_177 fl_7_87 ?_
          refine ev_iload_n dX7_weigh_180 rfl ?_
          refine ev_if_ge (tgt := 188) dX7_weigh_181 rfl (fun c181 => ?_) (fun c181 => ?_)
          · refine ev_iload_n dX7_weigh_188 rfl ?_
            refine ev_iald dX7_weigh_189 rfl rfl (show _ < 4 from by omega) ?_
            refine ev_iconst (v := 1) dX7_weigh_190 rfl ?_
            refine ev_icmp_ne (tgt := 203) dX7_weigh_191 rfl (fun c191 => ?_) (fun c191 => ?_)
            · refine ev_iconst (v := (-1)) dX7_weigh_203 rfl ?_
              refine ev_istore dX7_weigh_204 rfl ?_
              exact h206 _ 0 (by unfold lendTo; rw [hw]; exact if_neg c191)
            · refine ev_aload_n dX7_weigh_194 rfl rfl ?_
              refine ev_getf dX7_weigh_195 fl_7_93 ?_
              refine ev_iload_n dX7_weigh_198 rfl ?_
              refine ev_iald dX7_weigh_199 rfl rfl (show _ < 4 from by omega) ?_
              refine ev_goto (tgt := 204) dX7_weigh_200 rfl ?_
              refine ev_istore dX7_weigh_204 rfl ?_
              exact h206 _ (M.2 4 m) (by unfold lendTo; rw [hw]; exact if_pos (Classical.not_not.mp c191))
          · exact absurd (Int32.not_lt.mp c173) c181
    refine ev_iload_n dX7_weigh_143 rfl ?_
    refine ev_aload_n dX7_weigh_144 rfl rfl ?_
    refine ev_getf dX7_weigh_145 fl_7_112 ?_
    refine ev_icmp_ge (tgt := 259) dX7_weigh_148 rfl (fun c148 => ?_) (fun c148 => ?_)
    · exact absurd c148 (nI_ge (a := i) (b := M.2 0 0) (by omega) (by omega))
    · refine ev_aload_n dX7_weigh_151 rfl rfl ?_
      refine ev_getf dX7_weigh_152 fl_7_42 ?_
      refine ev_iload_n dX7_weigh_155 rfl ?_
      refine ev_iald dX7_weigh_156 rfl rfl (show _ < 8 from by omega) ?_
      refine ev_iconst (v := 2) dX7_weigh_157 rfl ?_
      refine ev_icmp_ne (tgt := 170) dX7_weigh_158 rfl (fun c158 => ?_) (fun c158 => ?_)
      · refine ev_iconst (v := (-1)) dX7_weigh_170 rfl ?_
        refine ev_istore_n dX7_weigh_171 rfl ?_
        exact h172 0 (Classical.not_not.mp (fun q => c158 (htk.2.2.2.2.1.mpr q)))
      · refine ev_aload_n dX7_weigh_161 rfl rfl ?_
        refine ev_getf dX7_weigh_162 fl_7_60 ?_
        refine ev_iload_n dX7_weigh_165 rfl ?_
        refine ev_iald dX7_weigh_166 rfl rfl (show _ < 8 from by omega) ?_
        refine ev_goto (tgt := 171) dX7_weigh_167 rfl ?_
        refine ev_istore_n dX7_weigh_171 rfl ?_
        exact h172 (M.2 3 i) rfl
theorem mw_C (K M : KT) (G : GT) (h : Inv M) : ∀ (j i : Nat) (R U : Nat → Int32), i + j = 8 → itF M j R = VR M → Rel M R U → Ev M_X7_weigh 135 [vR 8 0, vI (nI i), vU, vU, vU] [] (conc K (setA M 13 U) G) (0, none, conc K (weighK M) G) := by
  intro j
  induction j with
  | zero =>
    intro i R U hi hl hr
    have hU : U = UM M := by
      funext t
      unfold UM
      by_cases ht : t < M.2 0 0
      · rw [if_pos ht, ← hl]; exact ((hr t).1 ht).1
      · rw [if_neg ht]; exact (hr t).2 ht
    rw [hU]
    refine ev_iload_n dX7_weigh_135 rfl ?_
    refine ev_bipush (v := 8) dX7_weigh_136 rfl ?_
    refine ev_icmp_ge (tgt := 265) dX7_weigh_138 rfl (fun c138 => ?_) (fun c138 => ?_)
    · exact ev_vret dX7_weigh_265 rfl
    · exact absurd (show (8 : Int32) ≤ nI i from nI_le (a := 8) (b := i) (by omega) (by omega)) c138
  | succ j ih =>
    intro i R U hi hl hr
    have e1 : nI i + Int32.ofInt 1 = nI (i + 1) := nI_1 i
    have h259 : ∀ V, Rel M (lendN M (M.2 0 0) 0 R) V → Ev M_X7_weigh 259 [vR 8 0, vI (nI i), vU, vU, vU] [] (conc K (setA M 13 V) G) (0, none, conc K (weighK M) G) := by
      intro V hv
      refine ev_iinc dX7_weigh_259 rfl ?_
      refine ev_goto (tgt := 135) dX7_weigh_262 rfl ?_
      rw [e1]
      exact ih (i + 1) _ V (by omega) hl hv
    refine ev_iload_n dX7_weigh_135 rfl ?_
    refine ev_bipush (v := 8) dX7_weigh_136 rfl ?_
    refine ev_icmp_ge (tgt := 265) dX7_weigh_138 rfl (fun c138 => ?_) (fun c138 => ?_)
    · exact absurd c138 (nI_ge (a := i) (b := 8) (by omega) (by omega))
    · refine ev_iconst (v := 0) dX7_weigh_141 rfl ?_
      refine ev_istore_n dX7_weigh_142 rfl ?_
      exact mw_D K M G h _ i _ h259 (M.2 0 0) 0 R U (by omega) rfl hr
def DueOk (M : KT) : Prop := ∀ t, t < M.2 0 0 → ∃ d : Nat, d < 2 ^ 31 ∧ M.1 10 t = nI d
theorem DueOk_num {M : KT} {T : Nat} (h : Num M T) (hT : T < 2 ^ 30) : DueOk M := fun t ht => by
  obtain ⟨d, h1, h2⟩ := (h.2 t ht).1
  exact ⟨d, by omega, h2⟩
theorem Rel_0 {M : KT} (hd : DueOk M) : Rel M (RL1 M) (ubF M (M.2 0 0)) := by
  intro t
  refine ⟨fun ht => ?_, fun ht => if_neg ht⟩
  unfold ubF
  rw [if_pos ht]
  unfold u0 RL1 sgn
  by_cases h : M.1 28 0 = 0
  · rw [if_pos h, if_pos h, if_pos h, liftN_t, show RB M t = base M t from if_pos ht, show base M t = M.1 0 t from if_pos h]
    exact ⟨rfl, fun q => absurd h q⟩
  · rw [if_neg h, if_neg h, if_neg h, show RB M t = base M t from if_pos ht, show base M t = - M.1 10 t from if_neg h]
    obtain ⟨d, d1, d2⟩ := hd t ht
    exact ⟨Int32.neg_neg.symm, fun _ => ⟨d, d1, by rw [d2]⟩⟩
theorem m_weigh (K M : KT) (G : GT) (h : Inv M) (hd : DueOk M) : Ev M_X7_weigh 0 (ent M_X7_weigh [vR 8 0]) [] (conc K M G) (0, none, conc K (weighK M) G) := by
  show Ev M_X7_weigh 0 [vR 8 0, vU, vU, vU, vU] [] (conc K M G) _
  have hC := mw_C K M G h 8 0 (RL1 M) (ubF M (M.2 0 0)) rfl rfl (Rel_0 hd)
  have h133 : Ev M_X7_weigh 133 [vR 8 0, vU, vU, vU, vU] [] (conc K (setA M 13 (ubF M (M.2 0 0))) G) (0, none, conc K (weighK M) G) := by
    refine ev_iconst (v := 0) dX7_weigh_133 rfl ?_
    refine ev_istore_n dX7_weigh_134 rfl ?_
    exact hC
  have hA := mw_A K M G h _ h133 (M.2 0 0) 0 (by omega)
  rw [ubF_0] at hA
  refine ev_iconst (v := 0) dX7_weigh_0 rfl ?_
  refine ev_istore_n dX7_weigh_1 rfl ?_
  exact hA
theorem Rel_V {M : KT} (h : Inv M) (hd : DueOk M) : Rel M (VR M) (UM M) := by
  have hL : ∀ (j i : Nat) (R : Nat → Int32), i + j ≤ M.2 0 0 → (∃ U, Rel M R U) → ∃ U, Rel M (lendN M j i R) U := by
    intro j
    induction j with
    | zero => intro i R _ hr; exact hr
    | succ j ih =>
      intro i R hi hr
      refine ih (i + 1) _ (by omega) ?_
      obtain ⟨U, hU⟩ := hr
      unfold lendF
      cases e : lendTo M i with
      | zero => exact ⟨U, hU⟩
      | succ o =>
        dsimp only
        have := lendTo_le h (u := i) (by omega)
        split
        · exact ⟨_, Rel_upd hU (a := i) (b := o) (by omega) (by omega)⟩
        · exact ⟨U, hU⟩
  have hI : ∀ (j : Nat) (R : Nat → Int32), (∃ U, Rel M R U) → ∃ U, Rel M (itF M j R) U := by
    intro j
    induction j with
    | zero => intro R hr; exact hr
    | succ j ih => intro R hr; exact ih _ (hL _ _ _ (by omega) hr)
  obtain ⟨U, hU⟩ := hI 8 (RL1 M) ⟨_, Rel_0 hd⟩
  intro t
  refine ⟨fun ht => ⟨if_pos ht, ((hU t).1 ht).2⟩, fun ht => if_neg ht⟩
