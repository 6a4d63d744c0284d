/-! THE REFERENCE: who goes first, who inherits; giving and ending -/
theorem sI_sI (M : KT) (f i : Nat) (v w : Int32) : sI (sI M f i v) f i w = sI M f i w := by
  refine KT_ext (fun f' i' => ?_) (fun _ _ => rfl)
  simp only [sI_1]
  by_cases h : f' = f
  · rw [if_pos h, if_pos h, if_pos h]
    by_cases h2 : i' = i
    · rw [if_pos h2, if_pos h2]
    · rw [if_neg h2, if_neg h2, if_neg h2]
  · rw [if_neg h, if_neg h, if_neg h]
def Bd (T X : Nat) : Prop := T < 2 ^ 29 ∧ X < 2 ^ 30
theorem FI.due {M : KT} {T X : Nat} (h : FI M T X) (b : Bd T X) : DueOk M := DueOk_num h.2.2.1 (by have := b.1; omega)
theorem FI.ev {M : KT} {T X : Nat} (h : FI M T X) (b : Bd T X) : M.2 0 3 < 2 ^ 31 := by have := h.2.2.2; have := b.2; omega
theorem FI_weigh {M : KT} {T X : Nat} (h : FI M T X) : FI (weighK M) T X := h.aft (Inv_weigh h.1) (weigh_A M)
theorem co_ml {K M : KT} {G : GT} {w : Nat} (h : M.2 0 2 = w) : (conc K M G).1 8 0 4 = vI (mi w) := by rw [← h]; rfl
theorem Rel_bI {M : KT} (h : Inv M) (hd : DueOk M) {a b : Nat} (ha : a < M.2 0 0) (hb : b < M.2 0 0) : bI (betK (weighK M) (UM M a) (UM M b) = true) = bI (VR M b < VR M a) := bI_iff (Rel_bet (Rel_V h hd) ha hb)
theorem mf_loop (K M : KT) (G : GT) (h : Inv M) (hd : DueOk M) : ∀ (j i b : Nat), i + j = M.2 0 0 → b ≤ i → Ev M_X7_first 8 [vR 8 0, vI (mi b), vI (nI i), vU] [] (conc K (weighK M) G) (0, some (vI (mi (pickN M (VR M) j i b))), conc K (weighK M) G) := by
  have hn := h.1.1
  have hl := h.1.2.2.1
  intro j
  induction j with
  | zero =>
    intro i b hi hb
    refine ev_iload_n dX7_first_8 rfl ?_
    refine ev_aload_n dX7_first_9 rfl rfl ?_
    refine ev_getf dX7_first_10 fl_7_112 ?_
    refine ev_icmp_ge (tgt := 127) dX7_first_13 rfl (fun c13 => ?_) (fun c13 => ?_)
    · refine ev_iload_n dX7_first_127 rfl ?_
      exact ev_iret dX7_first_128 (Or.inl rfl)
    · exact absurd (nI_le (a := M.2 0 0) (b := i) (by omega) (by omega)) c13
  | succ j ih =>
    intro i b hi hb
    have e1 : nI i + Int32.ofInt 1 = nI (i + 1) := nI_1 i
    have hin : i < M.2 0 0 := by omega
    have h121 : ∀ (b2 : Nat), b2 ≤ i + 1 → pick1 M (VR M) b i = b2 → Ev M_X7_first 121 [vR 8 0, vI (mi b2), vI (nI i), vU] [] (conc K (weighK M) G) (0, some (vI (mi (pickN M (VR M) (j + 1) i b))), conc K (weighK M) G) := by
      intro b2 hb2 hp
      simp only [pickN]
      rw [hp]
      refine ev_iinc dX7_first_121 rfl ?_
      refine ev_goto (tgt := 8) dX7_first_124 rfl ?_
      rw [e1]
      exact ih (i + 1) b2 (by omega) hb2
    have h111 : ∀ (z : Int32) (b2 : Nat), (z = 0 → b2 = b) → (¬ z = 0 → b2 = i + 1) → pick1 M (VR M) b i = b2 → Ev M_X7_first 111 [vR 8 0, vI (mi b), vI (nI i), vI z] [] (conc K (weighK M) G) (0, some (vI (mi (pickN M (VR M) (j + 1) i b))), conc K (weighK M) G) := by
      intro z b2 h0 h1 hp
      refine ev_iload_n dX7_first_111 rfl ?_
      refine ev_if_eq (tgt := 119) dX7_first_112 rfl (fun c112 => ?_) (fun c112 => ?_)
      · refine ev_iload_n dX7_first_119 rfl ?_
        refine ev_istore_n dX7_first_120 rfl ?_
        refine ev_forget (ls2 := [_, _, _, vU]) (Fg_to ⟨Or.inr ⟨rfl, rfl⟩, Or.inr ⟨rfl, rfl⟩, Or.inr ⟨rfl, rfl⟩, Or.inl rfl, trivial⟩) ?_
        have e2 := h121 b2 (by have := h0 c112; omega) hp
        rw [h0 c112] at e2
        exact e2
      · refine ev_iload_n dX7_first_115 rfl ?_
        refine ev_goto (tgt := 120) dX7_first_116 rfl ?_
        refine ev_istore_n dX7_first_120 rfl ?_
        refine ev_forget (ls2 := [_, _, _, vU]) (Fg_to ⟨Or.inr ⟨rfl, rfl⟩, Or.inr ⟨rfl, rfl⟩, Or.inr ⟨rfl, rfl⟩, Or.inl rfl, trivial⟩) ?_
        have e2 := h121 b2 (by have := h1 c112; omega) hp
        rw [h1 c112] at e2
        exact e2
    rcases b with _ | c
    · refine ev_iload_n dX7_first_8 rfl ?_
      refine ev_aload_n dX7_first_9 rfl rfl ?_
      refine ev_getf dX7_first_10 fl_7_112 ?_
      refine ev_icmp_ge (tgt := 127) dX7_first_13 rfl (fun c13 => ?_) (fun c13 => ?_)
      · exact absurd c13 (nI_ge (a := i) (b := M.2 0 0) (by omega) (by omega))
      · refine ev_aload_n dX7_first_16 rfl rfl ?_
        refine ev_getf dX7_first_17 fl_7_42 ?_
        refine ev_iload_n dX7_first_20 rfl ?_
        refine ev_iald dX7_first_21 rfl rfl (show _ < 8 from by omega) ?_
        refine ev_iconst (v := 1) dX7_first_22 rfl ?_
        refine ev_icmp_ne (tgt := 121) dX7_first_23 rfl (fun c23 => ?_) (fun c23 => ?_)
        · exact h121 0 (by omega) (if_neg c23)
        · refine ev_iload_n dX7_first_26 rfl ?_
          refine ev_if_lt (tgt := 49) dX7_first_27 rfl (fun c27 => ?_) (fun c27 => ?_)
          · refine ev_iconst (v := 1) dX7_first_49 rfl ?_
            refine ev_goto (tgt := 54) dX7_first_50 rfl ?_
            refine ev_istore_n dX7_first_54 rfl ?_
            refine ev_iload_n dX7_first_55 rfl ?_
            refine ev_if_lt (tgt := 111) dX7_first_56 rfl (fun c56 => ?_) (fun c56 => ?_)
            · exact h111 1 (i + 1) (fun q => absurd q (by decide)) (fun _ => rfl) (if_pos (Classical.not_not.mp c23))
            · exact absurd (show mi 0 < 0 by decide) c56
          · exact absurd (show mi 0 < 0 by decide) c27
    · have hc : c < M.2 0 0 := by omega
      have hnn : ¬ mi (c + 1) < 0 := fun q => absurd ((mi_neg (by omega)).mp q) (by omega)
      have h54 : ∀ z : Int32, z = bI (VR M c < VR M i) → M.1 6 i = 1 → Ev M_X7_first 54 [vR 8 0, vI (mi (c + 1)), vI (nI i), vU] [vI z] (conc K (weighK M) G) (0, some (vI (mi (pickN M (VR M) (j + 1) i (c + 1)))), conc K (weighK M) G) := by
        intro z hz h6
        have hp : ∀ z2 : Int32, z2 = bI (ahead M (VR M) i c = true) → Ev M_X7_first 111 [vR 8 0, vI (mi (c + 1)), vI (nI i), vI z2] [] (conc K (weighK M) G) (0, some (vI (mi (pickN M (VR M) (j + 1) i (c + 1)))), conc K (weighK M) G) := by
          intro z2 e2
          refine h111 z2 (if ahead M (VR M) i c = true then i + 1 else c + 1) (fun q => ?_) (fun q => ?_) (if_pos h6)
          · exact if_neg (bI_0.mp (e2 ▸ q))
          · exact if_pos (Classical.not_not.mp (fun q2 => q (e2.trans (bI_f q2))))
        refine ev_istore_n dX7_first_54 rfl ?_
        refine ev_iload_n dX7_first_55 rfl ?_
        refine ev_if_lt (tgt := 111) dX7_first_56 rfl (fun c56 => ?_) (fun c56 => ?_)
        · exact absurd c56 hnn
        · refine ev_aload_n dX7_first_59 rfl rfl ?_
          refine ev_getf dX7_first_60 fl_7_66 ?_
          refine ev_iload_n dX7_first_63 rfl ?_
          refine ev_iald dX7_first_64 rfl rfl (show _ < 8 from by omega) ?_
          refine ev_aload_n dX7_first_65 rfl rfl ?_
          refine ev_getf dX7_first_66 fl_7_66 ?_
          refine ev_iload_n dX7_first_69 rfl ?_
          refine ev_iald dX7_first_70 rfl rfl (show _ < 8 from by omega) ?_
          refine ev_icmp_ne (tgt := 111) dX7_first_71 rfl (fun c71 => ?_) (fun c71 => ?_)
          · refine hp _ (hz.trans (bI_iff ?_))
            have hne : ¬ VR M i = VR M c := fun q => c71 ((Rel_eq (Rel_V h hd) hin hc).mpr q)
            unfold ahead
            rw [if_neg hne]
            exact decide_eq_true_iff.symm
          · have heq : VR M i = VR M c := (Rel_eq (Rel_V h hd) hin hc).mp (Classical.not_not.mp c71)
            refine ev_iload_n dX7_first_74 rfl ?_
            refine ev_aload_n dX7_first_75 rfl rfl ?_
            refine ev_getf dX7_first_76 fl_7_7 ?_
            refine ev_icmp_eq (tgt := 105) dX7_first_79 rfl (fun c79 => ?_) (fun c79 => ?_)
            · refine ev_iconst (v := 1) dX7_first_105 rfl ?_
              refine ev_goto (tgt := 110) dX7_first_106 rfl ?_
              refine ev_istore_n dX7_first_110 rfl ?_
              refine hp _ (bI_t ?_).symm
              have q := (mi_eq (w := M.2 0 2) (t := i) (by omega) (by omega)).mp c79.symm
              unfold ahead
              rw [if_pos heq, if_pos (Or.inl q)]
              exact decide_eq_true_iff.mpr q
            · refine ev_iload_n dX7_first_82 rfl ?_
              refine ev_aload_n dX7_first_83 rfl rfl ?_
              refine ev_getf dX7_first_84 fl_7_7 ?_
              refine ev_icmp_eq (tgt := 109) dX7_first_87 rfl (fun c87 => ?_) (fun c87 => ?_)
              · refine ev_iconst (v := 0) dX7_first_109 rfl ?_
                refine ev_istore_n dX7_first_110 rfl ?_
                refine hp _ (bI_f ?_).symm
                have q := (mi_eq (w := M.2 0 2) (t := c) (by omega) (by omega)).mp c87.symm
                unfold ahead
                rw [if_pos heq, if_pos (Or.inr q)]
                intro q2
                exact c79 ((mi_eq (w := M.2 0 2) (t := i) (by omega) (by omega)).mpr (decide_eq_true_iff.mp q2)).symm
              · refine ev_aload_n dX7_first_90 rfl rfl ?_
                refine ev_getf dX7_first_91 fl_7_57 ?_
                refine ev_iload_n dX7_first_94 rfl ?_
                refine ev_iald dX7_first_95 rfl rfl (show _ < 8 from by omega) ?_
                refine ev_aload_n dX7_first_96 rfl rfl ?_
                refine ev_getf dX7_first_97 fl_7_57 ?_
                refine ev_iload_n dX7_first_100 rfl ?_
                refine ev_iald dX7_first_101 rfl rfl (show _ < 8 from by omega) ?_
                refine ev_icmp_ge (tgt := 109) dX7_first_102 rfl (fun c102 => ?_) (fun c102 => ?_)
                · refine ev_iconst (v := 0) dX7_first_109 rfl ?_
                  refine ev_istore_n dX7_first_110 rfl ?_
                  refine hp _ (bI_f ?_).symm
                  have q1 := fun q => c79 ((mi_eq (w := M.2 0 2) (t := i) (by omega) (by omega)).mpr q).symm
                  have q2 := fun q => c87 ((mi_eq (w := M.2 0 2) (t := c) (by omega) (by omega)).mpr q).symm
                  unfold ahead
                  rw [if_pos heq, if_neg (fun q => q.elim q1 q2)]
                  exact fun q => Int32.not_lt.mpr c102 (decide_eq_true_iff.mp q)
                · refine ev_iconst (v := 1) dX7_first_105 rfl ?_
                  refine ev_goto (tgt := 110) dX7_first_106 rfl ?_
                  refine ev_istore_n dX7_first_110 rfl ?_
                  refine hp _ (bI_t ?_).symm
                  have q1 := fun q => c79 ((mi_eq (w := M.2 0 2) (t := i) (by omega) (by omega)).mpr q).symm
                  have q2 := fun q => c87 ((mi_eq (w := M.2 0 2) (t := c) (by omega) (by omega)).mpr q).symm
                  unfold ahead
                  rw [if_pos heq, if_neg (fun q => q.elim q1 q2)]
                  exact decide_eq_true_iff.mpr (Int32.not_le.mp c102)
      refine ev_iload_n dX7_first_8 rfl ?_
      refine ev_aload_n dX7_first_9 rfl rfl ?_
      refine ev_getf dX7_first_10 fl_7_112 ?_
      refine ev_icmp_ge (tgt := 127) dX7_first_13 rfl (fun c13 => ?_) (fun c13 => ?_)
      · exact absurd c13 (nI_ge (a := i) (b := M.2 0 0) (by omega) (by omega))
      · refine ev_aload_n dX7_first_16 rfl rfl ?_
        refine ev_getf dX7_first_17 fl_7_42 ?_
        refine ev_iload_n dX7_first_20 rfl ?_
        refine ev_iald dX7_first_21 rfl rfl (show _ < 8 from by omega) ?_
        refine ev_iconst (v := 1) dX7_first_22 rfl ?_
        refine ev_icmp_ne (tgt := 121) dX7_first_23 rfl (fun c23 => ?_) (fun c23 => ?_)
        · exact h121 (c + 1) (by omega) (if_neg c23)
        · refine ev_iload_n dX7_first_26 rfl ?_
          refine ev_if_lt (tgt := 49) dX7_first_27 rfl (fun c27 => ?_) (fun c27 => ?_)
          · exact absurd c27 hnn
          · refine ev_aload_n dX7_first_30 rfl rfl ?_
            refine ev_aload_n dX7_first_31 rfl rfl ?_
            refine ev_getf dX7_first_32 fl_7_66 ?_
            refine ev_iload_n dX7_first_35 rfl ?_
            refine ev_iald dX7_first_36 rfl rfl (show _ < 8 from by omega) ?_
            refine ev_aload_n dX7_first_37 rfl rfl ?_
            refine ev_getf dX7_first_38 fl_7_66 ?_
            refine ev_iload_n dX7_first_41 rfl ?_
            refine ev_iald dX7_first_42 rfl rfl (show _ < 8 from by omega) ?_
            refine evV3 dX7_first_43 cl_X7_first_129 ⟨rfl, rfl, fun _ => ⟨_, rfl⟩⟩ (Nat.le_of_ble_eq_true rfl) (m_better K (weighK M) G (UM M i) (UM M c)) ?_
            rw [Rel_bI h hd hin hc]
            refine ev_if_eq (tgt := 53) dX7_first_46 rfl (fun c46 => ?_) (fun c46 => ?_)
            · refine ev_iconst (v := 0) dX7_first_53 rfl ?_
              exact h54 0 c46.symm (Classical.not_not.mp c23)
            · refine ev_iconst (v := 1) dX7_first_49 rfl ?_
              refine ev_goto (tgt := 54) dX7_first_50 rfl ?_
              exact h54 1 (bI_t (Classical.not_not.mp (fun q => c46 (bI_f q)))).symm (Classical.not_not.mp c23)
theorem m_first (K M : KT) (G : GT) (h : Inv M) (hd : DueOk M) : Ev M_X7_first 0 (ent M_X7_first [vR 8 0]) [] (conc K M G) (0, some (vI (mi (firstK M))), conc K (weighK M) G) := by
  show Ev M_X7_first 0 [vR 8 0, vU, vU, vU] [] (conc K M G) _
  have hl := mf_loop K M G h hd (M.2 0 0) 0 0 (by omega) (by omega)
  refine ev_aload_n dX7_first_0 rfl rfl ?_
  refine evV1 dX7_first_1 cl_X7_first_133 ⟨rfl, rfl, fun _ => ⟨_, rfl⟩⟩ (Nat.le_of_ble_eq_true rfl) (m_weigh K M G h hd) ?_
  refine ev_iconst (v := (-1)) dX7_first_4 rfl ?_
  refine ev_istore_n dX7_first_5 rfl ?_
  refine ev_iconst (v := 0) dX7_first_6 rfl ?_
  refine ev_istore_n dX7_first_7 rfl ?_
  exact hl
theorem mg_loop (K M : KT) (G : GT) (h : Inv M) (hd : DueOk M) (m : Nat) (hm : m < M.2 0 1) (r : Res) (hk : Ev M_X7_give 113 [vR 8 0, vI (nI m), vI (mi (heirK M m)), vU, vU] [] (conc K (weighK M) G) r) : ∀ (j i b : Nat), i + j = M.2 0 0 → b ≤ i → heirN M (VR M) m j i b = heirK M m → Ev M_X7_give 8 [vR 8 0, vI (nI m), vI (mi b), vI (nI i), vU] [] (conc K (weighK M) G) r := by
  have hn := h.1.1
  have hm4 := h.1.2.1
  intro j
  induction j with
  | zero =>
    intro i b hi hb hh
    rw [← hh] at hk
    refine ev_iload_n dX7_give_8 rfl ?_
    refine ev_aload_n dX7_give_9 rfl rfl ?_
    refine ev_getf dX7_give_10 fl_7_112 ?_
    refine ev_icmp_ge (tgt := 113) dX7_give_13 rfl (fun c13 => ?_) (fun c13 => ?_)
    · refine ev_forget (ls2 := [_, _, _, vU, _]) (Fg_to ⟨Or.inr ⟨rfl, rfl⟩, Or.inr ⟨rfl, rfl⟩, Or.inr ⟨rfl, rfl⟩, Or.inl rfl, Or.inr ⟨rfl, rfl⟩, trivial⟩) ?_
      exact hk
    · exact absurd (nI_le (a := M.2 0 0) (b := i) (by omega) (by omega)) c13
  | succ j ih =>
    intro i b hi hb hh
    have e1 : nI i + Int32.ofInt 1 = nI (i + 1) := nI_1 i
    have hin : i < M.2 0 0 := by omega
    have htk := h.2.2.1 i hin
    have h107 : ∀ (b2 : Nat), b2 ≤ i + 1 → heir1 M (VR M) m b i = b2 → Ev M_X7_give 107 [vR 8 0, vI (nI m), vI (mi b2), vI (nI i), vU] [] (conc K (weighK M) G) r := by
      intro b2 hb2 hp
      refine ev_iinc dX7_give_107 rfl ?_
      refine ev_goto (tgt := 8) dX7_give_110 rfl ?_
      rw [e1]
      refine ih (i + 1) b2 (by omega) hb2 ?_
      rw [← hh, ← hp]
      rfl
    have h96 : ∀ (z : Int32) (b2 : Nat), (z = 0 → b2 = b) → (¬ z = 0 → b2 = i + 1) → heir1 M (VR M) m b i = b2 → Ev M_X7_give 96 [vR 8 0, vI (nI m), vI (mi b), vI (nI i), vI z] [] (conc K (weighK M) G) r := by
      intro z b2 h0 h1 hp
      refine ev_iload dX7_give_96 rfl ?_
      refine ev_if_eq (tgt := 105) dX7_give_98 rfl (fun c98 => ?_) (fun c98 => ?_)
      · refine ev_iload_n dX7_give_105 rfl ?_
        refine ev_istore_n dX7_give_106 rfl ?_
        refine ev_forget (ls2 := [_, _, _, _, vU]) (Fg_to ⟨Or.inr ⟨rfl, rfl⟩, Or.inr ⟨rfl, rfl⟩, Or.inr ⟨rfl, rfl⟩, Or.inr ⟨rfl, rfl⟩, Or.inl rfl, trivial⟩) ?_
        have e2 := h107 b2 (by have := h0 c98; omega) hp
        rw [h0 c98] at e2
        exact e2
      · refine ev_iload_n dX7_give_101 rfl ?_
        refine ev_goto (tgt := 106) dX7_give_102 rfl ?_
        refine ev_istore_n dX7_give_106 rfl ?_
        refine ev_forget (ls2 := [_, _, _, _, vU]) (Fg_to ⟨Or.inr ⟨rfl, rfl⟩, Or.inr ⟨rfl, rfl⟩, Or.inr ⟨rfl, rfl⟩, Or.inr ⟨rfl, rfl⟩, Or.inl rfl, trivial⟩) ?_
        have e2 := h107 b2 (by have := h1 c98; omega) hp
        rw [h1 c98] at e2
        exact e2
    have hw : (mi (M.2 3 i) = nI m) ↔ M.2 3 i = m + 1 := mi_eq (by have := htk.2.2.1; omega) (by omega)
    rcases b with _ | c
    · refine ev_iload_n dX7_give_8 rfl ?_
      refine ev_aload_n dX7_give_9 rfl rfl ?_
      refine ev_getf dX7_give_10 fl_7_112 ?_
      refine ev_icmp_ge (tgt := 113) dX7_give_13 rfl (fun c13 => ?_) (fun c13 => ?_)
      · exact absurd c13 (nI_ge (a := i) (b := M.2 0 0) (by omega) (by omega))
      · refine ev_aload_n dX7_give_16 rfl rfl ?_
        refine ev_getf dX7_give_17 fl_7_42 ?_
        refine ev_iload_n dX7_give_20 rfl ?_
        refine ev_iald dX7_give_21 rfl rfl (show _ < 8 from by omega) ?_
        refine ev_iconst (v := 2) dX7_give_22 rfl ?_
        refine ev_icmp_ne (tgt := 107) dX7_give_23 rfl (fun c23 => ?_) (fun c23 => ?_)
        · exact h107 0 (by omega) (if_neg (fun q => c23 (htk.2.2.2.2.1.mpr (by omega))))
        · refine ev_aload_n dX7_give_26 rfl rfl ?_
          refine ev_getf dX7_give_27 fl_7_60 ?_
          refine ev_iload_n dX7_give_30 rfl ?_
          refine ev_iald dX7_give_31 rfl rfl (show _ < 8 from by omega) ?_
          refine ev_iload_n dX7_give_32 rfl ?_
          refine ev_icmp_ne (tgt := 107) dX7_give_33 rfl (fun c33 => ?_) (fun c33 => ?_)
          · exact h107 0 (by omega) (if_neg (fun q => c33 (hw.mpr q)))
          · refine ev_iload_n dX7_give_36 rfl ?_
            refine ev_if_lt (tgt := 89) dX7_give_37 rfl (fun c37 => ?_) (fun c37 => ?_)
            · refine ev_iconst (v := 1) dX7_give_89 rfl ?_
              refine ev_goto (tgt := 94) dX7_give_90 rfl ?_
              refine ev_istore dX7_give_94 rfl ?_
              exact h96 1 (i + 1) (fun q => absurd q (by decide)) (fun _ => rfl) (if_pos (hw.mp (Classical.not_not.mp c33)))
            · exact absurd (show mi 0 < 0 by decide) c37
    · have hc : c < M.2 0 0 := by omega
      have hnn : ¬ mi (c + 1) < 0 := fun q => absurd ((mi_neg (by omega)).mp q) (by omega)
      have hp : M.2 3 i = m + 1 → ∀ z2 : Int32, z2 = bI (inher M (VR M) i c = true) → Ev M_X7_give 96 [vR 8 0, vI (nI m), vI (mi (c + 1)), vI (nI i), vI z2] [] (conc K (weighK M) G) r := by
        intro h3 z2 e2
        refine h96 z2 (if inher M (VR M) i c = true then i + 1 else c + 1) (fun q => ?_) (fun q => ?_) (if_pos h3)
        · exact if_neg (bI_0.mp (e2 ▸ q))
        · exact if_pos (Classical.not_not.mp (fun q2 => q (e2.trans (bI_f q2))))
      refine ev_iload_n dX7_give_8 rfl ?_
      refine ev_aload_n dX7_give_9 rfl rfl ?_
      refine ev_getf dX7_give_10 fl_7_112 ?_
      refine ev_icmp_ge (tgt := 113) dX7_give_13 rfl (fun c13 => ?_) (fun c13 => ?_)
      · exact absurd c13 (nI_ge (a := i) (b := M.2 0 0) (by omega) (by omega))
      · refine ev_aload_n dX7_give_16 rfl rfl ?_
        refine ev_getf dX7_give_17 fl_7_42 ?_
        refine ev_iload_n dX7_give_20 rfl ?_
        refine ev_iald dX7_give_21 rfl rfl (show _ < 8 from by omega) ?_
        refine ev_iconst (v := 2) dX7_give_22 rfl ?_
        refine ev_icmp_ne (tgt := 107) dX7_give_23 rfl (fun c23 => ?_) (fun c23 => ?_)
        · exact h107 (c + 1) (by omega) (if_neg (fun q => c23 (htk.2.2.2.2.1.mpr (by omega))))
        · refine ev_aload_n dX7_give_26 rfl rfl ?_
          refine ev_getf dX7_give_27 fl_7_60 ?_
          refine ev_iload_n dX7_give_30 rfl ?_
          refine ev_iald dX7_give_31 rfl rfl (show _ < 8 from by omega) ?_
          refine ev_iload_n dX7_give_32 rfl ?_
          refine ev_icmp_ne (tgt := 107) dX7_give_33 rfl (fun c33 => ?_) (fun c33 => ?_)
          · exact h107 (c + 1) (by omega) (if_neg (fun q => c33 (hw.mpr q)))
          · refine ev_iload_n dX7_give_36 rfl ?_
            refine ev_if_lt (tgt := 89) dX7_give_37 rfl (fun c37 => ?_) (fun c37 => ?_)
            · exact absurd c37 hnn
            · refine ev_aload_n dX7_give_40 rfl rfl ?_
              refine ev_aload_n dX7_give_41 rfl rfl ?_
              refine ev_getf dX7_give_42 fl_7_66 ?_
              refine ev_iload_n dX7_give_45 rfl ?_
              refine ev_iald dX7_give_46 rfl rfl (show _ < 8 from by omega) ?_
              refine ev_aload_n dX7_give_47 rfl rfl ?_
              refine ev_getf dX7_give_48 fl_7_66 ?_
              refine ev_iload_n dX7_give_51 rfl ?_
              refine ev_iald dX7_give_52 rfl rfl (show _ < 8 from by omega) ?_
              refine evV3 dX7_give_53 cl_X7_give_129 ⟨rfl, rfl, fun _ => ⟨_, rfl⟩⟩ (Nat.le_of_ble_eq_true rfl) (m_better K (weighK M) G (UM M i) (UM M c)) ?_
              rw [Rel_bI h hd hin hc]
              refine ev_if_ne (tgt := 89) dX7_give_56 rfl (fun c56 => ?_) (fun c56 => ?_)
              · refine ev_iconst (v := 1) dX7_give_89 rfl ?_
                refine ev_goto (tgt := 94) dX7_give_90 rfl ?_
                refine ev_istore dX7_give_94 rfl ?_
                refine hp (hw.mp (Classical.not_not.mp c33)) _ (bI_t ?_).symm
                have q := Classical.not_not.mp (fun q => c56 (bI_f q))
                unfold inher
                rw [if_neg (fun q2 => Int32.ne_of_lt q q2.symm)]
                exact decide_eq_true_iff.mpr q
              · have hb0 := bI_0.mp (Classical.not_not.mp c56)
                refine ev_aload_n dX7_give_59 rfl rfl ?_
                refine ev_getf dX7_give_60 fl_7_66 ?_
                refine ev_iload_n dX7_give_63 rfl ?_
                refine ev_iald dX7_give_64 rfl rfl (show _ < 8 from by omega) ?_
                refine ev_aload_n dX7_give_65 rfl rfl ?_
                refine ev_getf dX7_give_66 fl_7_66 ?_
                refine ev_iload_n dX7_give_69 rfl ?_
                refine ev_iald dX7_give_70 rfl rfl (show _ < 8 from by omega) ?_
                refine ev_icmp_ne (tgt := 93) dX7_give_71 rfl (fun c71 => ?_) (fun c71 => ?_)
                · refine ev_iconst (v := 0) dX7_give_93 rfl ?_
                  refine ev_istore dX7_give_94 rfl ?_
                  refine hp (hw.mp (Classical.not_not.mp c33)) _ (bI_f ?_).symm
                  have hne : ¬ VR M i = VR M c := fun q => c71 ((Rel_eq (Rel_V h hd) hin hc).mpr q)
                  unfold inher
                  rw [if_neg hne]
                  exact fun q => hb0 (decide_eq_true_iff.mp q)
                · have heq : VR M i = VR M c := (Rel_eq (Rel_V h hd) hin hc).mp (Classical.not_not.mp c71)
                  refine ev_aload_n dX7_give_74 rfl rfl ?_
                  refine ev_getf dX7_give_75 fl_7_57 ?_
                  refine ev_iload_n dX7_give_78 rfl ?_
                  refine ev_iald dX7_give_79 rfl rfl (show _ < 8 from by omega) ?_
                  refine ev_aload_n dX7_give_80 rfl rfl ?_
                  refine ev_getf dX7_give_81 fl_7_57 ?_
                  refine ev_iload_n dX7_give_84 rfl ?_
                  refine ev_iald dX7_give_85 rfl rfl (show _ < 8 from by omega) ?_
                  refine ev_icmp_ge (tgt := 93) dX7_give_86 rfl (fun c86 => ?_) (fun c86 => ?_)
                  · refine ev_iconst (v := 0) dX7_give_93 rfl ?_
                    refine ev_istore dX7_give_94 rfl ?_
                    refine hp (hw.mp (Classical.not_not.mp c33)) _ (bI_f ?_).symm
                    unfold inher
                    rw [if_pos heq]
                    exact fun q => Int32.not_lt.mpr c86 (decide_eq_true_iff.mp q)
                  · refine ev_iconst (v := 1) dX7_give_89 rfl ?_
                    refine ev_goto (tgt := 94) dX7_give_90 rfl ?_
                    refine ev_istore dX7_give_94 rfl ?_
                    refine hp (hw.mp (Classical.not_not.mp c33)) _ (bI_t ?_).symm
                    unfold inher
                    rw [if_pos heq]
                    exact decide_eq_true_iff.mpr (Int32.not_le.mp c86)
theorem m_give (K M : KT) (G : GT) (m T X : Nat) (h : FI M T X) (b : Bd T X) (hm : m < M.2 0 1) : Ev M_X7_give 0 (ent M_X7_give [vR 8 0, vI (nI m)]) [] (conc K M G) (0, none, conc K (giveK M m) G) := by
  show Ev M_X7_give 0 [vR 8 0, vI (nI m), vU, vU, vU] [] (conc K M G) _
  have hn := h.1.1.1
  have hm4 := h.1.1.2.1
  have h113 : Ev M_X7_give 113 [vR 8 0, vI (nI m), vI (mi (heirK M m)), vU, vU] [] (conc K (weighK M) G) (0, none, conc K (giveK M m) G) := by
    unfold giveK
    cases e : heirK M m with
    | zero =>
      refine ev_aload_n dX7_give_113 rfl rfl ?_
      refine ev_getf dX7_give_114 fl_7_93 ?_
      refine ev_iload_n dX7_give_117 rfl ?_
      refine ev_iload_n dX7_give_118 rfl ?_
      refine ev_iastS dX7_give_119 rfl (by decide) rfl (show _ < 4 from by omega) (pu_ma_54 _ _ _ _ _) ?_
      refine ev_iload_n dX7_give_120 rfl ?_
      refine ev_if_lt (tgt := 153) dX7_give_121 rfl (fun c121 => ?_) (fun c121 => ?_)
      · exact ev_vret dX7_give_153 rfl
      · exact absurd (show mi 0 < 0 by decide) c121
    | succ g =>
      have hg : g < M.2 0 0 := (heirK_in e).1
      have he := h.ev b
      refine ev_aload_n dX7_give_113 rfl rfl ?_
      refine ev_getf dX7_give_114 fl_7_93 ?_
      refine ev_iload_n dX7_give_117 rfl ?_
      refine ev_iload_n dX7_give_118 rfl ?_
      refine ev_iastS dX7_give_119 rfl (by decide) rfl (show _ < 4 from by omega) (pu_ma_54 _ _ _ _ (g + 1)) ?_
      refine ev_iload_n dX7_give_120 rfl ?_
      refine ev_if_lt (tgt := 153) dX7_give_121 rfl (fun c121 => ?_) (fun c121 => ?_)
      · exact absurd ((mi_neg (w := g + 1) (by omega)).mp c121) (by omega)
      · refine ev_aload_n dX7_give_124 rfl rfl ?_
        refine ev_getf dX7_give_125 fl_7_60 ?_
        refine ev_iload_n dX7_give_128 rfl ?_
        refine ev_iconst (v := (-1)) dX7_give_129 rfl ?_
        refine ev_iastS dX7_give_130 rfl (by decide) rfl (show _ < 8 from by omega) (setS_v (show vI (-1) = vI (mi 0) from rfl) (pu_ma_42 _ _ _ _ _)) ?_
        refine ev_aload_n dX7_give_131 rfl rfl ?_
        refine ev_getf dX7_give_132 fl_7_45 ?_
        refine ev_iload_n dX7_give_135 rfl ?_
        refine ev_dup2 dX7_give_136 rfl rfl ?_
        refine ev_iald dX7_give_137 rfl rfl (show _ < 8 from by omega) ?_
        refine ev_iconst (v := 1) dX7_give_138 rfl ?_
        refine ev_iadd dX7_give_139 ?_
        refine ev_iastS dX7_give_140 rfl (by decide) rfl (show _ < 8 from by omega) (setS_v (congrArg vI (nI_1 _)) (pu_ma_37 _ _ _ _ _)) ?_
        refine ev_aload_n dX7_give_141 rfl rfl ?_
        refine ev_iload_n dX7_give_142 rfl ?_
        refine evV2 dX7_give_143 cl_X7_give_149 ⟨rfl, rfl, fun _ => ⟨_, rfl⟩⟩ (Nat.le_of_ble_eq_true rfl) (m_ready K _ G g (by omega)) ?_
        show Ev _ _ _ _ (conc K (sI (sN (sI (sN (sI (sI (sN (weighK M) 4 m (g + 1)) 28 3 (M.1 28 3 + 1)) 6 g 1) 3 g 0) 11 g (M.1 28 3 + 1)) 1 g (M.2 1 g + 1)) 7 g 0) G) _
        refine ev_aload_n dX7_give_146 rfl rfl ?_
        refine ev_bipush (v := 6) dX7_give_147 rfl ?_
        refine ev_iload_n dX7_give_149 rfl ?_
        refine evV3 dX7_give_150 cl_X7_give_145 ⟨rfl, rfl, fun _ => ⟨_, rfl⟩⟩ (Nat.le_of_ble_eq_true rfl) (m_note K _ G 6 g h.1.1.2.2.2 he) ?_
        exact ev_vret dX7_give_153 rfl
  have hl := mg_loop K M G h.1 (h.due b) m hm _ h113 (M.2 0 0) 0 0 (by omega) (by omega) rfl
  refine ev_aload_n dX7_give_0 rfl rfl ?_
  refine evV1 dX7_give_1 cl_X7_give_133 ⟨rfl, rfl, fun _ => ⟨_, rfl⟩⟩ (Nat.le_of_ble_eq_true rfl) (m_weigh K M G h.1 (h.due b)) ?_
  refine ev_iconst (v := (-1)) dX7_give_4 rfl ?_
  refine ev_istore_n dX7_give_5 rfl ?_
  refine ev_iconst (v := 0) dX7_give_6 rfl ?_
  refine ev_istore_n dX7_give_7 rfl ?_
  exact hl
theorem idle_A {K : KT} {t : Nat} (ht : t < K.2 0 0) (h0 : ¬ K.1 6 t = 0) (c : Int32) : After K (sN (sI (noteK K c t) 6 t 0) 3 t 0) := by
  have o6 : ∀ i, i ≠ t → (sN (sI (noteK K c t) 6 t 0) 3 t 0).1 6 i = K.1 6 i := fun i e => ne1 t i e _ _
  have e6 : (sN (sI (noteK K c t) 6 t 0) 3 t 0).1 6 t = 0 := by show (if t = t then (0 : Int32) else _) = 0; rw [if_pos rfl]
  have hP : Ph (sN (sI (noteK K c t) 6 t 0) 3 t 0) + ph K t = Ph K := by
    have := Ph_one (K := K) (L := sN (sI (noteK K c t) 6 t 0) 3 t 0) rfl ht (fun i e => by unfold ph; rw [o6 i e]; rfl)
    have p2 : ph (sN (sI (noteK K c t) 6 t 0) 3 t 0) t = 0 := by unfold ph; rw [e6]; rfl
    omega
  have hp := ph_pos h0
  refine ⟨fun hl => fun i hi q => ?_, fun _ h => h, ?_, by omega, rfl, rfl⟩
  · by_cases e : i = t
    · subst e; exact absurd e6 q
    · have := hl i hi (by rw [o6 i e] at q; exact q)
      unfold wlOk at this ⊢
      rw [o6 i e]
      exact this
  · show K.2 0 3 + 1 + Ph (sN (sI (noteK K c t) 6 t 0) 3 t 0) ≤ _
    omega
theorem FI_idle {M : KT} {T X : Nat} (h : FI M T X) {t : Nat} (ht : t < M.2 0 0) (h0 : ¬ M.1 6 t = 0) (c : Int32) : FI (sN (sI (noteK M c t) 6 t 0) 3 t 0) T X := h.aft (Inv_idle (Inv_note h.1 c t) t) (idle_A ht h0 c)
theorem FI_give {M : KT} {T X : Nat} (h : FI M T X) (m : Nat) : FI (giveK M m) T X := h.aft (Inv_give h.1 m) (give_A h.1 m)
theorem mo_loop (K : KT) (G : GT) (T X : Nat) (b : Bd T X) (t : Nat) (z w : Int32) : ∀ (j i : Nat) (M : KT), FI M T X → t < M.2 0 0 → i + j = M.2 0 1 → Ev M_X7_over 98 [vR 8 0, vI (nI t), vI z, vI w, vI (nI i)] [] (conc K M G) (0, none, conc K (giveN t j i M) G) := by
  intro j
  induction j with
  | zero =>
    intro i M h ht hi
    have hm := h.1.1.2.1
    refine ev_iload dX7_over_98 rfl ?_
    refine ev_aload_n dX7_over_100 rfl rfl ?_
    refine ev_getf dX7_over_101 fl_7_126 ?_
    refine ev_icmp_ge (tgt := 130) dX7_over_104 rfl (fun c104 => ?_) (fun c104 => ?_)
    · exact ev_vret dX7_over_130 rfl
    · exact absurd (nI_le (a := M.2 0 1) (b := i) (by omega) (by omega)) c104
  | succ j ih =>
    intro i M h ht hi
    have hm := h.1.1.2.1
    have hn := h.1.1.1
    have e1 : nI i + Int32.ofInt 1 = nI (i + 1) := nI_1 i
    have hg := give_n M i
    have hq : (mi (M.2 4 i) = nI t) ↔ M.2 4 i = t + 1 := mi_eq (by have := h.1.2.1 i (by omega); omega) (by omega)
    refine ev_iload dX7_over_98 rfl ?_
    refine ev_aload_n dX7_over_100 rfl rfl ?_
    refine ev_getf dX7_over_101 fl_7_126 ?_
    refine ev_icmp_ge (tgt := 130) dX7_over_104 rfl (fun c104 => ?_) (fun c104 => ?_)
    · exact absurd c104 (nI_ge (a := i) (b := M.2 0 1) (by omega) (by omega))
    · refine ev_aload_n dX7_over_107 rfl rfl ?_
      refine ev_getf dX7_over_108 fl_7_93 ?_
      refine ev_iload dX7_over_111 rfl ?_
      refine ev_iald dX7_over_113 rfl rfl (show _ < 4 from by omega) ?_
      refine ev_iload_n dX7_over_114 rfl ?_
      refine ev_icmp_ne (tgt := 124) dX7_over_115 rfl (fun c115 => ?_) (fun c115 => ?_)
      · refine ev_iinc dX7_over_124 rfl ?_
        refine ev_goto (tgt := 98) dX7_over_127 rfl ?_
        rw [e1]
        simp only [giveN]
        rw [if_neg (fun q => c115 (hq.mpr q))]
        exact ih (i + 1) M h ht (by omega)
      · refine ev_aload_n dX7_over_118 rfl rfl ?_
        refine ev_iload dX7_over_119 rfl ?_
        refine evV2 dX7_over_121 cl_X7_over_153 ⟨rfl, rfl, fun _ => ⟨_, rfl⟩⟩ (Nat.le_of_ble_eq_true rfl) (m_give K M G i T X h b (by omega)) ?_
        refine ev_iinc dX7_over_124 rfl ?_
        refine ev_goto (tgt := 98) dX7_over_127 rfl ?_
        rw [e1]
        simp only [giveN]
        rw [if_pos (hq.mp (Classical.not_not.mp c115))]
        exact ih (i + 1) _ (FI_give h i) (by rw [hg.1]; exact ht) (by rw [hg.2]; omega)
theorem FI_irr16 {K : KT} {T X : Nat} (h : FI K T X) (t : Nat) (v : Int32) : FI (sI K 16 t v) T X := h.aft (Inv_irr h.1 t _ (by decide) (by decide) (by decide)) (A_of (fun h => h) (fun _ h => h) rfl (Ph_eq rfl (fun _ => rfl)) rfl rfl)
theorem FI_irr1520 {K : KT} {T X : Nat} (h : FI K T X) (t : Nat) (v w : Int32) : FI (sI (sI K 15 t v) 20 t w) T X := h.aft (Inv_irr (Inv_irr h.1 t _ (by decide) (by decide) (by decide)) t _ (by decide) (by decide) (by decide)) (A_of (fun h => h) (fun _ h => h) rfl (Ph_eq rfl (fun _ => rfl)) rfl rfl)
theorem m_fail (K M : KT) (G : GT) (t T X : Nat) (w : Int32) (h : FI M T X) (b : Bd T X) (ht : t < M.2 0 0) (h0 : ¬ M.1 6 t = 0) : Ev M_X7_over 0 (ent M_X7_over [vR 8 0, vI (nI t), vI 1, vI w]) [] (conc K M G) (0, none, conc K (failK M t) G) := by
  show Ev M_X7_over 0 [vR 8 0, vI (nI t), vI 1, vI w, vU] [] (conc K M G) _
  have hn := h.1.1.1
  have hl := mo_loop K G T X b t 1 w (M.2 0 1) 0 _ (FI_idle (FI_irr16 h t (M.1 16 t + 1)) (t := t) ht h0 3) ht (by show 0 + M.2 0 1 = M.2 0 1; omega)
  refine ev_aload_n dX7_over_0 rfl rfl ?_
  refine ev_getf dX7_over_1 fl_7_42 ?_
  refine ev_iload_n dX7_over_4 rfl ?_
  refine ev_iconst (v := 0) dX7_over_5 rfl ?_
  refine ev_iastS dX7_over_6 rfl (by decide) rfl (show _ < 8 from by omega) (pu_ma_36 _ _ _ _ _) ?_
  refine ev_aload_n dX7_over_7 rfl rfl ?_
  refine ev_getf dX7_over_8 fl_7_60 ?_
  refine ev_iload_n dX7_over_11 rfl ?_
  refine ev_iconst (v := (-1)) dX7_over_12 rfl ?_
  refine ev_iastS dX7_over_13 rfl (by decide) rfl (show _ < 8 from by omega) (setS_v (show vI (-1) = vI (mi 0) from rfl) (pu_ma_42 _ _ _ _ _)) ?_
  refine ev_iload_n dX7_over_14 rfl ?_
  refine ev_if_eq (tgt := 31) dX7_over_15 rfl (fun c15 => ?_) (fun c15 => ?_)
  · exact absurd c15 (by decide)
  · refine ev_aload_n dX7_over_18 rfl rfl ?_
    refine ev_getf dX7_over_19 fl_7_72 ?_
    refine ev_iload_n dX7_over_22 rfl ?_
    refine ev_dup2 dX7_over_23 rfl rfl ?_
    refine ev_iald dX7_over_24 rfl rfl (show _ < 8 from by omega) ?_
    refine ev_iconst (v := 1) dX7_over_25 rfl ?_
    refine ev_iadd dX7_over_26 ?_
    refine ev_iastS dX7_over_27 rfl (by decide) rfl (show _ < 8 from by omega) (pu_ma_46 _ _ _ _ _) ?_
    refine ev_goto (tgt := 81) dX7_over_28 rfl ?_
    refine ev_aload_n dX7_over_81 rfl rfl ?_
    refine ev_iload_n dX7_over_82 rfl ?_
    refine ev_if_eq (tgt := 90) dX7_over_83 rfl (fun c83 => ?_) (fun c83 => ?_)
    · exact absurd c83 (by decide)
    · refine ev_iconst (v := 3) dX7_over_86 rfl ?_
      refine ev_goto (tgt := 91) dX7_over_87 rfl ?_
      refine ev_iload_n dX7_over_91 rfl ?_
      refine evV3 dX7_over_92 cl_X7_over_145 ⟨rfl, rfl, fun _ => ⟨_, rfl⟩⟩ (Nat.le_of_ble_eq_true rfl) (m_note K _ G 3 t h.1.1.2.2.2 (h.ev b)) ?_
      refine ev_iconst (v := 0) dX7_over_95 rfl ?_
      refine ev_istore dX7_over_96 rfl ?_
      exact hl
theorem m_done (K M : KT) (G : GT) (t T X : Nat) (w : Int32) (h : FI M T X) (b : Bd T X) (ht : t < M.2 0 0) (h0 : ¬ M.1 6 t = 0) : Ev M_X7_over 0 (ent M_X7_over [vR 8 0, vI (nI t), vI 0, vI w]) [] (conc K M G) (0, none, conc K (doneK M t w) G) := by
  show Ev M_X7_over 0 [vR 8 0, vI (nI t), vI 0, vI w, vU] [] (conc K M G) _
  have hn := h.1.1.1
  have hl := fun v => mo_loop K G T X b t 0 w (M.2 0 1) 0 _ (FI_idle (FI_irr1520 h t (M.1 15 t + 1) v) (t := t) ht h0 2) ht (by show 0 + M.2 0 1 = M.2 0 1; omega)
  have h81 : ∀ v, (if M.1 20 t < w - M.1 9 t then w - M.1 9 t else M.1 20 t) = v → Ev M_X7_over 81 [vR 8 0, vI (nI t), vI 0, vI w, vU] [] (conc K (sI (sI (sN (sI M 6 t 0) 3 t 0) 15 t (M.1 15 t + 1)) 20 t v) G) (0, none, conc K (doneK M t w) G) := by
    intro v hv
    unfold doneK
    rw [hv]
    refine ev_aload_n dX7_over_81 rfl rfl ?_
    refine ev_iload_n dX7_over_82 rfl ?_
    refine ev_if_eq (tgt := 90) dX7_over_83 rfl (fun c83 => ?_) (fun c83 => ?_)
    · refine ev_iconst (v := 2) dX7_over_90 rfl ?_
      refine ev_iload_n dX7_over_91 rfl ?_
      refine evV3 dX7_over_92 cl_X7_over_145 ⟨rfl, rfl, fun _ => ⟨_, rfl⟩⟩ (Nat.le_of_ble_eq_true rfl) (m_note K _ G 2 t h.1.1.2.2.2 (h.ev b)) ?_
      refine ev_iconst (v := 0) dX7_over_95 rfl ?_
      refine ev_istore dX7_over_96 rfl ?_
      exact hl v
    · exact absurd rfl c83
  refine ev_aload_n dX7_over_0 rfl rfl ?_
  refine ev_getf dX7_over_1 fl_7_42 ?_
  refine ev_iload_n dX7_over_4 rfl ?_
  refine ev_iconst (v := 0) dX7_over_5 rfl ?_
  refine ev_iastS dX7_over_6 rfl (by decide) rfl (show _ < 8 from by omega) (pu_ma_36 _ _ _ _ _) ?_
  refine ev_aload_n dX7_over_7 rfl rfl ?_
  refine ev_getf dX7_over_8 fl_7_60 ?_
  refine ev_iload_n dX7_over_11 rfl ?_
  refine ev_iconst (v := (-1)) dX7_over_12 rfl ?_
  refine ev_iastS dX7_over_13 rfl (by decide) rfl (show _ < 8 from by omega) (setS_v (show vI (-1) = vI (mi 0) from rfl) (pu_ma_42 _ _ _ _ _)) ?_
  refine ev_iload_n dX7_over_14 rfl ?_
  refine ev_if_eq (tgt := 31) dX7_over_15 rfl (fun c15 => ?_) (fun c15 => ?_)
  · refine ev_aload_n dX7_over_31 rfl rfl ?_
    refine ev_getf dX7_over_32 fl_7_69 ?_
    refine ev_iload_n dX7_over_35 rfl ?_
    refine ev_dup2 dX7_over_36 rfl rfl ?_
    refine ev_iald dX7_over_37 rfl rfl (show _ < 8 from by omega) ?_
    refine ev_iconst (v := 1) dX7_over_38 rfl ?_
    refine ev_iadd dX7_over_39 ?_
    refine ev_iastS dX7_over_40 rfl (by decide) rfl (show _ < 8 from by omega) (pu_ma_45 _ _ _ _ _) ?_
    refine ev_aload_n dX7_over_41 rfl rfl ?_
    refine ev_getf dX7_over_42 fl_7_84 ?_
    refine ev_iload_n dX7_over_45 rfl ?_
    refine ev_iload_n dX7_over_46 rfl ?_
    refine ev_aload_n dX7_over_47 rfl rfl ?_
    refine ev_getf dX7_over_48 fl_7_54 ?_
    refine ev_iload_n dX7_over_51 rfl ?_
    refine ev_iald dX7_over_52 rfl rfl (show _ < 8 from by omega) ?_
    refine ev_isub dX7_over_53 ?_
    refine ev_aload_n dX7_over_54 rfl rfl ?_
    refine ev_getf dX7_over_55 fl_7_84 ?_
    refine ev_iload_n dX7_over_58 rfl ?_
    refine ev_iald dX7_over_59 rfl rfl (show _ < 8 from by omega) ?_
    refine ev_icmp_le (tgt := 74) dX7_over_60 rfl (fun c60 => ?_) (fun c60 => ?_)
    · refine ev_aload_n dX7_over_74 rfl rfl ?_
      refine ev_getf dX7_over_75 fl_7_84 ?_
      refine ev_iload_n dX7_over_78 rfl ?_
      refine ev_iald dX7_over_79 rfl rfl (show _ < 8 from by omega) ?_
      refine ev_iastS dX7_over_80 rfl (by decide) rfl (show _ < 8 from by omega) (pu_ma_50 _ _ _ _ _) ?_
      exact h81 _ (if_neg (Int32.not_lt.mpr c60))
    · refine ev_iload_n dX7_over_63 rfl ?_
      refine ev_aload_n dX7_over_64 rfl rfl ?_
      refine ev_getf dX7_over_65 fl_7_54 ?_
      refine ev_iload_n dX7_over_68 rfl ?_
      refine ev_iald dX7_over_69 rfl rfl (show _ < 8 from by omega) ?_
      refine ev_isub dX7_over_70 ?_
      refine ev_goto (tgt := 80) dX7_over_71 rfl ?_
      refine ev_iastS dX7_over_80 rfl (by decide) rfl (show _ < 8 from by omega) (pu_ma_50 _ _ _ _ _) ?_
      exact h81 _ (if_pos (Int32.not_le.mp c60))
  · exact absurd rfl c15
