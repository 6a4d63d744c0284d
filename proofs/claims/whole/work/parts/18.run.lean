/-! THE CLASS: going on, settling, working, a tick -/
/-- a giving leaves tasks that wait nowhere as they are -/
theorem give_off {K : KT} (m t : Nat) (ht : K.2 3 t = 0) : (giveK K m).1 6 t = K.1 6 t ∧ (giveK K m).2 1 t = K.2 1 t ∧ (giveK K m).2 2 t = K.2 2 t ∧ (giveK K m).2 3 t = 0 ∧ (giveK K m).2 0 0 = K.2 0 0 ∧ (giveK K m).2 0 1 = K.2 0 1 ∧ (giveK K m).1 28 2 = K.1 28 2 := by
  unfold giveK
  cases e : heirK K m with
  | zero => exact ⟨rfl, rfl, rfl, ht, rfl, rfl, rfl⟩
  | succ h =>
    have hne : t ≠ h := fun q => by have := (heirK_in e).2; rw [← q] at this; omega
    refine ⟨?_, ?_, rfl, ?_, rfl, rfl, rfl⟩
    · show (if t = h then (1 : Int32) else K.1 6 t) = _
      rw [if_neg hne]
    · show (if t = h then _ else K.2 1 t) = _
      rw [if_neg hne]
    · show (if t = h then 0 else K.2 3 t) = _
      rw [if_neg hne]; exact ht
theorem give_n (K : KT) (m : Nat) : (giveK K m).2 0 0 = K.2 0 0 ∧ (giveK K m).2 0 1 = K.2 0 1 := by
  unfold giveK
  cases heirK K m <;> exact ⟨rfl, rfl⟩
theorem giveN_n (t : Nat) : ∀ (j m : Nat) (K : KT), (giveN t j m K).2 0 0 = K.2 0 0 ∧ (giveN t j m K).2 0 1 = K.2 0 1 := by
  intro j
  induction j with
  | zero => intro m K; exact ⟨rfl, rfl⟩
  | succ j ih =>
    intro m K
    simp only [giveN]
    have h1 := ih (m + 1) (if K.2 4 m = t + 1 then giveK K m else K)
    rw [h1.1, h1.2]
    split
    · exact give_n K m
    · exact ⟨rfl, rfl⟩
theorem end_n (K : KT) (t : Nat) (c : Int32) : (endK K t c).2 0 0 = K.2 0 0 := (giveN_n t _ _ _).1
theorem end_m (K : KT) (t : Nat) (c : Int32) : (endK K t c).2 0 1 = K.2 0 1 := (giveN_n t _ _ _).2
theorem fail_n (K : KT) (t : Nat) : (failK K t).2 0 0 = K.2 0 0 := end_n _ t 3
theorem begin_n (K : KT) (t : Nat) : (beginK K t).2 0 0 = K.2 0 0 := by
  unfold beginK
  split <;> rfl
theorem Inv.w0 {K : KT} (h : Inv K) {t : Nat} (ht : t < K.2 0 0) (h6 : K.1 6 t = 1) : K.2 3 t = 0 := by
  have h5 := (h.2.2.1 t ht).2.2.2.2.1
  exact Classical.byContradiction fun q => absurd (h6.symm.trans (h5.mpr q)) (by decide)
theorem amK_of {K : KT} {t m : Nat} (hm : m < 4) (e : K.1 27 (10 * t + K.2 1 t) = nI m) : amK K t = m := by
  unfold amK
  rw [e]
  exact nI_clamp (by omega)
theorem pass_self (K : KT) (t : Nat) : (passK K t).2 1 t = K.2 1 t + 1 := by show (if t = t then _ else _) = _; rw [if_pos rfl]
/-- what a going on keeps for its own task, step by step -/
theorem go_next {K : KT} (h : Inv K) {t m : Nat} (ht : t < K.2 0 0) (h6 : K.1 6 t = 1) (hlt : K.2 1 t < K.2 2 t) : (Inv (passK (giveK K m) t) ∧ t < (passK (giveK K m) t).2 0 0 ∧ (passK (giveK K m) t).1 6 t = 1 ∧ (passK (giveK K m) t).2 2 t - (passK (giveK K m) t).2 1 t = K.2 2 t - K.2 1 t - 1) ∧ (Inv (passK (sN K 4 m (t + 1)) t) ∧ t < (passK (sN K 4 m (t + 1)) t).2 0 0 ∧ (passK (sN K 4 m (t + 1)) t).1 6 t = 1 ∧ (passK (sN K 4 m (t + 1)) t).2 2 t - (passK (sN K 4 m (t + 1)) t).2 1 t = K.2 2 t - K.2 1 t - 1) := by
  obtain ⟨g1, g2, g3, g4, g5, g6, -⟩ := give_off (K := K) m t (h.w0 ht h6)
  refine ⟨⟨Inv_pass (Inv_give h m) t (by rw [g2, g3]; exact hlt) (by rw [g1, h6]; decide), ?_, ?_, ?_⟩, ⟨Inv_pass (Inv_own h m (t + 1) ht) t hlt (by show ¬ K.1 6 t = 2; rw [h6]; decide), ht, h6, ?_⟩⟩
  · show t < (giveK K m).2 0 0
    rw [g5]; exact ht
  · show (giveK K m).1 6 t = 1
    rw [g1]; exact h6
  · rw [pass_self, g2]
    show (giveK K m).2 2 t - _ = _
    rw [g3]; omega
  · rw [pass_self]
    show K.2 2 t - (K.2 1 t + 1) = _
    omega
theorem goOn_loop (M : KT) (G : GT) (t : Nat) (w : Int32) : ∀ (j : Nat) (K : KT), Inv K → t < K.2 0 0 → K.1 6 t = 1 → K.2 2 t - K.2 1 t = j → Ev M_X6_goOn 23 [vR 7 0, vR 6 t, vI w, vR 2 t, vR 1 t, vI (nI j), vU, vU] [] (conc K M G) (0, none, conc (goK j K t w) M G) := by
  intro j
  induction j with
  | zero =>
    intro K h ht h6 hj
    refine ev_iload dX6_goOn_23 rfl ?_
    refine ev_if_le (tgt := 154) dX6_goOn_25 rfl (fun c25 => ?_) (fun c25 => ?_)
    · refine ev_aload_n dX6_goOn_154 rfl rfl ?_
      refine ev_getf dX6_goOn_155 fl_6_140 ?_
      refine ev_iload_n dX6_goOn_158 rfl ?_
      refine ev_aload_n dX6_goOn_159 rfl rfl ?_
      refine ev_getf dX6_goOn_160 fl_6_228 ?_
      refine ev_isub dX6_goOn_163 ?_
      refine evV2 dX6_goOn_164 cl_X6_goOn_231 ⟨rfl, rfl, fun _ => ⟨_, rfl⟩⟩ (Nat.le_of_ble_eq_true rfl) (e_addDone K M G t _) ?_
      refine ev_aload_n dX6_goOn_167 rfl rfl ?_
      refine ev_aload_n dX6_goOn_168 rfl rfl ?_
      refine ev_iconst (v := 2) dX6_goOn_169 rfl ?_
      refine evV3 dX6_goOn_170 cl_X6_goOn_156 ⟨rfl, rfl, fun _ => ⟨_, rfl⟩⟩ (Nat.le_of_ble_eq_true rfl) (e_endJob _ M G t 2 (Inv_irr (Inv_irr h t _ (by decide) (by decide) (by decide)) t _ (by decide) (by decide) (by decide))) ?_
      exact ev_vret dX6_goOn_173 rfl
    · exact absurd (show nI 0 ≤ 0 by decide) c25
  | succ j ih =>
    intro K h ht h6 hj
    have hlt : K.2 1 t < K.2 2 t := by omega
    have hz := (h.2.2.1 t ht).1
    have hm4 := h.1.2.1
    have em : nI (j + 1) + Int32.ofInt (-1) = nI j := pk_m1 j
    rcases h.2.2.2 t (K.2 1 t) ht hlt with ⟨k0, -⟩ | ⟨k12, m, hm, ea⟩
    · have e0 : goK (j + 1) K t w = K := if_pos k0
      rw [e0]
      refine ev_iload dX6_goOn_23 rfl ?_
      refine ev_if_le (tgt := 154) dX6_goOn_25 rfl (fun c25 => ?_) (fun c25 => ?_)
      · exact absurd c25 (nI_nle (by omega) (by omega))
      · refine ev_aload dX6_goOn_28 rfl rfl ?_
        refine ev_getf dX6_goOn_30 fl_6_210 ?_
        refine ev_aload_n dX6_goOn_33 rfl rfl ?_
        refine ev_getf dX6_goOn_34 fl_6_204 ?_
        refine ev_ialdv dX6_goOn_37 rfl rfl (show _ < 10 from by omega) (co_bk (by omega)) ?_
        refine ev_istore dX6_goOn_38 rfl ?_
        refine ev_iload dX6_goOn_40 rfl ?_
        refine ev_if_ne (tgt := 46) dX6_goOn_42 rfl (fun c42 => ?_) (fun c42 => ?_)
        · exact absurd k0 c42
        · exact ev_vret dX6_goOn_45 rfl
    · have ek : ¬ kdK K t = 0 := by show ¬ K.1 26 _ = 0; rcases k12 with q | q <;> rw [q] <;> decide
      have eam : amK K t = m := amK_of (by omega) ea
      have h144 : ∀ K2, Inv K2 → t < K2.2 0 0 → (passK K2 t).1 6 t = 1 → Inv (passK K2 t) → (passK K2 t).2 2 t - (passK K2 t).2 1 t = j → goK (j + 1) K t w = goK j (passK K2 t) t w → Ev M_X6_goOn 144 [vR 7 0, vR 6 t, vI w, vR 2 t, vR 1 t, vI (nI (j + 1)), vU, vU] [] (conc K2 M G) (0, none, conc (goK (j + 1) K t w) M G) := by
        intro K2 i1 i2 i3 i4 i5 i6
        rw [i6]
        refine ev_aload_n dX6_goOn_144 rfl rfl ?_
        refine evV1 dX6_goOn_145 cl_X6_goOn_207 ⟨rfl, rfl, fun _ => ⟨_, rfl⟩⟩ (Nat.le_of_ble_eq_true rfl) (e_passStep K2 M G t) ?_
        refine ev_iinc dX6_goOn_148 rfl ?_
        refine ev_goto (tgt := 23) dX6_goOn_151 rfl ?_
        rw [em]
        exact ih _ i4 i2 i3 i5
      obtain ⟨⟨a1, a2, a3, a4⟩, ⟨b1, b2, b3, b4⟩⟩ := go_next h (m := m) ht h6 hlt
      have h95 : ¬ failsK K t m (kdK K t) = true → Ev M_X6_goOn 95 [vR 7 0, vR 6 t, vI w, vR 2 t, vR 1 t, vI (nI (j + 1)), vI (kdK K t), vR 4 m] [] (conc K M G) (0, none, conc (goK (j + 1) K t w) M G) := by
        intro hf
        have e1 : kdK K t = 2 → goK (j + 1) K t w = goK j (passK (giveK K m) t) t w := fun q => by
          show (if kdK K t = 0 then _ else if failsK K t (amK K t) (kdK K t) = true then _ else if kdK K t = 2 then _ else _) = _
          rw [if_neg ek, eam, if_neg hf, if_pos q]
        have e2 : ¬ kdK K t = 2 → K.2 4 m = 0 → goK (j + 1) K t w = goK j (passK (sN K 4 m (t + 1)) t) t w := fun q q2 => by
          show (if kdK K t = 0 then _ else if failsK K t (amK K t) (kdK K t) = true then _ else if kdK K t = 2 then _ else if K.2 4 (amK K t) = 0 then _ else _) = _
          rw [if_neg ek, eam, if_neg hf, if_neg q, if_pos q2]
        have e3 : ¬ kdK K t = 2 → ¬ K.2 4 m = 0 → goK (j + 1) K t w = blockK K t m := fun q q2 => by
          show (if kdK K t = 0 then _ else if failsK K t (amK K t) (kdK K t) = true then _ else if kdK K t = 2 then _ else if K.2 4 (amK K t) = 0 then _ else _) = _
          rw [if_neg ek, eam, if_neg hf, if_neg q, if_neg q2]
        rcases ho : K.2 4 m with _ | o
        · refine ev_iload dX6_goOn_95 rfl ?_
          refine ev_iconst (v := 2) dX6_goOn_97 rfl ?_
          refine ev_icmp_ne (tgt := 110) dX6_goOn_98 rfl (fun c98 => ?_) (fun c98 => ?_)
          · refine ev_aload dX6_goOn_110 rfl rfl ?_
            refine ev_getfv dX6_goOn_112 fl_6_221 (co_own ho) ?_
            refine ev_ifnonnull (tgt := 127) dX6_goOn_115 rfl rfl (fun c115 => ?_) (fun c115 => ?_)
            · exact absurd rfl c115
            · refine ev_aload dX6_goOn_118 rfl rfl ?_
              refine ev_aload_n dX6_goOn_120 rfl rfl ?_
              refine ev_putfS dX6_goOn_121 fl_6_221 rfl rfl (pu_mut_3 _ _ _ _ _) ?_
              refine ev_goto (tgt := 144) dX6_goOn_124 rfl ?_
              refine ev_forget (ls2 := [_, _, _, _, _, _, vU, vU]) (Fg_to ⟨Or.inr ⟨rfl, rfl⟩, Or.inr ⟨rfl, rfl⟩, Or.inr ⟨rfl, rfl⟩, Or.inr ⟨rfl, rfl⟩, Or.inr ⟨rfl, rfl⟩, Or.inr ⟨rfl, rfl⟩, Or.inl rfl, Or.inl rfl, trivial⟩) ?_
              exact h144 _ (Inv_own h m (t + 1) ht) ht b3 b1 (by rw [b4]; omega) (e2 c98 ho)
          · refine ev_aload_n dX6_goOn_101 rfl rfl ?_
            refine ev_aload dX6_goOn_102 rfl rfl ?_
            refine evV2 dX6_goOn_104 cl_X6_goOn_217 ⟨rfl, rfl, fun _ => ⟨_, rfl⟩⟩ (Nat.le_of_ble_eq_true rfl) (e_giveAway K M G m h) ?_
            refine ev_goto (tgt := 144) dX6_goOn_107 rfl ?_
            refine ev_forget (ls2 := [_, _, _, _, _, _, vU, vU]) (Fg_to ⟨Or.inr ⟨rfl, rfl⟩, Or.inr ⟨rfl, rfl⟩, Or.inr ⟨rfl, rfl⟩, Or.inr ⟨rfl, rfl⟩, Or.inr ⟨rfl, rfl⟩, Or.inr ⟨rfl, rfl⟩, Or.inl rfl, Or.inl rfl, trivial⟩) ?_
            exact h144 _ (Inv_give h m) a2 a3 a1 (by rw [a4]; omega) (e1 (Classical.not_not.mp c98))
        · refine ev_iload dX6_goOn_95 rfl ?_
          refine ev_iconst (v := 2) dX6_goOn_97 rfl ?_
          refine ev_icmp_ne (tgt := 110) dX6_goOn_98 rfl (fun c98 => ?_) (fun c98 => ?_)
          · refine ev_aload dX6_goOn_110 rfl rfl ?_
            refine ev_getfv dX6_goOn_112 fl_6_221 (co_own ho) ?_
            refine ev_ifnonnull (tgt := 127) dX6_goOn_115 rfl rfl (fun c115 => ?_) (fun c115 => ?_)
            · refine ev_aload_n dX6_goOn_127 rfl rfl ?_
              refine ev_aload dX6_goOn_128 rfl rfl ?_
              refine ev_aload_n dX6_goOn_130 rfl rfl ?_
              refine evV1 dX6_goOn_131 cl_X6_goOn_169 ⟨rfl, rfl, fun _ => ⟨_, rfl⟩⟩ (Nat.le_of_ble_eq_true rfl) (e_nextChange _ M G) ?_
              refine evV3 dX6_goOn_134 cl_X6_goOn_224 ⟨rfl, rfl, fun _ => ⟨_, rfl⟩⟩ (Nat.le_of_ble_eq_true rfl) (e_blockAt _ M G t m _) ?_
              refine ev_aload_n dX6_goOn_137 rfl rfl ?_
              refine ev_iconst (v := 5) dX6_goOn_138 rfl ?_
              refine ev_aload_n dX6_goOn_139 rfl rfl ?_
              refine evV3 dX6_goOn_140 cl_X6_goOn_149 ⟨rfl, rfl, fun _ => ⟨_, rfl⟩⟩ (Nat.le_of_ble_eq_true rfl) (e_note _ M G 5 t h.next) ?_
              rw [e3 c98 (by omega)]
              exact ev_vret dX6_goOn_143 rfl
            · exact nomatch c115
          · refine ev_aload_n dX6_goOn_101 rfl rfl ?_
            refine ev_aload dX6_goOn_102 rfl rfl ?_
            refine evV2 dX6_goOn_104 cl_X6_goOn_217 ⟨rfl, rfl, fun _ => ⟨_, rfl⟩⟩ (Nat.le_of_ble_eq_true rfl) (e_giveAway K M G m h) ?_
            refine ev_goto (tgt := 144) dX6_goOn_107 rfl ?_
            refine ev_forget (ls2 := [_, _, _, _, _, _, vU, vU]) (Fg_to ⟨Or.inr ⟨rfl, rfl⟩, Or.inr ⟨rfl, rfl⟩, Or.inr ⟨rfl, rfl⟩, Or.inr ⟨rfl, rfl⟩, Or.inr ⟨rfl, rfl⟩, Or.inr ⟨rfl, rfl⟩, Or.inl rfl, Or.inl rfl, trivial⟩) ?_
            exact h144 _ (Inv_give h m) a2 a3 a1 (by rw [a4]; omega) (e1 (Classical.not_not.mp c98))
      refine ev_iload dX6_goOn_23 rfl ?_
      refine ev_if_le (tgt := 154) dX6_goOn_25 rfl (fun c25 => ?_) (fun c25 => ?_)
      · exact absurd c25 (nI_nle (by omega) (by omega))
      · refine ev_aload dX6_goOn_28 rfl rfl ?_
        refine ev_getf dX6_goOn_30 fl_6_210 ?_
        refine ev_aload_n dX6_goOn_33 rfl rfl ?_
        refine ev_getf dX6_goOn_34 fl_6_204 ?_
        refine ev_ialdv dX6_goOn_37 rfl rfl (show _ < 10 from by omega) (co_bk (by omega)) ?_
        refine ev_istore dX6_goOn_38 rfl ?_
        refine ev_iload dX6_goOn_40 rfl ?_
        refine ev_if_ne (tgt := 46) dX6_goOn_42 rfl (fun c42 => ?_) (fun c42 => ?_)
        · refine ev_aload_n dX6_goOn_46 rfl rfl ?_
          refine ev_getf dX6_goOn_47 fl_6_17 ?_
          refine ev_aload dX6_goOn_50 rfl rfl ?_
          refine ev_getf dX6_goOn_52 fl_6_200 ?_
          refine ev_aload_n dX6_goOn_55 rfl rfl ?_
          refine ev_getf dX6_goOn_56 fl_6_204 ?_
          refine ev_ialdv dX6_goOn_59 rfl rfl (show _ < 10 from by omega) (co_ba (by omega)) ?_
          refine ev_aaldv dX6_goOn_60 rfl (ea) (show _ < 4 from by omega) (co_muts hm) ?_
          refine ev_astore dX6_goOn_61 rfl rfl ?_
          refine ev_aload_n dX6_goOn_63 rfl rfl ?_
          refine ev_aload_n dX6_goOn_64 rfl rfl ?_
          refine ev_iload dX6_goOn_65 rfl ?_
          refine ev_aload dX6_goOn_67 rfl rfl ?_
          refine evV4 dX6_goOn_69 cl_X6_goOn_213 ⟨rfl, rfl, fun _ => ⟨_, rfl⟩⟩ (Nat.le_of_ble_eq_true rfl) (e_stepFails K M G t m (kdK K t)) ?_
          refine ev_if_eq (tgt := 95) dX6_goOn_72 rfl (fun c72 => ?_) (fun c72 => ?_)
          · exact h95 (bI_0.mp c72)
          · refine ev_aload_n dX6_goOn_75 rfl rfl ?_
            refine ev_getf dX6_goOn_76 fl_6_140 ?_
            refine ev_dup dX6_goOn_79 rfl ?_
            refine ev_getf dX6_goOn_80 fl_6_153 ?_
            refine ev_iconst (v := 1) dX6_goOn_83 rfl ?_
            refine ev_iadd dX6_goOn_84 ?_
            refine ev_putfS dX6_goOn_85 fl_6_153 rfl rfl (pu_tal_1 _ _ _ _ _) ?_
            refine ev_aload_n dX6_goOn_88 rfl rfl ?_
            refine ev_aload_n dX6_goOn_89 rfl rfl ?_
            refine ev_iconst (v := 3) dX6_goOn_90 rfl ?_
            refine evV3 dX6_goOn_91 cl_X6_goOn_156 ⟨rfl, rfl, fun _ => ⟨_, rfl⟩⟩ (Nat.le_of_ble_eq_true rfl) (e_endJob _ M G t 3 (Inv_irr h t _ (by decide) (by decide) (by decide))) ?_
            rw [show goK (j + 1) K t w = failK K t from by
              show (if kdK K t = 0 then _ else if failsK K t (amK K t) (kdK K t) = true then _ else _) = _
              rw [if_neg ek, eam, if_pos (Classical.not_not.mp (fun q => c72 (bI_f q)))]]
            exact ev_vret dX6_goOn_94 rfl
        · exact absurd (Classical.not_not.mp c42) ek
theorem e_goOn (K M : KT) (G : GT) (t : Nat) (w : Int32) (h : Inv K) (ht : t < K.2 0 0) (h6 : K.1 6 t = 1) : Ev M_X6_goOn 0 (ent M_X6_goOn [vR 7 0, vR 6 t, vI w]) [] (conc K M G) (0, none, conc (goOnK K t w) M G) := by
  show Ev M_X6_goOn 0 [vR 7 0, vR 6 t, vI w, vU, vU, vU, vU, vU] [] (conc K M G) _
  have hl := goOn_loop M G t w _ K h ht h6 rfl
  have hs : nI (K.2 2 t) - nI (K.2 1 t) = nI (K.2 2 t - K.2 1 t) := pk_sub (h.2.2.1 t ht).2.1
  rw [← hs] at hl
  refine ev_aload_n dX6_goOn_0 rfl rfl ?_
  refine ev_getf dX6_goOn_1 fl_6_128 ?_
  refine ev_astore_n dX6_goOn_4 rfl rfl ?_
  refine ev_aload_n dX6_goOn_5 rfl rfl ?_
  refine ev_getf dX6_goOn_6 fl_6_81 ?_
  refine ev_astore dX6_goOn_9 rfl rfl ?_
  refine ev_aload dX6_goOn_11 rfl rfl ?_
  refine ev_getf dX6_goOn_13 fl_6_85 ?_
  refine ev_aload_n dX6_goOn_16 rfl rfl ?_
  refine ev_getf dX6_goOn_17 fl_6_204 ?_
  refine ev_isub dX6_goOn_20 ?_
  refine ev_istore dX6_goOn_21 rfl ?_
  exact hl
theorem Inv_go (t : Nat) (w : Int32) : ∀ (j : Nat) (K : KT), Inv K → t < K.2 0 0 → K.1 6 t = 1 → K.2 2 t - K.2 1 t = j → Inv (goK j K t w) := by
  intro j
  induction j with
  | zero => intro K h ht h6 hj; exact Inv_done h t w
  | succ j ih =>
    intro K h ht h6 hj
    have hlt : K.2 1 t < K.2 2 t := by omega
    have hm4 := h.1.2.1
    unfold goK
    split
    · exact h
    · next k0 =>
      rcases h.2.2.2 t (K.2 1 t) ht hlt with ⟨q, -⟩ | ⟨k12, m, hm, ea⟩
      · exact absurd q k0
      · have eam : amK K t = m := amK_of (by omega) ea
        obtain ⟨⟨a1, a2, a3, a4⟩, ⟨b1, b2, b3, b4⟩⟩ := go_next h (m := m) ht h6 hlt
        rw [eam]
        split
        · exact Inv_fail h t
        · split
          · exact ih _ a1 a2 a3 (by rw [a4]; omega)
          · split
            · exact ih _ b1 b2 b3 (by rw [b4]; omega)
            · exact Inv_block h t m hm hlt
theorem Inv_goOn {K : KT} (t : Nat) (w : Int32) (h : Inv K) (ht : t < K.2 0 0) (h6 : K.1 6 t = 1) : Inv (goOnK K t w) := Inv_go t w _ K h ht h6 rfl
theorem pickN_in (K : KT) (R : Nat → Int32) : ∀ (j t b : Nat), (∀ h, b = h + 1 → h < t ∧ K.1 6 h = 1) → ∀ h, pickN K R j t b = h + 1 → h < t + j ∧ K.1 6 h = 1 := by
  intro j
  induction j with
  | zero => intro t b hb h e; exact hb h e
  | succ j ih =>
    intro t b hb h e
    have := ih (t + 1) (pick1 K R b t) (fun g eg => ?_) h e
    · exact ⟨by omega, this.2⟩
    · unfold pick1 at eg
      by_cases hw : K.1 6 t = 1
      · rw [if_pos hw] at eg
        match b, hb, eg with
        | 0, _, eg => cases eg; exact ⟨by omega, hw⟩
        | c + 1, hb, eg =>
          dsimp only at eg
          by_cases hi : ahead K R t c = true
          · rw [if_pos hi] at eg; cases eg; exact ⟨by omega, hw⟩
          · rw [if_neg hi] at eg; have := hb g eg; exact ⟨by omega, this.2⟩
      · rw [if_neg hw] at eg; have := hb g eg; exact ⟨by omega, this.2⟩
theorem firstK_in {K : KT} {h : Nat} (e : firstK K = h + 1) : h < K.2 0 0 ∧ K.1 6 h = 1 := by
  have := pickN_in K (VR K) (K.2 0 0) 0 0 (fun _ q => by cases q) h e
  exact ⟨by omega, this.2⟩
theorem settle_loop (M : KT) (G : GT) : ∀ (j i : Nat) (K : KT), Inv K → i + j = 1000 → Ev M_X6_settle 2 [vR 7 0, vI (nI i), vU] [] (conc K M G) (0, some (rfq 6 (settleK j K).2), conc (settleK j K).1 M G) := by
  intro j
  induction j with
  | zero =>
    intro i K h hi
    refine ev_iload_n dX6_settle_2 rfl ?_
    refine ev_sipush (v := 1000) dX6_settle_3 rfl ?_
    refine ev_icmp_ge (tgt := 42) dX6_settle_6 rfl (fun c6 => ?_) (fun c6 => ?_)
    · refine ev_null dX6_settle_42 ?_
      exact ev_aret dX6_settle_43 rfl rfl
    · exact absurd (show (1000 : Int32) ≤ nI i from nI_le (a := 1000) (b := i) (by omega) (by omega)) c6
  | succ j ih =>
    intro i K h hi
    have e1 : nI i + Int32.ofInt 1 = nI (i + 1) := nI_1 i
    have hf := e_mur K M G h
    cases e : firstK K with
    | zero =>
      rw [e] at hf
      rw [show settleK (j + 1) K = (weighK K, 0) by simp only [settleK, e]]
      refine ev_iload_n dX6_settle_2 rfl ?_
      refine ev_sipush (v := 1000) dX6_settle_3 rfl ?_
      refine ev_icmp_ge (tgt := 42) dX6_settle_6 rfl (fun c6 => ?_) (fun c6 => ?_)
      · exact absurd c6 (nI_ge (a := i) (b := 1000) (by omega) (by omega))
      · refine ev_aload_n dX6_settle_9 rfl rfl ?_
        refine evV1 dX6_settle_10 cl_X6_settle_176 ⟨rfl, rfl, fun _ => ⟨_, rfl⟩⟩ (Nat.le_of_ble_eq_true rfl) hf ?_
        refine ev_astore_n dX6_settle_13 rfl rfl ?_
        refine ev_aload_n dX6_settle_14 rfl rfl ?_
        refine ev_ifnull (tgt := 25) dX6_settle_15 rfl rfl (fun c15 => ?_) (fun c15 => ?_)
        · refine ev_aload_n dX6_settle_25 rfl rfl ?_
          exact ev_aret dX6_settle_26 rfl rfl
        · exact absurd rfl c15
    | succ t =>
      rw [e] at hf
      obtain ⟨ht, h6⟩ := firstK_in e
      obtain ⟨z1, z2, -⟩ := h.2.2.1 t ht
      refine ev_iload_n dX6_settle_2 rfl ?_
      refine ev_sipush (v := 1000) dX6_settle_3 rfl ?_
      refine ev_icmp_ge (tgt := 42) dX6_settle_6 rfl (fun c6 => ?_) (fun c6 => ?_)
      · exact absurd c6 (nI_ge (a := i) (b := 1000) (by omega) (by omega))
      · refine ev_aload_n dX6_settle_9 rfl rfl ?_
        refine evV1 dX6_settle_10 cl_X6_settle_176 ⟨rfl, rfl, fun _ => ⟨_, rfl⟩⟩ (Nat.le_of_ble_eq_true rfl) hf ?_
        refine ev_astore_n dX6_settle_13 rfl rfl ?_
        refine ev_aload_n dX6_settle_14 rfl rfl ?_
        refine ev_ifnull (tgt := 25) dX6_settle_15 rfl rfl (fun c15 => ?_) (fun c15 => ?_)
        · exact nomatch c15
        · refine ev_aload_n dX6_settle_18 rfl rfl ?_
          refine evV1 dX6_settle_19 cl_X6_settle_179 ⟨rfl, rfl, fun _ => ⟨_, rfl⟩⟩ (Nat.le_of_ble_eq_true rfl) (e_isAtWork (weighK K) M G t z1 z2) ?_
          refine ev_if_eq (tgt := 27) dX6_settle_22 rfl (fun c22 => ?_) (fun c22 => ?_)
          · refine ev_aload_n dX6_settle_27 rfl rfl ?_
            refine ev_aload_n dX6_settle_28 rfl rfl ?_
            refine ev_aload_n dX6_settle_29 rfl rfl ?_
            refine ev_getf dX6_settle_30 fl_6_125 ?_
            refine evV3 dX6_settle_33 cl_X6_settle_183 ⟨rfl, rfl, fun _ => ⟨_, rfl⟩⟩ (Nat.le_of_ble_eq_true rfl) (e_goOn (weighK K) M G t (K.1 28 2) (Inv_weigh h) ht h6) ?_
            refine ev_iinc dX6_settle_36 rfl ?_
            refine ev_goto (tgt := 2) dX6_settle_39 rfl ?_
            rw [show settleK (j + 1) K = settleK j (goOnK (weighK K) t (K.1 28 2)) by simp only [settleK, e]; exact if_neg (bI_0.mp c22)]
            refine ev_forget (ls2 := [_, _, vU]) (Fg_to ⟨Or.inr ⟨rfl, rfl⟩, Or.inr ⟨rfl, rfl⟩, Or.inl rfl, trivial⟩) ?_
            rw [e1]
            exact ih (i + 1) _ (Inv_goOn t _ (Inv_weigh h) ht h6) (by omega)
          · refine ev_aload_n dX6_settle_25 rfl rfl ?_
            rw [show settleK (j + 1) K = (weighK K, t + 1) by simp only [settleK, e]; exact if_pos (Classical.not_not.mp (fun q => c22 (bI_f q)))]
            exact ev_aret dX6_settle_26 rfl rfl
theorem e_settle (K M : KT) (G : GT) (h : Inv K) : Ev M_X6_settle 0 (ent M_X6_settle [vR 7 0]) [] (conc K M G) (0, some (rfq 6 (settleK 1000 K).2), conc (settleK 1000 K).1 M G) := by
  show Ev M_X6_settle 0 [vR 7 0, vU, vU] [] (conc K M G) _
  have hl := settle_loop M G 1000 0 K h rfl
  refine ev_iconst (v := 0) dX6_settle_0 rfl ?_
  refine ev_istore_n dX6_settle_1 rfl ?_
  exact hl
theorem Inv_settle : ∀ (j : Nat) (K : KT), Inv K → Inv (settleK j K).1 ∧ ∀ t, (settleK j K).2 = t + 1 → t < (settleK j K).1.2 0 0 ∧ (settleK j K).1.1 6 t = 1 ∧ atWorkK (settleK j K).1 t = true := by
  intro j
  induction j with
  | zero => intro K h; exact ⟨h, fun t q => nomatch q⟩
  | succ j ih =>
    intro K h
    simp only [settleK]
    cases e : firstK K with
    | zero => exact ⟨Inv_weigh h, fun t q => nomatch q⟩
    | succ t =>
      obtain ⟨ht, h6⟩ := firstK_in e
      dsimp only
      by_cases ha : atWorkK K t = true
      · rw [if_pos ha]
        refine ⟨Inv_weigh h, fun u q => ?_⟩
        cases q
        exact ⟨ht, h6, ha⟩
      · rw [if_neg ha]
        exact ih _ (Inv_goOn t _ (Inv_weigh h) ht h6)
theorem e_beginJob (K M : KT) (G : GT) (t : Nat) (h : Inv K) : Ev M_X6_beginJob 0 (ent M_X6_beginJob [vR 7 0, vR 6 t]) [] (conc K M G) (0, none, conc (beginK K t) M G) := by
  show Ev M_X6_beginJob 0 [vR 7 0, vR 6 t] [] (conc K M G) _
  refine ev_aload_n dX6_beginJob_0 rfl rfl ?_
  refine ev_getf dX6_beginJob_1 fl_6_128 ?_
  refine ev_getf dX6_beginJob_4 fl_6_132 ?_
  refine ev_if_eq (tgt := 30) dX6_beginJob_7 rfl (fun c7 => ?_) (fun c7 => ?_)
  · rw [show beginK K t = _ from if_pos c7]
    refine ev_aload_n dX6_beginJob_30 rfl rfl ?_
    refine ev_getf dX6_beginJob_31 fl_6_128 ?_
    refine ev_aload_n dX6_beginJob_34 rfl rfl ?_
    refine ev_getf dX6_beginJob_35 fl_6_125 ?_
    refine ev_aload_n dX6_beginJob_38 rfl rfl ?_
    refine ev_getf dX6_beginJob_39 fl_6_166 ?_
    refine ev_aload_n dX6_beginJob_42 rfl rfl ?_
    refine evV1 dX6_beginJob_43 cl_X6_beginJob_169 ⟨rfl, rfl, fun _ => ⟨_, rfl⟩⟩ (Nat.le_of_ble_eq_true rfl) (e_nextChange K M G) ?_
    refine evV4 dX6_beginJob_46 cl_X6_beginJob_173 ⟨rfl, rfl, fun _ => ⟨_, rfl⟩⟩ (Nat.le_of_ble_eq_true rfl) (e_begin _ M G t _ _ _) ?_
    refine ev_aload_n dX6_beginJob_49 rfl rfl ?_
    refine ev_iconst (v := 0) dX6_beginJob_50 rfl ?_
    refine ev_aload_n dX6_beginJob_51 rfl rfl ?_
    refine evV3 dX6_beginJob_52 cl_X6_beginJob_149 ⟨rfl, rfl, fun _ => ⟨_, rfl⟩⟩ (Nat.le_of_ble_eq_true rfl) (e_note _ M G 0 t h.next) ?_
    exact ev_vret dX6_beginJob_55 rfl
  · refine ev_aload_n dX6_beginJob_10 rfl rfl ?_
    refine ev_getf dX6_beginJob_11 fl_6_140 ?_
    refine ev_dup dX6_beginJob_14 rfl ?_
    refine ev_getf dX6_beginJob_15 fl_6_163 ?_
    refine ev_iconst (v := 1) dX6_beginJob_18 rfl ?_
    refine ev_iadd dX6_beginJob_19 ?_
    refine ev_putfS dX6_beginJob_20 fl_6_163 rfl rfl (pu_tal_3 _ _ _ _ _) ?_
    refine ev_aload_n dX6_beginJob_23 rfl rfl ?_
    refine ev_iconst (v := 1) dX6_beginJob_24 rfl ?_
    refine ev_aload_n dX6_beginJob_25 rfl rfl ?_
    refine evV3 dX6_beginJob_26 cl_X6_beginJob_149 ⟨rfl, rfl, fun _ => ⟨_, rfl⟩⟩ (Nat.le_of_ble_eq_true rfl) (e_note _ M G 1 t h.next) ?_
    rw [show beginK K t = noteK (sI K 18 t (K.1 18 t + 1)) 1 t from if_neg c7]
    exact ev_vret dX6_beginJob_29 rfl
theorem miss_loop (M : KT) (G : GT) : ∀ (j i : Nat) (K : KT), Inv K → i + j = K.2 0 0 → Ev M_X6_noteMisses 2 [vR 7 0, vI (nI i), vU] [] (conc K M G) (0, none, conc (missN j i K) M G) := by
  intro j
  induction j with
  | zero =>
    intro i K h hi
    have hn := h.1.1
    refine ev_iload_n dX6_noteMisses_2 rfl ?_
    refine ev_aload_n dX6_noteMisses_3 rfl rfl ?_
    refine ev_getf dX6_noteMisses_4 fl_6_46 ?_
    refine ev_icmp_ge (tgt := 92) dX6_noteMisses_7 rfl (fun c7 => ?_) (fun c7 => ?_)
    · exact ev_vret dX6_noteMisses_92 rfl
    · exact absurd (nI_le (a := K.2 0 0) (b := i) (by omega) (by omega)) c7
  | succ j ih =>
    intro i K h hi
    have hn := h.1.1
    have e1 : nI i + Int32.ofInt 1 = nI (i + 1) := nI_1 i
    have h86 : ∀ K2, missK1 K i = K2 → Inv K2 → K2.2 0 0 = K.2 0 0 → Ev M_X6_noteMisses 86 [vR 7 0, vI (nI i), vU] [] (conc K2 M G) (0, none, conc (missN (j + 1) i K) M G) := by
      intro K2 hk h2 hn2
      simp only [missN]
      rw [hk]
      refine ev_iinc dX6_noteMisses_86 rfl ?_
      refine ev_goto (tgt := 2) dX6_noteMisses_89 rfl ?_
      rw [e1]
      exact ih (i + 1) K2 h2 (by omega)
    have hN : Inv (noteK (sI K 17 i (K.1 17 i + 1)) 4 i) := Inv_note (Inv_irr h i _ (by decide) (by decide) (by decide)) _ _
    refine ev_iload_n dX6_noteMisses_2 rfl ?_
    refine ev_aload_n dX6_noteMisses_3 rfl rfl ?_
    refine ev_getf dX6_noteMisses_4 fl_6_46 ?_
    refine ev_icmp_ge (tgt := 92) dX6_noteMisses_7 rfl (fun c7 => ?_) (fun c7 => ?_)
    · exact absurd c7 (nI_ge (a := i) (b := K.2 0 0) (by omega) (by omega))
    · refine ev_aload_n dX6_noteMisses_10 rfl rfl ?_
      refine ev_getf dX6_noteMisses_11 fl_6_11 ?_
      refine ev_iload_n dX6_noteMisses_14 rfl ?_
      refine ev_aaldv dX6_noteMisses_15 rfl rfl (show _ < 8 from by omega) (co_tasks (by omega)) ?_
      refine ev_astore_n dX6_noteMisses_16 rfl rfl ?_
      refine ev_aload_n dX6_noteMisses_17 rfl rfl ?_
      refine ev_getf dX6_noteMisses_18 fl_6_128 ?_
      refine ev_getf dX6_noteMisses_21 fl_6_132 ?_
      refine ev_if_eq (tgt := 86) dX6_noteMisses_24 rfl (fun c24 => ?_) (fun c24 => ?_)
      · refine ev_forget (ls2 := [_, _, vU]) (Fg_to ⟨Or.inr ⟨rfl, rfl⟩, Or.inr ⟨rfl, rfl⟩, Or.inl rfl, trivial⟩) ?_
        exact h86 K (if_neg (fun q => q.1 c24)) h rfl
      · refine ev_aload_n dX6_noteMisses_27 rfl rfl ?_
        refine ev_getf dX6_noteMisses_28 fl_6_128 ?_
        refine ev_getf dX6_noteMisses_31 fl_6_137 ?_
        refine ev_aload_n dX6_noteMisses_34 rfl rfl ?_
        refine ev_getf dX6_noteMisses_35 fl_6_125 ?_
        refine ev_icmp_ne (tgt := 86) dX6_noteMisses_38 rfl (fun c38 => ?_) (fun c38 => ?_)
        · refine ev_forget (ls2 := [_, _, vU]) (Fg_to ⟨Or.inr ⟨rfl, rfl⟩, Or.inr ⟨rfl, rfl⟩, Or.inl rfl, trivial⟩) ?_
          exact h86 K (if_neg (fun q => c38 q.2)) h rfl
        · refine ev_aload_n dX6_noteMisses_41 rfl rfl ?_
          refine ev_getf dX6_noteMisses_42 fl_6_140 ?_
          refine ev_dup dX6_noteMisses_45 rfl ?_
          refine ev_getf dX6_noteMisses_46 fl_6_144 ?_
          refine ev_iconst (v := 1) dX6_noteMisses_49 rfl ?_
          refine ev_iadd dX6_noteMisses_50 ?_
          refine ev_putfS dX6_noteMisses_51 fl_6_144 rfl rfl (pu_tal_2 _ _ _ _ _) ?_
          refine ev_aload_n dX6_noteMisses_54 rfl rfl ?_
          refine ev_iconst (v := 4) dX6_noteMisses_55 rfl ?_
          refine ev_aload_n dX6_noteMisses_56 rfl rfl ?_
          refine evV3 dX6_noteMisses_57 cl_X6_noteMisses_149 ⟨rfl, rfl, fun _ => ⟨_, rfl⟩⟩ (Nat.le_of_ble_eq_true rfl) (e_note _ M G 4 i h.next) ?_
          refine ev_aload_n dX6_noteMisses_60 rfl rfl ?_
          refine ev_getf dX6_noteMisses_61 fl_6_62 ?_
          refine ev_if_eq (tgt := 86) dX6_noteMisses_64 rfl (fun c64 => ?_) (fun c64 => ?_)
          · refine ev_forget (ls2 := [_, _, vU]) (Fg_to ⟨Or.inr ⟨rfl, rfl⟩, Or.inr ⟨rfl, rfl⟩, Or.inl rfl, trivial⟩) ?_
            exact h86 _ ((if_pos ⟨c24, Classical.not_not.mp c38⟩).trans (if_pos c64)) hN rfl
          · refine ev_aload_n dX6_noteMisses_67 rfl rfl ?_
            refine ev_getf dX6_noteMisses_68 fl_6_140 ?_
            refine ev_dup dX6_noteMisses_71 rfl ?_
            refine ev_getf dX6_noteMisses_72 fl_6_153 ?_
            refine ev_iconst (v := 1) dX6_noteMisses_75 rfl ?_
            refine ev_iadd dX6_noteMisses_76 ?_
            refine ev_putfS dX6_noteMisses_77 fl_6_153 rfl rfl (pu_tal_1 _ _ _ _ _) ?_
            refine ev_aload_n dX6_noteMisses_80 rfl rfl ?_
            refine ev_aload_n dX6_noteMisses_81 rfl rfl ?_
            refine ev_iconst (v := 3) dX6_noteMisses_82 rfl ?_
            refine evV3 dX6_noteMisses_83 cl_X6_noteMisses_156 ⟨rfl, rfl, fun _ => ⟨_, rfl⟩⟩ (Nat.le_of_ble_eq_true rfl) (e_endJob _ M G i 3 (Inv_irr hN i _ (by decide) (by decide) (by decide))) ?_
            refine ev_forget (ls2 := [_, _, vU]) (Fg_to ⟨Or.inr ⟨rfl, rfl⟩, Or.inr ⟨rfl, rfl⟩, Or.inl rfl, trivial⟩) ?_
            exact h86 _ ((if_pos ⟨c24, Classical.not_not.mp c38⟩).trans (if_neg c64)) (Inv_fail hN i) (fail_n _ i)
theorem rel_loop (M : KT) (G : GT) : ∀ (j i : Nat) (K : KT), Inv K → i + j = K.2 0 0 → Ev M_X6_releasePeriodic 2 [vR 7 0, vI (nI i)] [] (conc K M G) (0, none, conc (relN j i K) M G) := by
  intro j
  induction j with
  | zero =>
    intro i K h hi
    have hn := h.1.1
    refine ev_iload_n dX6_releasePeriodic_2 rfl ?_
    refine ev_aload_n dX6_releasePeriodic_3 rfl rfl ?_
    refine ev_getf dX6_releasePeriodic_4 fl_6_46 ?_
    refine ev_icmp_ge (tgt := 42) dX6_releasePeriodic_7 rfl (fun c7 => ?_) (fun c7 => ?_)
    · exact ev_vret dX6_releasePeriodic_42 rfl
    · exact absurd (nI_le (a := K.2 0 0) (b := i) (by omega) (by omega)) c7
  | succ j ih =>
    intro i K h hi
    have hn := h.1.1
    have e1 : nI i + Int32.ofInt 1 = nI (i + 1) := nI_1 i
    refine ev_iload_n dX6_releasePeriodic_2 rfl ?_
    refine ev_aload_n dX6_releasePeriodic_3 rfl rfl ?_
    refine ev_getf dX6_releasePeriodic_4 fl_6_46 ?_
    refine ev_icmp_ge (tgt := 42) dX6_releasePeriodic_7 rfl (fun c7 => ?_) (fun c7 => ?_)
    · exact absurd c7 (nI_ge (a := i) (b := K.2 0 0) (by omega) (by omega))
    · refine ev_aload_n dX6_releasePeriodic_10 rfl rfl ?_
      refine ev_getf dX6_releasePeriodic_11 fl_6_11 ?_
      refine ev_iload_n dX6_releasePeriodic_14 rfl ?_
      refine ev_aaldv dX6_releasePeriodic_15 rfl rfl (show _ < 8 from by omega) (co_tasks (by omega)) ?_
      refine ev_aload_n dX6_releasePeriodic_16 rfl rfl ?_
      refine ev_getf dX6_releasePeriodic_17 fl_6_125 ?_
      refine evV2 dX6_releasePeriodic_20 cl_X6_releasePeriodic_160 ⟨rfl, rfl, fun _ => ⟨_, rfl⟩⟩ (Nat.le_of_ble_eq_true rfl) (e_isPer K M G i) ?_
      refine ev_if_eq (tgt := 36) dX6_releasePeriodic_23 rfl (fun c23 => ?_) (fun c23 => ?_)
      · refine ev_iinc dX6_releasePeriodic_36 rfl ?_
        refine ev_goto (tgt := 2) dX6_releasePeriodic_39 rfl ?_
        simp only [relN]
        rw [if_neg (bI_0.mp c23), e1]
        exact ih (i + 1) K h (by omega)
      · refine ev_aload_n dX6_releasePeriodic_26 rfl rfl ?_
        refine ev_aload_n dX6_releasePeriodic_27 rfl rfl ?_
        refine ev_getf dX6_releasePeriodic_28 fl_6_11 ?_
        refine ev_iload_n dX6_releasePeriodic_31 rfl ?_
        refine ev_aaldv dX6_releasePeriodic_32 rfl rfl (show _ < 8 from by omega) (co_tasks (by omega)) ?_
        refine evV2 dX6_releasePeriodic_33 cl_X6_releasePeriodic_104 ⟨rfl, rfl, fun _ => ⟨_, rfl⟩⟩ (Nat.le_of_ble_eq_true rfl) (e_beginJob K M G i h) ?_
        refine ev_iinc dX6_releasePeriodic_36 rfl ?_
        refine ev_goto (tgt := 2) dX6_releasePeriodic_39 rfl ?_
        simp only [relN]
        rw [if_pos (Classical.not_not.mp (fun q => c23 (bI_f q))), e1]
        exact ih (i + 1) _ (Inv_begin h i) (by rw [begin_n]; omega)
