/-! LENDING, in ranks: the class -/
/-- does u lend, and to whom: the owner + 1 of the lending mutex that it waits at, or 0 -/
def lendTo (K : KT) (u : Nat) : Nat := match K.2 3 u with
  | 0 => 0
  | m + 1 => if K.1 21 m = 1 then K.2 4 m else 0
def lrC (K : KT) (u : Nat) : Bool := match lendTo K u with
  | 0 => false
  | t + 1 => decide (K.1 12 t < K.1 12 u)
def lrStep (K : KT) (u : Nat) : KT := match lendTo K u with
  | 0 => K
  | t + 1 => if K.1 12 t < K.1 12 u then sI K 12 t (K.1 12 u) else K
def lrLoop : Nat → Nat → KT → Bool → KT × Bool
  | 0, _, K, b => (K, b)
  | j + 1, i, K, b => lrLoop j (i + 1) (lrStep K i) (b || lrC K i)
theorem lrStep_2 (K : KT) (u : Nat) : (lrStep K u).2 = K.2 := by
  unfold lrStep
  split
  · rfl
  · split <;> rfl
set_option maxHeartbeats 1000000 in
theorem lendOnce_loop (M : KT) (G : GT) : ∀ (j i : Nat) (K : KT) (b : Bool), i + j = K.2 0 0 → K.2 0 0 ≤ 8 → Ev M_X6_lendOnce 4 [vR 7 0, vI (bI (b = true)), vI (nI i), vU, vU] [] (conc K M G) (0, some (vI (bI ((lrLoop j i K b).2 = true))), conc (lrLoop j i K b).1 M G) := by
  intro j
  induction j with
  | zero =>
    intro i K b hi hn
    refine ev_iload_n dX6_lendOnce_4 rfl ?_
    refine ev_aload_n dX6_lendOnce_5 rfl rfl ?_
    refine ev_getf dX6_lendOnce_6 fl_6_46 ?_
    refine ev_icmp_ge (tgt := 91) dX6_lendOnce_9 rfl (fun c9 => ?_) (fun c9 => ?_)
    · refine ev_iload_n dX6_lendOnce_91 rfl ?_
      exact ev_iret dX6_lendOnce_92 (Or.inr ⟨rfl, bI_and⟩)
    · exact absurd (nI_le (show K.2 0 0 ≤ i by omega) (by omega)) c9
  | succ j ih =>
    intro i K b hi hn
    have hs : ∀ h : lendTo K i = 0, lrLoop (j + 1) i K b = lrLoop j (i + 1) K b := fun h => by simp [lrLoop, lrStep, lrC, h]
    have e1 : nI i + Int32.ofInt 1 = nI (i + 1) := nI_1 i
    rcases hw : K.2 3 i with _ | m
    · rw [hs (by simp [lendTo, hw])]
      refine ev_iload_n dX6_lendOnce_4 rfl ?_
      refine ev_aload_n dX6_lendOnce_5 rfl rfl ?_
      refine ev_getf dX6_lendOnce_6 fl_6_46 ?_
      refine ev_icmp_ge (tgt := 91) dX6_lendOnce_9 rfl (fun c9 => ?_) (fun c9 => ?_)
      · exact absurd c9 (nI_ge (show i < K.2 0 0 by omega) (by omega))
      · refine ev_aload_n dX6_lendOnce_12 rfl rfl ?_
        refine ev_getf dX6_lendOnce_13 fl_6_11 ?_
        refine ev_iload_n dX6_lendOnce_16 rfl ?_
        refine ev_aaldv dX6_lendOnce_17 rfl rfl (show _ < 8 from by omega) (co_tasks (by omega)) ?_
        refine ev_getf dX6_lendOnce_18 fl_6_128 ?_
        refine ev_astore_n dX6_lendOnce_21 rfl rfl ?_
        refine ev_aload_n dX6_lendOnce_22 rfl rfl ?_
        refine ev_getfv dX6_lendOnce_23 fl_6_257 (co_wait hw) ?_
        refine ev_astore dX6_lendOnce_26 rfl rfl ?_
        refine ev_aload dX6_lendOnce_28 rfl rfl ?_
        refine ev_ifnull (tgt := 85) dX6_lendOnce_30 rfl rfl (fun c30 => ?_) (fun c30 => ?_)
        · refine ev_iinc dX6_lendOnce_85 rfl ?_
          refine ev_goto (tgt := 4) dX6_lendOnce_88 rfl ?_
          refine ev_forget (ls2 := [_, _, _, vU, vU]) (Fg_to ⟨Or.inr ⟨rfl, rfl⟩, Or.inr ⟨rfl, rfl⟩, Or.inr ⟨rfl, rfl⟩, Or.inl rfl, Or.inl rfl, trivial⟩) ?_
          rw [e1]
          exact ih (i + 1) K b (by omega) hn
        · exact absurd rfl c30
    · rcases ho : K.2 4 m with _ | t
      · rw [hs (by simp [lendTo, hw, ho])]
        refine ev_iload_n dX6_lendOnce_4 rfl ?_
        refine ev_aload_n dX6_lendOnce_5 rfl rfl ?_
        refine ev_getf dX6_lendOnce_6 fl_6_46 ?_
        refine ev_icmp_ge (tgt := 91) dX6_lendOnce_9 rfl (fun c9 => ?_) (fun c9 => ?_)
        · exact absurd c9 (nI_ge (show i < K.2 0 0 by omega) (by omega))
        · refine ev_aload_n dX6_lendOnce_12 rfl rfl ?_
          refine ev_getf dX6_lendOnce_13 fl_6_11 ?_
          refine ev_iload_n dX6_lendOnce_16 rfl ?_
          refine ev_aaldv dX6_lendOnce_17 rfl rfl (show _ < 8 from by omega) (co_tasks (by omega)) ?_
          refine ev_getf dX6_lendOnce_18 fl_6_128 ?_
          refine ev_astore_n dX6_lendOnce_21 rfl rfl ?_
          refine ev_aload_n dX6_lendOnce_22 rfl rfl ?_
          refine ev_getfv dX6_lendOnce_23 fl_6_257 (co_wait hw) ?_
          refine ev_astore dX6_lendOnce_26 rfl rfl ?_
          refine ev_aload dX6_lendOnce_28 rfl rfl ?_
          refine ev_ifnull (tgt := 85) dX6_lendOnce_30 rfl rfl (fun c30 => ?_) (fun c30 => ?_)
          · exact nomatch c30
          · refine ev_aload dX6_lendOnce_33 rfl rfl ?_
            refine ev_getf dX6_lendOnce_35 fl_6_235 ?_
            refine ev_iconst (v := 1) dX6_lendOnce_38 rfl ?_
            refine ev_icmp_ne (tgt := 85) dX6_lendOnce_39 rfl (fun c39 => ?_) (fun c39 => ?_)
            · refine ev_iinc dX6_lendOnce_85 rfl ?_
              refine ev_goto (tgt := 4) dX6_lendOnce_88 rfl ?_
              refine ev_forget (ls2 := [_, _, _, vU, vU]) (Fg_to ⟨Or.inr ⟨rfl, rfl⟩, Or.inr ⟨rfl, rfl⟩, Or.inr ⟨rfl, rfl⟩, Or.inl rfl, Or.inl rfl, trivial⟩) ?_
              rw [e1]
              exact ih (i + 1) K b (by omega) hn
            · refine ev_aload dX6_lendOnce_42 rfl rfl ?_
              refine ev_getfv dX6_lendOnce_44 fl_6_221 (co_own ho) ?_
              refine ev_ifnull (tgt := 85) dX6_lendOnce_47 rfl rfl (fun c47 => ?_) (fun c47 => ?_)
              · refine ev_iinc dX6_lendOnce_85 rfl ?_
                refine ev_goto (tgt := 4) dX6_lendOnce_88 rfl ?_
                refine ev_forget (ls2 := [_, _, _, vU, vU]) (Fg_to ⟨Or.inr ⟨rfl, rfl⟩, Or.inr ⟨rfl, rfl⟩, Or.inr ⟨rfl, rfl⟩, Or.inl rfl, Or.inl rfl, trivial⟩) ?_
                rw [e1]
                exact ih (i + 1) K b (by omega) hn
              · exact absurd rfl c47
      · refine ev_iload_n dX6_lendOnce_4 rfl ?_
        refine ev_aload_n dX6_lendOnce_5 rfl rfl ?_
        refine ev_getf dX6_lendOnce_6 fl_6_46 ?_
        refine ev_icmp_ge (tgt := 91) dX6_lendOnce_9 rfl (fun c9 => ?_) (fun c9 => ?_)
        · exact absurd c9 (nI_ge (show i < K.2 0 0 by omega) (by omega))
        · refine ev_aload_n dX6_lendOnce_12 rfl rfl ?_
          refine ev_getf dX6_lendOnce_13 fl_6_11 ?_
          refine ev_iload_n dX6_lendOnce_16 rfl ?_
          refine ev_aaldv dX6_lendOnce_17 rfl rfl (show _ < 8 from by omega) (co_tasks (by omega)) ?_
          refine ev_getf dX6_lendOnce_18 fl_6_128 ?_
          refine ev_astore_n dX6_lendOnce_21 rfl rfl ?_
          refine ev_aload_n dX6_lendOnce_22 rfl rfl ?_
          refine ev_getfv dX6_lendOnce_23 fl_6_257 (co_wait hw) ?_
          refine ev_astore dX6_lendOnce_26 rfl rfl ?_
          refine ev_aload dX6_lendOnce_28 rfl rfl ?_
          refine ev_ifnull (tgt := 85) dX6_lendOnce_30 rfl rfl (fun c30 => ?_) (fun c30 => ?_)
          · exact nomatch c30
          · refine ev_aload dX6_lendOnce_33 rfl rfl ?_
            refine ev_getf dX6_lendOnce_35 fl_6_235 ?_
            refine ev_iconst (v := 1) dX6_lendOnce_38 rfl ?_
            refine ev_icmp_ne (tgt := 85) dX6_lendOnce_39 rfl (fun c39 => ?_) (fun c39 => ?_)
            · refine ev_iinc dX6_lendOnce_85 rfl ?_
              refine ev_goto (tgt := 4) dX6_lendOnce_88 rfl ?_
              rw [hs (by simp only [lendTo, hw]; exact if_neg c39)]
              refine ev_forget (ls2 := [_, _, _, vU, vU]) (Fg_to ⟨Or.inr ⟨rfl, rfl⟩, Or.inr ⟨rfl, rfl⟩, Or.inr ⟨rfl, rfl⟩, Or.inl rfl, Or.inl rfl, trivial⟩) ?_
              rw [e1]
              exact ih (i + 1) K b (by omega) hn
            · refine ev_aload dX6_lendOnce_42 rfl rfl ?_
              refine ev_getfv dX6_lendOnce_44 fl_6_221 (co_own ho) ?_
              refine ev_ifnull (tgt := 85) dX6_lendOnce_47 rfl rfl (fun c47 => ?_) (fun c47 => ?_)
              · exact nomatch c47
              · refine ev_aload dX6_lendOnce_50 rfl rfl ?_
                refine ev_getfv dX6_lendOnce_52 fl_6_221 (co_own ho) ?_
                refine ev_getf dX6_lendOnce_55 fl_6_128 ?_
                refine ev_getf dX6_lendOnce_58 fl_6_278 ?_
                refine ev_aload_n dX6_lendOnce_61 rfl rfl ?_
                refine ev_getf dX6_lendOnce_62 fl_6_278 ?_
                refine ev_icmp_ge (tgt := 85) dX6_lendOnce_65 rfl (fun c65 => ?_) (fun c65 => ?_)
                · refine ev_iinc dX6_lendOnce_85 rfl ?_
                  refine ev_goto (tgt := 4) dX6_lendOnce_88 rfl ?_
                  have hl : lendTo K i = t + 1 := by simp only [lendTo, hw, ho]; exact if_pos (Classical.not_not.mp c39)
                  rw [show lrLoop (j + 1) i K b = lrLoop j (i + 1) K b by simp [lrLoop, lrStep, lrC, hl, Int32.not_lt.mpr c65]]
                  refine ev_forget (ls2 := [_, _, _, vU, vU]) (Fg_to ⟨Or.inr ⟨rfl, rfl⟩, Or.inr ⟨rfl, rfl⟩, Or.inr ⟨rfl, rfl⟩, Or.inl rfl, Or.inl rfl, trivial⟩) ?_
                  rw [e1]
                  exact ih (i + 1) K b (by omega) hn
                · refine ev_aload dX6_lendOnce_68 rfl rfl ?_
                  refine ev_getfv dX6_lendOnce_70 fl_6_221 (co_own ho) ?_
                  refine ev_getf dX6_lendOnce_73 fl_6_128 ?_
                  refine ev_aload_n dX6_lendOnce_76 rfl rfl ?_
                  refine ev_getf dX6_lendOnce_77 fl_6_278 ?_
                  refine ev_putfS dX6_lendOnce_80 fl_6_278 rfl rfl (pu_job_8 _ _ _ _ _) ?_
                  refine ev_iconst (v := 1) dX6_lendOnce_83 rfl ?_
                  refine ev_istore_n dX6_lendOnce_84 rfl ?_
                  refine ev_iinc dX6_lendOnce_85 rfl ?_
                  refine ev_goto (tgt := 4) dX6_lendOnce_88 rfl ?_
                  have hl : lendTo K i = t + 1 := by simp only [lendTo, hw, ho]; exact if_pos (Classical.not_not.mp c39)
                  have hlt : K.1 12 t < K.1 12 i := Int32.not_le.mp c65
                  rw [show lrLoop (j + 1) i K b = lrLoop j (i + 1) (sI K 12 t (K.1 12 i)) true by simp [lrLoop, lrStep, lrC, hl, hlt]]
                  refine ev_forget (ls2 := [_, _, _, vU, vU]) (Fg_to ⟨Or.inr ⟨rfl, rfl⟩, Or.inr ⟨rfl, rfl⟩, Or.inr ⟨rfl, rfl⟩, Or.inl rfl, Or.inl rfl, trivial⟩) ?_
                  rw [e1]
                  exact ih (i + 1) (sI K 12 t (K.1 12 i)) true (by rw [sI_2]; omega) hn
