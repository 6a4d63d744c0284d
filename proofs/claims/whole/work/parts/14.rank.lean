/-! THE CLASS: ranks -/
theorem inv13 (K M : KT) (G : GT) (g : Nat → Int32) : conc (setA K 13 g) M G = conc K M G := rfl
theorem setA_self (K : KT) (f : Nat) : setA K f (K.1 f) = K := by
  refine KT_ext (fun f' i => ?_) (fun _ _ => rfl)
  rw [setA_1]
  split
  · next h => rw [h]
  · rfl
theorem sI_setA (K : KT) (f : Nat) (R : Nat → Int32) (t : Nat) (v : Int32) : sI (setA K f R) f t v = setA K f (updF R t v) := by
  refine KT_ext (fun f' i => ?_) (fun _ _ => rfl)
  simp only [sI_1, setA_1, updF]
  by_cases h : f' = f
  · rw [if_pos h, if_pos h, if_pos h]
  · rw [if_neg h, if_neg h, if_neg h]
theorem lrStep_setA (K : KT) (R : Nat → Int32) (u : Nat) : lrStep (setA K 12 R) u = setA K 12 (lendF K R u) := by
  have e0 : lendTo (setA K 12 R) u = lendTo K u := rfl
  cases h : lendTo K u with
  | zero => simp only [lrStep, lendF, e0, h]
  | succ t =>
    simp only [lrStep, lendF, e0, h]
    rw [show (setA K 12 R).1 12 t = R t from rfl, show (setA K 12 R).1 12 u = R u from rfl]
    split
    · exact sI_setA K 12 R _ _
    · rfl
theorem lrC_setA (K : KT) (R : Nat → Int32) (u : Nat) (h : lrC (setA K 12 R) u = false) : lendF K R u = R := by
  unfold lrC at h
  unfold lendF
  rw [show lendTo (setA K 12 R) u = lendTo K u from rfl] at h
  split
  · rfl
  · next t e =>
    rw [e] at h
    rw [if_neg (by simpa [show (setA K 12 R).1 12 t = R t from rfl, show (setA K 12 R).1 12 u = R u from rfl] using h)]
theorem lrLoop_1 (K : KT) : ∀ (j i : Nat) (R : Nat → Int32) (b : Bool), (lrLoop j i (setA K 12 R) b).1 = setA K 12 (lendN K j i R) := by
  intro j
  induction j with
  | zero => intro i R b; rfl
  | succ j ih => intro i R b; simp only [lrLoop, lendN]; rw [lrStep_setA]; exact ih _ _ _
theorem lrLoop_t (K : KT) : ∀ (j i : Nat) (R : Nat → Int32), (lrLoop j i (setA K 12 R) true).2 = true := by
  intro j
  induction j with
  | zero => intro i R; rfl
  | succ j ih => intro i R; simp only [lrLoop, Bool.true_or]; rw [lrStep_setA]; exact ih _ _
theorem lrLoop_2 (K : KT) : ∀ (j i : Nat) (R : Nat → Int32), (lrLoop j i (setA K 12 R) false).2 = false → lendN K j i R = R := by
  intro j
  induction j with
  | zero => intro i R _; rfl
  | succ j ih =>
    intro i R h
    simp only [lrLoop, Bool.false_or] at h
    rw [lrStep_setA] at h
    cases hc : lrC (setA K 12 R) i with
    | true => rw [hc, lrLoop_t] at h; cases h
    | false =>
      rw [hc] at h
      have e := lrC_setA K R i hc
      rw [e] at h
      simp only [lendN]
      rw [e]
      exact ih _ _ h
theorem e_lendOnce (K M : KT) (G : GT) (R : Nat → Int32) (hn : K.2 0 0 ≤ 8) : Ev M_X6_lendOnce 0 (ent M_X6_lendOnce [vR 7 0]) [] (conc (setA K 12 R) M G) (0, some (vI (bI ((lrLoop (K.2 0 0) 0 (setA K 12 R) false).2 = true))), conc (setA K 12 (lendN K (K.2 0 0) 0 R)) M G) := by
  show Ev M_X6_lendOnce 0 [vR 7 0, vU, vU, vU, vU] [] (conc (setA K 12 R) M G) _
  have h := lendOnce_loop M G (K.2 0 0) 0 (setA K 12 R) false (by rw [setA_2]; omega) hn
  rw [lrLoop_1] at h
  refine ev_iconst (v := 0) dX6_lendOnce_0 rfl ?_
  refine ev_istore_n dX6_lendOnce_1 rfl ?_
  refine ev_iconst (v := 0) dX6_lendOnce_2 rfl ?_
  refine ev_istore_n dX6_lendOnce_3 rfl ?_
  exact h
theorem lift_loop (K M : KT) (G : GT) (hm : K.2 0 1 ≤ 4) : ∀ (j i : Nat) (R : Nat → Int32), i + j = K.2 0 1 → Ev M_X6_liftToCeilings 2 [vR 7 0, vI (nI i), vU] [] (conc (setA K 12 R) M G) (0, none, conc (setA K 12 (liftN K j i R)) M G) := by
  intro j
  induction j with
  | zero =>
    intro i R hi
    refine ev_iload_n dX6_liftToCeilings_2 rfl ?_
    refine ev_aload_n dX6_liftToCeilings_3 rfl rfl ?_
    refine ev_getf dX6_liftToCeilings_4 fl_6_67 ?_
    refine ev_icmp_ge (tgt := 69) dX6_liftToCeilings_7 rfl (fun c7 => ?_) (fun c7 => ?_)
    · exact ev_vret dX6_liftToCeilings_69 rfl
    · exact absurd (nI_le (show K.2 0 1 ≤ i by omega) (by omega)) c7
  | succ j ih =>
    intro i R hi
    have hi2 : i < (setA K 12 R).2 0 1 := by rw [setA_2]; omega
    have e1 : nI i + Int32.ofInt 1 = nI (i + 1) := nI_1 i
    have hs : ∀ (R2 : Nat → Int32), liftF K R i = R2 → Ev M_X6_liftToCeilings 63 [vR 7 0, vI (nI i), vU] [] (conc (setA K 12 R2) M G) (0, none, conc (setA K 12 (liftN K (j + 1) i R)) M G) := by
      intro R2 h
      simp only [liftN]
      rw [h]
      refine ev_iinc dX6_liftToCeilings_63 rfl ?_
      refine ev_goto (tgt := 2) dX6_liftToCeilings_66 rfl ?_
      rw [e1]
      exact ih (i + 1) R2 (by omega)
    rcases ho : K.2 4 i with _ | t
    · refine ev_iload_n dX6_liftToCeilings_2 rfl ?_
      refine ev_aload_n dX6_liftToCeilings_3 rfl rfl ?_
      refine ev_getf dX6_liftToCeilings_4 fl_6_67 ?_
      refine ev_icmp_ge (tgt := 69) dX6_liftToCeilings_7 rfl (fun c7 => ?_) (fun c7 => ?_)
      · exact absurd c7 (nI_ge (a := i) (b := K.2 0 1) (by omega) (by omega))
      · refine ev_aload_n dX6_liftToCeilings_10 rfl rfl ?_
        refine ev_getf dX6_liftToCeilings_11 fl_6_17 ?_
        refine ev_iload_n dX6_liftToCeilings_14 rfl ?_
        refine ev_aaldv dX6_liftToCeilings_15 rfl rfl (show _ < 4 from by omega) (co_muts hi2) ?_
        refine ev_astore_n dX6_liftToCeilings_16 rfl rfl ?_
        refine ev_aload_n dX6_liftToCeilings_17 rfl rfl ?_
        refine ev_getf dX6_liftToCeilings_18 fl_6_235 ?_
        refine ev_iconst (v := 2) dX6_liftToCeilings_21 rfl ?_
        refine ev_icmp_ne (tgt := 63) dX6_liftToCeilings_22 rfl (fun c22 => ?_) (fun c22 => ?_)
        · refine ev_forget (ls2 := [_, _, vU]) (Fg_to ⟨Or.inr ⟨rfl, rfl⟩, Or.inr ⟨rfl, rfl⟩, Or.inl rfl, trivial⟩) ?_
          exact hs _ (by simp [liftF, ho])
        · refine ev_aload_n dX6_liftToCeilings_25 rfl rfl ?_
          refine ev_getfv dX6_liftToCeilings_26 fl_6_221 (co_own ho) ?_
          refine ev_ifnull (tgt := 63) dX6_liftToCeilings_29 rfl rfl (fun c29 => ?_) (fun c29 => ?_)
          · refine ev_forget (ls2 := [_, _, vU]) (Fg_to ⟨Or.inr ⟨rfl, rfl⟩, Or.inr ⟨rfl, rfl⟩, Or.inl rfl, trivial⟩) ?_
            exact hs _ (by simp [liftF, ho])
          · exact absurd rfl c29
    · refine ev_iload_n dX6_liftToCeilings_2 rfl ?_
      refine ev_aload_n dX6_liftToCeilings_3 rfl rfl ?_
      refine ev_getf dX6_liftToCeilings_4 fl_6_67 ?_
      refine ev_icmp_ge (tgt := 69) dX6_liftToCeilings_7 rfl (fun c7 => ?_) (fun c7 => ?_)
      · exact absurd c7 (nI_ge (a := i) (b := K.2 0 1) (by omega) (by omega))
      · refine ev_aload_n dX6_liftToCeilings_10 rfl rfl ?_
        refine ev_getf dX6_liftToCeilings_11 fl_6_17 ?_
        refine ev_iload_n dX6_liftToCeilings_14 rfl ?_
        refine ev_aaldv dX6_liftToCeilings_15 rfl rfl (show _ < 4 from by omega) (co_muts hi2) ?_
        refine ev_astore_n dX6_liftToCeilings_16 rfl rfl ?_
        refine ev_aload_n dX6_liftToCeilings_17 rfl rfl ?_
        refine ev_getf dX6_liftToCeilings_18 fl_6_235 ?_
        refine ev_iconst (v := 2) dX6_liftToCeilings_21 rfl ?_
        refine ev_icmp_ne (tgt := 63) dX6_liftToCeilings_22 rfl (fun c22 => ?_) (fun c22 => ?_)
        · refine ev_forget (ls2 := [_, _, vU]) (Fg_to ⟨Or.inr ⟨rfl, rfl⟩, Or.inr ⟨rfl, rfl⟩, Or.inl rfl, trivial⟩) ?_
          exact hs _ (by simp only [liftF, ho]; exact if_neg (fun q => c22 q.1))
        · refine ev_aload_n dX6_liftToCeilings_25 rfl rfl ?_
          refine ev_getfv dX6_liftToCeilings_26 fl_6_221 (co_own ho) ?_
          refine ev_ifnull (tgt := 63) dX6_liftToCeilings_29 rfl rfl (fun c29 => ?_) (fun c29 => ?_)
          · exact nomatch c29
          · refine ev_aload_n dX6_liftToCeilings_32 rfl rfl ?_
            refine ev_getfv dX6_liftToCeilings_33 fl_6_221 (co_own ho) ?_
            refine ev_getf dX6_liftToCeilings_36 fl_6_128 ?_
            refine ev_getf dX6_liftToCeilings_39 fl_6_278 ?_
            refine ev_aload_n dX6_liftToCeilings_42 rfl rfl ?_
            refine ev_getf dX6_liftToCeilings_43 fl_6_241 ?_
            refine ev_icmp_ge (tgt := 63) dX6_liftToCeilings_46 rfl (fun c46 => ?_) (fun c46 => ?_)
            · refine ev_forget (ls2 := [_, _, vU]) (Fg_to ⟨Or.inr ⟨rfl, rfl⟩, Or.inr ⟨rfl, rfl⟩, Or.inl rfl, trivial⟩) ?_
              exact hs _ (by simp only [liftF, ho]; exact if_neg (fun q => Int32.not_lt.mpr c46 q.2))
            · have hl : liftF K R i = updF R t (K.1 22 i) := by simp only [liftF, ho]; exact if_pos ⟨Classical.not_not.mp c22, Int32.not_le.mp c46⟩
              refine ev_aload_n dX6_liftToCeilings_49 rfl rfl ?_
              refine ev_getfv dX6_liftToCeilings_50 fl_6_221 (co_own ho) ?_
              refine ev_getf dX6_liftToCeilings_53 fl_6_128 ?_
              refine ev_aload_n dX6_liftToCeilings_56 rfl rfl ?_
              refine ev_getf dX6_liftToCeilings_57 fl_6_241 ?_
              refine ev_putfS dX6_liftToCeilings_60 fl_6_278 rfl rfl ((pu_job_8 _ _ _ _ _).trans (by rw [sI_setA])) ?_
              refine ev_forget (ls2 := [_, _, vU]) (Fg_to ⟨Or.inr ⟨rfl, rfl⟩, Or.inr ⟨rfl, rfl⟩, Or.inl rfl, trivial⟩) ?_
              exact hs _ hl
theorem e_lift (K M : KT) (G : GT) (R : Nat → Int32) (hm : K.2 0 1 ≤ 4) : Ev M_X6_liftToCeilings 0 (ent M_X6_liftToCeilings [vR 7 0]) [] (conc (setA K 12 R) M G) (0, none, conc (setA K 12 (liftN K (K.2 0 1) 0 R)) M G) := by
  show Ev M_X6_liftToCeilings 0 [vR 7 0, vU, vU] [] (conc (setA K 12 R) M G) _
  have h := lift_loop K M G hm (K.2 0 1) 0 R (by omega)
  refine ev_iconst (v := 0) dX6_liftToCeilings_0 rfl ?_
  refine ev_istore_n dX6_liftToCeilings_1 rfl ?_
  exact h
/-- the first loop of the ranks -/
def rbF (K : KT) (i : Nat) : Nat → Int32 := fun t => if t < i then base K t else K.1 12 t
theorem rbF_0 (K : KT) : setA K 12 (rbF K 0) = K := by
  rw [show rbF K 0 = K.1 12 from funext fun t => if_neg (Nat.not_lt_zero t)]
  exact setA_self K 12
theorem rbF_s (K : KT) (i : Nat) : updF (rbF K i) i (base K i) = rbF K (i + 1) := by
  funext t
  simp only [updF, rbF]
  by_cases h : t = i
  · rw [if_pos h, if_pos (by omega), h]
  · rw [if_neg h]
    by_cases h2 : t < i
    · rw [if_pos h2, if_pos (by omega)]
    · rw [if_neg h2, if_neg (by omega)]
theorem rank_loop1 (K M : KT) (G : GT) (hn : K.2 0 0 ≤ 8) (r : Res) (hk : Ev M_X6_rankTasks 52 [vR 7 0, vU, vU] [] (conc (setA K 12 (RB K)) M G) r) : ∀ (j i : Nat), i + j = K.2 0 0 → Ev M_X6_rankTasks 2 [vR 7 0, vI (nI i), vU] [] (conc (setA K 12 (rbF K i)) M G) r := by
  intro j
  induction j with
  | zero =>
    intro i hi
    refine ev_iload_n dX6_rankTasks_2 rfl ?_
    refine ev_aload_n dX6_rankTasks_3 rfl rfl ?_
    refine ev_getf dX6_rankTasks_4 fl_6_46 ?_
    refine ev_icmp_ge (tgt := 52) dX6_rankTasks_7 rfl (fun c7 => ?_) (fun c7 => ?_)
    · refine ev_forget (ls2 := [_, vU, vU]) (Fg_to ⟨Or.inr ⟨rfl, rfl⟩, Or.inl rfl, Or.inl rfl, trivial⟩) ?_
      rw [show rbF K i = RB K by rw [show i = K.2 0 0 by omega]; rfl]
      exact hk
    · exact absurd (nI_le (a := K.2 0 0) (b := i) (by omega) (by omega)) c7
  | succ j ih =>
    intro i hi
    have hi2 : i < (setA K 12 (rbF K i)).2 0 0 := by rw [setA_2]; omega
    have e1 : nI i + Int32.ofInt 1 = nI (i + 1) := nI_1 i
    have h46 : Ev M_X6_rankTasks 46 [vR 7 0, vI (nI i), vU] [] (conc (setA K 12 (rbF K (i + 1))) M G) r := by
      refine ev_iinc dX6_rankTasks_46 rfl ?_
      refine ev_goto (tgt := 2) dX6_rankTasks_49 rfl ?_
      rw [e1]
      exact ih (i + 1) (by omega)
    refine ev_iload_n dX6_rankTasks_2 rfl ?_
    refine ev_aload_n dX6_rankTasks_3 rfl rfl ?_
    refine ev_getf dX6_rankTasks_4 fl_6_46 ?_
    refine ev_icmp_ge (tgt := 52) dX6_rankTasks_7 rfl (fun c7 => ?_) (fun c7 => ?_)
    · exact absurd c7 (nI_ge (a := i) (b := K.2 0 0) (by omega) (by omega))
    · refine ev_aload_n dX6_rankTasks_10 rfl rfl ?_
      refine ev_getf dX6_rankTasks_11 fl_6_11 ?_
      refine ev_iload_n dX6_rankTasks_14 rfl ?_
      refine ev_aaldv dX6_rankTasks_15 rfl rfl (show _ < 8 from by omega) (co_tasks hi2) ?_
      refine ev_astore_n dX6_rankTasks_16 rfl rfl ?_
      refine ev_aload_n dX6_rankTasks_17 rfl rfl ?_
      refine ev_getf dX6_rankTasks_18 fl_6_128 ?_
      refine ev_aload_n dX6_rankTasks_21 rfl rfl ?_
      refine ev_getf dX6_rankTasks_22 fl_6_28 ?_
      refine ev_if_eq (tgt := 39) dX6_rankTasks_25 rfl (fun c25 => ?_) (fun c25 => ?_)
      · refine ev_aload_n dX6_rankTasks_39 rfl rfl ?_
        refine ev_getf dX6_rankTasks_40 fl_6_238 ?_
        refine ev_putfS dX6_rankTasks_43 fl_6_278 rfl rfl ((pu_job_8 _ _ _ _ _).trans (by rw [sI_setA])) ?_
        refine ev_forget (ls2 := [_, _, vU]) (Fg_to ⟨Or.inr ⟨rfl, rfl⟩, Or.inr ⟨rfl, rfl⟩, Or.inl rfl, trivial⟩) ?_
        rw [show (setA K 12 (rbF K i)).1 0 i = base K i from (if_pos c25).symm, rbF_s]
        exact h46
      · refine ev_aload_n dX6_rankTasks_28 rfl rfl ?_
        refine ev_getf dX6_rankTasks_29 fl_6_128 ?_
        refine ev_getf dX6_rankTasks_32 fl_6_137 ?_
        refine ev_ineg dX6_rankTasks_35 ?_
        refine ev_goto (tgt := 43) dX6_rankTasks_36 rfl ?_
        refine ev_putfS dX6_rankTasks_43 fl_6_278 rfl rfl ((pu_job_8 _ _ _ _ _).trans (by rw [sI_setA])) ?_
        refine ev_forget (ls2 := [_, _, vU]) (Fg_to ⟨Or.inr ⟨rfl, rfl⟩, Or.inr ⟨rfl, rfl⟩, Or.inl rfl, trivial⟩) ?_
        rw [show -(setA K 12 (rbF K i)).1 10 i = base K i from (if_neg c25).symm, rbF_s]
        exact h46
theorem itF_s (K : KT) : ∀ (j : Nat) (R : Nat → Int32), itF K (j + 1) R = lendN K (K.2 0 0) 0 (itF K j R) := by
  intro j
  induction j with
  | zero => intro R; rfl
  | succ j ih => intro R; exact ih (lendN K (K.2 0 0) 0 R)
theorem itF_fix (K : KT) (R : Nat → Int32) (h : lendN K (K.2 0 0) 0 R = R) : ∀ j, itF K j R = R := by
  intro j
  induction j with
  | zero => rfl
  | succ j ih => show itF K j (lendN K (K.2 0 0) 0 R) = R; rw [h]; exact ih
theorem itF_add (K : KT) : ∀ (a b : Nat) (R : Nat → Int32), itF K (a + b) R = itF K a (itF K b R) := by
  intro a b
  induction b with
  | zero => intro R; rfl
  | succ b ih => intro R; exact ih _
/-- the rounds: conv says that lending stands still behind as many rounds as there are tasks -/
theorem rank_loop2 (K M : KT) (G : GT) (hn : K.2 0 0 ≤ 8) (R : Nat → Int32) (hc : lendN K (K.2 0 0) 0 (itF K (K.2 0 0) R) = itF K (K.2 0 0) R) : ∀ (j i : Nat) (b : Bool), i + j = K.2 0 0 → (b = false → lendN K (K.2 0 0) 0 (itF K i R) = itF K i R) → Ev M_X6_rankTasks 67 [vR 7 0, vI (bI (b = true)), vI (nI i)] [] (conc (setA K 12 (itF K i R)) M G) (0, none, conc (setA K 12 (itF K 8 R)) M G) := by
  have hfin : ∀ i, i ≤ 8 → lendN K (K.2 0 0) 0 (itF K i R) = itF K i R → itF K 8 R = itF K i R := by
    intro i hi h
    rw [show (8 : Nat) = (8 - i) + i by omega, itF_add]
    exact itF_fix K _ h _
  intro j
  induction j with
  | zero =>
    intro i b hi hb
    have hi' : i = K.2 0 0 := by omega
    refine ev_iload_n dX6_rankTasks_67 rfl ?_
    refine ev_if_eq (tgt := 90) dX6_rankTasks_68 rfl (fun c68 => ?_) (fun c68 => ?_)
    · rw [hfin i (by omega) (hi' ▸ hc)]
      exact ev_vret dX6_rankTasks_90 rfl
    · refine ev_iload_n dX6_rankTasks_71 rfl ?_
      refine ev_aload_n dX6_rankTasks_72 rfl rfl ?_
      refine ev_getf dX6_rankTasks_73 fl_6_46 ?_
      refine ev_icmp_ge (tgt := 90) dX6_rankTasks_76 rfl (fun c76 => ?_) (fun c76 => ?_)
      · rw [hfin i (by omega) (hi' ▸ hc)]
        exact ev_vret dX6_rankTasks_90 rfl
      · exact absurd (nI_le (a := K.2 0 0) (b := i) (by omega) (by omega)) c76
  | succ j ih =>
    intro i b hi hb
    have e1 : nI i + Int32.ofInt 1 = nI (i + 1) := nI_1 i
    refine ev_iload_n dX6_rankTasks_67 rfl ?_
    refine ev_if_eq (tgt := 90) dX6_rankTasks_68 rfl (fun c68 => ?_) (fun c68 => ?_)
    · rw [hfin i (by omega) (hb (by have := bI_0.mp c68; simpa using this))]
      exact ev_vret dX6_rankTasks_90 rfl
    · refine ev_iload_n dX6_rankTasks_71 rfl ?_
      refine ev_aload_n dX6_rankTasks_72 rfl rfl ?_
      refine ev_getf dX6_rankTasks_73 fl_6_46 ?_
      refine ev_icmp_ge (tgt := 90) dX6_rankTasks_76 rfl (fun c76 => ?_) (fun c76 => ?_)
      · exact absurd c76 (nI_ge (a := i) (b := K.2 0 0) (by omega) (by omega))
      · refine ev_aload_n dX6_rankTasks_79 rfl rfl ?_
        refine evV1 dX6_rankTasks_80 cl_X6_rankTasks_287 ⟨rfl, rfl, fun _ => ⟨_, rfl⟩⟩ (Nat.le_of_ble_eq_true rfl) (e_lendOnce K M G (itF K i R) hn) ?_
        refine ev_istore_n dX6_rankTasks_83 rfl ?_
        refine ev_iinc dX6_rankTasks_84 rfl ?_
        refine ev_goto (tgt := 67) dX6_rankTasks_87 rfl ?_
        rw [e1, ← itF_s]
        refine ih (i + 1) _ (by omega) (fun h => ?_)
        rw [itF_s, lrLoop_2 K _ _ _ h]
        exact lrLoop_2 K _ _ _ h
theorem e_rankTasks (K M : KT) (G : GT) (hn : K.2 0 0 ≤ 8) (hm : K.2 0 1 ≤ 4) (hc : ∀ R, lendN K (K.2 0 0) 0 (itF K (K.2 0 0) R) = itF K (K.2 0 0) R) : Ev M_X6_rankTasks 0 (ent M_X6_rankTasks [vR 7 0]) [] (conc K M G) (0, none, conc (weighK K) M G) := by
  show Ev M_X6_rankTasks 0 [vR 7 0, vU, vU] [] (conc K M G) (0, none, conc (setA K 12 (VR K)) M G)
  have h67 : Ev M_X6_rankTasks 63 [vR 7 0, vU, vU] [] (conc (setA K 12 (RL1 K)) M G) (0, none, conc (setA K 12 (VR K)) M G) := by
    refine ev_iconst (v := 1) dX6_rankTasks_63 rfl ?_
    refine ev_istore_n dX6_rankTasks_64 rfl ?_
    refine ev_iconst (v := 0) dX6_rankTasks_65 rfl ?_
    refine ev_istore_n dX6_rankTasks_66 rfl ?_
    exact rank_loop2 K M G hn (RL1 K) (hc _) (K.2 0 0) 0 true (by omega) (fun h => nomatch h)
  have h52 : Ev M_X6_rankTasks 52 [vR 7 0, vU, vU] [] (conc (setA K 12 (RB K)) M G) (0, none, conc (setA K 12 (VR K)) M G) := by
    refine ev_aload_n dX6_rankTasks_52 rfl rfl ?_
    refine ev_getf dX6_rankTasks_53 fl_6_28 ?_
    refine ev_if_ne (tgt := 63) dX6_rankTasks_56 rfl (fun c56 => ?_) (fun c56 => ?_)
    · rw [show RB K = RL1 K from (if_neg c56).symm]
      exact h67
    · refine ev_aload_n dX6_rankTasks_59 rfl rfl ?_
      refine evV1 dX6_rankTasks_60 cl_X6_rankTasks_284 ⟨rfl, rfl, fun _ => ⟨_, rfl⟩⟩ (Nat.le_of_ble_eq_true rfl) (e_lift K M G (RB K) hm) ?_
      rw [show liftN K (K.2 0 1) 0 (RB K) = RL1 K from (if_pos (Classical.not_not.mp c56)).symm]
      exact h67
  have h := rank_loop1 K M G hn _ h52 (K.2 0 0) 0 (by omega)
  rw [rbF_0] at h
  refine ev_iconst (v := 0) dX6_rankTasks_0 rfl ?_
  refine ev_istore_n dX6_rankTasks_1 rfl ?_
  exact h
