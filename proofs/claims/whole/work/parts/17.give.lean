/-! THE CLASS: who goes first, who inherits; giving and ending -/
theorem wk12 (K : KT) : (weighK K).1 12 = VR K := rfl
theorem ahead_w (K : KT) (a b : Nat) : ahead (weighK K) (VR K) a b = ahead K (VR K) a b := rfl
theorem inher_w (K : KT) (a b : Nat) : inher (weighK K) (VR K) a b = inher K (VR K) a b := rfl
theorem mur_loop (K M : KT) (G : GT) (hn : K.2 0 0 ≤ 8) : ∀ (j i b : Nat), i + j = K.2 0 0 → Ev M_X6_mostUrgentReady 8 [vR 7 0, rfq 6 b, vI (nI i), vU] [] (conc (weighK K) M G) (0, some (rfq 6 (pickN K (VR K) j i b)), conc (weighK K) M G) := by
  intro j
  induction j with
  | zero =>
    intro i b hi
    refine ev_iload_n dX6_mostUrgentReady_8 rfl ?_
    refine ev_aload_n dX6_mostUrgentReady_9 rfl rfl ?_
    refine ev_getf dX6_mostUrgentReady_10 fl_6_46 ?_
    refine ev_icmp_ge (tgt := 55) dX6_mostUrgentReady_13 rfl (fun c13 => ?_) (fun c13 => ?_)
    · refine ev_aload_n dX6_mostUrgentReady_55 rfl (isRf_rfq _ _) ?_
      exact ev_aret dX6_mostUrgentReady_56 rfl (isRf_rfq _ _)
    · exact absurd (nI_le (a := K.2 0 0) (b := i) (by omega) (by omega)) c13
  | succ j ih =>
    intro i b hi
    have hi2 : i < (weighK K).2 0 0 := by show i < K.2 0 0; omega
    have e1 : nI i + Int32.ofInt 1 = nI (i + 1) := nI_1 i
    have h49 : ∀ b2, pick1 K (VR K) b i = b2 → Ev M_X6_mostUrgentReady 49 [vR 7 0, rfq 6 b2, vI (nI i), vU] [] (conc (weighK K) M G) (0, some (rfq 6 (pickN K (VR K) (j + 1) i b)), conc (weighK K) M G) := by
      intro b2 hb
      simp only [pickN]
      rw [hb]
      refine ev_iinc dX6_mostUrgentReady_49 rfl ?_
      refine ev_goto (tgt := 8) dX6_mostUrgentReady_52 rfl ?_
      rw [e1]
      exact ih (i + 1) b2 (by omega)
    rcases b with _ | c
    · refine ev_iload_n dX6_mostUrgentReady_8 rfl ?_
      refine ev_aload_n dX6_mostUrgentReady_9 rfl rfl ?_
      refine ev_getf dX6_mostUrgentReady_10 fl_6_46 ?_
      refine ev_icmp_ge (tgt := 55) dX6_mostUrgentReady_13 rfl (fun c13 => ?_) (fun c13 => ?_)
      · exact absurd c13 (nI_ge (a := i) (b := K.2 0 0) (by omega) (by omega))
      · refine ev_aload_n dX6_mostUrgentReady_16 rfl rfl ?_
        refine ev_getf dX6_mostUrgentReady_17 fl_6_11 ?_
        refine ev_iload_n dX6_mostUrgentReady_20 rfl ?_
        refine ev_aaldv dX6_mostUrgentReady_21 rfl rfl (show _ < 8 from by omega) (co_tasks hi2) ?_
        refine ev_astore_n dX6_mostUrgentReady_22 rfl rfl ?_
        refine ev_aload_n dX6_mostUrgentReady_23 rfl rfl ?_
        refine ev_getf dX6_mostUrgentReady_24 fl_6_128 ?_
        refine ev_getf dX6_mostUrgentReady_27 fl_6_132 ?_
        refine ev_iconst (v := 1) dX6_mostUrgentReady_30 rfl ?_
        refine ev_icmp_ne (tgt := 49) dX6_mostUrgentReady_31 rfl (fun c31 => ?_) (fun c31 => ?_)
        · refine ev_forget (ls2 := [_, _, _, vU]) (Fg_to ⟨Or.inr ⟨rfl, rfl⟩, Or.inr ⟨rfl, rfl⟩, Or.inr ⟨rfl, rfl⟩, Or.inl rfl, trivial⟩) ?_
          exact h49 0 (if_neg c31)
        · refine ev_aload_n dX6_mostUrgentReady_34 rfl rfl ?_
          refine ev_ifnull (tgt := 47) dX6_mostUrgentReady_35 rfl rfl (fun c35 => ?_) (fun c35 => ?_)
          · refine ev_aload_n dX6_mostUrgentReady_47 rfl rfl ?_
            refine ev_astore_n dX6_mostUrgentReady_48 rfl rfl ?_
            refine ev_forget (ls2 := [_, _, _, vU]) (Fg_to ⟨Or.inr ⟨rfl, rfl⟩, Or.inr ⟨rfl, rfl⟩, Or.inr ⟨rfl, rfl⟩, Or.inl rfl, trivial⟩) ?_
            exact h49 (i + 1) (if_pos (Classical.not_not.mp c31))
          · exact absurd rfl c35
    · refine ev_iload_n dX6_mostUrgentReady_8 rfl ?_
      refine ev_aload_n dX6_mostUrgentReady_9 rfl rfl ?_
      refine ev_getf dX6_mostUrgentReady_10 fl_6_46 ?_
      refine ev_icmp_ge (tgt := 55) dX6_mostUrgentReady_13 rfl (fun c13 => ?_) (fun c13 => ?_)
      · exact absurd c13 (nI_ge (a := i) (b := K.2 0 0) (by omega) (by omega))
      · refine ev_aload_n dX6_mostUrgentReady_16 rfl rfl ?_
        refine ev_getf dX6_mostUrgentReady_17 fl_6_11 ?_
        refine ev_iload_n dX6_mostUrgentReady_20 rfl ?_
        refine ev_aaldv dX6_mostUrgentReady_21 rfl rfl (show _ < 8 from by omega) (co_tasks hi2) ?_
        refine ev_astore_n dX6_mostUrgentReady_22 rfl rfl ?_
        refine ev_aload_n dX6_mostUrgentReady_23 rfl rfl ?_
        refine ev_getf dX6_mostUrgentReady_24 fl_6_128 ?_
        refine ev_getf dX6_mostUrgentReady_27 fl_6_132 ?_
        refine ev_iconst (v := 1) dX6_mostUrgentReady_30 rfl ?_
        refine ev_icmp_ne (tgt := 49) dX6_mostUrgentReady_31 rfl (fun c31 => ?_) (fun c31 => ?_)
        · refine ev_forget (ls2 := [_, _, _, vU]) (Fg_to ⟨Or.inr ⟨rfl, rfl⟩, Or.inr ⟨rfl, rfl⟩, Or.inr ⟨rfl, rfl⟩, Or.inl rfl, trivial⟩) ?_
          exact h49 (c + 1) (if_neg c31)
        · refine ev_aload_n dX6_mostUrgentReady_34 rfl rfl ?_
          refine ev_ifnull (tgt := 47) dX6_mostUrgentReady_35 rfl rfl (fun c35 => ?_) (fun c35 => ?_)
          · exact nomatch c35
          · refine ev_aload_n dX6_mostUrgentReady_38 rfl rfl ?_
            refine ev_aload_n dX6_mostUrgentReady_39 rfl rfl ?_
            refine ev_aload_n dX6_mostUrgentReady_40 rfl rfl ?_
            refine evV3 dX6_mostUrgentReady_41 cl_X6_mostUrgentReady_274 ⟨rfl, rfl, fun _ => ⟨_, rfl⟩⟩ (Nat.le_of_ble_eq_true rfl) (e_goesAhead (weighK K) M G i c) ?_
            refine ev_if_eq (tgt := 49) dX6_mostUrgentReady_44 rfl (fun c44 => ?_) (fun c44 => ?_)
            · refine ev_forget (ls2 := [_, _, _, vU]) (Fg_to ⟨Or.inr ⟨rfl, rfl⟩, Or.inr ⟨rfl, rfl⟩, Or.inr ⟨rfl, rfl⟩, Or.inl rfl, trivial⟩) ?_
              exact h49 (c + 1) ((if_pos (Classical.not_not.mp c31)).trans (if_neg (bI_0.mp c44)))
            · refine ev_aload_n dX6_mostUrgentReady_47 rfl rfl ?_
              refine ev_astore_n dX6_mostUrgentReady_48 rfl rfl ?_
              refine ev_forget (ls2 := [_, _, _, vU]) (Fg_to ⟨Or.inr ⟨rfl, rfl⟩, Or.inr ⟨rfl, rfl⟩, Or.inr ⟨rfl, rfl⟩, Or.inl rfl, trivial⟩) ?_
              exact h49 (i + 1) ((if_pos (Classical.not_not.mp c31)).trans (if_pos (Classical.not_not.mp (fun q => c44 (bI_f q)))))
theorem e_mur (K M : KT) (G : GT) (h : Inv K) : Ev M_X6_mostUrgentReady 0 (ent M_X6_mostUrgentReady [vR 7 0]) [] (conc K M G) (0, some (rfq 6 (firstK K)), conc (weighK K) M G) := by
  show Ev M_X6_mostUrgentReady 0 [vR 7 0, vU, vU, vU] [] (conc K M G) _
  have hl := mur_loop K M G h.1.1 (K.2 0 0) 0 0 (by omega)
  refine ev_aload_n dX6_mostUrgentReady_0 rfl rfl ?_
  refine evV1 dX6_mostUrgentReady_1 cl_X6_mostUrgentReady_247 ⟨rfl, rfl, fun _ => ⟨_, rfl⟩⟩ (Nat.le_of_ble_eq_true rfl) (e_rankTasks K M G h.1.1 h.1.2.1 (conv h)) ?_
  refine ev_null dX6_mostUrgentReady_4 ?_
  refine ev_astore_n dX6_mostUrgentReady_5 rfl rfl ?_
  refine ev_iconst (v := 0) dX6_mostUrgentReady_6 rfl ?_
  refine ev_istore_n dX6_mostUrgentReady_7 rfl ?_
  exact hl
theorem heir_loop (K M : KT) (G : GT) (m : Nat) (hn : K.2 0 0 ≤ 8) : ∀ (j i b : Nat), i + j = K.2 0 0 → Ev M_X6_heirOf 4 [vR 7 0, vR 4 m, rfq 6 b, vI (nI i), vU] [] (conc (weighK K) M G) (0, some (rfq 6 (heirN K (VR K) m j i b)), conc (weighK K) M G) := by
  have hq : ∀ w : Nat, (rfq 4 w = vR 4 m) ↔ w = m + 1 := by
    intro w
    rcases w with _ | d
    · exact ⟨(fun h => nomatch h), fun h => by omega⟩
    · exact ⟨fun h => by cases h; rfl, fun h => by rw [Nat.succ.inj h]; rfl⟩
  intro j
  induction j with
  | zero =>
    intro i b hi
    refine ev_iload_n dX6_heirOf_4 rfl ?_
    refine ev_aload_n dX6_heirOf_5 rfl rfl ?_
    refine ev_getf dX6_heirOf_6 fl_6_46 ?_
    refine ev_icmp_ge (tgt := 60) dX6_heirOf_9 rfl (fun c9 => ?_) (fun c9 => ?_)
    · refine ev_aload_n dX6_heirOf_60 rfl (isRf_rfq _ _) ?_
      exact ev_aret dX6_heirOf_61 rfl (isRf_rfq _ _)
    · exact absurd (nI_le (a := K.2 0 0) (b := i) (by omega) (by omega)) c9
  | succ j ih =>
    intro i b hi
    have hi2 : i < (weighK K).2 0 0 := by show i < K.2 0 0; omega
    have e1 : nI i + Int32.ofInt 1 = nI (i + 1) := nI_1 i
    have h54 : ∀ b2, heir1 K (VR K) m b i = b2 → Ev M_X6_heirOf 54 [vR 7 0, vR 4 m, rfq 6 b2, vI (nI i), vU] [] (conc (weighK K) M G) (0, some (rfq 6 (heirN K (VR K) m (j + 1) i b)), conc (weighK K) M G) := by
      intro b2 hb
      simp only [heirN]
      rw [hb]
      refine ev_iinc dX6_heirOf_54 rfl ?_
      refine ev_goto (tgt := 4) dX6_heirOf_57 rfl ?_
      rw [e1]
      exact ih (i + 1) b2 (by omega)
    rcases b with _ | c
    · refine ev_iload_n dX6_heirOf_4 rfl ?_
      refine ev_aload_n dX6_heirOf_5 rfl rfl ?_
      refine ev_getf dX6_heirOf_6 fl_6_46 ?_
      refine ev_icmp_ge (tgt := 60) dX6_heirOf_9 rfl (fun c9 => ?_) (fun c9 => ?_)
      · exact absurd c9 (nI_ge (a := i) (b := K.2 0 0) (by omega) (by omega))
      · refine ev_aload_n dX6_heirOf_12 rfl rfl ?_
        refine ev_getf dX6_heirOf_13 fl_6_11 ?_
        refine ev_iload_n dX6_heirOf_16 rfl ?_
        refine ev_aaldv dX6_heirOf_17 rfl rfl (show _ < 8 from by omega) (co_tasks hi2) ?_
        refine ev_astore dX6_heirOf_18 rfl rfl ?_
        refine ev_aload dX6_heirOf_20 rfl rfl ?_
        refine ev_getf dX6_heirOf_22 fl_6_128 ?_
        refine ev_getfv dX6_heirOf_25 fl_6_257 (co_wait rfl) ?_
        refine ev_aload_n dX6_heirOf_28 rfl rfl ?_
        refine ev_acmp_ne (tgt := 54) dX6_heirOf_29 rfl (isRa_rfq _ _ rfl) rfl (fun c29 => ?_) (fun c29 => ?_)
        · refine ev_forget (ls2 := [_, _, _, _, vU]) (Fg_to ⟨Or.inr ⟨rfl, rfl⟩, Or.inr ⟨rfl, rfl⟩, Or.inr ⟨rfl, rfl⟩, Or.inr ⟨rfl, rfl⟩, Or.inl rfl, trivial⟩) ?_
          exact h54 0 (if_neg (fun q => c29 ((hq _).mpr q)))
        · refine ev_aload_n dX6_heirOf_32 rfl rfl ?_
          refine ev_ifnull (tgt := 51) dX6_heirOf_33 rfl rfl (fun c33 => ?_) (fun c33 => ?_)
          · refine ev_aload dX6_heirOf_51 rfl rfl ?_
            refine ev_astore_n dX6_heirOf_53 rfl rfl ?_
            refine ev_forget (ls2 := [_, _, _, _, vU]) (Fg_to ⟨Or.inr ⟨rfl, rfl⟩, Or.inr ⟨rfl, rfl⟩, Or.inr ⟨rfl, rfl⟩, Or.inr ⟨rfl, rfl⟩, Or.inl rfl, trivial⟩) ?_
            exact h54 (i + 1) (if_pos ((hq _).mp c29))
          · exact absurd rfl c33
    · refine ev_iload_n dX6_heirOf_4 rfl ?_
      refine ev_aload_n dX6_heirOf_5 rfl rfl ?_
      refine ev_getf dX6_heirOf_6 fl_6_46 ?_
      refine ev_icmp_ge (tgt := 60) dX6_heirOf_9 rfl (fun c9 => ?_) (fun c9 => ?_)
      · exact absurd c9 (nI_ge (a := i) (b := K.2 0 0) (by omega) (by omega))
      · refine ev_aload_n dX6_heirOf_12 rfl rfl ?_
        refine ev_getf dX6_heirOf_13 fl_6_11 ?_
        refine ev_iload_n dX6_heirOf_16 rfl ?_
        refine ev_aaldv dX6_heirOf_17 rfl rfl (show _ < 8 from by omega) (co_tasks hi2) ?_
        refine ev_astore dX6_heirOf_18 rfl rfl ?_
        refine ev_aload dX6_heirOf_20 rfl rfl ?_
        refine ev_getf dX6_heirOf_22 fl_6_128 ?_
        refine ev_getfv dX6_heirOf_25 fl_6_257 (co_wait rfl) ?_
        refine ev_aload_n dX6_heirOf_28 rfl rfl ?_
        refine ev_acmp_ne (tgt := 54) dX6_heirOf_29 rfl (isRa_rfq _ _ rfl) rfl (fun c29 => ?_) (fun c29 => ?_)
        · refine ev_forget (ls2 := [_, _, _, _, vU]) (Fg_to ⟨Or.inr ⟨rfl, rfl⟩, Or.inr ⟨rfl, rfl⟩, Or.inr ⟨rfl, rfl⟩, Or.inr ⟨rfl, rfl⟩, Or.inl rfl, trivial⟩) ?_
          exact h54 (c + 1) (if_neg (fun q => c29 ((hq _).mpr q)))
        · refine ev_aload_n dX6_heirOf_32 rfl rfl ?_
          refine ev_ifnull (tgt := 51) dX6_heirOf_33 rfl rfl (fun c33 => ?_) (fun c33 => ?_)
          · exact nomatch c33
          · refine ev_aload dX6_heirOf_36 rfl rfl ?_
            refine ev_getf dX6_heirOf_38 fl_6_128 ?_
            refine ev_aload_n dX6_heirOf_41 rfl rfl ?_
            refine ev_getf dX6_heirOf_42 fl_6_128 ?_
            refine evV2 dX6_heirOf_45 cl_X6_heirOf_261 ⟨rfl, rfl, fun _ => ⟨_, rfl⟩⟩ (Nat.le_of_ble_eq_true rfl) (e_inher (weighK K) M G i c) ?_
            refine ev_if_eq (tgt := 54) dX6_heirOf_48 rfl (fun c48 => ?_) (fun c48 => ?_)
            · refine ev_forget (ls2 := [_, _, _, _, vU]) (Fg_to ⟨Or.inr ⟨rfl, rfl⟩, Or.inr ⟨rfl, rfl⟩, Or.inr ⟨rfl, rfl⟩, Or.inr ⟨rfl, rfl⟩, Or.inl rfl, trivial⟩) ?_
              exact h54 (c + 1) ((if_pos ((hq _).mp c29)).trans (if_neg (bI_0.mp c48)))
            · refine ev_aload dX6_heirOf_51 rfl rfl ?_
              refine ev_astore_n dX6_heirOf_53 rfl rfl ?_
              refine ev_forget (ls2 := [_, _, _, _, vU]) (Fg_to ⟨Or.inr ⟨rfl, rfl⟩, Or.inr ⟨rfl, rfl⟩, Or.inr ⟨rfl, rfl⟩, Or.inr ⟨rfl, rfl⟩, Or.inl rfl, trivial⟩) ?_
              exact h54 (i + 1) ((if_pos ((hq _).mp c29)).trans (if_pos (Classical.not_not.mp (fun q => c48 (bI_f q)))))
theorem e_heirOf (K M : KT) (G : GT) (m : Nat) (hn : K.2 0 0 ≤ 8) : Ev M_X6_heirOf 0 (ent M_X6_heirOf [vR 7 0, vR 4 m]) [] (conc (weighK K) M G) (0, some (rfq 6 (heirK K m)), conc (weighK K) M G) := by
  show Ev M_X6_heirOf 0 [vR 7 0, vR 4 m, vU, vU, vU] [] (conc (weighK K) M G) _
  have hl := heir_loop K M G m hn (K.2 0 0) 0 0 (by omega)
  refine ev_null dX6_heirOf_0 ?_
  refine ev_astore_n dX6_heirOf_1 rfl rfl ?_
  refine ev_iconst (v := 0) dX6_heirOf_2 rfl ?_
  refine ev_istore_n dX6_heirOf_3 rfl ?_
  exact hl
theorem e_giveAway (K M : KT) (G : GT) (m : Nat) (h : Inv K) : Ev M_X6_giveAway 0 (ent M_X6_giveAway [vR 7 0, vR 4 m]) [] (conc K M G) (0, none, conc (giveK K m) M G) := by
  show Ev M_X6_giveAway 0 [vR 7 0, vR 4 m, vU] [] (conc K M G) _
  have hnx : (weighK K).2 0 4 < 40 := (Inv_weigh h).next
  have hh := e_heirOf K M G m h.1.1
  unfold giveK
  cases e : heirK K m with
  | zero =>
    rw [e] at hh
    refine ev_aload_n dX6_giveAway_0 rfl rfl ?_
    refine evV1 dX6_giveAway_1 cl_X6_giveAway_247 ⟨rfl, rfl, fun _ => ⟨_, rfl⟩⟩ (Nat.le_of_ble_eq_true rfl) (e_rankTasks K M G h.1.1 h.1.2.1 (conv h)) ?_
    refine ev_aload_n dX6_giveAway_4 rfl rfl ?_
    refine ev_aload_n dX6_giveAway_5 rfl rfl ?_
    refine evV2 dX6_giveAway_6 cl_X6_giveAway_250 ⟨rfl, rfl, fun _ => ⟨_, rfl⟩⟩ (Nat.le_of_ble_eq_true rfl) hh ?_
    refine ev_astore_n dX6_giveAway_9 rfl rfl ?_
    refine ev_aload_n dX6_giveAway_10 rfl rfl ?_
    refine ev_aload_n dX6_giveAway_11 rfl rfl ?_
    refine ev_putfS dX6_giveAway_12 fl_6_221 rfl rfl (pu_mut_3n _ _ _ _) ?_
    refine ev_aload_n dX6_giveAway_15 rfl rfl ?_
    refine ev_ifnull (tgt := 37) dX6_giveAway_16 rfl rfl (fun c16 => ?_) (fun c16 => ?_)
    · exact ev_vret dX6_giveAway_37 rfl
    · exact absurd rfl c16
  | succ g =>
    rw [e] at hh
    refine ev_aload_n dX6_giveAway_0 rfl rfl ?_
    refine evV1 dX6_giveAway_1 cl_X6_giveAway_247 ⟨rfl, rfl, fun _ => ⟨_, rfl⟩⟩ (Nat.le_of_ble_eq_true rfl) (e_rankTasks K M G h.1.1 h.1.2.1 (conv h)) ?_
    refine ev_aload_n dX6_giveAway_4 rfl rfl ?_
    refine ev_aload_n dX6_giveAway_5 rfl rfl ?_
    refine evV2 dX6_giveAway_6 cl_X6_giveAway_250 ⟨rfl, rfl, fun _ => ⟨_, rfl⟩⟩ (Nat.le_of_ble_eq_true rfl) hh ?_
    refine ev_astore_n dX6_giveAway_9 rfl rfl ?_
    refine ev_aload_n dX6_giveAway_10 rfl rfl ?_
    refine ev_aload_n dX6_giveAway_11 rfl rfl ?_
    refine ev_putfS dX6_giveAway_12 fl_6_221 rfl rfl (pu_mut_3 _ _ _ _ _) ?_
    refine ev_aload_n dX6_giveAway_15 rfl rfl ?_
    refine ev_ifnull (tgt := 37) dX6_giveAway_16 rfl rfl (fun c16 => ?_) (fun c16 => ?_)
    · exact nomatch c16
    · refine ev_aload_n dX6_giveAway_19 rfl rfl ?_
      refine ev_getf dX6_giveAway_20 fl_6_128 ?_
      refine ev_aload_n dX6_giveAway_23 rfl rfl ?_
      refine evV1 dX6_giveAway_24 cl_X6_giveAway_169 ⟨rfl, rfl, fun _ => ⟨_, rfl⟩⟩ (Nat.le_of_ble_eq_true rfl) (e_nextChange _ M G) ?_
      refine evV2 dX6_giveAway_27 cl_X6_giveAway_254 ⟨rfl, rfl, fun _ => ⟨_, rfl⟩⟩ (Nat.le_of_ble_eq_true rfl) (e_resume _ M G g _) ?_
      refine ev_aload_n dX6_giveAway_30 rfl rfl ?_
      refine ev_bipush (v := 6) dX6_giveAway_31 rfl ?_
      refine ev_aload_n dX6_giveAway_33 rfl rfl ?_
      refine evV3 dX6_giveAway_34 cl_X6_giveAway_149 ⟨rfl, rfl, fun _ => ⟨_, rfl⟩⟩ (Nat.le_of_ble_eq_true rfl) (e_note _ M G 6 g hnx) ?_
      exact ev_vret dX6_giveAway_37 rfl
theorem end_loop (M : KT) (G : GT) (t : Nat) : ∀ (j i : Nat) (K : KT), Inv K → i + j = K.2 0 1 → Ev M_X6_endJob 15 [vR 7 0, vR 6 t, vU, vI (nI i)] [] (conc K M G) (0, none, conc (giveN t j i K) M G) := by
  have hq : ∀ w : Nat, (rfq 6 w = vR 6 t) ↔ w = t + 1 := by
    intro w
    rcases w with _ | d
    · exact ⟨(fun h => nomatch h), fun h => by omega⟩
    · exact ⟨fun h => by cases h; rfl, fun h => by rw [Nat.succ.inj h]; rfl⟩
  intro j
  induction j with
  | zero =>
    intro i K h hi
    have hm := h.1.2.1
    refine ev_iload_n dX6_endJob_15 rfl ?_
    refine ev_aload_n dX6_endJob_16 rfl rfl ?_
    refine ev_getf dX6_endJob_17 fl_6_67 ?_
    refine ev_icmp_ge (tgt := 52) dX6_endJob_20 rfl (fun c20 => ?_) (fun c20 => ?_)
    · exact ev_vret dX6_endJob_52 rfl
    · exact absurd (nI_le (a := K.2 0 1) (b := i) (by omega) (by omega)) c20
  | succ j ih =>
    intro i K h hi
    have hm := h.1.2.1
    have e1 : nI i + Int32.ofInt 1 = nI (i + 1) := nI_1 i
    have hg1 : (giveK K i).2 0 1 = K.2 0 1 := by
      unfold giveK
      cases heirK K i <;> rfl
    refine ev_iload_n dX6_endJob_15 rfl ?_
    refine ev_aload_n dX6_endJob_16 rfl rfl ?_
    refine ev_getf dX6_endJob_17 fl_6_67 ?_
    refine ev_icmp_ge (tgt := 52) dX6_endJob_20 rfl (fun c20 => ?_) (fun c20 => ?_)
    · exact absurd c20 (nI_ge (a := i) (b := K.2 0 1) (by omega) (by omega))
    · refine ev_aload_n dX6_endJob_23 rfl rfl ?_
      refine ev_getf dX6_endJob_24 fl_6_17 ?_
      refine ev_iload_n dX6_endJob_27 rfl ?_
      refine ev_aaldv dX6_endJob_28 rfl rfl (show _ < 4 from by omega) (co_muts (by omega)) ?_
      refine ev_getfv dX6_endJob_29 fl_6_221 (co_own rfl) ?_
      refine ev_aload_n dX6_endJob_32 rfl rfl ?_
      refine ev_acmp_ne (tgt := 46) dX6_endJob_33 rfl (isRa_rfq _ _ rfl) rfl (fun c33 => ?_) (fun c33 => ?_)
      · refine ev_iinc dX6_endJob_46 rfl ?_
        refine ev_goto (tgt := 15) dX6_endJob_49 rfl ?_
        rw [e1]
        simp only [giveN]
        rw [if_neg (fun q => c33 ((hq _).mpr q))]
        exact ih (i + 1) K h (by omega)
      · refine ev_aload_n dX6_endJob_36 rfl rfl ?_
        refine ev_aload_n dX6_endJob_37 rfl rfl ?_
        refine ev_getf dX6_endJob_38 fl_6_17 ?_
        refine ev_iload_n dX6_endJob_41 rfl ?_
        refine ev_aaldv dX6_endJob_42 rfl rfl (show _ < 4 from by omega) (co_muts (by omega)) ?_
        refine evV2 dX6_endJob_43 cl_X6_endJob_217 ⟨rfl, rfl, fun _ => ⟨_, rfl⟩⟩ (Nat.le_of_ble_eq_true rfl) (e_giveAway K M G i h) ?_
        refine ev_iinc dX6_endJob_46 rfl ?_
        refine ev_goto (tgt := 15) dX6_endJob_49 rfl ?_
        rw [e1]
        simp only [giveN]
        rw [if_pos ((hq _).mp c33)]
        exact ih (i + 1) _ (Inv_give h i) (by rw [hg1]; omega)
theorem e_endJob (K M : KT) (G : GT) (t : Nat) (c : Int32) (h : Inv K) : Ev M_X6_endJob 0 (ent M_X6_endJob [vR 7 0, vR 6 t, vI c]) [] (conc K M G) (0, none, conc (endK K t c) M G) := by
  show Ev M_X6_endJob 0 [vR 7 0, vR 6 t, vI c, vU] [] (conc K M G) _
  have hl := end_loop M G t (K.2 0 1) 0 _ (Inv_idle (Inv_note h c t) t) (by show 0 + K.2 0 1 = K.2 0 1; omega)
  refine ev_aload_n dX6_endJob_0 rfl rfl ?_
  refine ev_iload_n dX6_endJob_1 rfl ?_
  refine ev_aload_n dX6_endJob_2 rfl rfl ?_
  refine evV3 dX6_endJob_3 cl_X6_endJob_149 ⟨rfl, rfl, fun _ => ⟨_, rfl⟩⟩ (Nat.le_of_ble_eq_true rfl) (e_note K M G c t h.next) ?_
  refine ev_aload_n dX6_endJob_6 rfl rfl ?_
  refine ev_getf dX6_endJob_7 fl_6_128 ?_
  refine evV1 dX6_endJob_10 cl_X6_endJob_244 ⟨rfl, rfl, fun _ => ⟨_, rfl⟩⟩ (Nat.le_of_ble_eq_true rfl) (e_end _ M G t) ?_
  refine ev_iconst (v := 0) dX6_endJob_13 rfl ?_
  refine ev_istore_n dX6_endJob_14 rfl ?_
  refine ev_forget (ls2 := [_, _, vU, _]) (Fg_to ⟨Or.inr ⟨rfl, rfl⟩, Or.inr ⟨rfl, rfl⟩, Or.inl rfl, Or.inr ⟨rfl, rfl⟩, trivial⟩) ?_
  exact hl
