/-! THE LAW -/
def lawQ (r : Res) : Prop := ∃ S : Sto, r = (0, some (vI 1), S) ∧ S.2 100 ≤ 5000 ∧ S.2 101 ≤ 50000
theorem law_loop (xs : Nat → Int32) (L : Nat) (hL : L ≤ 3073) : ∀ (j c : Nat) (K : KT) (G : GT), L ≤ 6 * (c + j) + 6 → c ≤ 600 → LI xs L c K G → ∃ r, lawQ r ∧ Ev M_L_law 33 (lawLs (1 + 6 * c)) [] (conc K K G) r := by
  have hsub : (nI L - 6).toInt = (L : Int) - 6 := pk_sub_toInt (a := L) (b := 6) (by omega) (by omega)
  intro j
  induction j with
  | zero =>
    intro c K G hj hc h
    obtain ⟨-, -, -, h6, h7, h8, h9⟩ := id h
    refine ⟨(0, some (vI 1), conc K K G), ⟨_, rfl, ?_, ?_⟩, ?_⟩
    · show G.2.2 1 ≤ 5000
      omega
    · show G.2.2 2 ≤ 50000
      omega
    · refine ev_iload dL_law_33 rfl ?_
      refine ev_aload_n dL_law_35 rfl rfl ?_
      refine ev_alen dL_law_36 rfl ?_
      refine ev_bipush (v := 6) dL_law_37 rfl ?_
      refine ev_isub dL_law_39 ?_
      refine ev_icmp_gt (tgt := 765) dL_law_40 rfl (fun c40 => ?_) (fun c40 => ?_)
      · refine ev_iconst (v := 1) dL_law_765 rfl ?_
        exact ev_iret dL_law_766 (Or.inr ⟨rfl, rfl⟩)
      · exact absurd (show nI (G.2.2 0) - 6 < nI (1 + 6 * c) from by rw [h7, Int32.lt_iff_toInt_lt, hsub, nI_toInt (by omega)]; omega) c40
  | succ j ih =>
    intro c K G hj hc h
    obtain ⟨-, -, -, h6, h7, h8, h9⟩ := id h
    by_cases hi : 1 + 6 * c + 6 ≤ L
    · have hcc : c ≤ 600 := hc
      have hg : ¬ nI (G.2.2 0) - 6 < nI (1 + 6 * c) := by
        rw [h7, Int32.lt_iff_toInt_lt, hsub, nI_toInt (by omega)]
        omega
      have e6 : nI (1 + 6 * c) + Int32.ofInt 6 = nI (1 + 6 * (c + 1)) := by
        rw [show Int32.ofInt 6 = nI 6 from rfl, nI_add]
        congr 1
      have hk : Cont xs L c (1 + 6 * c) lawQ := by
        intro K2 G2 h2
        obtain ⟨r, hq, hr⟩ := ih (c + 1) K2 G2 (by omega) (by omega) h2
        refine ⟨r, hq, ?_⟩
        refine ev_iinc dL_law_759 rfl ?_
        refine ev_goto (tgt := 33) dL_law_762 rfl ?_
        rw [e6]
        exact hr
      have h50 : ∃ r, lawQ r ∧ Ev M_L_law 50 (lawLs (1 + 6 * c)) [vI (G.2.1 (1 + 6 * c) &&& 15)] (conc K K G) r := by
        rcases swN 12 (by omega) (G.2.1 (1 + 6 * c) &&& 15) with ⟨k, hk12, ek⟩ | q
        · rw [ek]
          match k, hk12 with
          | 0, _ => obtain ⟨r, hq, hr⟩ := op_task xs L c _ K G lawQ hi h hk; exact ⟨r, hq, ev_tsIn (tgt := 116) dL_law_50 (by decide) (by decide) rfl rfl hr⟩
          | 1, _ => obtain ⟨r, hq, hr⟩ := op_strict xs L c _ K G lawQ hi h hk; exact ⟨r, hq, ev_tsIn (tgt := 220) dL_law_50 (by decide) (by decide) rfl rfl hr⟩
          | 2, _ => obtain ⟨r, hq, hr⟩ := op_mutex xs L c _ K G lawQ hi h hk; exact ⟨r, hq, ev_tsIn (tgt := 273) dL_law_50 (by decide) (by decide) rfl rfl hr⟩
          | 3, _ => obtain ⟨r, hq, hr⟩ := op_step xs L c _ K G lawQ hi h hk; exact ⟨r, hq, ev_tsIn (tgt := 341) dL_law_50 (by decide) (by decide) rfl rfl hr⟩
          | 4, _ => obtain ⟨r, hq, hr⟩ := op_start xs L c _ K G lawQ h hk; exact ⟨r, hq, ev_tsIn (tgt := 421) dL_law_50 (by decide) (by decide) rfl rfl hr⟩
          | 5, _ => obtain ⟨r, hq, hr⟩ := op_release xs L c _ K G lawQ hcc hi h hk; exact ⟨r, hq, ev_tsIn (tgt := 445) dL_law_50 (by decide) (by decide) rfl rfl hr⟩
          | 6, _ => obtain ⟨r, hq, hr⟩ := op_tick xs L c _ K G lawQ hcc hi h hk; exact ⟨r, hq, ev_tsIn (tgt := 470) dL_law_50 (by decide) (by decide) rfl rfl hr⟩
          | 7, _ => obtain ⟨r, hq, hr⟩ := op_seen xs L c _ K G lawQ hcc hi h hk; exact ⟨r, hq, ev_tsIn (tgt := 526) dL_law_50 (by decide) (by decide) rfl rfl hr⟩
          | 8, _ => obtain ⟨r, hq, hr⟩ := op_held xs L c _ K G lawQ hi h hk; exact ⟨r, hq, ev_tsIn (tgt := 563) dL_law_50 (by decide) (by decide) rfl rfl hr⟩
          | 9, _ => obtain ⟨r, hq, hr⟩ := op_event xs L c _ K G lawQ hcc hi h hk; exact ⟨r, hq, ev_tsIn (tgt := 600) dL_law_50 (by decide) (by decide) rfl rfl hr⟩
          | 10, _ => obtain ⟨r, hq, hr⟩ := op_response xs L c _ K G lawQ hi h hk; exact ⟨r, hq, ev_tsIn (tgt := 637) dL_law_50 (by decide) (by decide) rfl rfl hr⟩
          | 11, _ => obtain ⟨r, hq, hr⟩ := op_load xs L c _ K G lawQ h hk; exact ⟨r, hq, ev_tsIn (tgt := 693) dL_law_50 (by decide) (by decide) rfl rfl hr⟩
          | 12, _ => obtain ⟨r, hq, hr⟩ := op_look xs L c _ K G lawQ hi h hk; exact ⟨r, hq, ev_tsIn (tgt := 734) dL_law_50 (by decide) (by decide) rfl rfl hr⟩
          | k + 13, q => omega
        · obtain ⟨⟨T, X, f1, f2, f3⟩, g4, g5, g6, g7, g8, g9⟩ := id h
          have hLI : LI xs L (c + 1) K G := LI_new h ⟨T, X, f1, by omega, by omega⟩ g4 g5 rfl rfl (by omega) (by omega)
          obtain ⟨r, hq, hr⟩ := hk K G hLI
          exact ⟨r, hq, ev_tsOut (tgt := 759) dL_law_50 q rfl hr⟩
      obtain ⟨r, hq, hr⟩ := h50
      refine ⟨r, hq, ?_⟩
      refine ev_iload dL_law_33 rfl ?_
      refine ev_aload_n dL_law_35 rfl rfl ?_
      refine ev_alen dL_law_36 rfl ?_
      refine ev_bipush (v := 6) dL_law_37 rfl ?_
      refine ev_isub dL_law_39 ?_
      refine ev_icmp_gt (tgt := 765) dL_law_40 rfl (fun c40 => ?_) (fun c40 => ?_)
      · exact absurd c40 hg
      · refine ev_aload_n dL_law_43 rfl rfl ?_
        refine ev_iload dL_law_44 rfl ?_
        refine ev_iald dL_law_46 rfl rfl (show 1 + 6 * c < G.2.2 0 by omega) ?_
        refine ev_bipush (v := 15) dL_law_47 rfl ?_
        refine ev_iand dL_law_49 ?_
        exact hr
    · refine ⟨(0, some (vI 1), conc K K G), ⟨_, rfl, ?_, ?_⟩, ?_⟩
      · show G.2.2 1 ≤ 5000
        omega
      · show G.2.2 2 ≤ 50000
        omega
      · refine ev_iload dL_law_33 rfl ?_
        refine ev_aload_n dL_law_35 rfl rfl ?_
        refine ev_alen dL_law_36 rfl ?_
        refine ev_bipush (v := 6) dL_law_37 rfl ?_
        refine ev_isub dL_law_39 ?_
        refine ev_icmp_gt (tgt := 765) dL_law_40 rfl (fun c40 => ?_) (fun c40 => ?_)
        · refine ev_iconst (v := 1) dL_law_765 rfl ?_
          exact ev_iret dL_law_766 (Or.inr ⟨rfl, rfl⟩)
        · exact absurd (show nI (G.2.2 0) - 6 < nI (1 + 6 * c) from by rw [h7, Int32.lt_iff_toInt_lt, hsub, nI_toInt (by omega)]; omega) c40
theorem law_ev (xs : Nat → Int32) (L : Nat) (hL : L ≤ 3073) : ∃ r, lawQ r ∧ Ev M_L_law 0 (ent M_L_law [vR 18 0]) [] (S0 xs L) r := by
  generalize hx : (if 0 < L then xs 0 else 0) = x
  obtain ⟨r, hq, hr⟩ := law_loop xs L hL 600 0 (K0 (dlB x)) (G0 xs L) (by omega) (by omega) (LI_0 xs L (dlB x))
  refine ⟨r, hq, ?_⟩
  show Ev M_L_law 0 [vR 18 0, vU, vU, vU, vU, vU, vU, vU, vU] [] (S0 xs L) r
  have hc0 : ∀ S : Sto, S.2 102 = L → (0 < L → S.1 18 0 0 = vI (xs 0)) → Ev M_L_cell 0 (ent M_L_cell [vR 18 0, vI 0]) [] S (0, some (vI x), S) := by
    intro S h1 h2
    refine l_cell S x (fun q => ?_) (fun q => ?_) (by omega)
    · rw [h1] at q
      rw [h2 q, ← hx, if_pos q]
    · rw [h1] at q
      rw [← hx, if_neg q]
  have h30 : Ev M_L_law 30 [vR 18 0, vR 7 0, vR 8 0, vR 17 0, vU, vU, vU, vU, vU] [] (Sf xs L (dlB x)) r := by
    refine ev_eqv (Sf_eq xs L (dlB x)) ?_
    refine ev_iconst (v := 1) dL_law_30 rfl ?_
    refine ev_istore dL_law_31 rfl ?_
    exact hr
  refine ev_new dL_law_0 no_8_8 ?_
  refine ev_dup dL_law_3 rfl ?_
  refine ev_aload_n dL_law_4 rfl rfl ?_
  refine ev_iconst (v := 0) dL_law_5 rfl ?_
  refine evS2 dL_law_6 cl_L_law_35 ⟨rfl, rfl, fun h => nomatch h⟩ (Nat.le_of_ble_eq_true rfl) (hc0 _ rfl (fun _ => rfl)) ?_
  refine evI2 dL_law_9 cl_L_law_41 ⟨rfl, rfl, fun _ => ⟨_, rfl⟩⟩ (Nat.le_of_ble_eq_true rfl) (e_X6_init _ _ _) ?_
  refine ev_astore_n dL_law_12 rfl rfl ?_
  refine ev_new dL_law_13 no_8_44 ?_
  refine ev_dup dL_law_16 rfl ?_
  refine ev_aload_n dL_law_17 rfl rfl ?_
  refine ev_iconst (v := 0) dL_law_18 rfl ?_
  refine evS2 dL_law_19 cl_L_law_35 ⟨rfl, rfl, fun h => nomatch h⟩ (Nat.le_of_ble_eq_true rfl) (hc0 _ rfl (fun _ => rfl)) ?_
  refine evI2 dL_law_22 cl_L_law_46 ⟨rfl, rfl, fun _ => ⟨_, rfl⟩⟩ (Nat.le_of_ble_eq_true rfl) (e_X7_init _ _ _) ?_
  refine ev_astore_n dL_law_25 rfl rfl ?_
  refine ev_iconst (v := 1) dL_law_26 rfl ?_
  refine ev_newa (t := 17) dL_law_27 rfl (by decide) rfl ?_
  refine ev_astore_n dL_law_29 rfl rfl ?_
  exact h30
