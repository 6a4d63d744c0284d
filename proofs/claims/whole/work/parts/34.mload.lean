/-! load -/
theorem n64_of {r : UInt64} (h : r.toNat % 2 ^ 63 ≤ 9218868437227405312) : vf_n64 r := by
  unfold vf_n64
  rw [UInt64.le_iff_toNat_le, UInt64.toNat_and]
  rw [show (0x7fffffffffffffff : UInt64).toNat = 2 ^ 63 - 1 from rfl, Nat.and_two_pow_sub_one_eq_mod]
  exact h
theorem ldOk_all (K : KT) : ∀ (j i : Nat) (c : UInt64), i + j ≤ 8 → c.toNat % 2 ^ 63 < (1057 + 2 * i) * 2 ^ 52 → ldOk K j i c := by
  intro j
  induction j with
  | zero => intro i c _ _; trivial
  | succ j ih =>
    intro i c hi hc
    unfold ldOk
    by_cases hp : 0 < K.1 1 i
    · have hne : (K.1 1 i).toInt ≠ 0 := fun q => by
        have := Int32.lt_iff_toInt_lt.mp hp
        rw [q] at this
        exact absurd this (by decide)
      obtain ⟨b1, b2⟩ := FP.Core.i2d_big hne
      have hd : (FP.ddiv (FP.i2d (costV K i)) (FP.i2d (K.1 1 i))).toNat % 2 ^ 63 < (1056 + (1074 - 52 - 1) - 1023 + 3) * 2 ^ 52 := FP.Core.ddiv_mag (FP.Core.i2d_mag (costV K i)) b1 b2 (by omega) (by omega)
      generalize FP.ddiv (FP.i2d (costV K i)) (FP.i2d (K.1 1 i)) = q at hd
      have ha : (FP.dadd c q).toNat % 2 ^ 63 < (1057 + 2 * i + 2) * 2 ^ 52 := FP.Core.dadd_mag hc (Nat.lt_of_lt_of_le hd (Nat.mul_le_mul_right _ (by omega))) (by omega)
      rw [if_pos hp]
      generalize FP.dadd c q = w at ha
      refine ⟨fun _ => ⟨n64_of ?_, n64_of ?_⟩, ih (i + 1) w (by omega) (Nat.lt_of_lt_of_le ha (Nat.mul_le_mul_right _ (by omega)))⟩
      · exact Nat.le_trans (Nat.le_of_lt hd) (by decide)
      · exact Nat.le_trans (Nat.le_of_lt ha) (Nat.le_trans (Nat.mul_le_mul_right _ (show 1057 + 2 * i + 2 ≤ 1100 by omega)) (by decide))
    · rw [if_neg hp]
      exact ⟨fun q => absurd q hp, ih (i + 1) c (by omega) (Nat.lt_of_lt_of_le hc (Nat.mul_le_mul_right _ (by omega)))⟩
theorem ldOk_0 (K : KT) (hn : K.2 0 0 ≤ 8) : ldOk K (K.2 0 0) 0 FP.dconst0 := ldOk_all K _ 0 _ (by omega) (by decide)
theorem ml_loop (K M : KT) (G : GT) (h : Inv M) : ∀ (j i : Nat) (c : UInt64), i + j = M.2 0 0 → ldOk M j i c → Ev M_X7_load 9 [vR 8 0, vD c, vU2, vI (nI i)] [] (conc K M G) (0, some (vD (ldN M j i c)), conc K M G) := by
  have hn := h.1.1
  intro j
  induction j with
  | zero =>
    intro i c hi ho
    refine ev_iload_n dX7_load_9 rfl ?_
    refine ev_aload_n dX7_load_10 rfl rfl ?_
    refine ev_getf dX7_load_11 fl_7_112 ?_
    refine ev_icmp_ge (tgt := 53) dX7_load_14 rfl (fun c14 => ?_) (fun c14 => ?_)
    · refine ev_dload_n dX7_load_53 rfl ?_
      exact ev_dret dX7_load_54 rfl
    · exact absurd (nI_le (a := M.2 0 0) (b := i) (by omega) (by omega)) c14
  | succ j ih =>
    intro i c hi ho
    have e1 : nI i + Int32.ofInt 1 = nI (i + 1) := nI_1 i
    have hz := (h.2.2.1 i (by omega)).1
    obtain ⟨o1, o2⟩ := ho
    refine ev_iload_n dX7_load_9 rfl ?_
    refine ev_aload_n dX7_load_10 rfl rfl ?_
    refine ev_getf dX7_load_11 fl_7_112 ?_
    refine ev_icmp_ge (tgt := 53) dX7_load_14 rfl (fun c14 => ?_) (fun c14 => ?_)
    · exact absurd c14 (nI_ge (a := i) (b := M.2 0 0) (by omega) (by omega))
    · refine ev_aload_n dX7_load_17 rfl rfl ?_
      refine ev_getf dX7_load_18 fl_7_17 ?_
      refine ev_iload_n dX7_load_21 rfl ?_
      refine ev_iald dX7_load_22 rfl rfl (show _ < 8 from by omega) ?_
      refine ev_if_le (tgt := 45) dX7_load_23 rfl (fun c23 => ?_) (fun c23 => ?_)
      · refine ev_dload_n dX7_load_45 rfl ?_
        refine ev_dstore_n dX7_load_46 rfl (Nat.le_of_ble_eq_true rfl) ?_
        refine ev_iinc dX7_load_47 rfl ?_
        refine ev_goto (tgt := 9) dX7_load_50 rfl ?_
        rw [if_neg (Int32.not_lt.mpr c23)] at o2
        rw [show ldN M (j + 1) i c = ldN M j (i + 1) c by simp only [ldN]; rw [if_neg (Int32.not_lt.mpr c23)], e1]
        exact ih (i + 1) c (by omega) o2
      · refine ev_dload_n dX7_load_26 rfl ?_
        refine ev_aload_n dX7_load_27 rfl rfl ?_
        refine ev_iload_n dX7_load_28 rfl ?_
        refine evV2 dX7_load_29 cl_X7_load_195 ⟨rfl, rfl, fun _ => ⟨_, rfl⟩⟩ (Nat.le_of_ble_eq_true rfl) (m_cost K M G i (by omega) hz) ?_
        refine ev_i2d dX7_load_32 ?_
        refine ev_aload_n dX7_load_33 rfl rfl ?_
        refine ev_getf dX7_load_34 fl_7_17 ?_
        refine ev_iload_n dX7_load_37 rfl ?_
        refine ev_iald dX7_load_38 rfl rfl (show _ < 8 from by omega) ?_
        refine ev_i2d dX7_load_39 ?_
        refine ev_ddiv dX7_load_40 (o1 (Int32.not_le.mp c23)).1 ?_
        refine ev_dadd dX7_load_41 (o1 (Int32.not_le.mp c23)).2 ?_
        refine ev_goto (tgt := 46) dX7_load_42 rfl ?_
        refine ev_dstore_n dX7_load_46 rfl (Nat.le_of_ble_eq_true rfl) ?_
        refine ev_iinc dX7_load_47 rfl ?_
        refine ev_goto (tgt := 9) dX7_load_50 rfl ?_
        rw [if_pos (Int32.not_le.mp c23)] at o2
        rw [show ldN M (j + 1) i c = ldN M j (i + 1) (FP.dadd c (FP.ddiv (FP.i2d (costV M i)) (FP.i2d (M.1 1 i)))) by simp only [ldN]; rw [if_pos (Int32.not_le.mp c23)], e1]
        exact ih (i + 1) _ (by omega) o2
theorem m_load (K M : KT) (G : GT) (h : Inv (sI M 28 4 0)) : Ev M_X7_load 0 (ent M_X7_load [vR 8 0]) [] (conc K M G) (0, some (vD (ldN (sI M 28 4 0) (M.2 0 0) 0 FP.dconst0)), conc K (sI M 28 4 0) G) := by
  show Ev M_X7_load 0 [vR 8 0, vU, vU, vU] [] (conc K M G) _
  have hl := ml_loop K (sI M 28 4 0) G h (M.2 0 0) 0 FP.dconst0 (by show 0 + M.2 0 0 = M.2 0 0; omega) (ldOk_0 _ h.1.1)
  refine ev_aload_n dX7_load_0 rfl rfl ?_
  refine ev_iconst (v := 0) dX7_load_1 rfl ?_
  refine ev_putfS dX7_load_2 fl_7_109 rfl rfl (pu_mod_0 _ _ _ _) ?_
  refine ev_dconst dX7_load_5 ?_
  refine ev_dstore_n dX7_load_6 rfl (Nat.le_of_ble_eq_true rfl) ?_
  refine ev_iconst (v := 0) dX7_load_7 rfl ?_
  refine ev_istore_n dX7_load_8 rfl ?_
  exact hl
