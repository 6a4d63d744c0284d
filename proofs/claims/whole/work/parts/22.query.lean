/-! THE CLASS: what can be seen -/
theorem swN (n : Nat) (hn : n < 2 ^ 31) (w : Int32) : (∃ k : Nat, k ≤ n ∧ w = nI k) ∨ (w.toInt < 0 ∨ (n : Int) < w.toInt) := by
  by_cases h : w < 0
  · right; left
    exact Int32.lt_iff_toInt_lt.mp h
  · obtain ⟨k, hk, e⟩ := nI_of h
    by_cases h2 : k ≤ n
    · exact Or.inl ⟨k, h2, e⟩
    · right; right
      rw [e, nI_toInt hk]; omega
def seenN (K : KT) (t k : Nat) : Int32 := match k with
  | 0 => K.1 6 t
  | 1 => if K.1 6 t = 0 then -1 else nI (K.2 1 t)
  | 2 => if K.1 6 t = 0 then 0 else sgn K (VR K t)
  | 3 => K.1 15 t
  | 4 => K.1 16 t
  | 5 => K.1 17 t
  | 6 => K.1 18 t
  | 7 => K.1 19 t
  | 8 => K.1 20 t
  | _ => mi (K.2 3 t)
/-- what class and reference do to the ranks when the urgency is asked -/
def seenC (K : KT) (t k : Nat) : KT := if k = 2 ∧ ¬ K.1 6 t = 0 then weighK K else K
theorem e_urg (K M : KT) (G : GT) (t : Nat) (h : Inv K) : Ev M_X6_urgencyOf 0 (ent M_X6_urgencyOf [vR 7 0, vR 6 t]) [] (conc K M G) (0, some (vI (seenN K t 2)), conc (seenC K t 2) M G) := by
  show Ev M_X6_urgencyOf 0 [vR 7 0, vR 6 t] [] (conc K M G) _
  refine ev_aload_n dX6_urgencyOf_0 rfl rfl ?_
  refine ev_getf dX6_urgencyOf_1 fl_6_128 ?_
  refine ev_getf dX6_urgencyOf_4 fl_6_132 ?_
  refine ev_if_ne (tgt := 12) dX6_urgencyOf_7 rfl (fun c7 => ?_) (fun c7 => ?_)
  · rw [show seenN K t 2 = sgn K (VR K t) from if_neg c7, show seenC K t 2 = weighK K from if_pos ⟨rfl, c7⟩]
    refine ev_aload_n dX6_urgencyOf_12 rfl rfl ?_
    refine evV1 dX6_urgencyOf_13 cl_X6_urgencyOf_247 ⟨rfl, rfl, fun _ => ⟨_, rfl⟩⟩ (Nat.le_of_ble_eq_true rfl) (e_rankTasks K M G h.1.1 h.1.2.1 (conv h)) ?_
    refine ev_aload_n dX6_urgencyOf_16 rfl rfl ?_
    refine ev_getf dX6_urgencyOf_17 fl_6_28 ?_
    refine ev_if_eq (tgt := 34) dX6_urgencyOf_20 rfl (fun c20 => ?_) (fun c20 => ?_)
    · refine ev_aload_n dX6_urgencyOf_34 rfl rfl ?_
      refine ev_getf dX6_urgencyOf_35 fl_6_128 ?_
      refine ev_getf dX6_urgencyOf_38 fl_6_278 ?_
      rw [show sgn K (VR K t) = VR K t from if_pos c20]
      exact ev_iret dX6_urgencyOf_41 (Or.inl rfl)
    · refine ev_aload_n dX6_urgencyOf_23 rfl rfl ?_
      refine ev_getf dX6_urgencyOf_24 fl_6_128 ?_
      refine ev_getf dX6_urgencyOf_27 fl_6_278 ?_
      refine ev_ineg dX6_urgencyOf_30 ?_
      refine ev_goto (tgt := 41) dX6_urgencyOf_31 rfl ?_
      rw [show sgn K (VR K t) = -(VR K t) from if_neg c20]
      exact ev_iret dX6_urgencyOf_41 (Or.inl rfl)
  · rw [show seenN K t 2 = 0 from if_pos (Classical.not_not.mp c7), show seenC K t 2 = K from if_neg (fun q => c7 q.2)]
    refine ev_iconst (v := 0) dX6_urgencyOf_10 rfl ?_
    exact ev_iret dX6_urgencyOf_11 (Or.inl rfl)
theorem e_seen (K M : KT) (G : GT) (t k : Nat) (h : Inv K) (ht : t < K.2 0 0) (hk : k ≤ 9) : Ev M_X6_seen 0 (ent M_X6_seen [vR 7 0, vI (nI t), vI (nI k)]) [] (conc K M G) (0, some (vI (seenN K t k)), conc (seenC K t k) M G) := by
  show Ev M_X6_seen 0 [vR 7 0, vI (nI t), vI (nI k), vU] [] (conc K M G) _
  have hn := h.1.1
  have ok : isT (K.2 0 0) (nI t) := isT_of (by omega) ht
  refine ev_aload_n dX6_seen_0 rfl rfl ?_
  refine ev_iload_n dX6_seen_1 rfl ?_
  refine evV2 dX6_seen_2 cl_X6_seen_58 ⟨rfl, rfl, fun _ => ⟨_, rfl⟩⟩ (Nat.le_of_ble_eq_true rfl) (e_isTask K M G (nI t) hn) ?_
  refine ev_if_ne (tgt := 10) dX6_seen_5 rfl (fun c5 => ?_) (fun c5 => ?_)
  · refine ev_aload_n dX6_seen_10 rfl rfl ?_
    refine ev_getf dX6_seen_11 fl_6_11 ?_
    refine ev_iload_n dX6_seen_14 rfl ?_
    refine ev_aaldv dX6_seen_15 rfl rfl (show _ < 8 from by omega) (co_tasks ht) ?_
    refine ev_astore_n dX6_seen_16 rfl rfl ?_
    refine ev_iload_n dX6_seen_17 rfl ?_
    match k, hk with
    | 0, _ =>
      refine ev_tsIn (tgt := 72) dX6_seen_18 (by decide) (by decide) rfl rfl ?_
      rw [show seenC K t 0 = K from if_neg (fun q => nomatch q.1)]
      refine ev_aload_n dX6_seen_72 rfl rfl ?_
      refine ev_getf dX6_seen_73 fl_6_128 ?_
      refine ev_getf dX6_seen_76 fl_6_132 ?_
      exact ev_iret dX6_seen_79 (Or.inl rfl)
    | 1, _ =>
      refine ev_tsIn (tgt := 80) dX6_seen_18 (by decide) (by decide) rfl rfl ?_
      rw [show seenC K t 1 = K from if_neg (fun q => nomatch q.1)]
      refine ev_aload_n dX6_seen_80 rfl rfl ?_
      refine ev_getf dX6_seen_81 fl_6_128 ?_
      refine ev_getf dX6_seen_84 fl_6_132 ?_
      refine ev_if_ne (tgt := 94) dX6_seen_87 rfl (fun c87 => ?_) (fun c87 => ?_)
      · refine ev_aload_n dX6_seen_94 rfl rfl ?_
        refine ev_getf dX6_seen_95 fl_6_128 ?_
        refine ev_getf dX6_seen_98 fl_6_204 ?_
        rw [show seenN K t 1 = nI (K.2 1 t) from if_neg c87]
        exact ev_iret dX6_seen_101 (Or.inl rfl)
      · refine ev_iconst (v := (-1)) dX6_seen_90 rfl ?_
        refine ev_goto (tgt := 101) dX6_seen_91 rfl ?_
        rw [show seenN K t 1 = -1 from if_pos (Classical.not_not.mp c87)]
        exact ev_iret dX6_seen_101 (Or.inl rfl)
    | 2, _ =>
      refine ev_tsIn (tgt := 102) dX6_seen_18 (by decide) (by decide) rfl rfl ?_
      refine ev_aload_n dX6_seen_102 rfl rfl ?_
      refine ev_aload_n dX6_seen_103 rfl rfl ?_
      refine evV2 dX6_seen_104 cl_X6_seen_290 ⟨rfl, rfl, fun _ => ⟨_, rfl⟩⟩ (Nat.le_of_ble_eq_true rfl) (e_urg K M G t h) ?_
      exact ev_iret dX6_seen_107 (Or.inl rfl)
    | 3, _ =>
      refine ev_tsIn (tgt := 108) dX6_seen_18 (by decide) (by decide) rfl rfl ?_
      rw [show seenC K t 3 = K from if_neg (fun q => nomatch q.1)]
      refine ev_aload_n dX6_seen_108 rfl rfl ?_
      refine ev_getf dX6_seen_109 fl_6_140 ?_
      refine ev_getf dX6_seen_112 fl_6_294 ?_
      exact ev_iret dX6_seen_115 (Or.inl rfl)
    | 4, _ =>
      refine ev_tsIn (tgt := 116) dX6_seen_18 (by decide) (by decide) rfl rfl ?_
      rw [show seenC K t 4 = K from if_neg (fun q => nomatch q.1)]
      refine ev_aload_n dX6_seen_116 rfl rfl ?_
      refine ev_getf dX6_seen_117 fl_6_140 ?_
      refine ev_getf dX6_seen_120 fl_6_153 ?_
      exact ev_iret dX6_seen_123 (Or.inl rfl)
    | 5, _ =>
      refine ev_tsIn (tgt := 124) dX6_seen_18 (by decide) (by decide) rfl rfl ?_
      rw [show seenC K t 5 = K from if_neg (fun q => nomatch q.1)]
      refine ev_aload_n dX6_seen_124 rfl rfl ?_
      refine ev_getf dX6_seen_125 fl_6_140 ?_
      refine ev_getf dX6_seen_128 fl_6_144 ?_
      exact ev_iret dX6_seen_131 (Or.inl rfl)
    | 6, _ =>
      refine ev_tsIn (tgt := 132) dX6_seen_18 (by decide) (by decide) rfl rfl ?_
      rw [show seenC K t 6 = K from if_neg (fun q => nomatch q.1)]
      refine ev_aload_n dX6_seen_132 rfl rfl ?_
      refine ev_getf dX6_seen_133 fl_6_140 ?_
      refine ev_getf dX6_seen_136 fl_6_163 ?_
      exact ev_iret dX6_seen_139 (Or.inl rfl)
    | 7, _ =>
      refine ev_tsIn (tgt := 140) dX6_seen_18 (by decide) (by decide) rfl rfl ?_
      rw [show seenC K t 7 = K from if_neg (fun q => nomatch q.1)]
      refine ev_aload_n dX6_seen_140 rfl rfl ?_
      refine ev_getf dX6_seen_141 fl_6_140 ?_
      refine ev_getf dX6_seen_144 fl_6_196 ?_
      exact ev_iret dX6_seen_147 (Or.inl rfl)
    | 8, _ =>
      refine ev_tsIn (tgt := 148) dX6_seen_18 (by decide) (by decide) rfl rfl ?_
      rw [show seenC K t 8 = K from if_neg (fun q => nomatch q.1)]
      refine ev_aload_n dX6_seen_148 rfl rfl ?_
      refine ev_getf dX6_seen_149 fl_6_140 ?_
      refine ev_getf dX6_seen_152 fl_6_297 ?_
      exact ev_iret dX6_seen_155 (Or.inl rfl)
    | 9, _ =>
      refine ev_tsIn (tgt := 156) dX6_seen_18 (by decide) (by decide) rfl rfl ?_
      rw [show seenC K t 9 = K from if_neg (fun q => nomatch q.1)]
      rcases hw : K.2 3 t with _ | m
      · rw [show seenN K t 9 = -1 by show mi (K.2 3 t) = _; rw [hw]; rfl]
        refine ev_aload_n dX6_seen_156 rfl rfl ?_
        refine ev_getf dX6_seen_157 fl_6_128 ?_
        refine ev_getfv dX6_seen_160 fl_6_257 (co_wait hw) ?_
        refine ev_ifnonnull (tgt := 170) dX6_seen_163 rfl rfl (fun c163 => ?_) (fun c163 => ?_)
        · exact absurd rfl c163
        · refine ev_iconst (v := (-1)) dX6_seen_166 rfl ?_
          refine ev_goto (tgt := 180) dX6_seen_167 rfl ?_
          exact ev_iret dX6_seen_180 (Or.inl rfl)
      · rw [show seenN K t 9 = nI m by show mi (K.2 3 t) = _; rw [hw]; rfl]
        refine ev_aload_n dX6_seen_156 rfl rfl ?_
        refine ev_getf dX6_seen_157 fl_6_128 ?_
        refine ev_getfv dX6_seen_160 fl_6_257 (co_wait hw) ?_
        refine ev_ifnonnull (tgt := 170) dX6_seen_163 rfl rfl (fun c163 => ?_) (fun c163 => ?_)
        · refine ev_aload_n dX6_seen_170 rfl rfl ?_
          refine ev_getf dX6_seen_171 fl_6_128 ?_
          refine ev_getfv dX6_seen_174 fl_6_257 (co_wait hw) ?_
          refine ev_getf dX6_seen_177 fl_6_300 ?_
          exact ev_iret dX6_seen_180 (Or.inl rfl)
        · exact nomatch c163
    | k + 10, h => omega
  · exact absurd ok (bI_0.mp (Classical.not_not.mp c5))
theorem e_seenN (K M : KT) (G : GT) (x : Int32) (w : Int32) (hn : K.2 0 0 ≤ 8) (hx : ¬ isT (K.2 0 0) x ∨ (w.toInt < 0 ∨ 9 < w.toInt)) : Ev M_X6_seen 0 (ent M_X6_seen [vR 7 0, vI x, vI w]) [] (conc K M G) (0, some (vI (-1)), conc K M G) := by
  show Ev M_X6_seen 0 [vR 7 0, vI x, vI w, vU] [] (conc K M G) _
  by_cases ok : isT (K.2 0 0) x
  · obtain ⟨t, ht, e⟩ := isT_ex (by omega) ok
    subst e
    refine ev_aload_n dX6_seen_0 rfl rfl ?_
    refine ev_iload_n dX6_seen_1 rfl ?_
    refine evV2 dX6_seen_2 cl_X6_seen_58 ⟨rfl, rfl, fun _ => ⟨_, rfl⟩⟩ (Nat.le_of_ble_eq_true rfl) (e_isTask K M G (nI t) hn) ?_
    refine ev_if_ne (tgt := 10) dX6_seen_5 rfl (fun c5 => ?_) (fun c5 => ?_)
    · refine ev_aload_n dX6_seen_10 rfl rfl ?_
      refine ev_getf dX6_seen_11 fl_6_11 ?_
      refine ev_iload_n dX6_seen_14 rfl ?_
      refine ev_aaldv dX6_seen_15 rfl rfl (show _ < 8 from by omega) (co_tasks ht) ?_
      refine ev_astore_n dX6_seen_16 rfl rfl ?_
      refine ev_iload_n dX6_seen_17 rfl ?_
      refine ev_tsOut (tgt := 181) dX6_seen_18 (hx.resolve_left (fun q => q ok)) rfl ?_
      refine ev_iconst (v := (-1)) dX6_seen_181 rfl ?_
      exact ev_iret dX6_seen_182 (Or.inl rfl)
    · exact absurd ok (bI_0.mp (Classical.not_not.mp c5))
  · refine ev_aload_n dX6_seen_0 rfl rfl ?_
    refine ev_iload_n dX6_seen_1 rfl ?_
    refine evV2 dX6_seen_2 cl_X6_seen_58 ⟨rfl, rfl, fun _ => ⟨_, rfl⟩⟩ (Nat.le_of_ble_eq_true rfl) (e_isTask K M G x hn) ?_
    refine ev_if_ne (tgt := 10) dX6_seen_5 rfl (fun c5 => ?_) (fun c5 => ?_)
    · exact absurd (bI_f ok) c5
    · refine ev_iconst (v := (-1)) dX6_seen_8 rfl ?_
      exact ev_iret dX6_seen_9 (Or.inl rfl)
/-! mutexes -/
def cntB (K : KT) (m : Nat) : Nat → Nat → Nat → Nat
  | 0, _, c => c
  | j + 1, t, c => cntB K m j (t + 1) (if K.2 3 t = m + 1 then c + 1 else c)
theorem cnt_loop (K M : KT) (G : GT) (m : Nat) (hn : K.2 0 0 ≤ 8) : ∀ (j i c : Nat), i + j = K.2 0 0 → Ev M_X6_countBlockedAt 4 [vR 7 0, vR 4 m, vI (nI c), vI (nI i)] [] (conc K M G) (0, some (vI (nI (cntB K m j i c))), conc K M G) := by
  have hq : ∀ w : Nat, (rfq 4 w = vR 4 m) ↔ w = m + 1 := by
    intro w
    rcases w with _ | d
    · exact ⟨(fun h => nomatch h), fun h => by omega⟩
    · exact ⟨fun h => by cases h; rfl, fun h => by rw [Nat.succ.inj h]; rfl⟩
  intro j
  induction j with
  | zero =>
    intro i c hi
    refine ev_iload_n dX6_countBlockedAt_4 rfl ?_
    refine ev_aload_n dX6_countBlockedAt_5 rfl rfl ?_
    refine ev_getf dX6_countBlockedAt_6 fl_6_46 ?_
    refine ev_icmp_ge (tgt := 37) dX6_countBlockedAt_9 rfl (fun c9 => ?_) (fun c9 => ?_)
    · refine ev_iload_n dX6_countBlockedAt_37 rfl ?_
      exact ev_iret dX6_countBlockedAt_38 (Or.inl rfl)
    · exact absurd (nI_le (a := K.2 0 0) (b := i) (by omega) (by omega)) c9
  | succ j ih =>
    intro i c hi
    have e1 : nI i + Int32.ofInt 1 = nI (i + 1) := nI_1 i
    have e2 : nI c + Int32.ofInt 1 = nI (c + 1) := nI_1 c
    refine ev_iload_n dX6_countBlockedAt_4 rfl ?_
    refine ev_aload_n dX6_countBlockedAt_5 rfl rfl ?_
    refine ev_getf dX6_countBlockedAt_6 fl_6_46 ?_
    refine ev_icmp_ge (tgt := 37) dX6_countBlockedAt_9 rfl (fun c9 => ?_) (fun c9 => ?_)
    · exact absurd c9 (nI_ge (a := i) (b := K.2 0 0) (by omega) (by omega))
    · refine ev_aload_n dX6_countBlockedAt_12 rfl rfl ?_
      refine ev_getf dX6_countBlockedAt_13 fl_6_11 ?_
      refine ev_iload_n dX6_countBlockedAt_16 rfl ?_
      refine ev_aaldv dX6_countBlockedAt_17 rfl rfl (show _ < 8 from by omega) (co_tasks (by omega)) ?_
      refine ev_getf dX6_countBlockedAt_18 fl_6_128 ?_
      refine ev_getfv dX6_countBlockedAt_21 fl_6_257 (co_wait rfl) ?_
      refine ev_aload_n dX6_countBlockedAt_24 rfl rfl ?_
      refine ev_acmp_ne (tgt := 31) dX6_countBlockedAt_25 rfl (isRa_rfq _ _ rfl) rfl (fun c25 => ?_) (fun c25 => ?_)
      · refine ev_iinc dX6_countBlockedAt_31 rfl ?_
        refine ev_goto (tgt := 4) dX6_countBlockedAt_34 rfl ?_
        simp only [cntB]
        rw [if_neg (fun q => c25 ((hq _).mpr q)), e1]
        exact ih (i + 1) c (by omega)
      · refine ev_iinc dX6_countBlockedAt_28 rfl ?_
        refine ev_iinc dX6_countBlockedAt_31 rfl ?_
        refine ev_goto (tgt := 4) dX6_countBlockedAt_34 rfl ?_
        simp only [cntB]
        rw [if_pos ((hq _).mp c25), e1, e2]
        exact ih (i + 1) (c + 1) (by omega)
theorem e_cnt (K M : KT) (G : GT) (m : Nat) (hn : K.2 0 0 ≤ 8) : Ev M_X6_countBlockedAt 0 (ent M_X6_countBlockedAt [vR 7 0, vR 4 m]) [] (conc K M G) (0, some (vI (nI (cntB K m (K.2 0 0) 0 0))), conc K M G) := by
  show Ev M_X6_countBlockedAt 0 [vR 7 0, vR 4 m, vU, vU] [] (conc K M G) _
  have hl := cnt_loop K M G m hn (K.2 0 0) 0 0 (by omega)
  refine ev_iconst (v := 0) dX6_countBlockedAt_0 rfl ?_
  refine ev_istore_n dX6_countBlockedAt_1 rfl ?_
  refine ev_iconst (v := 0) dX6_countBlockedAt_2 rfl ?_
  refine ev_istore_n dX6_countBlockedAt_3 rfl ?_
  exact hl
/-! the reckoning: locks, sections, costs -/
def hasL (K : KT) (t : Nat) (x : Int32) : Nat → Nat → Bool
  | 0, _ => false
  | j + 1, k => (decide (K.1 26 (10 * t + k) = 1) && decide (K.1 27 (10 * t + k) = x)) || hasL K t x j (k + 1)
theorem has_loop (K M : KT) (G : GT) (t : Nat) (x : Int32) (hz : K.2 2 t ≤ 10) : ∀ (j i : Nat), i + j = K.2 2 t → Ev M_X0_hasLockOf 2 [vR 1 t, vI x, vI (nI i)] [] (conc K M G) (0, some (vI (bI (hasL K t x j i = true))), conc K M G) := by
  intro j
  induction j with
  | zero =>
    intro i hi
    refine ev_iload_n dX0_hasLockOf_2 rfl ?_
    refine ev_aload_n dX0_hasLockOf_3 rfl rfl ?_
    refine ev_getf dX0_hasLockOf_4 fl_0_18 ?_
    refine ev_icmp_ge (tgt := 38) dX0_hasLockOf_7 rfl (fun c7 => ?_) (fun c7 => ?_)
    · refine ev_iconst (v := 0) dX0_hasLockOf_38 rfl ?_
      exact ev_iret dX0_hasLockOf_39 (Or.inr ⟨rfl, rfl⟩)
    · exact absurd (nI_le (a := K.2 2 t) (b := i) (by omega) (by omega)) c7
  | succ j ih =>
    intro i hi
    have e1 : nI i + Int32.ofInt 1 = nI (i + 1) := nI_1 i
    refine ev_iload_n dX0_hasLockOf_2 rfl ?_
    refine ev_aload_n dX0_hasLockOf_3 rfl rfl ?_
    refine ev_getf dX0_hasLockOf_4 fl_0_18 ?_
    refine ev_icmp_ge (tgt := 38) dX0_hasLockOf_7 rfl (fun c7 => ?_) (fun c7 => ?_)
    · exact absurd c7 (nI_ge (a := i) (b := K.2 2 t) (by omega) (by omega))
    · refine ev_aload_n dX0_hasLockOf_10 rfl rfl ?_
      refine ev_getf dX0_hasLockOf_11 fl_0_9 ?_
      refine ev_iload_n dX0_hasLockOf_14 rfl ?_
      refine ev_ialdv dX0_hasLockOf_15 rfl rfl (show _ < 10 from by omega) (co_bk (by omega)) ?_
      refine ev_iconst (v := 1) dX0_hasLockOf_16 rfl ?_
      refine ev_icmp_ne (tgt := 32) dX0_hasLockOf_17 rfl (fun c17 => ?_) (fun c17 => ?_)
      · refine ev_iinc dX0_hasLockOf_32 rfl ?_
        refine ev_goto (tgt := 2) dX0_hasLockOf_35 rfl ?_
        rw [show hasL K t x (j + 1) i = hasL K t x j (i + 1) by simp [hasL, c17], e1]
        exact ih (i + 1) (by omega)
      · refine ev_aload_n dX0_hasLockOf_20 rfl rfl ?_
        refine ev_getf dX0_hasLockOf_21 fl_0_15 ?_
        refine ev_iload_n dX0_hasLockOf_24 rfl ?_
        refine ev_ialdv dX0_hasLockOf_25 rfl rfl (show _ < 10 from by omega) (co_ba (by omega)) ?_
        refine ev_iload_n dX0_hasLockOf_26 rfl ?_
        refine ev_icmp_ne (tgt := 32) dX0_hasLockOf_27 rfl (fun c27 => ?_) (fun c27 => ?_)
        · refine ev_iinc dX0_hasLockOf_32 rfl ?_
          refine ev_goto (tgt := 2) dX0_hasLockOf_35 rfl ?_
          rw [show hasL K t x (j + 1) i = hasL K t x j (i + 1) by simp [hasL, c27], e1]
          exact ih (i + 1) (by omega)
        · refine ev_iconst (v := 1) dX0_hasLockOf_30 rfl ?_
          rw [bI_t (p := hasL K t x (j + 1) i = true) (by simp [hasL, Classical.not_not.mp c17, Classical.not_not.mp c27])]
          exact ev_iret dX0_hasLockOf_31 (Or.inr ⟨rfl, rfl⟩)
theorem e_has (K M : KT) (G : GT) (t : Nat) (x : Int32) (hz : K.2 2 t ≤ 10) : Ev M_X0_hasLockOf 0 (ent M_X0_hasLockOf [vR 1 t, vI x]) [] (conc K M G) (0, some (vI (bI (hasL K t x (K.2 2 t) 0 = true))), conc K M G) := by
  show Ev M_X0_hasLockOf 0 [vR 1 t, vI x, vU] [] (conc K M G) _
  have hl := has_loop K M G t x hz (K.2 2 t) 0 (by omega)
  refine ev_iconst (v := 0) dX0_hasLockOf_0 rfl ?_
  refine ev_istore_n dX0_hasLockOf_1 rfl ?_
  exact hl
def mxI (a b : Int32) : Int32 := if a < b then b else a
def ceilN (K : KT) (x : Int32) : Nat → Nat → Int32 → Int32
  | 0, _, c => c
  | j + 1, t, c => ceilN K x j (t + 1) (if hasL K t x (K.2 2 t) 0 = true then mxI c (K.1 0 t) else c)
def ceilV (K : KT) (x : Int32) : Int32 := ceilN K x (K.2 0 0) 0 0
theorem ceil_loop (K M : KT) (G : GT) (x : Int32) (h : Inv K) : ∀ (j i : Nat) (c : Int32), i + j = K.2 0 0 → Ev M_X6_ceilOf 4 [vR 7 0, vI x, vI c, vI (nI i)] [] (conc K M G) (0, some (vI (ceilN K x j i c)), conc K M G) := by
  have hn := h.1.1
  intro j
  induction j with
  | zero =>
    intro i c hi
    refine ev_iload_n dX6_ceilOf_4 rfl ?_
    refine ev_aload_n dX6_ceilOf_5 rfl rfl ?_
    refine ev_getf dX6_ceilOf_6 fl_6_46 ?_
    refine ev_icmp_ge (tgt := 48) dX6_ceilOf_9 rfl (fun c9 => ?_) (fun c9 => ?_)
    · refine ev_iload_n dX6_ceilOf_48 rfl ?_
      exact ev_iret dX6_ceilOf_49 (Or.inl rfl)
    · exact absurd (nI_le (a := K.2 0 0) (b := i) (by omega) (by omega)) c9
  | succ j ih =>
    intro i c hi
    have e1 : nI i + Int32.ofInt 1 = nI (i + 1) := nI_1 i
    refine ev_iload_n dX6_ceilOf_4 rfl ?_
    refine ev_aload_n dX6_ceilOf_5 rfl rfl ?_
    refine ev_getf dX6_ceilOf_6 fl_6_46 ?_
    refine ev_icmp_ge (tgt := 48) dX6_ceilOf_9 rfl (fun c9 => ?_) (fun c9 => ?_)
    · exact absurd c9 (nI_ge (a := i) (b := K.2 0 0) (by omega) (by omega))
    · refine ev_aload_n dX6_ceilOf_12 rfl rfl ?_
      refine ev_getf dX6_ceilOf_13 fl_6_11 ?_
      refine ev_iload_n dX6_ceilOf_16 rfl ?_
      refine ev_aaldv dX6_ceilOf_17 rfl rfl (show _ < 8 from by omega) (co_tasks (by omega)) ?_
      refine ev_getf dX6_ceilOf_18 fl_6_81 ?_
      refine ev_iload_n dX6_ceilOf_21 rfl ?_
      refine evV2 dX6_ceilOf_22 cl_X6_ceilOf_339 ⟨rfl, rfl, fun _ => ⟨_, rfl⟩⟩ (Nat.le_of_ble_eq_true rfl) (e_has K M G i x (h.2.2.1 i (by omega)).1) ?_
      refine ev_if_eq (tgt := 42) dX6_ceilOf_25 rfl (fun c25 => ?_) (fun c25 => ?_)
      · refine ev_iinc dX6_ceilOf_42 rfl ?_
        refine ev_goto (tgt := 4) dX6_ceilOf_45 rfl ?_
        simp only [ceilN]
        rw [if_neg (bI_0.mp c25), e1]
        exact ih (i + 1) c (by omega)
      · refine ev_iload_n dX6_ceilOf_28 rfl ?_
        refine ev_aload_n dX6_ceilOf_29 rfl rfl ?_
        refine ev_getf dX6_ceilOf_30 fl_6_11 ?_
        refine ev_iload_n dX6_ceilOf_33 rfl ?_
        refine ev_aaldv dX6_ceilOf_34 rfl rfl (show _ < 8 from by omega) (co_tasks (by omega)) ?_
        refine ev_getf dX6_ceilOf_35 fl_6_238 ?_
        refine ev_mmax dX6_ceilOf_38 ml_6_331 (Nat.le_of_ble_eq_true rfl) rfl ?_
        refine ev_istore_n dX6_ceilOf_41 rfl ?_
        refine ev_iinc dX6_ceilOf_42 rfl ?_
        refine ev_goto (tgt := 4) dX6_ceilOf_45 rfl ?_
        simp only [ceilN]
        rw [if_pos (Classical.not_not.mp (fun q => c25 (bI_f q))), e1]
        exact ih (i + 1) _ (by omega)
theorem e_ceil (K M : KT) (G : GT) (x : Int32) (h : Inv K) : Ev M_X6_ceilOf 0 (ent M_X6_ceilOf [vR 7 0, vI x]) [] (conc K M G) (0, some (vI (ceilV K x)), conc K M G) := by
  show Ev M_X6_ceilOf 0 [vR 7 0, vI x, vU, vU] [] (conc K M G) _
  have hl := ceil_loop K M G x h (K.2 0 0) 0 0 (by omega)
  refine ev_iconst (v := 0) dX6_ceilOf_0 rfl ?_
  refine ev_istore_n dX6_ceilOf_1 rfl ?_
  refine ev_iconst (v := 0) dX6_ceilOf_2 rfl ?_
  refine ev_istore_n dX6_ceilOf_3 rfl ?_
  exact hl
def heldN (K : KT) (m k : Nat) : Int32 := match k with
  | 0 => mi (K.2 4 m)
  | 1 => nI (cntB K m (K.2 0 0) 0 0)
  | _ => ceilV K (nI m)
theorem e_held (K M : KT) (G : GT) (m k : Nat) (h : Inv K) (hm : m < K.2 0 1) (hk : k ≤ 2) : Ev M_X6_held 0 (ent M_X6_held [vR 7 0, vI (nI m), vI (nI k)]) [] (conc K M G) (0, some (vI (heldN K m k)), conc K M G) := by
  show Ev M_X6_held 0 [vR 7 0, vI (nI m), vI (nI k), vU] [] (conc K M G) _
  have hn := h.1.2.1
  have ok : isT (K.2 0 1) (nI m) := isT_of (by omega) hm
  refine ev_aload_n dX6_held_0 rfl rfl ?_
  refine ev_iload_n dX6_held_1 rfl ?_
  refine evV2 dX6_held_2 cl_X6_held_98 ⟨rfl, rfl, fun _ => ⟨_, rfl⟩⟩ (Nat.le_of_ble_eq_true rfl) (e_isMutex K M G (nI m) (by omega)) ?_
  refine ev_if_ne (tgt := 10) dX6_held_5 rfl (fun c5 => ?_) (fun c5 => ?_)
  · refine ev_aload_n dX6_held_10 rfl rfl ?_
    refine ev_getf dX6_held_11 fl_6_17 ?_
    refine ev_iload_n dX6_held_14 rfl ?_
    refine ev_aaldv dX6_held_15 rfl rfl (show _ < 4 from by omega) (co_muts hm) ?_
    refine ev_astore_n dX6_held_16 rfl rfl ?_
    refine ev_iload_n dX6_held_17 rfl ?_
    match k, hk with
    | 0, _ =>
      refine ev_tsIn (tgt := 44) dX6_held_18 (by decide) (by decide) rfl rfl ?_
      rcases ho : K.2 4 m with _ | t
      · rw [show heldN K m 0 = -1 by show mi (K.2 4 m) = _; rw [ho]; rfl]
        refine ev_aload_n dX6_held_44 rfl rfl ?_
        refine ev_getfv dX6_held_45 fl_6_221 (co_own ho) ?_
        refine ev_ifnonnull (tgt := 55) dX6_held_48 rfl rfl (fun c48 => ?_) (fun c48 => ?_)
        · exact absurd rfl c48
        · refine ev_iconst (v := (-1)) dX6_held_51 rfl ?_
          refine ev_goto (tgt := 62) dX6_held_52 rfl ?_
          exact ev_iret dX6_held_62 (Or.inl rfl)
      · rw [show heldN K m 0 = nI t by show mi (K.2 4 m) = _; rw [ho]; rfl]
        refine ev_aload_n dX6_held_44 rfl rfl ?_
        refine ev_getfv dX6_held_45 fl_6_221 (co_own ho) ?_
        refine ev_ifnonnull (tgt := 55) dX6_held_48 rfl rfl (fun c48 => ?_) (fun c48 => ?_)
        · refine ev_aload_n dX6_held_55 rfl rfl ?_
          refine ev_getfv dX6_held_56 fl_6_221 (co_own ho) ?_
          refine ev_getf dX6_held_59 fl_6_268 ?_
          exact ev_iret dX6_held_62 (Or.inl rfl)
        · exact nomatch c48
    | 1, _ =>
      refine ev_tsIn (tgt := 63) dX6_held_18 (by decide) (by decide) rfl rfl ?_
      refine ev_aload_n dX6_held_63 rfl rfl ?_
      refine ev_aload_n dX6_held_64 rfl rfl ?_
      refine evV2 dX6_held_65 cl_X6_held_301 ⟨rfl, rfl, fun _ => ⟨_, rfl⟩⟩ (Nat.le_of_ble_eq_true rfl) (e_cnt K M G m h.1.1) ?_
      exact ev_iret dX6_held_68 (Or.inl rfl)
    | 2, _ =>
      refine ev_tsIn (tgt := 69) dX6_held_18 (by decide) (by decide) rfl rfl ?_
      refine ev_aload_n dX6_held_69 rfl rfl ?_
      refine ev_iload_n dX6_held_70 rfl ?_
      refine evV2 dX6_held_71 cl_X6_held_305 ⟨rfl, rfl, fun _ => ⟨_, rfl⟩⟩ (Nat.le_of_ble_eq_true rfl) (e_ceil K M G (nI m) h) ?_
      exact ev_iret dX6_held_74 (Or.inl rfl)
    | k + 3, h => omega
  · exact absurd ok (bI_0.mp (Classical.not_not.mp c5))
theorem e_heldN (K M : KT) (G : GT) (x : Int32) (w : Int32) (hn : K.2 0 1 ≤ 4) (hx : ¬ isT (K.2 0 1) x ∨ (w.toInt < 0 ∨ 2 < w.toInt)) : Ev M_X6_held 0 (ent M_X6_held [vR 7 0, vI x, vI w]) [] (conc K M G) (0, some (vI (-1)), conc K M G) := by
  show Ev M_X6_held 0 [vR 7 0, vI x, vI w, vU] [] (conc K M G) _
  by_cases ok : isT (K.2 0 1) x
  · obtain ⟨t, ht, e⟩ := isT_ex (by omega) ok
    subst e
    refine ev_aload_n dX6_held_0 rfl rfl ?_
    refine ev_iload_n dX6_held_1 rfl ?_
    refine evV2 dX6_held_2 cl_X6_held_98 ⟨rfl, rfl, fun _ => ⟨_, rfl⟩⟩ (Nat.le_of_ble_eq_true rfl) (e_isMutex K M G (nI t) (by omega)) ?_
    refine ev_if_ne (tgt := 10) dX6_held_5 rfl (fun c5 => ?_) (fun c5 => ?_)
    · refine ev_aload_n dX6_held_10 rfl rfl ?_
      refine ev_getf dX6_held_11 fl_6_17 ?_
      refine ev_iload_n dX6_held_14 rfl ?_
      refine ev_aaldv dX6_held_15 rfl rfl (show _ < 4 from by omega) (co_muts ht) ?_
      refine ev_astore_n dX6_held_16 rfl rfl ?_
      refine ev_iload_n dX6_held_17 rfl ?_
      refine ev_tsOut (tgt := 75) dX6_held_18 (hx.resolve_left (fun q => q ok)) rfl ?_
      refine ev_iconst (v := (-1)) dX6_held_75 rfl ?_
      exact ev_iret dX6_held_76 (Or.inl rfl)
    · exact absurd ok (bI_0.mp (Classical.not_not.mp c5))
  · refine ev_aload_n dX6_held_0 rfl rfl ?_
    refine ev_iload_n dX6_held_1 rfl ?_
    refine evV2 dX6_held_2 cl_X6_held_98 ⟨rfl, rfl, fun _ => ⟨_, rfl⟩⟩ (Nat.le_of_ble_eq_true rfl) (e_isMutex K M G x (by omega)) ?_
    refine ev_if_ne (tgt := 10) dX6_held_5 rfl (fun c5 => ?_) (fun c5 => ?_)
    · exact absurd (bI_f ok) c5
    · refine ev_iconst (v := (-1)) dX6_held_8 rfl ?_
      exact ev_iret dX6_held_9 (Or.inl rfl)
