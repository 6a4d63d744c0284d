/-! THE REFERENCE: response and load -/
theorem cost_nat {K : KT} (h : Inv K) {t : Nat} (ht : t < K.2 0 0) : ∀ (j k c : Nat), k + j = K.2 2 t → ∃ s, s ≤ 20 * j ∧ costN K t j k (nI c) = nI (c + s) := by
  intro j
  induction j with
  | zero => intro k c _; exact ⟨0, by omega, rfl⟩
  | succ j ih =>
    intro k c hk
    simp only [costN]
    rcases h.2.2.2 t k ht (by omega) with ⟨k0, a, a1, a2, ea⟩ | ⟨k12, -⟩
    · rw [if_pos k0, ea, nI_add]
      obtain ⟨s, hs, e⟩ := ih (k + 1) (c + a) (by omega)
      exact ⟨a + s, by omega, by rw [e, Nat.add_assoc]⟩
    · rw [if_neg (by rcases k12 with q | q <;> rw [q] <;> decide)]
      obtain ⟨s, hs, e⟩ := ih (k + 1) c (by omega)
      exact ⟨s, by omega, e⟩
theorem costV_nat {K : KT} (h : Inv K) {t : Nat} (ht : t < K.2 0 0) : ∃ s, s ≤ 200 ∧ costV K t = nI s := by
  have hz := (h.2.2.1 t ht).1
  obtain ⟨s, hs, e⟩ := cost_nat h ht (K.2 2 t) 0 0 (by omega)
  exact ⟨s, by omega, by unfold costV; rw [show (0 : Int32) = nI 0 from rfl, e, Nat.zero_add]⟩
theorem sec_nat {K : KT} (h : Inv K) {t : Nat} (ht : t < K.2 0 0) (x : Int32) : ∀ (j k c : Nat), k + j = K.2 2 t → ∃ s, s ≤ 20 * j ∧ secN K t x j k (nI c) = nI (c + s) := by
  intro j
  induction j with
  | zero => intro k c _; exact ⟨0, by omega, rfl⟩
  | succ j ih =>
    intro k c hk
    simp only [secN]
    split
    · exact ⟨0, by omega, rfl⟩
    · rcases h.2.2.2 t k ht (by omega) with ⟨k0, a, a1, a2, ea⟩ | ⟨k12, -⟩
      · rw [if_pos k0, ea, nI_add]
        obtain ⟨s, hs, e⟩ := ih (k + 1) (c + a) (by omega)
        exact ⟨a + s, by omega, by rw [e, Nat.add_assoc]⟩
      · rw [if_neg (by rcases k12 with q | q <;> rw [q] <;> decide)]
        obtain ⟨s, hs, e⟩ := ih (k + 1) c (by omega)
        exact ⟨s, by omega, e⟩
theorem bkV_nat {K : KT} (h : Inv K) (t : Nat) : ∃ s, s ≤ 200 ∧ bkV K t = nI s := by
  rcases (bk_mx K (K.1 0 t) (K.2 0 1) 0 0 (by omega) (by decide)).1 with q | ⟨m, -, hm, hp, u, -, hu, hup, k, -, hk, k1, k2, hv⟩
  · exact ⟨0, by omega, q⟩
  · have hz := (h.2.2.1 u hu).1
    obtain ⟨s, hs, e⟩ := sec_nat h hu (nI m) (K.2 2 u - (k + 1)) (k + 1) 0 (by omega)
    exact ⟨s, by omega, hv.trans (by rw [show (0 : Int32) = nI 0 from rfl, e, Nat.zero_add])⟩
/-- one task's part in the interference, in naturals -/
def ifT (K : KT) (t r u : Nat) : Nat := if ¬ u = t ∧ 0 < K.1 1 u ∧ K.1 0 t ≤ K.1 0 u then (r + (K.1 1 u).toNatClampNeg - 1) / (K.1 1 u).toNatClampNeg * (costV K u).toNatClampNeg else 0
def ifS (K : KT) (t r : Nat) : Nat → Nat → Nat
  | 0, _ => 0
  | j + 1, u => ifT K t r u + ifS K t r j (u + 1)
theorem ifT_mono (K : KT) (t u : Nat) {r s : Nat} (h : r ≤ s) : ifT K t r u ≤ ifT K t s u := by
  unfold ifT
  split
  · exact Nat.mul_le_mul_right _ (Nat.div_le_div_right (by omega))
  · exact Nat.le_refl _
theorem ifS_mono (K : KT) (t : Nat) {r s : Nat} (h : r ≤ s) : ∀ (j u : Nat), ifS K t r j u ≤ ifS K t s j u := by
  intro j
  induction j with
  | zero => intro u; exact Nat.le_refl _
  | succ j ih => intro u; exact Nat.add_le_add (ifT_mono K t u h) (ih _)
theorem inf_nat {K : KT} {T : Nat} (h : Inv K) (hN : Num K T) (t r : Nat) (hr : r ≤ 1000) : ∀ (j u c : Nat), u + j = K.2 0 0 → c + 300000 * j < 2 ^ 31 → infN K t (nI r) j u (nI c) = nI (c + ifS K t r j u) ∧ ifS K t r j u ≤ 300000 * j := by
  intro j
  induction j with
  | zero => intro u c _ _; exact ⟨rfl, Nat.le_refl _⟩
  | succ j ih =>
    intro u c hu hc
    obtain ⟨cu, c1, c2⟩ := costV_nat h (t := u) (by omega)
    obtain ⟨-, -, p, p1, p2⟩ := hN.2 u (by omega)
    simp only [infN, ifS]
    by_cases hq : ¬ u = t ∧ 0 < K.1 1 u ∧ K.1 0 t ≤ K.1 0 u
    · rw [if_pos hq]
      have hp0 : 0 < p := by
        have := hq.2.1
        rw [p2, show (0 : Int32) = nI 0 from rfl, nI_ltI (by omega) (by omega)] at this
        exact this
      have e1 : ifT K t r u = (r + p - 1) / p * cu := by
        unfold ifT
        rw [if_pos hq, p2, c2, nI_clamp (by omega), nI_clamp (by omega)]
      have hd : (r + p - 1) / p ≤ 1200 := Nat.le_trans (Nat.div_le_self _ _) (by omega)
      have hm : (r + p - 1) / p * cu ≤ 1200 * 200 := Nat.mul_le_mul hd c1
      have e2 : (nI r + K.1 1 u - 1) / K.1 1 u * costV K u = nI (ifT K t r u) := by
        rw [e1, p2, c2, nI_add, show (1 : Int32) = nI 1 from rfl, pk_sub (by omega), pk_div (by omega) hp0 (by omega), pk_mul]
      rw [e2, nI_add]
      obtain ⟨i1, i2⟩ := ih (u + 1) (c + ifT K t r u) (by omega) (by omega)
      exact ⟨by rw [i1, Nat.add_assoc], by omega⟩
    · have e1 : ifT K t r u = 0 := if_neg hq
      rw [if_neg hq, e1]
      obtain ⟨i1, i2⟩ := ih (u + 1) c (by omega) (by omega)
      exact ⟨by rw [i1, Nat.zero_add], by omega⟩
theorem infN_add (K : KT) (t : Nat) (s : Int32) : ∀ (j u : Nat) (a c : Int32), infN K t s j u (a + c) = a + infN K t s j u c := by
  intro j
  induction j with
  | zero => intro u a c; rfl
  | succ j ih =>
    intro u a c
    simp only [infN]
    split
    · rw [Int32.add_assoc, ih]
    · exact ih _ _ _
theorem mi_loop (K M : KT) (G : GT) (t : Nat) (x base s : Int32) (h : Inv M) (ht : t < M.2 0 0) (hp : ∀ u, u < M.2 0 0 → M.1 1 u = 0 ∨ 0 < M.1 1 u) (r : Res) : ∀ (j i : Nat) (c : Int32), i + j = M.2 0 0 → Ev M_X7_response 43 [vR 8 0, vI (nI t), vI base, vI (infN M t s j i c), vI s, vU, vU] [] (conc K M G) r → Ev M_X7_response 64 [vR 8 0, vI (nI t), vI base, vI c, vI s, vI (nI i), vU] [] (conc K M G) r := by
  have hn := h.1.1
  intro j
  induction j with
  | zero =>
    intro i c hi hk
    refine ev_iload dX7_response_64 rfl ?_
    refine ev_aload_n dX7_response_66 rfl rfl ?_
    refine ev_getf dX7_response_67 fl_7_112 ?_
    refine ev_icmp_ge (tgt := 166) dX7_response_70 rfl (fun c70 => ?_) (fun c70 => ?_)
    · refine ev_goto (tgt := 43) dX7_response_166 rfl ?_
      refine ev_forget (ls2 := [_, _, _, _, _, vU, _]) (Fg_to ⟨Or.inr ⟨rfl, rfl⟩, Or.inr ⟨rfl, rfl⟩, Or.inr ⟨rfl, rfl⟩, Or.inr ⟨rfl, rfl⟩, Or.inr ⟨rfl, rfl⟩, Or.inl rfl, Or.inr ⟨rfl, rfl⟩, trivial⟩) ?_
      exact hk
    · exact absurd (nI_le (a := M.2 0 0) (b := i) (by omega) (by omega)) c70
  | succ j ih =>
    intro i c hi hk
    have e1 : nI i + Int32.ofInt 1 = nI (i + 1) := nI_1 i
    have hz := (h.2.2.1 i (by omega)).1
    simp only [infN] at hk
    have hq : nI i = nI t ↔ i = t := nI_eq (by omega) (by omega)
    have hno : ¬ (¬ i = t ∧ 0 < M.1 1 i ∧ M.1 0 t ≤ M.1 0 i) → Ev M_X7_response 110 [vR 8 0, vI (nI t), vI base, vI c, vI s, vI (nI i), vU] [vI 0] (conc K M G) r := by
      intro q
      rw [if_neg q] at hk
      refine ev_istore dX7_response_110 rfl ?_
      refine ev_iload_n dX7_response_112 rfl ?_
      refine ev_iload dX7_response_113 rfl ?_
      refine ev_if_eq (tgt := 157) dX7_response_115 rfl (fun c115 => ?_) (fun c115 => ?_)
      · refine ev_iconst (v := 0) dX7_response_157 rfl ?_
        refine ev_iadd dX7_response_158 ?_
        refine ev_istore_n dX7_response_159 rfl ?_
        refine ev_iinc dX7_response_160 rfl ?_
        refine ev_goto (tgt := 64) dX7_response_163 rfl ?_
        refine ev_forget (ls2 := [_, _, _, _, _, _, vU]) (Fg_to ⟨Or.inr ⟨rfl, rfl⟩, Or.inr ⟨rfl, rfl⟩, Or.inr ⟨rfl, rfl⟩, Or.inr ⟨rfl, rfl⟩, Or.inr ⟨rfl, rfl⟩, Or.inr ⟨rfl, rfl⟩, Or.inl rfl, trivial⟩) ?_
        rw [e1, Int32.add_zero]
        exact ih (i + 1) c (by omega) hk
      · exact absurd rfl c115
    have hyes : (¬ i = t ∧ 0 < M.1 1 i ∧ M.1 0 t ≤ M.1 0 i) → Ev M_X7_response 110 [vR 8 0, vI (nI t), vI base, vI c, vI s, vI (nI i), vU] [vI 1] (conc K M G) r := by
      intro q
      rw [if_pos q] at hk
      have hnz : ¬ M.1 1 i = 0 := fun e => absurd q.2.1 (by rw [e]; decide)
      refine ev_istore dX7_response_110 rfl ?_
      refine ev_iload_n dX7_response_112 rfl ?_
      refine ev_iload dX7_response_113 rfl ?_
      refine ev_if_eq (tgt := 157) dX7_response_115 rfl (fun c115 => ?_) (fun c115 => ?_)
      · exact absurd (show (1 : Int32) = 0 from c115) (by decide)
      · refine ev_iload dX7_response_118 rfl ?_
        refine ev_aload_n dX7_response_120 rfl rfl ?_
        refine ev_getf dX7_response_121 fl_7_17 ?_
        refine ev_iload dX7_response_124 rfl ?_
        refine ev_iald dX7_response_126 rfl rfl (show _ < 8 from by omega) ?_
        refine ev_iadd dX7_response_127 ?_
        refine ev_iconst (v := 1) dX7_response_128 rfl ?_
        refine ev_isub dX7_response_129 ?_
        refine ev_iload dX7_response_130 rfl ?_
        refine ev_if_eq (tgt := 145) dX7_response_132 rfl (fun c132 => ?_) (fun c132 => ?_)
        · exact absurd (show (1 : Int32) = 0 from c132) (by decide)
        · refine ev_aload_n dX7_response_135 rfl rfl ?_
          refine ev_getf dX7_response_136 fl_7_17 ?_
          refine ev_iload dX7_response_139 rfl ?_
          refine ev_iald dX7_response_141 rfl rfl (show _ < 8 from by omega) ?_
          refine ev_goto (tgt := 146) dX7_response_142 rfl ?_
          refine ev_idiv dX7_response_146 hnz ?_
          refine ev_aload_n dX7_response_147 rfl rfl ?_
          refine ev_iload dX7_response_148 rfl ?_
          refine evV2 dX7_response_150 cl_X7_response_195 ⟨rfl, rfl, fun _ => ⟨_, rfl⟩⟩ (Nat.le_of_ble_eq_true rfl) (m_cost K M G i (by omega) hz) ?_
          refine ev_imul dX7_response_153 ?_
          refine ev_goto (tgt := 158) dX7_response_154 rfl ?_
          refine ev_iadd dX7_response_158 ?_
          refine ev_istore_n dX7_response_159 rfl ?_
          refine ev_iinc dX7_response_160 rfl ?_
          refine ev_goto (tgt := 64) dX7_response_163 rfl ?_
          refine ev_forget (ls2 := [_, _, _, _, _, _, vU]) (Fg_to ⟨Or.inr ⟨rfl, rfl⟩, Or.inr ⟨rfl, rfl⟩, Or.inr ⟨rfl, rfl⟩, Or.inr ⟨rfl, rfl⟩, Or.inr ⟨rfl, rfl⟩, Or.inr ⟨rfl, rfl⟩, Or.inl rfl, trivial⟩) ?_
          rw [e1]
          exact ih (i + 1) _ (by omega) hk
    refine ev_iload dX7_response_64 rfl ?_
    refine ev_aload_n dX7_response_66 rfl rfl ?_
    refine ev_getf dX7_response_67 fl_7_112 ?_
    refine ev_icmp_ge (tgt := 166) dX7_response_70 rfl (fun c70 => ?_) (fun c70 => ?_)
    · exact absurd c70 (nI_ge (a := i) (b := M.2 0 0) (by omega) (by omega))
    · refine ev_iload dX7_response_73 rfl ?_
      refine ev_iload_n dX7_response_75 rfl ?_
      refine ev_icmp_eq (tgt := 109) dX7_response_76 rfl (fun c76 => ?_) (fun c76 => ?_)
      · refine ev_iconst (v := 0) dX7_response_109 rfl ?_
        exact hno (fun q => q.1 (hq.mp c76))
      · refine ev_aload_n dX7_response_79 rfl rfl ?_
        refine ev_getf dX7_response_80 fl_7_17 ?_
        refine ev_iload dX7_response_83 rfl ?_
        refine ev_iald dX7_response_85 rfl rfl (show _ < 8 from by omega) ?_
        refine ev_if_le (tgt := 109) dX7_response_86 rfl (fun c86 => ?_) (fun c86 => ?_)
        · refine ev_iconst (v := 0) dX7_response_109 rfl ?_
          exact hno (fun q => Int32.not_lt.mpr c86 q.2.1)
        · refine ev_aload_n dX7_response_89 rfl rfl ?_
          refine ev_getf dX7_response_90 fl_7_13 ?_
          refine ev_iload dX7_response_93 rfl ?_
          refine ev_iald dX7_response_95 rfl rfl (show _ < 8 from by omega) ?_
          refine ev_aload_n dX7_response_96 rfl rfl ?_
          refine ev_getf dX7_response_97 fl_7_13 ?_
          refine ev_iload_n dX7_response_100 rfl ?_
          refine ev_iald dX7_response_101 rfl rfl (show _ < 8 from by omega) ?_
          refine ev_icmp_lt (tgt := 109) dX7_response_102 rfl (fun c102 => ?_) (fun c102 => ?_)
          · refine ev_iconst (v := 0) dX7_response_109 rfl ?_
            exact hno (fun q => Int32.not_lt.mpr q.2.2 c102)
          · refine ev_iconst (v := 1) dX7_response_105 rfl ?_
            refine ev_goto (tgt := 110) dX7_response_106 rfl ?_
            exact hyes ⟨fun q => c76 (hq.mpr q), Int32.not_le.mp c86, Int32.not_lt.mp c102⟩
def rspB (K : KT) (t : Nat) : Nat := (costV K t).toNatClampNeg + (bkV K t).toNatClampNeg
theorem rspB_eq {K : KT} (h : Inv K) {t : Nat} (ht : t < K.2 0 0) : costV K t + bkV K t = nI (rspB K t) ∧ rspB K t ≤ 400 := by
  obtain ⟨a, a1, a2⟩ := costV_nat h ht
  obtain ⟨b, b1, b2⟩ := bkV_nat h t
  unfold rspB
  rw [a2, b2, nI_clamp (by omega), nI_clamp (by omega), nI_add]
  exact ⟨rfl, by omega⟩
theorem rspF_nat {K : KT} {T : Nat} (h : Inv K) (hN : Num K T) {t : Nat} (ht : t < K.2 0 0) {r : Nat} (hr : r ≤ 1000) : rspF K t (nI r) = nI (rspB K t + ifS K t r (K.2 0 0) 0) ∧ rspB K t + ifS K t r (K.2 0 0) 0 < 2 ^ 31 := by
  have hn := h.1.1
  obtain ⟨b1, b2⟩ := rspB_eq h ht
  obtain ⟨i1, i2⟩ := inf_nat h hN t r hr (K.2 0 0) 0 0 (by omega) (by omega)
  unfold rspF
  rw [b1, show (0 : Int32) = nI 0 from rfl, i1, Nat.zero_add, nI_add]
  exact ⟨rfl, by omega⟩
theorem mr2_loop (K M : KT) (G : GT) (t T : Nat) (h : Inv M) (hN : Num M T) (ht : t < M.2 0 0) (hp : ∀ u, u < M.2 0 0 → M.1 1 u = 0 ∨ 0 < M.1 1 u) : ∀ (j i r : Nat) (y : Int32), i + j = 1002 → i ≤ r → r ≤ 1000 → r ≤ rspB M t + ifS M t r (M.2 0 0) 0 → ¬ nI r = y → Ev M_X7_response 43 [vR 8 0, vI (nI t), vI (costV M t + bkV M t), vI (nI r), vI y, vU, vU] [] (conc K M G) (0, some (vI (rspN M t j (nI r))), conc K M G) := by
  intro j
  induction j with
  | zero => intro i r y h1 h2 h3; omega
  | succ j ih =>
    intro i r y h1 h2 h3 h4 hy
    obtain ⟨f1, f2⟩ := rspF_nat h hN ht h3
    generalize hx : rspB M t + ifS M t r (M.2 0 0) 0 = z at f1 f2 h4
    have e1 : infN M t (nI r) (M.2 0 0) 0 (costV M t + bkV M t) = nI z := by
      rw [← f1, show costV M t + bkV M t = (costV M t + bkV M t) + 0 from (Int32.add_zero _).symm, infN_add]
      rfl
    have hw : Ev M_X7_response 43 [vR 8 0, vI (nI t), vI (costV M t + bkV M t), vI (nI z), vI (nI r), vU, vU] [] (conc K M G) (0, some (vI (rspN M t (j + 1) (nI r))), conc K M G) := by
      simp only [rspN]
      rw [f1]
      have q1 : ((1000 : Int32) < nI z) ↔ 1000 < z := nI_ltI (a := 1000) (b := z) (by omega) f2
      by_cases c1 : 1000 < z
      · rw [if_pos (q1.mpr c1)]
        refine ev_iload_n dX7_response_43 rfl ?_
        refine ev_iload dX7_response_44 rfl ?_
        refine ev_icmp_eq (tgt := 169) dX7_response_46 rfl (fun c46 => ?_) (fun c46 => ?_)
        · exact absurd ((nI_eq (by omega) (by omega)).mp c46) (by omega)
        · refine ev_iload_n dX7_response_49 rfl ?_
          refine ev_sipush (v := 1000) dX7_response_50 rfl ?_
          refine ev_icmp_gt (tgt := 169) dX7_response_53 rfl (fun c53 => ?_) (fun c53 => ?_)
          · refine ev_iload_n dX7_response_169 rfl ?_
            refine ev_sipush (v := 1000) dX7_response_170 rfl ?_
            refine ev_icmp_le (tgt := 180) dX7_response_173 rfl (fun c173 => ?_) (fun c173 => ?_)
            · exact absurd (q1.mpr c1) (Int32.not_lt.mpr c173)
            · refine ev_iconst (v := (-1)) dX7_response_176 rfl ?_
              refine ev_goto (tgt := 181) dX7_response_177 rfl ?_
              exact ev_iret dX7_response_181 (Or.inl rfl)
          · exact absurd (q1.mpr c1) c53
      · rw [if_neg (fun q => c1 (q1.mp q))]
        by_cases c2 : nI z = nI r
        · rw [if_pos c2]
          refine ev_iload_n dX7_response_43 rfl ?_
          refine ev_iload dX7_response_44 rfl ?_
          refine ev_icmp_eq (tgt := 169) dX7_response_46 rfl (fun c46 => ?_) (fun c46 => ?_)
          · refine ev_iload_n dX7_response_169 rfl ?_
            refine ev_sipush (v := 1000) dX7_response_170 rfl ?_
            refine ev_icmp_le (tgt := 180) dX7_response_173 rfl (fun c173 => ?_) (fun c173 => ?_)
            · refine ev_iload_n dX7_response_180 rfl ?_
              rw [c2]
              exact ev_iret dX7_response_181 (Or.inl rfl)
            · exact absurd (Int32.not_le.mp c173) (fun q => c1 (q1.mp q))
          · exact absurd c2 c46
        · rw [if_neg c2]
          have hne : ¬ z = r := fun q => c2 (by rw [q])
          refine ih (i + 1) z (nI r) (by omega) (by omega) (by omega) ?_ c2
          have := ifS_mono M t (show r ≤ z by omega) (M.2 0 0) 0
          omega
    refine ev_iload_n dX7_response_43 rfl ?_
    refine ev_iload dX7_response_44 rfl ?_
    refine ev_icmp_eq (tgt := 169) dX7_response_46 rfl (fun c46 => ?_) (fun c46 => ?_)
    · exact absurd c46 hy
    · refine ev_iload_n dX7_response_49 rfl ?_
      refine ev_sipush (v := 1000) dX7_response_50 rfl ?_
      refine ev_icmp_gt (tgt := 169) dX7_response_53 rfl (fun c53 => ?_) (fun c53 => ?_)
      · exact absurd c53 (Int32.not_lt.mpr (nI_le (a := r) (b := 1000) h3 (by omega)))
      · refine ev_iload_n dX7_response_56 rfl ?_
        refine ev_istore dX7_response_57 rfl ?_
        refine ev_iload_n dX7_response_59 rfl ?_
        refine ev_istore_n dX7_response_60 rfl ?_
        refine ev_iconst (v := 0) dX7_response_61 rfl ?_
        refine ev_istore dX7_response_62 rfl ?_
        refine mi_loop K M G t (nI t) _ (nI r) h ht hp _ (M.2 0 0) 0 _ (by omega) ?_
        rw [e1]
        exact hw
theorem m_response (K M : KT) (G : GT) (t T : Nat) (h : Inv (sI M 28 4 0)) (hN : Num (sI M 28 4 0) T) (ht : t < M.2 0 0) (hp : ∀ u, u < M.2 0 0 → M.1 1 u = 0 ∨ 0 < M.1 1 u) : Ev M_X7_response 0 (ent M_X7_response [vR 8 0, vI (nI t)]) [] (conc K M G) (0, some (vI (rspN (sI M 28 4 0) t 1002 (costV (sI M 28 4 0) t + bkV (sI M 28 4 0) t))), conc K (sI M 28 4 0) G) := by
  show Ev M_X7_response 0 [vR 8 0, vI (nI t), vU, vU, vU, vU, vU] [] (conc K M G) _
  have hn : M.2 0 0 ≤ 8 := h.1.1
  have hz : M.2 2 t ≤ 10 := (h.2.2.1 t ht).1
  have ok : isT (M.2 0 0) (nI t) := isT_of (by omega) ht
  obtain ⟨b1, b2⟩ := rspB_eq h (t := t) ht
  have hm1 : ¬ nI (rspB (sI M 28 4 0) t) = -1 := fun q => by
    have := congrArg Int32.toInt q
    rw [nI_toInt (by omega), show (-1 : Int32).toInt = -1 from rfl] at this
    omega
  have hl := mr2_loop K (sI M 28 4 0) G t T h hN ht hp 1002 0 (rspB (sI M 28 4 0) t) (-1) rfl (by omega) (by omega) (Nat.le_add_right _ _) hm1
  rw [← b1] at hl
  refine ev_aload_n dX7_response_0 rfl rfl ?_
  refine ev_aload_n dX7_response_1 rfl rfl ?_
  refine ev_iload_n dX7_response_2 rfl ?_
  refine evV2 dX7_response_3 cl_X7_response_122 ⟨rfl, rfl, fun _ => ⟨_, rfl⟩⟩ (Nat.le_of_ble_eq_true rfl) (m_isTask K M G (nI t)) ?_
  refine ev_if_eq (tgt := 13) dX7_response_6 rfl (fun c6 => ?_) (fun c6 => ?_)
  · exact absurd ok (bI_0.mp c6)
  · refine ev_iconst (v := 0) dX7_response_9 rfl ?_
    refine ev_goto (tgt := 14) dX7_response_10 rfl ?_
    refine ev_putfS dX7_response_14 fl_7_109 rfl rfl (pu_mod_0 _ _ _ _) ?_
    refine ev_aload_n dX7_response_17 rfl rfl ?_
    refine ev_getf dX7_response_18 fl_7_109 ?_
    refine ev_if_le (tgt := 26) dX7_response_21 rfl (fun c21 => ?_) (fun c21 => ?_)
    · refine ev_aload_n dX7_response_26 rfl rfl ?_
      refine ev_iload_n dX7_response_27 rfl ?_
      refine evV2 dX7_response_28 cl_X7_response_195 ⟨rfl, rfl, fun _ => ⟨_, rfl⟩⟩ (Nat.le_of_ble_eq_true rfl) (m_cost K (sI M 28 4 0) G t (by omega) hz) ?_
      refine ev_aload_n dX7_response_31 rfl rfl ?_
      refine ev_iload_n dX7_response_32 rfl ?_
      refine evV2 dX7_response_33 cl_X7_response_198 ⟨rfl, rfl, fun _ => ⟨_, rfl⟩⟩ (Nat.le_of_ble_eq_true rfl) (m_blocking K (sI M 28 4 0) G t h ht) ?_
      refine ev_iadd dX7_response_36 ?_
      refine ev_istore_n dX7_response_37 rfl ?_
      refine ev_iload_n dX7_response_38 rfl ?_
      refine ev_istore_n dX7_response_39 rfl ?_
      refine ev_iconst (v := (-1)) dX7_response_40 rfl ?_
      refine ev_istore dX7_response_41 rfl ?_
      exact hl
    · exact absurd (show (0 : Int32) ≤ 0 by decide) c21
theorem m_responseA (K M : KT) (G : GT) (x : Int32) (hx : ¬ isT (M.2 0 0) x) : Ev M_X7_response 0 (ent M_X7_response [vR 8 0, vI x]) [] (conc K M G) (0, some (vI 0), conc K (sI M 28 4 1) G) := by
  show Ev M_X7_response 0 [vR 8 0, vI x, vU, vU, vU, vU, vU] [] (conc K M G) _
  refine ev_aload_n dX7_response_0 rfl rfl ?_
  refine ev_aload_n dX7_response_1 rfl rfl ?_
  refine ev_iload_n dX7_response_2 rfl ?_
  refine evV2 dX7_response_3 cl_X7_response_122 ⟨rfl, rfl, fun _ => ⟨_, rfl⟩⟩ (Nat.le_of_ble_eq_true rfl) (m_isTask K M G x) ?_
  refine ev_if_eq (tgt := 13) dX7_response_6 rfl (fun c6 => ?_) (fun c6 => ?_)
  · refine ev_iconst (v := 1) dX7_response_13 rfl ?_
    refine ev_putfS dX7_response_14 fl_7_109 rfl rfl (pu_mod_0 _ _ _ _) ?_
    refine ev_aload_n dX7_response_17 rfl rfl ?_
    refine ev_getf dX7_response_18 fl_7_109 ?_
    refine ev_if_le (tgt := 26) dX7_response_21 rfl (fun c21 => ?_) (fun c21 => ?_)
    · exact absurd c21 (show ¬ (1 : Int32) ≤ 0 by decide)
    · refine ev_iconst (v := 0) dX7_response_24 rfl ?_
      exact ev_iret dX7_response_25 (Or.inl rfl)
  · exact absurd (bI_f hx) c6
