/-! THE LAW'S CALLS -/
abbrev lawLs (i : Nat) : List AV := [vR 18 0, vR 7 0, vR 8 0, vR 17 0, vI (nI i), vU, vU, vU, vU]
def Cont (xs : Nat → Int32) (L c i : Nat) (Q : Res → Prop) : Prop := ∀ K2 G2, LI xs L (c + 1) K2 G2 → ∃ r, Q r ∧ Ev M_L_law 759 (lawLs i) [] (conc K2 K2 G2) r
theorem op_task (xs : Nat → Int32) (L c i : Nat) (K : KT) (G : GT) (Q : Res → Prop) (hi : i + 6 ≤ L) (h : LI xs L c K G) (hk : Cont xs L c i Q) : ∃ r, Q r ∧ Ev M_L_law 116 (lawLs i) [] (conc K K G) r := by
  obtain ⟨⟨T, X, h1, h2, h3⟩, h4, h5, h6, h7, h8, h9⟩ := id h
  have hb : ∀ j, j < 6 → i + j < G.2.2 0 := fun j hj => by omega
  have hn := h1.1.1.1
  generalize ep : G.2.1 (i + 1) = p
  generalize ee : G.2.1 (i + 2) = e
  generalize ef : G.2.1 (i + 3) = f
  generalize ed : G.2.1 (i + 4) = d
  generalize eb : G.2.1 (i + 5) = b
  by_cases ok : taskOk p e f d b
  · by_cases hs : K.1 28 1 = 0 ∧ K.2 0 0 < 8
    · have hz := h5 hs.1
      have hLI : LI xs L (c + 1) (taskK (sI K 28 4 0) p e f d b) (oG (mkG G 6 48) (nI (K.2 0 0)).toInt64) := LI_new h ⟨T, X, FI_task (FI_thr h1 0) (hz.1 _ (Nat.le_refl _)) hs.2 ok, by omega, by omega⟩ h4 (fun _ => ⟨fun j hj => hz.1 j (by have : K.2 0 0 + 1 ≤ j := hj; omega), hz.2⟩) rfl rfl (Nat.le_refl _) (Nat.le_refl _)
      obtain ⟨r, hq, hk2⟩ := hk _ _ hLI
      refine ⟨r, hq, ?_⟩
      subst ep ee ef ed eb
      show Ev M_L_law 116 (lawLs i) [] (conc (sI K 28 4 0) K G) r
      refine ev_aload_n dL_law_116 rfl rfl ?_
      refine ev_aload_n dL_law_117 rfl rfl ?_
      refine ev_iload dL_law_118 rfl ?_
      refine ev_iconst (v := 1) dL_law_120 rfl ?_
      refine ev_iadd dL_law_121 ?_
      refine ev_iald dL_law_122 rfl ((nI_add i 1)) (hb 1 (by omega)) ?_
      refine ev_aload_n dL_law_123 rfl rfl ?_
      refine ev_iload dL_law_124 rfl ?_
      refine ev_iconst (v := 2) dL_law_126 rfl ?_
      refine ev_iadd dL_law_127 ?_
      refine ev_iald dL_law_128 rfl ((nI_add i 2)) (hb 2 (by omega)) ?_
      refine ev_aload_n dL_law_129 rfl rfl ?_
      refine ev_iload dL_law_130 rfl ?_
      refine ev_iconst (v := 3) dL_law_132 rfl ?_
      refine ev_iadd dL_law_133 ?_
      refine ev_iald dL_law_134 rfl ((nI_add i 3)) (hb 3 (by omega)) ?_
      refine ev_aload_n dL_law_135 rfl rfl ?_
      refine ev_iload dL_law_136 rfl ?_
      refine ev_iconst (v := 4) dL_law_138 rfl ?_
      refine ev_iadd dL_law_139 ?_
      refine ev_iald dL_law_140 rfl ((nI_add i 4)) (hb 4 (by omega)) ?_
      refine ev_aload_n dL_law_141 rfl rfl ?_
      refine ev_iload dL_law_142 rfl ?_
      refine ev_iconst (v := 5) dL_law_144 rfl ?_
      refine ev_iadd dL_law_145 ?_
      refine ev_iald dL_law_146 rfl ((nI_add i 5)) (hb 5 (by omega)) ?_
      refine ev_aload_n dL_law_147 rfl rfl ?_
      refine evS7 dL_law_148 cl_L_law_47 ⟨rfl, rfl, fun h => nomatch h⟩ (Nat.le_of_ble_eq_true rfl) (l_task (sI K 28 4 0) K G _ _ _ _ _ _ _ _ (e_task (sI K 28 4 0) K G _ _ _ _ _ hs.2 ok hs.1 (hz.1 _ (Nat.le_refl _)))) ?_
      refine ev_istore dL_law_151 rfl ?_
      refine ev_aload_n dL_law_153 rfl rfl ?_
      refine ev_aload_n dL_law_154 rfl rfl ?_
      refine ev_iload dL_law_155 rfl ?_
      refine ev_iconst (v := 1) dL_law_157 rfl ?_
      refine ev_iadd dL_law_158 ?_
      refine ev_iald dL_law_159 rfl ((nI_add i 1)) (hb 1 (by omega)) ?_
      refine ev_aload_n dL_law_160 rfl rfl ?_
      refine ev_iload dL_law_161 rfl ?_
      refine ev_iconst (v := 2) dL_law_163 rfl ?_
      refine ev_iadd dL_law_164 ?_
      refine ev_iald dL_law_165 rfl ((nI_add i 2)) (hb 2 (by omega)) ?_
      refine ev_aload_n dL_law_166 rfl rfl ?_
      refine ev_iload dL_law_167 rfl ?_
      refine ev_iconst (v := 3) dL_law_169 rfl ?_
      refine ev_iadd dL_law_170 ?_
      refine ev_iald dL_law_171 rfl ((nI_add i 3)) (hb 3 (by omega)) ?_
      refine ev_aload_n dL_law_172 rfl rfl ?_
      refine ev_iload dL_law_173 rfl ?_
      refine ev_iconst (v := 4) dL_law_175 rfl ?_
      refine ev_iadd dL_law_176 ?_
      refine ev_iald dL_law_177 rfl ((nI_add i 4)) (hb 4 (by omega)) ?_
      refine ev_aload_n dL_law_178 rfl rfl ?_
      refine ev_iload dL_law_179 rfl ?_
      refine ev_iconst (v := 5) dL_law_181 rfl ?_
      refine ev_iadd dL_law_182 ?_
      refine ev_iald dL_law_183 rfl ((nI_add i 5)) (hb 5 (by omega)) ?_
      refine evV6 dL_law_184 cl_L_law_50 ⟨rfl, rfl, fun _ => ⟨_, rfl⟩⟩ (Nat.le_of_ble_eq_true rfl) (m_task _ K _ _ _ _ _ _ hs.2 ok hs.1) ?_
      refine ev_istore dL_law_187 rfl ?_
      refine ev_aload_n dL_law_189 rfl rfl ?_
      refine evV1 dL_law_190 cl_L_law_51 ⟨rfl, rfl, fun _ => ⟨_, rfl⟩⟩ (Nat.le_of_ble_eq_true rfl) (m_thrown _ _ _) ?_
      refine ev_iload dL_law_193 rfl ?_
      refine ev_icmp_eq (tgt := 200) dL_law_195 rfl (fun c195 => ?_) (fun c195 => ?_)
      · refine ev_iload dL_law_200 rfl ?_
        refine ev_if_ne (tgt := 217) dL_law_202 rfl (fun c202 => ?_) (fun c202 => ?_)
        · exact absurd rfl c202
        · refine ev_aload_n dL_law_205 rfl rfl ?_
          refine ev_iconst (v := 0) dL_law_206 rfl ?_
          refine ev_lald dL_law_207 rfl ((rfl : (0 : Int32) = nI 0)) Nat.zero_lt_one ?_
          refine ev_iload dL_law_208 rfl ?_
          refine ev_i2l dL_law_210 ?_
          refine ev_lcmp dL_law_211 ?_
          refine ev_if_eq (tgt := 217) dL_law_212 rfl (fun c212 => ?_) (fun c212 => ?_)
          · refine ev_goto (tgt := 759) dL_law_217 rfl ?_
            refine ev_forget (ls2 := [_, _, _, _, _, vU, vU, _, _]) (Fg_to ⟨Or.inr ⟨rfl, rfl⟩, Or.inr ⟨rfl, rfl⟩, Or.inr ⟨rfl, rfl⟩, Or.inr ⟨rfl, rfl⟩, Or.inr ⟨rfl, rfl⟩, Or.inl rfl, Or.inl rfl, Or.inr ⟨rfl, rfl⟩, Or.inr ⟨rfl, rfl⟩, trivial⟩) ?_
            exact hk2
          · exact absurd (lg_self _) c212
      · exact absurd rfl c195
    · have hLI : LI xs L (c + 1) (sI K 28 4 2) (exG G) := LI_thr h 2 rfl rfl (show G.2.2 1 + 1 ≤ _ by omega) (show G.2.2 2 + 6 ≤ _ by omega)
      obtain ⟨r, hq, hk2⟩ := hk _ _ hLI
      refine ⟨r, hq, ?_⟩
      subst ep ee ef ed eb
      show Ev M_L_law 116 (lawLs i) [] (conc (sI K 28 4 2) K G) r
      refine ev_aload_n dL_law_116 rfl rfl ?_
      refine ev_aload_n dL_law_117 rfl rfl ?_
      refine ev_iload dL_law_118 rfl ?_
      refine ev_iconst (v := 1) dL_law_120 rfl ?_
      refine ev_iadd dL_law_121 ?_
      refine ev_iald dL_law_122 rfl ((nI_add i 1)) (hb 1 (by omega)) ?_
      refine ev_aload_n dL_law_123 rfl rfl ?_
      refine ev_iload dL_law_124 rfl ?_
      refine ev_iconst (v := 2) dL_law_126 rfl ?_
      refine ev_iadd dL_law_127 ?_
      refine ev_iald dL_law_128 rfl ((nI_add i 2)) (hb 2 (by omega)) ?_
      refine ev_aload_n dL_law_129 rfl rfl ?_
      refine ev_iload dL_law_130 rfl ?_
      refine ev_iconst (v := 3) dL_law_132 rfl ?_
      refine ev_iadd dL_law_133 ?_
      refine ev_iald dL_law_134 rfl ((nI_add i 3)) (hb 3 (by omega)) ?_
      refine ev_aload_n dL_law_135 rfl rfl ?_
      refine ev_iload dL_law_136 rfl ?_
      refine ev_iconst (v := 4) dL_law_138 rfl ?_
      refine ev_iadd dL_law_139 ?_
      refine ev_iald dL_law_140 rfl ((nI_add i 4)) (hb 4 (by omega)) ?_
      refine ev_aload_n dL_law_141 rfl rfl ?_
      refine ev_iload dL_law_142 rfl ?_
      refine ev_iconst (v := 5) dL_law_144 rfl ?_
      refine ev_iadd dL_law_145 ?_
      refine ev_iald dL_law_146 rfl ((nI_add i 5)) (hb 5 (by omega)) ?_
      refine ev_aload_n dL_law_147 rfl rfl ?_
      refine evS7 dL_law_148 cl_L_law_47 ⟨rfl, rfl, fun h => nomatch h⟩ (Nat.le_of_ble_eq_true rfl) (l_taskX (sI K 28 4 2) K G _ _ _ _ _ 2 (Or.inr rfl) (e_taskS (sI K 28 4 2) K G _ _ _ _ _ hn ok hs)) ?_
      refine ev_istore dL_law_151 rfl ?_
      refine ev_aload_n dL_law_153 rfl rfl ?_
      refine ev_aload_n dL_law_154 rfl rfl ?_
      refine ev_iload dL_law_155 rfl ?_
      refine ev_iconst (v := 1) dL_law_157 rfl ?_
      refine ev_iadd dL_law_158 ?_
      refine ev_iald dL_law_159 rfl ((nI_add i 1)) (hb 1 (by omega)) ?_
      refine ev_aload_n dL_law_160 rfl rfl ?_
      refine ev_iload dL_law_161 rfl ?_
      refine ev_iconst (v := 2) dL_law_163 rfl ?_
      refine ev_iadd dL_law_164 ?_
      refine ev_iald dL_law_165 rfl ((nI_add i 2)) (hb 2 (by omega)) ?_
      refine ev_aload_n dL_law_166 rfl rfl ?_
      refine ev_iload dL_law_167 rfl ?_
      refine ev_iconst (v := 3) dL_law_169 rfl ?_
      refine ev_iadd dL_law_170 ?_
      refine ev_iald dL_law_171 rfl ((nI_add i 3)) (hb 3 (by omega)) ?_
      refine ev_aload_n dL_law_172 rfl rfl ?_
      refine ev_iload dL_law_173 rfl ?_
      refine ev_iconst (v := 4) dL_law_175 rfl ?_
      refine ev_iadd dL_law_176 ?_
      refine ev_iald dL_law_177 rfl ((nI_add i 4)) (hb 4 (by omega)) ?_
      refine ev_aload_n dL_law_178 rfl rfl ?_
      refine ev_iload dL_law_179 rfl ?_
      refine ev_iconst (v := 5) dL_law_181 rfl ?_
      refine ev_iadd dL_law_182 ?_
      refine ev_iald dL_law_183 rfl ((nI_add i 5)) (hb 5 (by omega)) ?_
      refine evV6 dL_law_184 cl_L_law_50 ⟨rfl, rfl, fun _ => ⟨_, rfl⟩⟩ (Nat.le_of_ble_eq_true rfl) (m_taskS _ K _ _ _ _ _ _ hn ok hs) ?_
      refine ev_istore dL_law_187 rfl ?_
      refine ev_aload_n dL_law_189 rfl rfl ?_
      refine evV1 dL_law_190 cl_L_law_51 ⟨rfl, rfl, fun _ => ⟨_, rfl⟩⟩ (Nat.le_of_ble_eq_true rfl) (m_thrown _ _ _) ?_
      refine ev_iload dL_law_193 rfl ?_
      refine ev_icmp_eq (tgt := 200) dL_law_195 rfl (fun c195 => ?_) (fun c195 => ?_)
      · refine ev_iload dL_law_200 rfl ?_
        refine ev_if_ne (tgt := 217) dL_law_202 rfl (fun c202 => ?_) (fun c202 => ?_)
        · refine ev_goto (tgt := 759) dL_law_217 rfl ?_
          refine ev_forget (ls2 := [_, _, _, _, _, vU, vU, _, _]) (Fg_to ⟨Or.inr ⟨rfl, rfl⟩, Or.inr ⟨rfl, rfl⟩, Or.inr ⟨rfl, rfl⟩, Or.inr ⟨rfl, rfl⟩, Or.inr ⟨rfl, rfl⟩, Or.inl rfl, Or.inl rfl, Or.inr ⟨rfl, rfl⟩, Or.inr ⟨rfl, rfl⟩, trivial⟩) ?_
          exact hk2
        · exact absurd (show (2 : Int32) = 0 from Classical.not_not.mp c202) (by decide)
      · exact absurd rfl c195
  · have hLI : LI xs L (c + 1) (sI K 28 4 1) (exG G) := LI_thr h 1 rfl rfl (show G.2.2 1 + 1 ≤ _ by omega) (show G.2.2 2 + 6 ≤ _ by omega)
    obtain ⟨r, hq, hk2⟩ := hk _ _ hLI
    refine ⟨r, hq, ?_⟩
    subst ep ee ef ed eb
    show Ev M_L_law 116 (lawLs i) [] (conc (sI K 28 4 1) K G) r
    refine ev_aload_n dL_law_116 rfl rfl ?_
    refine ev_aload_n dL_law_117 rfl rfl ?_
    refine ev_iload dL_law_118 rfl ?_
    refine ev_iconst (v := 1) dL_law_120 rfl ?_
    refine ev_iadd dL_law_121 ?_
    refine ev_iald dL_law_122 rfl ((nI_add i 1)) (hb 1 (by omega)) ?_
    refine ev_aload_n dL_law_123 rfl rfl ?_
    refine ev_iload dL_law_124 rfl ?_
    refine ev_iconst (v := 2) dL_law_126 rfl ?_
    refine ev_iadd dL_law_127 ?_
    refine ev_iald dL_law_128 rfl ((nI_add i 2)) (hb 2 (by omega)) ?_
    refine ev_aload_n dL_law_129 rfl rfl ?_
    refine ev_iload dL_law_130 rfl ?_
    refine ev_iconst (v := 3) dL_law_132 rfl ?_
    refine ev_iadd dL_law_133 ?_
    refine ev_iald dL_law_134 rfl ((nI_add i 3)) (hb 3 (by omega)) ?_
    refine ev_aload_n dL_law_135 rfl rfl ?_
    refine ev_iload dL_law_136 rfl ?_
    refine ev_iconst (v := 4) dL_law_138 rfl ?_
    refine ev_iadd dL_law_139 ?_
    refine ev_iald dL_law_140 rfl ((nI_add i 4)) (hb 4 (by omega)) ?_
    refine ev_aload_n dL_law_141 rfl rfl ?_
    refine ev_iload dL_law_142 rfl ?_
    refine ev_iconst (v := 5) dL_law_144 rfl ?_
    refine ev_iadd dL_law_145 ?_
    refine ev_iald dL_law_146 rfl ((nI_add i 5)) (hb 5 (by omega)) ?_
    refine ev_aload_n dL_law_147 rfl rfl ?_
    refine evS7 dL_law_148 cl_L_law_47 ⟨rfl, rfl, fun h => nomatch h⟩ (Nat.le_of_ble_eq_true rfl) (l_taskX (sI K 28 4 1) K G _ _ _ _ _ 1 (Or.inl rfl) (e_taskA (sI K 28 4 1) K G _ _ _ _ _ ok)) ?_
    refine ev_istore dL_law_151 rfl ?_
    refine ev_aload_n dL_law_153 rfl rfl ?_
    refine ev_aload_n dL_law_154 rfl rfl ?_
    refine ev_iload dL_law_155 rfl ?_
    refine ev_iconst (v := 1) dL_law_157 rfl ?_
    refine ev_iadd dL_law_158 ?_
    refine ev_iald dL_law_159 rfl ((nI_add i 1)) (hb 1 (by omega)) ?_
    refine ev_aload_n dL_law_160 rfl rfl ?_
    refine ev_iload dL_law_161 rfl ?_
    refine ev_iconst (v := 2) dL_law_163 rfl ?_
    refine ev_iadd dL_law_164 ?_
    refine ev_iald dL_law_165 rfl ((nI_add i 2)) (hb 2 (by omega)) ?_
    refine ev_aload_n dL_law_166 rfl rfl ?_
    refine ev_iload dL_law_167 rfl ?_
    refine ev_iconst (v := 3) dL_law_169 rfl ?_
    refine ev_iadd dL_law_170 ?_
    refine ev_iald dL_law_171 rfl ((nI_add i 3)) (hb 3 (by omega)) ?_
    refine ev_aload_n dL_law_172 rfl rfl ?_
    refine ev_iload dL_law_173 rfl ?_
    refine ev_iconst (v := 4) dL_law_175 rfl ?_
    refine ev_iadd dL_law_176 ?_
    refine ev_iald dL_law_177 rfl ((nI_add i 4)) (hb 4 (by omega)) ?_
    refine ev_aload_n dL_law_178 rfl rfl ?_
    refine ev_iload dL_law_179 rfl ?_
    refine ev_iconst (v := 5) dL_law_181 rfl ?_
    refine ev_iadd dL_law_182 ?_
    refine ev_iald dL_law_183 rfl ((nI_add i 5)) (hb 5 (by omega)) ?_
    refine evV6 dL_law_184 cl_L_law_50 ⟨rfl, rfl, fun _ => ⟨_, rfl⟩⟩ (Nat.le_of_ble_eq_true rfl) (m_taskA _ K _ _ _ _ _ _ ok) ?_
    refine ev_istore dL_law_187 rfl ?_
    refine ev_aload_n dL_law_189 rfl rfl ?_
    refine evV1 dL_law_190 cl_L_law_51 ⟨rfl, rfl, fun _ => ⟨_, rfl⟩⟩ (Nat.le_of_ble_eq_true rfl) (m_thrown _ _ _) ?_
    refine ev_iload dL_law_193 rfl ?_
    refine ev_icmp_eq (tgt := 200) dL_law_195 rfl (fun c195 => ?_) (fun c195 => ?_)
    · refine ev_iload dL_law_200 rfl ?_
      refine ev_if_ne (tgt := 217) dL_law_202 rfl (fun c202 => ?_) (fun c202 => ?_)
      · refine ev_goto (tgt := 759) dL_law_217 rfl ?_
        refine ev_forget (ls2 := [_, _, _, _, _, vU, vU, _, _]) (Fg_to ⟨Or.inr ⟨rfl, rfl⟩, Or.inr ⟨rfl, rfl⟩, Or.inr ⟨rfl, rfl⟩, Or.inr ⟨rfl, rfl⟩, Or.inr ⟨rfl, rfl⟩, Or.inl rfl, Or.inl rfl, Or.inr ⟨rfl, rfl⟩, Or.inr ⟨rfl, rfl⟩, trivial⟩) ?_
        exact hk2
      · exact absurd (show (1 : Int32) = 0 from Classical.not_not.mp c202) (by decide)
    · exact absurd rfl c195
theorem op_strict (xs : Nat → Int32) (L c i : Nat) (K : KT) (G : GT) (Q : Res → Prop) (hi : i + 6 ≤ L) (h : LI xs L c K G) (hk : Cont xs L c i Q) : ∃ r, Q r ∧ Ev M_L_law 220 (lawLs i) [] (conc K K G) r := by
  obtain ⟨⟨T, X, h1, h2, h3⟩, h4, h5, h6, h7, h8, h9⟩ := id h
  have hb : ∀ j, j < 6 → i + j < G.2.2 0 := fun j hj => by omega
  have hn := h1.1.1.1
  have hz0 : ∀ z : Int32, (z = 0 ∨ z = 1) → ((G.2.1 (i + 2) = 0 → z = 0) ∧ (¬ G.2.1 (i + 2) = 0 → z = 1)) → ∃ r, Q r ∧ Ev M_L_law 241 (lawLs i) [vI z, vI (G.2.1 (i + 1)), vR 7 0] (conc (sI K 28 4 0) K G) r := by
    intro z hz1 hz2
    by_cases ok : isT (K.2 0 0) (G.2.1 (i + 1))
    · obtain ⟨t, ht, et⟩ := isT_ex (by omega) ok
      have hLI : LI xs L (c + 1) (sI (sI K 28 4 0) 5 t z) G := LI_new h ⟨T, X, FI_stc (FI_thr h1 0) t z, by omega, by omega⟩ h4 (fun q => ⟨Fr_stc (K := sI K 28 4 0) (h5 q).1 ht z, (h5 q).2⟩) rfl rfl (by omega) (by omega)
      obtain ⟨r, hq, hk2⟩ := hk _ _ hLI
      refine ⟨r, hq, ?_⟩
      rw [et]
      have h265 : Ev M_L_law 265 (lawLs i) [vI z, vI (nI t), vR 8 0, vI 1] (conc (sI (sI K 28 4 0) 5 t z) K G) r := by
        refine evV3 dL_law_265 cl_L_law_59 ⟨rfl, rfl, fun _ => ⟨_, rfl⟩⟩ (Nat.le_of_ble_eq_true rfl) (m_strict _ K _ t z hz1 h1.1 ht) ?_
        refine ev_icmp_eq (tgt := 759) dL_law_268 rfl (fun c268 => ?_) (fun c268 => ?_)
        · exact hk2
        · exact absurd rfl c268
      refine evV3 dL_law_241 cl_L_law_55 ⟨rfl, rfl, fun _ => ⟨_, rfl⟩⟩ (Nat.le_of_ble_eq_true rfl) (e_strict (sI K 28 4 0) K G t z hz1 (FI_thr h1 0).1 ht) ?_
      refine ev_aload_n dL_law_244 rfl rfl ?_
      refine ev_aload_n dL_law_245 rfl rfl ?_
      refine ev_iload dL_law_246 rfl ?_
      refine ev_iconst (v := 1) dL_law_248 rfl ?_
      refine ev_iadd dL_law_249 ?_
      refine ev_ialdv dL_law_250 rfl ((nI_add i 1)) (hb 1 (by omega)) ((show _ = vI (nI t) from congrArg vI et)) ?_
      refine ev_aload_n dL_law_251 rfl rfl ?_
      refine ev_iload dL_law_252 rfl ?_
      refine ev_iconst (v := 2) dL_law_254 rfl ?_
      refine ev_iadd dL_law_255 ?_
      refine ev_iald dL_law_256 rfl ((nI_add i 2)) (hb 2 (by omega)) ?_
      refine ev_if_eq (tgt := 264) dL_law_257 rfl (fun c257 => ?_) (fun c257 => ?_)
      · refine ev_iconst (v := 0) dL_law_264 rfl ?_
        have ez := hz2.1 c257
        subst ez
        exact h265
      · refine ev_iconst (v := 1) dL_law_260 rfl ?_
        refine ev_goto (tgt := 265) dL_law_261 rfl ?_
        have ez := hz2.2 c257
        subst ez
        exact h265
    · have hLI : LI xs L (c + 1) (sI K 28 4 0) G := LI_thr h 0 rfl rfl (by omega) (by omega)
      obtain ⟨r, hq, hk2⟩ := hk _ _ hLI
      refine ⟨r, hq, ?_⟩
      have h265 : Ev M_L_law 265 (lawLs i) [vI z, vI (G.2.1 (i + 1)), vR 8 0, vI 0] (conc (sI K 28 4 0) K G) r := by
        refine evV3 dL_law_265 cl_L_law_59 ⟨rfl, rfl, fun _ => ⟨_, rfl⟩⟩ (Nat.le_of_ble_eq_true rfl) (m_strictN _ K _ _ z ok) ?_
        refine ev_icmp_eq (tgt := 759) dL_law_268 rfl (fun c268 => ?_) (fun c268 => ?_)
        · exact hk2
        · exact absurd rfl c268
      refine evV3 dL_law_241 cl_L_law_55 ⟨rfl, rfl, fun _ => ⟨_, rfl⟩⟩ (Nat.le_of_ble_eq_true rfl) (e_strictN (sI K 28 4 0) K G _ z hn ok) ?_
      refine ev_aload_n dL_law_244 rfl rfl ?_
      refine ev_aload_n dL_law_245 rfl rfl ?_
      refine ev_iload dL_law_246 rfl ?_
      refine ev_iconst (v := 1) dL_law_248 rfl ?_
      refine ev_iadd dL_law_249 ?_
      refine ev_iald dL_law_250 rfl ((nI_add i 1)) (hb 1 (by omega)) ?_
      refine ev_aload_n dL_law_251 rfl rfl ?_
      refine ev_iload dL_law_252 rfl ?_
      refine ev_iconst (v := 2) dL_law_254 rfl ?_
      refine ev_iadd dL_law_255 ?_
      refine ev_iald dL_law_256 rfl ((nI_add i 2)) (hb 2 (by omega)) ?_
      refine ev_if_eq (tgt := 264) dL_law_257 rfl (fun c257 => ?_) (fun c257 => ?_)
      · refine ev_iconst (v := 0) dL_law_264 rfl ?_
        have ez := hz2.1 c257
        subst ez
        exact h265
      · refine ev_iconst (v := 1) dL_law_260 rfl ?_
        refine ev_goto (tgt := 265) dL_law_261 rfl ?_
        have ez := hz2.2 c257
        subst ez
        exact h265
  by_cases q : G.2.1 (i + 2) = 0
  · obtain ⟨r, hq, hw⟩ := hz0 0 (Or.inl rfl) ⟨fun _ => rfl, fun q2 => absurd q q2⟩
    refine ⟨r, hq, ?_⟩
    refine ev_aload_n dL_law_220 rfl rfl ?_
    refine ev_aload_n dL_law_221 rfl rfl ?_
    refine ev_iload dL_law_222 rfl ?_
    refine ev_iconst (v := 1) dL_law_224 rfl ?_
    refine ev_iadd dL_law_225 ?_
    refine ev_iald dL_law_226 rfl ((nI_add i 1)) (hb 1 (by omega)) ?_
    refine ev_aload_n dL_law_227 rfl rfl ?_
    refine ev_iload dL_law_228 rfl ?_
    refine ev_iconst (v := 2) dL_law_230 rfl ?_
    refine ev_iadd dL_law_231 ?_
    refine ev_iald dL_law_232 rfl ((nI_add i 2)) (hb 2 (by omega)) ?_
    refine ev_if_eq (tgt := 240) dL_law_233 rfl (fun c233 => ?_) (fun c233 => ?_)
    · refine ev_iconst (v := 0) dL_law_240 rfl ?_
      exact hw
    · exact absurd q c233
  · obtain ⟨r, hq, hw⟩ := hz0 1 (Or.inr rfl) ⟨fun q2 => absurd q2 q, fun _ => rfl⟩
    refine ⟨r, hq, ?_⟩
    refine ev_aload_n dL_law_220 rfl rfl ?_
    refine ev_aload_n dL_law_221 rfl rfl ?_
    refine ev_iload dL_law_222 rfl ?_
    refine ev_iconst (v := 1) dL_law_224 rfl ?_
    refine ev_iadd dL_law_225 ?_
    refine ev_iald dL_law_226 rfl ((nI_add i 1)) (hb 1 (by omega)) ?_
    refine ev_aload_n dL_law_227 rfl rfl ?_
    refine ev_iload dL_law_228 rfl ?_
    refine ev_iconst (v := 2) dL_law_230 rfl ?_
    refine ev_iadd dL_law_231 ?_
    refine ev_iald dL_law_232 rfl ((nI_add i 2)) (hb 2 (by omega)) ?_
    refine ev_if_eq (tgt := 240) dL_law_233 rfl (fun c233 => ?_) (fun c233 => ?_)
    · exact absurd c233 q
    · refine ev_iconst (v := 1) dL_law_236 rfl ?_
      refine ev_goto (tgt := 241) dL_law_237 rfl ?_
      exact hw
theorem op_mutex (xs : Nat → Int32) (L c i : Nat) (K : KT) (G : GT) (Q : Res → Prop) (hi : i + 6 ≤ L) (h : LI xs L c K G) (hk : Cont xs L c i Q) : ∃ r, Q r ∧ Ev M_L_law 273 (lawLs i) [] (conc K K G) r := by
  obtain ⟨⟨T, X, h1, h2, h3⟩, h4, h5, h6, h7, h8, h9⟩ := id h
  have hb : ∀ j, j < 6 → i + j < G.2.2 0 := fun j hj => by omega
  have hm := h1.1.1.2.1
  by_cases ok : mutOk (G.2.1 (i + 1)) (G.2.1 (i + 2))
  · by_cases hs : K.1 28 1 = 0 ∧ K.2 0 1 < 4
    · have hz := h5 hs.1
      have hLI : LI xs L (c + 1) (mutexK (sI K 28 4 0) (G.2.1 (i + 1)) (G.2.1 (i + 2))) (oG (mkG G 1 4) (nI (K.2 0 1)).toInt64) := LI_new h ⟨T, X, FI_mutex (FI_thr h1 0) hs.2 _ _, by omega, by omega⟩ h4 (fun _ => ⟨hz.1, hz.2⟩) rfl rfl (show G.2.2 1 + 1 ≤ _ by omega) (show G.2.2 2 + 4 ≤ _ by omega)
      obtain ⟨r, hq, hk2⟩ := hk _ _ hLI
      refine ⟨r, hq, ?_⟩
      show Ev M_L_law 273 (lawLs i) [] (conc (sI K 28 4 0) K G) r
      refine ev_aload_n dL_law_273 rfl rfl ?_
      refine ev_aload_n dL_law_274 rfl rfl ?_
      refine ev_iload dL_law_275 rfl ?_
      refine ev_iconst (v := 1) dL_law_277 rfl ?_
      refine ev_iadd dL_law_278 ?_
      refine ev_iald dL_law_279 rfl ((nI_add i 1)) (hb 1 (by omega)) ?_
      refine ev_aload_n dL_law_280 rfl rfl ?_
      refine ev_iload dL_law_281 rfl ?_
      refine ev_iconst (v := 2) dL_law_283 rfl ?_
      refine ev_iadd dL_law_284 ?_
      refine ev_iald dL_law_285 rfl ((nI_add i 2)) (hb 2 (by omega)) ?_
      refine ev_aload_n dL_law_286 rfl rfl ?_
      refine evS4 dL_law_287 cl_L_law_60 ⟨rfl, rfl, fun h => nomatch h⟩ (Nat.le_of_ble_eq_true rfl) (l_mutex (sI K 28 4 0) K G _ _ _ _ _ (e_mutex (sI K 28 4 0) K G _ _ hs.2 ok hs.1)) ?_
      refine ev_istore dL_law_290 rfl ?_
      refine ev_aload_n dL_law_292 rfl rfl ?_
      refine ev_aload_n dL_law_293 rfl rfl ?_
      refine ev_iload dL_law_294 rfl ?_
      refine ev_iconst (v := 1) dL_law_296 rfl ?_
      refine ev_iadd dL_law_297 ?_
      refine ev_iald dL_law_298 rfl ((nI_add i 1)) (hb 1 (by omega)) ?_
      refine ev_aload_n dL_law_299 rfl rfl ?_
      refine ev_iload dL_law_300 rfl ?_
      refine ev_iconst (v := 2) dL_law_302 rfl ?_
      refine ev_iadd dL_law_303 ?_
      refine ev_iald dL_law_304 rfl ((nI_add i 2)) (hb 2 (by omega)) ?_
      refine evV3 dL_law_305 cl_L_law_63 ⟨rfl, rfl, fun _ => ⟨_, rfl⟩⟩ (Nat.le_of_ble_eq_true rfl) (m_mutex _ K _ _ _ hs.2 ok hs.1) ?_
      refine ev_istore dL_law_308 rfl ?_
      refine ev_aload_n dL_law_310 rfl rfl ?_
      refine evV1 dL_law_311 cl_L_law_51 ⟨rfl, rfl, fun _ => ⟨_, rfl⟩⟩ (Nat.le_of_ble_eq_true rfl) (m_thrown _ _ _) ?_
      refine ev_iload dL_law_314 rfl ?_
      refine ev_icmp_eq (tgt := 321) dL_law_316 rfl (fun c316 => ?_) (fun c316 => ?_)
      · refine ev_iload dL_law_321 rfl ?_
        refine ev_if_ne (tgt := 338) dL_law_323 rfl (fun c323 => ?_) (fun c323 => ?_)
        · exact absurd rfl c323
        · refine ev_aload_n dL_law_326 rfl rfl ?_
          refine ev_iconst (v := 0) dL_law_327 rfl ?_
          refine ev_lald dL_law_328 rfl ((rfl : (0 : Int32) = nI 0)) Nat.zero_lt_one ?_
          refine ev_iload dL_law_329 rfl ?_
          refine ev_i2l dL_law_331 ?_
          refine ev_lcmp dL_law_332 ?_
          refine ev_if_eq (tgt := 338) dL_law_333 rfl (fun c333 => ?_) (fun c333 => ?_)
          · refine ev_goto (tgt := 759) dL_law_338 rfl ?_
            refine ev_forget (ls2 := [_, _, _, _, _, vU, vU, _, _]) (Fg_to ⟨Or.inr ⟨rfl, rfl⟩, Or.inr ⟨rfl, rfl⟩, Or.inr ⟨rfl, rfl⟩, Or.inr ⟨rfl, rfl⟩, Or.inr ⟨rfl, rfl⟩, Or.inl rfl, Or.inl rfl, Or.inr ⟨rfl, rfl⟩, Or.inr ⟨rfl, rfl⟩, trivial⟩) ?_
            exact hk2
          · exact absurd (lg_self _) c333
      · exact absurd rfl c316
    · have hLI : LI xs L (c + 1) (sI K 28 4 2) (exG G) := LI_thr h 2 rfl rfl (show G.2.2 1 + 1 ≤ _ by omega) (show G.2.2 2 + 6 ≤ _ by omega)
      obtain ⟨r, hq, hk2⟩ := hk _ _ hLI
      refine ⟨r, hq, ?_⟩
      show Ev M_L_law 273 (lawLs i) [] (conc (sI K 28 4 2) K G) r
      refine ev_aload_n dL_law_273 rfl rfl ?_
      refine ev_aload_n dL_law_274 rfl rfl ?_
      refine ev_iload dL_law_275 rfl ?_
      refine ev_iconst (v := 1) dL_law_277 rfl ?_
      refine ev_iadd dL_law_278 ?_
      refine ev_iald dL_law_279 rfl ((nI_add i 1)) (hb 1 (by omega)) ?_
      refine ev_aload_n dL_law_280 rfl rfl ?_
      refine ev_iload dL_law_281 rfl ?_
      refine ev_iconst (v := 2) dL_law_283 rfl ?_
      refine ev_iadd dL_law_284 ?_
      refine ev_iald dL_law_285 rfl ((nI_add i 2)) (hb 2 (by omega)) ?_
      refine ev_aload_n dL_law_286 rfl rfl ?_
      refine evS4 dL_law_287 cl_L_law_60 ⟨rfl, rfl, fun h => nomatch h⟩ (Nat.le_of_ble_eq_true rfl) (l_mutexX (sI K 28 4 2) K G _ _ 2 (Or.inr rfl) (e_mutexS (sI K 28 4 2) K G _ _ hm ok hs)) ?_
      refine ev_istore dL_law_290 rfl ?_
      refine ev_aload_n dL_law_292 rfl rfl ?_
      refine ev_aload_n dL_law_293 rfl rfl ?_
      refine ev_iload dL_law_294 rfl ?_
      refine ev_iconst (v := 1) dL_law_296 rfl ?_
      refine ev_iadd dL_law_297 ?_
      refine ev_iald dL_law_298 rfl ((nI_add i 1)) (hb 1 (by omega)) ?_
      refine ev_aload_n dL_law_299 rfl rfl ?_
      refine ev_iload dL_law_300 rfl ?_
      refine ev_iconst (v := 2) dL_law_302 rfl ?_
      refine ev_iadd dL_law_303 ?_
      refine ev_iald dL_law_304 rfl ((nI_add i 2)) (hb 2 (by omega)) ?_
      refine evV3 dL_law_305 cl_L_law_63 ⟨rfl, rfl, fun _ => ⟨_, rfl⟩⟩ (Nat.le_of_ble_eq_true rfl) (m_mutexS _ K _ _ _ hm ok hs) ?_
      refine ev_istore dL_law_308 rfl ?_
      refine ev_aload_n dL_law_310 rfl rfl ?_
      refine evV1 dL_law_311 cl_L_law_51 ⟨rfl, rfl, fun _ => ⟨_, rfl⟩⟩ (Nat.le_of_ble_eq_true rfl) (m_thrown _ _ _) ?_
      refine ev_iload dL_law_314 rfl ?_
      refine ev_icmp_eq (tgt := 321) dL_law_316 rfl (fun c316 => ?_) (fun c316 => ?_)
      · refine ev_iload dL_law_321 rfl ?_
        refine ev_if_ne (tgt := 338) dL_law_323 rfl (fun c323 => ?_) (fun c323 => ?_)
        · refine ev_goto (tgt := 759) dL_law_338 rfl ?_
          refine ev_forget (ls2 := [_, _, _, _, _, vU, vU, _, _]) (Fg_to ⟨Or.inr ⟨rfl, rfl⟩, Or.inr ⟨rfl, rfl⟩, Or.inr ⟨rfl, rfl⟩, Or.inr ⟨rfl, rfl⟩, Or.inr ⟨rfl, rfl⟩, Or.inl rfl, Or.inl rfl, Or.inr ⟨rfl, rfl⟩, Or.inr ⟨rfl, rfl⟩, trivial⟩) ?_
          exact hk2
        · exact absurd (show (2 : Int32) = 0 from Classical.not_not.mp c323) (by decide)
      · exact absurd rfl c316
  · have hLI : LI xs L (c + 1) (sI K 28 4 1) (exG G) := LI_thr h 1 rfl rfl (show G.2.2 1 + 1 ≤ _ by omega) (show G.2.2 2 + 6 ≤ _ by omega)
    obtain ⟨r, hq, hk2⟩ := hk _ _ hLI
    refine ⟨r, hq, ?_⟩
    show Ev M_L_law 273 (lawLs i) [] (conc (sI K 28 4 1) K G) r
    refine ev_aload_n dL_law_273 rfl rfl ?_
    refine ev_aload_n dL_law_274 rfl rfl ?_
    refine ev_iload dL_law_275 rfl ?_
    refine ev_iconst (v := 1) dL_law_277 rfl ?_
    refine ev_iadd dL_law_278 ?_
    refine ev_iald dL_law_279 rfl ((nI_add i 1)) (hb 1 (by omega)) ?_
    refine ev_aload_n dL_law_280 rfl rfl ?_
    refine ev_iload dL_law_281 rfl ?_
    refine ev_iconst (v := 2) dL_law_283 rfl ?_
    refine ev_iadd dL_law_284 ?_
    refine ev_iald dL_law_285 rfl ((nI_add i 2)) (hb 2 (by omega)) ?_
    refine ev_aload_n dL_law_286 rfl rfl ?_
    refine evS4 dL_law_287 cl_L_law_60 ⟨rfl, rfl, fun h => nomatch h⟩ (Nat.le_of_ble_eq_true rfl) (l_mutexX (sI K 28 4 1) K G _ _ 1 (Or.inl rfl) (e_mutexA (sI K 28 4 1) K G _ _ ok)) ?_
    refine ev_istore dL_law_290 rfl ?_
    refine ev_aload_n dL_law_292 rfl rfl ?_
    refine ev_aload_n dL_law_293 rfl rfl ?_
    refine ev_iload dL_law_294 rfl ?_
    refine ev_iconst (v := 1) dL_law_296 rfl ?_
    refine ev_iadd dL_law_297 ?_
    refine ev_iald dL_law_298 rfl ((nI_add i 1)) (hb 1 (by omega)) ?_
    refine ev_aload_n dL_law_299 rfl rfl ?_
    refine ev_iload dL_law_300 rfl ?_
    refine ev_iconst (v := 2) dL_law_302 rfl ?_
    refine ev_iadd dL_law_303 ?_
    refine ev_iald dL_law_304 rfl ((nI_add i 2)) (hb 2 (by omega)) ?_
    refine evV3 dL_law_305 cl_L_law_63 ⟨rfl, rfl, fun _ => ⟨_, rfl⟩⟩ (Nat.le_of_ble_eq_true rfl) (m_mutexA _ K _ _ _ ok) ?_
    refine ev_istore dL_law_308 rfl ?_
    refine ev_aload_n dL_law_310 rfl rfl ?_
    refine evV1 dL_law_311 cl_L_law_51 ⟨rfl, rfl, fun _ => ⟨_, rfl⟩⟩ (Nat.le_of_ble_eq_true rfl) (m_thrown _ _ _) ?_
    refine ev_iload dL_law_314 rfl ?_
    refine ev_icmp_eq (tgt := 321) dL_law_316 rfl (fun c316 => ?_) (fun c316 => ?_)
    · refine ev_iload dL_law_321 rfl ?_
      refine ev_if_ne (tgt := 338) dL_law_323 rfl (fun c323 => ?_) (fun c323 => ?_)
      · refine ev_goto (tgt := 759) dL_law_338 rfl ?_
        refine ev_forget (ls2 := [_, _, _, _, _, vU, vU, _, _]) (Fg_to ⟨Or.inr ⟨rfl, rfl⟩, Or.inr ⟨rfl, rfl⟩, Or.inr ⟨rfl, rfl⟩, Or.inr ⟨rfl, rfl⟩, Or.inr ⟨rfl, rfl⟩, Or.inl rfl, Or.inl rfl, Or.inr ⟨rfl, rfl⟩, Or.inr ⟨rfl, rfl⟩, trivial⟩) ?_
        exact hk2
      · exact absurd (show (1 : Int32) = 0 from Classical.not_not.mp c323) (by decide)
    · exact absurd rfl c316
theorem op_step (xs : Nat → Int32) (L c i : Nat) (K : KT) (G : GT) (Q : Res → Prop) (hi : i + 6 ≤ L) (h : LI xs L c K G) (hk : Cont xs L c i Q) : ∃ r, Q r ∧ Ev M_L_law 341 (lawLs i) [] (conc K K G) r := by
  obtain ⟨⟨T, X, h1, h2, h3⟩, h4, h5, h6, h7, h8, h9⟩ := id h
  have hb : ∀ j, j < 6 → i + j < G.2.2 0 := fun j hj => by omega
  have hn := h1.1.1.1
  by_cases ok : isT (K.2 0 0) (G.2.1 (i + 1)) ∧ stepOk K (G.2.1 (i + 2)) (G.2.1 (i + 3))
  · obtain ⟨t, ht, et⟩ := isT_ex (by omega) ok.1
    by_cases hs : K.1 28 1 = 0 ∧ K.2 2 t < 10
    · have hz := h5 hs.1
      have hLI : LI xs L (c + 1) (stepK (sI K 28 4 0) t (G.2.1 (i + 2)) (G.2.1 (i + 3))) (oG G (nI (K.2 2 t + 1)).toInt64) := LI_new h ⟨T, X, FI_step (FI_thr h1 0) hz.2 ht hs.2 ok.2, by omega, by omega⟩ h4 (fun _ => ⟨Fr_step (K := sI K 28 4 0) hz.1 ht hs.2 _ _, hz.2⟩) rfl rfl (show G.2.2 1 ≤ _ by omega) (show G.2.2 2 ≤ _ by omega)
      obtain ⟨r, hq, hk2⟩ := hk _ _ hLI
      refine ⟨r, hq, ?_⟩
      show Ev M_L_law 341 (lawLs i) [] (conc (sI K 28 4 0) K G) r
      refine ev_aload_n dL_law_341 rfl rfl ?_
      refine ev_aload_n dL_law_342 rfl rfl ?_
      refine ev_iload dL_law_343 rfl ?_
      refine ev_iconst (v := 1) dL_law_345 rfl ?_
      refine ev_iadd dL_law_346 ?_
      refine ev_ialdv dL_law_347 rfl ((nI_add i 1)) (hb 1 (by omega)) ((show _ = vI (nI t) from congrArg vI et)) ?_
      refine ev_aload_n dL_law_348 rfl rfl ?_
      refine ev_iload dL_law_349 rfl ?_
      refine ev_iconst (v := 2) dL_law_351 rfl ?_
      refine ev_iadd dL_law_352 ?_
      refine ev_iald dL_law_353 rfl ((nI_add i 2)) (hb 2 (by omega)) ?_
      refine ev_aload_n dL_law_354 rfl rfl ?_
      refine ev_iload dL_law_355 rfl ?_
      refine ev_iconst (v := 3) dL_law_357 rfl ?_
      refine ev_iadd dL_law_358 ?_
      refine ev_iald dL_law_359 rfl ((nI_add i 3)) (hb 3 (by omega)) ?_
      refine ev_aload_n dL_law_360 rfl rfl ?_
      refine evS5 dL_law_361 cl_L_law_64 ⟨rfl, rfl, fun h => nomatch h⟩ (Nat.le_of_ble_eq_true rfl) (l_step (sI K 28 4 0) K G _ _ _ _ _ _ (e_step (sI K 28 4 0) K G t _ _ (FI_thr h1 0).1 ht ok.2 hs.1 hs.2)) ?_
      refine ev_istore dL_law_364 rfl ?_
      refine ev_aload_n dL_law_366 rfl rfl ?_
      refine ev_aload_n dL_law_367 rfl rfl ?_
      refine ev_iload dL_law_368 rfl ?_
      refine ev_iconst (v := 1) dL_law_370 rfl ?_
      refine ev_iadd dL_law_371 ?_
      refine ev_ialdv dL_law_372 rfl ((nI_add i 1)) (hb 1 (by omega)) ((show _ = vI (nI t) from congrArg vI et)) ?_
      refine ev_aload_n dL_law_373 rfl rfl ?_
      refine ev_iload dL_law_374 rfl ?_
      refine ev_iconst (v := 2) dL_law_376 rfl ?_
      refine ev_iadd dL_law_377 ?_
      refine ev_iald dL_law_378 rfl ((nI_add i 2)) (hb 2 (by omega)) ?_
      refine ev_aload_n dL_law_379 rfl rfl ?_
      refine ev_iload dL_law_380 rfl ?_
      refine ev_iconst (v := 3) dL_law_382 rfl ?_
      refine ev_iadd dL_law_383 ?_
      refine ev_iald dL_law_384 rfl ((nI_add i 3)) (hb 3 (by omega)) ?_
      refine evV4 dL_law_385 cl_L_law_67 ⟨rfl, rfl, fun _ => ⟨_, rfl⟩⟩ (Nat.le_of_ble_eq_true rfl) (m_step _ K _ t _ _ h1.1 ht ok.2 hs.1 hs.2) ?_
      refine ev_istore dL_law_388 rfl ?_
      refine ev_aload_n dL_law_390 rfl rfl ?_
      refine evV1 dL_law_391 cl_L_law_51 ⟨rfl, rfl, fun _ => ⟨_, rfl⟩⟩ (Nat.le_of_ble_eq_true rfl) (m_thrown _ _ _) ?_
      refine ev_iload dL_law_394 rfl ?_
      refine ev_icmp_eq (tgt := 401) dL_law_396 rfl (fun c396 => ?_) (fun c396 => ?_)
      · refine ev_iload dL_law_401 rfl ?_
        refine ev_if_ne (tgt := 418) dL_law_403 rfl (fun c403 => ?_) (fun c403 => ?_)
        · exact absurd rfl c403
        · refine ev_aload_n dL_law_406 rfl rfl ?_
          refine ev_iconst (v := 0) dL_law_407 rfl ?_
          refine ev_lald dL_law_408 rfl ((rfl : (0 : Int32) = nI 0)) Nat.zero_lt_one ?_
          refine ev_iload dL_law_409 rfl ?_
          refine ev_i2l dL_law_411 ?_
          refine ev_lcmp dL_law_412 ?_
          refine ev_if_eq (tgt := 418) dL_law_413 rfl (fun c413 => ?_) (fun c413 => ?_)
          · refine ev_goto (tgt := 759) dL_law_418 rfl ?_
            refine ev_forget (ls2 := [_, _, _, _, _, vU, vU, _, _]) (Fg_to ⟨Or.inr ⟨rfl, rfl⟩, Or.inr ⟨rfl, rfl⟩, Or.inr ⟨rfl, rfl⟩, Or.inr ⟨rfl, rfl⟩, Or.inr ⟨rfl, rfl⟩, Or.inl rfl, Or.inl rfl, Or.inr ⟨rfl, rfl⟩, Or.inr ⟨rfl, rfl⟩, trivial⟩) ?_
            exact hk2
          · exact absurd (lg_self _) c413
      · exact absurd rfl c396
    · have hLI : LI xs L (c + 1) (sI K 28 4 2) (exG G) := LI_thr h 2 rfl rfl (show G.2.2 1 + 1 ≤ _ by omega) (show G.2.2 2 + 6 ≤ _ by omega)
      obtain ⟨r, hq, hk2⟩ := hk _ _ hLI
      refine ⟨r, hq, ?_⟩
      show Ev M_L_law 341 (lawLs i) [] (conc (sI K 28 4 2) K G) r
      refine ev_aload_n dL_law_341 rfl rfl ?_
      refine ev_aload_n dL_law_342 rfl rfl ?_
      refine ev_iload dL_law_343 rfl ?_
      refine ev_iconst (v := 1) dL_law_345 rfl ?_
      refine ev_iadd dL_law_346 ?_
      refine ev_ialdv dL_law_347 rfl ((nI_add i 1)) (hb 1 (by omega)) ((show _ = vI (nI t) from congrArg vI et)) ?_
      refine ev_aload_n dL_law_348 rfl rfl ?_
      refine ev_iload dL_law_349 rfl ?_
      refine ev_iconst (v := 2) dL_law_351 rfl ?_
      refine ev_iadd dL_law_352 ?_
      refine ev_iald dL_law_353 rfl ((nI_add i 2)) (hb 2 (by omega)) ?_
      refine ev_aload_n dL_law_354 rfl rfl ?_
      refine ev_iload dL_law_355 rfl ?_
      refine ev_iconst (v := 3) dL_law_357 rfl ?_
      refine ev_iadd dL_law_358 ?_
      refine ev_iald dL_law_359 rfl ((nI_add i 3)) (hb 3 (by omega)) ?_
      refine ev_aload_n dL_law_360 rfl rfl ?_
      refine evS5 dL_law_361 cl_L_law_64 ⟨rfl, rfl, fun h => nomatch h⟩ (Nat.le_of_ble_eq_true rfl) (l_stepX (sI K 28 4 2) K G _ _ _ 2 (Or.inr rfl) (e_stepS (sI K 28 4 2) K G t _ _ (FI_thr h1 2).1 ht ok.2 hs)) ?_
      refine ev_istore dL_law_364 rfl ?_
      refine ev_aload_n dL_law_366 rfl rfl ?_
      refine ev_aload_n dL_law_367 rfl rfl ?_
      refine ev_iload dL_law_368 rfl ?_
      refine ev_iconst (v := 1) dL_law_370 rfl ?_
      refine ev_iadd dL_law_371 ?_
      refine ev_ialdv dL_law_372 rfl ((nI_add i 1)) (hb 1 (by omega)) ((show _ = vI (nI t) from congrArg vI et)) ?_
      refine ev_aload_n dL_law_373 rfl rfl ?_
      refine ev_iload dL_law_374 rfl ?_
      refine ev_iconst (v := 2) dL_law_376 rfl ?_
      refine ev_iadd dL_law_377 ?_
      refine ev_iald dL_law_378 rfl ((nI_add i 2)) (hb 2 (by omega)) ?_
      refine ev_aload_n dL_law_379 rfl rfl ?_
      refine ev_iload dL_law_380 rfl ?_
      refine ev_iconst (v := 3) dL_law_382 rfl ?_
      refine ev_iadd dL_law_383 ?_
      refine ev_iald dL_law_384 rfl ((nI_add i 3)) (hb 3 (by omega)) ?_
      refine evV4 dL_law_385 cl_L_law_67 ⟨rfl, rfl, fun _ => ⟨_, rfl⟩⟩ (Nat.le_of_ble_eq_true rfl) (m_stepS _ K _ t _ _ h1.1 ht ok.2 hs) ?_
      refine ev_istore dL_law_388 rfl ?_
      refine ev_aload_n dL_law_390 rfl rfl ?_
      refine evV1 dL_law_391 cl_L_law_51 ⟨rfl, rfl, fun _ => ⟨_, rfl⟩⟩ (Nat.le_of_ble_eq_true rfl) (m_thrown _ _ _) ?_
      refine ev_iload dL_law_394 rfl ?_
      refine ev_icmp_eq (tgt := 401) dL_law_396 rfl (fun c396 => ?_) (fun c396 => ?_)
      · refine ev_iload dL_law_401 rfl ?_
        refine ev_if_ne (tgt := 418) dL_law_403 rfl (fun c403 => ?_) (fun c403 => ?_)
        · refine ev_goto (tgt := 759) dL_law_418 rfl ?_
          refine ev_forget (ls2 := [_, _, _, _, _, vU, vU, _, _]) (Fg_to ⟨Or.inr ⟨rfl, rfl⟩, Or.inr ⟨rfl, rfl⟩, Or.inr ⟨rfl, rfl⟩, Or.inr ⟨rfl, rfl⟩, Or.inr ⟨rfl, rfl⟩, Or.inl rfl, Or.inl rfl, Or.inr ⟨rfl, rfl⟩, Or.inr ⟨rfl, rfl⟩, trivial⟩) ?_
          exact hk2
        · exact absurd (show (2 : Int32) = 0 from Classical.not_not.mp c403) (by decide)
      · exact absurd rfl c396
  · have hLI : LI xs L (c + 1) (sI K 28 4 1) (exG G) := LI_thr h 1 rfl rfl (show G.2.2 1 + 1 ≤ _ by omega) (show G.2.2 2 + 6 ≤ _ by omega)
    obtain ⟨r, hq, hk2⟩ := hk _ _ hLI
    refine ⟨r, hq, ?_⟩
    show Ev M_L_law 341 (lawLs i) [] (conc (sI K 28 4 1) K G) r
    refine ev_aload_n dL_law_341 rfl rfl ?_
    refine ev_aload_n dL_law_342 rfl rfl ?_
    refine ev_iload dL_law_343 rfl ?_
    refine ev_iconst (v := 1) dL_law_345 rfl ?_
    refine ev_iadd dL_law_346 ?_
    refine ev_iald dL_law_347 rfl ((nI_add i 1)) (hb 1 (by omega)) ?_
    refine ev_aload_n dL_law_348 rfl rfl ?_
    refine ev_iload dL_law_349 rfl ?_
    refine ev_iconst (v := 2) dL_law_351 rfl ?_
    refine ev_iadd dL_law_352 ?_
    refine ev_iald dL_law_353 rfl ((nI_add i 2)) (hb 2 (by omega)) ?_
    refine ev_aload_n dL_law_354 rfl rfl ?_
    refine ev_iload dL_law_355 rfl ?_
    refine ev_iconst (v := 3) dL_law_357 rfl ?_
    refine ev_iadd dL_law_358 ?_
    refine ev_iald dL_law_359 rfl ((nI_add i 3)) (hb 3 (by omega)) ?_
    refine ev_aload_n dL_law_360 rfl rfl ?_
    refine evS5 dL_law_361 cl_L_law_64 ⟨rfl, rfl, fun h => nomatch h⟩ (Nat.le_of_ble_eq_true rfl) (l_stepX (sI K 28 4 1) K G _ _ _ 1 (Or.inl rfl) (e_stepA (sI K 28 4 1) K G _ _ _ (FI_thr h1 1).1 ok)) ?_
    refine ev_istore dL_law_364 rfl ?_
    refine ev_aload_n dL_law_366 rfl rfl ?_
    refine ev_aload_n dL_law_367 rfl rfl ?_
    refine ev_iload dL_law_368 rfl ?_
    refine ev_iconst (v := 1) dL_law_370 rfl ?_
    refine ev_iadd dL_law_371 ?_
    refine ev_iald dL_law_372 rfl ((nI_add i 1)) (hb 1 (by omega)) ?_
    refine ev_aload_n dL_law_373 rfl rfl ?_
    refine ev_iload dL_law_374 rfl ?_
    refine ev_iconst (v := 2) dL_law_376 rfl ?_
    refine ev_iadd dL_law_377 ?_
    refine ev_iald dL_law_378 rfl ((nI_add i 2)) (hb 2 (by omega)) ?_
    refine ev_aload_n dL_law_379 rfl rfl ?_
    refine ev_iload dL_law_380 rfl ?_
    refine ev_iconst (v := 3) dL_law_382 rfl ?_
    refine ev_iadd dL_law_383 ?_
    refine ev_iald dL_law_384 rfl ((nI_add i 3)) (hb 3 (by omega)) ?_
    refine evV4 dL_law_385 cl_L_law_67 ⟨rfl, rfl, fun _ => ⟨_, rfl⟩⟩ (Nat.le_of_ble_eq_true rfl) (m_stepA _ K _ _ _ _ ok) ?_
    refine ev_istore dL_law_388 rfl ?_
    refine ev_aload_n dL_law_390 rfl rfl ?_
    refine evV1 dL_law_391 cl_L_law_51 ⟨rfl, rfl, fun _ => ⟨_, rfl⟩⟩ (Nat.le_of_ble_eq_true rfl) (m_thrown _ _ _) ?_
    refine ev_iload dL_law_394 rfl ?_
    refine ev_icmp_eq (tgt := 401) dL_law_396 rfl (fun c396 => ?_) (fun c396 => ?_)
    · refine ev_iload dL_law_401 rfl ?_
      refine ev_if_ne (tgt := 418) dL_law_403 rfl (fun c403 => ?_) (fun c403 => ?_)
      · refine ev_goto (tgt := 759) dL_law_418 rfl ?_
        refine ev_forget (ls2 := [_, _, _, _, _, vU, vU, _, _]) (Fg_to ⟨Or.inr ⟨rfl, rfl⟩, Or.inr ⟨rfl, rfl⟩, Or.inr ⟨rfl, rfl⟩, Or.inr ⟨rfl, rfl⟩, Or.inr ⟨rfl, rfl⟩, Or.inl rfl, Or.inl rfl, Or.inr ⟨rfl, rfl⟩, Or.inr ⟨rfl, rfl⟩, trivial⟩) ?_
        exact hk2
      · exact absurd (show (1 : Int32) = 0 from Classical.not_not.mp c403) (by decide)
    · exact absurd rfl c396
theorem op_start (xs : Nat → Int32) (L c i : Nat) (K : KT) (G : GT) (Q : Res → Prop) (h : LI xs L c K G) (hk : Cont xs L c i Q) : ∃ r, Q r ∧ Ev M_L_law 421 (lawLs i) [] (conc K K G) r := by
  obtain ⟨⟨T, X, h1, h2, h3⟩, h4, h5, h6, h7, h8, h9⟩ := id h
  have hn := h1.1.1.1
  by_cases hs : K.1 28 1 = 0 ∧ ¬ K.2 0 0 = 0
  · have hLI : LI xs L (c + 1) (sI (sI K 28 4 0) 28 1 1) G := LI_new h ⟨T, X, FI_str (FI_thr h1 0) 1, by omega, by omega⟩ (Or.inr rfl) (fun q => absurd (show (1 : Int32) = 0 from q) (by decide)) rfl rfl (by omega) (by omega)
    obtain ⟨r, hq, hk2⟩ := hk _ _ hLI
    refine ⟨r, hq, ?_⟩
    show Ev M_L_law 421 (lawLs i) [] (conc (sI K 28 4 0) K G) r
    refine ev_aload_n dL_law_421 rfl rfl ?_
    refine evS1 dL_law_422 cl_L_law_68 ⟨rfl, rfl, fun h => nomatch h⟩ (Nat.le_of_ble_eq_true rfl) (l_start (sI K 28 4 0) K G _ _ (e_start (sI K 28 4 0) K G hn hs.1 hs.2)) ?_
    refine ev_istore dL_law_425 rfl ?_
    refine ev_aload_n dL_law_427 rfl rfl ?_
    refine evV1 dL_law_428 cl_L_law_71 ⟨rfl, rfl, fun _ => ⟨_, rfl⟩⟩ (Nat.le_of_ble_eq_true rfl) (m_start _ K _ hn hs.1 hs.2) ?_
    refine ev_aload_n dL_law_431 rfl rfl ?_
    refine evV1 dL_law_432 cl_L_law_51 ⟨rfl, rfl, fun _ => ⟨_, rfl⟩⟩ (Nat.le_of_ble_eq_true rfl) (m_thrown _ _ _) ?_
    refine ev_iload dL_law_435 rfl ?_
    refine ev_icmp_eq (tgt := 442) dL_law_437 rfl (fun c437 => ?_) (fun c437 => ?_)
    · refine ev_goto (tgt := 759) dL_law_442 rfl ?_
      refine ev_forget (ls2 := [_, _, _, _, _, vU, _, _, _]) (Fg_to ⟨Or.inr ⟨rfl, rfl⟩, Or.inr ⟨rfl, rfl⟩, Or.inr ⟨rfl, rfl⟩, Or.inr ⟨rfl, rfl⟩, Or.inr ⟨rfl, rfl⟩, Or.inl rfl, Or.inr ⟨rfl, rfl⟩, Or.inr ⟨rfl, rfl⟩, Or.inr ⟨rfl, rfl⟩, trivial⟩) ?_
      exact hk2
    · exact absurd rfl c437
  · have hLI : LI xs L (c + 1) (sI K 28 4 1) (exG G) := LI_thr h 1 rfl rfl (show G.2.2 1 + 1 ≤ _ by omega) (show G.2.2 2 + 6 ≤ _ by omega)
    obtain ⟨r, hq, hk2⟩ := hk _ _ hLI
    refine ⟨r, hq, ?_⟩
    show Ev M_L_law 421 (lawLs i) [] (conc (sI K 28 4 1) K G) r
    refine ev_aload_n dL_law_421 rfl rfl ?_
    refine evS1 dL_law_422 cl_L_law_68 ⟨rfl, rfl, fun h => nomatch h⟩ (Nat.le_of_ble_eq_true rfl) (l_startX (sI K 28 4 1) K G (e_startS (sI K 28 4 1) K G hs)) ?_
    refine ev_istore dL_law_425 rfl ?_
    refine ev_aload_n dL_law_427 rfl rfl ?_
    refine evV1 dL_law_428 cl_L_law_71 ⟨rfl, rfl, fun _ => ⟨_, rfl⟩⟩ (Nat.le_of_ble_eq_true rfl) (m_startS _ K _ h4 hn hs) ?_
    refine ev_aload_n dL_law_431 rfl rfl ?_
    refine evV1 dL_law_432 cl_L_law_51 ⟨rfl, rfl, fun _ => ⟨_, rfl⟩⟩ (Nat.le_of_ble_eq_true rfl) (m_thrown _ _ _) ?_
    refine ev_iload dL_law_435 rfl ?_
    refine ev_icmp_eq (tgt := 442) dL_law_437 rfl (fun c437 => ?_) (fun c437 => ?_)
    · refine ev_goto (tgt := 759) dL_law_442 rfl ?_
      refine ev_forget (ls2 := [_, _, _, _, _, vU, _, _, _]) (Fg_to ⟨Or.inr ⟨rfl, rfl⟩, Or.inr ⟨rfl, rfl⟩, Or.inr ⟨rfl, rfl⟩, Or.inr ⟨rfl, rfl⟩, Or.inr ⟨rfl, rfl⟩, Or.inl rfl, Or.inr ⟨rfl, rfl⟩, Or.inr ⟨rfl, rfl⟩, Or.inr ⟨rfl, rfl⟩, trivial⟩) ?_
      exact hk2
    · exact absurd rfl c437
theorem per_or {K : KT} {T : Nat} (h : Num K T) : ∀ u, u < K.2 0 0 → K.1 1 u = 0 ∨ 0 < K.1 1 u := by
  intro u hu
  obtain ⟨-, -, p, p1, p2⟩ := h.2 u hu
  rw [p2]
  rcases p with _ | p
  · exact Or.inl rfl
  · right
    rw [show (0 : Int32) = nI 0 from rfl, nI_ltI (by omega) (by omega)]
    omega
theorem op_release (xs : Nat → Int32) (L c i : Nat) (K : KT) (G : GT) (Q : Res → Prop) (hc : c ≤ 600) (hi : i + 6 ≤ L) (h : LI xs L c K G) (hk : Cont xs L c i Q) : ∃ r, Q r ∧ Ev M_L_law 445 (lawLs i) [] (conc K K G) r := by
  obtain ⟨⟨T, X, h1, h2, h3⟩, h4, h5, h6, h7, h8, h9⟩ := id h
  have hb : ∀ j, j < 6 → i + j < G.2.2 0 := fun j hj => by omega
  have hn := h1.1.1.1
  by_cases ok : ¬ K.1 28 1 = 0 ∧ ∃ t, t < K.2 0 0 ∧ G.2.1 (i + 1) = nI t ∧ K.1 1 t = 0
  · obtain ⟨hs, t, ht, et, hp⟩ := ok
    have hF : FI (sI K 28 4 0) T X := FI_thr h1 0
    have hth : thr (beginK (sI K 28 4 0) t) = thr (sI K 28 4 0) := thr_begin _ t
    have hLI : LI xs L (c + 1) (beginK (sI K 28 4 0) t) G := LI_new h ⟨T, X + 23, FI_begin hF ht, by omega, by omega⟩ (by rw [show (beginK (sI K 28 4 0) t).1 28 1 = K.1 28 1 from congrArg Prod.snd hth]; exact h4) (fun q => absurd ((congrArg Prod.snd hth).symm.trans q) hs) rfl rfl (by omega) (by omega)
    obtain ⟨r, hq, hk2⟩ := hk _ _ hLI
    refine ⟨r, hq, ?_⟩
    show Ev M_L_law 445 (lawLs i) [] (conc (sI K 28 4 0) K G) r
    refine ev_aload_n dL_law_445 rfl rfl ?_
    refine ev_aload_n dL_law_446 rfl rfl ?_
    refine ev_iload dL_law_447 rfl ?_
    refine ev_iconst (v := 1) dL_law_449 rfl ?_
    refine ev_iadd dL_law_450 ?_
    refine ev_ialdv dL_law_451 rfl ((nI_add i 1)) (hb 1 (by omega)) ((show _ = vI (nI t) from congrArg vI et)) ?_
    refine evV2 dL_law_452 cl_L_law_72 ⟨rfl, rfl, fun _ => ⟨_, rfl⟩⟩ (Nat.le_of_ble_eq_true rfl) (e_release (sI K 28 4 0) K G t hF.1 ht hs hp) ?_
    refine ev_aload_n dL_law_455 rfl rfl ?_
    refine ev_aload_n dL_law_456 rfl rfl ?_
    refine ev_iload dL_law_457 rfl ?_
    refine ev_iconst (v := 1) dL_law_459 rfl ?_
    refine ev_iadd dL_law_460 ?_
    refine ev_ialdv dL_law_461 rfl ((nI_add i 1)) (hb 1 (by omega)) ((show _ = vI (nI t) from congrArg vI et)) ?_
    refine evV2 dL_law_462 cl_L_law_76 ⟨rfl, rfl, fun _ => ⟨_, rfl⟩⟩ (Nat.le_of_ble_eq_true rfl) (m_release _ K _ t T X hF ⟨by omega, by omega⟩ ht hs hp) ?_
    refine ev_icmp_eq (tgt := 759) dL_law_465 rfl (fun c465 => ?_) (fun c465 => ?_)
    · exact hk2
    · exact absurd rfl c465
  · have hLI : LI xs L (c + 1) (sI K 28 4 0) G := LI_thr h 0 rfl rfl (by omega) (by omega)
    obtain ⟨r, hq, hk2⟩ := hk _ _ hLI
    refine ⟨r, hq, ?_⟩
    show Ev M_L_law 445 (lawLs i) [] (conc (sI K 28 4 0) K G) r
    refine ev_aload_n dL_law_445 rfl rfl ?_
    refine ev_aload_n dL_law_446 rfl rfl ?_
    refine ev_iload dL_law_447 rfl ?_
    refine ev_iconst (v := 1) dL_law_449 rfl ?_
    refine ev_iadd dL_law_450 ?_
    refine ev_iald dL_law_451 rfl ((nI_add i 1)) (hb 1 (by omega)) ?_
    refine evV2 dL_law_452 cl_L_law_72 ⟨rfl, rfl, fun _ => ⟨_, rfl⟩⟩ (Nat.le_of_ble_eq_true rfl) (e_releaseN (sI K 28 4 0) K G _ hn ok) ?_
    refine ev_aload_n dL_law_455 rfl rfl ?_
    refine ev_aload_n dL_law_456 rfl rfl ?_
    refine ev_iload dL_law_457 rfl ?_
    refine ev_iconst (v := 1) dL_law_459 rfl ?_
    refine ev_iadd dL_law_460 ?_
    refine ev_iald dL_law_461 rfl ((nI_add i 1)) (hb 1 (by omega)) ?_
    refine evV2 dL_law_462 cl_L_law_76 ⟨rfl, rfl, fun _ => ⟨_, rfl⟩⟩ (Nat.le_of_ble_eq_true rfl) (m_releaseN _ K _ _ hn (per_or h1.2.2.1) ok) ?_
    refine ev_icmp_eq (tgt := 759) dL_law_465 rfl (fun c465 => ?_) (fun c465 => ?_)
    · exact hk2
    · exact absurd rfl c465
theorem op_tick (xs : Nat → Int32) (L c i : Nat) (K : KT) (G : GT) (Q : Res → Prop) (hc : c ≤ 600) (hi : i + 6 ≤ L) (h : LI xs L c K G) (hk : Cont xs L c i Q) : ∃ r, Q r ∧ Ev M_L_law 470 (lawLs i) [] (conc K K G) r := by
  obtain ⟨⟨T, X, h1, h2, h3⟩, h4, h5, h6, h7, h8, h9⟩ := id h
  have hb : ∀ j, j < 6 → i + j < G.2.2 0 := fun j hj => by omega
  by_cases ok : (0 : Int32) ≤ G.2.1 (i + 1) ∧ G.2.1 (i + 1) ≤ 500
  · by_cases hs : K.1 28 1 = 0
    · have hLI : LI xs L (c + 1) (sI K 28 4 2) (exG G) := LI_thr h 2 rfl rfl (show G.2.2 1 + 1 ≤ _ by omega) (show G.2.2 2 + 6 ≤ _ by omega)
      obtain ⟨r, hq, hk2⟩ := hk _ _ hLI
      refine ⟨r, hq, ?_⟩
      show Ev M_L_law 470 (lawLs i) [] (conc (sI K 28 4 2) K G) r
      refine ev_aload_n dL_law_470 rfl rfl ?_
      refine ev_aload_n dL_law_471 rfl rfl ?_
      refine ev_iload dL_law_472 rfl ?_
      refine ev_iconst (v := 1) dL_law_474 rfl ?_
      refine ev_iadd dL_law_475 ?_
      refine ev_iald dL_law_476 rfl ((nI_add i 1)) (hb 1 (by omega)) ?_
      refine ev_aload_n dL_law_477 rfl rfl ?_
      refine evS3 dL_law_478 cl_L_law_77 ⟨rfl, rfl, fun h => nomatch h⟩ (Nat.le_of_ble_eq_true rfl) (l_tickX (sI K 28 4 2) K G _ 2 (Or.inr rfl) (e_tickS (sI K 28 4 2) K G _ ok hs)) ?_
      refine ev_istore dL_law_481 rfl ?_
      refine ev_aload_n dL_law_483 rfl rfl ?_
      refine ev_aload_n dL_law_484 rfl rfl ?_
      refine ev_iload dL_law_485 rfl ?_
      refine ev_iconst (v := 1) dL_law_487 rfl ?_
      refine ev_iadd dL_law_488 ?_
      refine ev_iald dL_law_489 rfl ((nI_add i 1)) (hb 1 (by omega)) ?_
      refine evV2 dL_law_490 cl_L_law_80 ⟨rfl, rfl, fun _ => ⟨_, rfl⟩⟩ (Nat.le_of_ble_eq_true rfl) (m_tickS _ K _ _ ok hs) ?_
      refine ev_istore dL_law_493 rfl ?_
      refine ev_aload_n dL_law_495 rfl rfl ?_
      refine evV1 dL_law_496 cl_L_law_51 ⟨rfl, rfl, fun _ => ⟨_, rfl⟩⟩ (Nat.le_of_ble_eq_true rfl) (m_thrown _ _ _) ?_
      refine ev_iload dL_law_499 rfl ?_
      refine ev_icmp_eq (tgt := 506) dL_law_501 rfl (fun c501 => ?_) (fun c501 => ?_)
      · refine ev_iload dL_law_506 rfl ?_
        refine ev_if_ne (tgt := 523) dL_law_508 rfl (fun c508 => ?_) (fun c508 => ?_)
        · refine ev_goto (tgt := 759) dL_law_523 rfl ?_
          refine ev_forget (ls2 := [_, _, _, _, _, vU, vU, _, _]) (Fg_to ⟨Or.inr ⟨rfl, rfl⟩, Or.inr ⟨rfl, rfl⟩, Or.inr ⟨rfl, rfl⟩, Or.inr ⟨rfl, rfl⟩, Or.inr ⟨rfl, rfl⟩, Or.inl rfl, Or.inl rfl, Or.inr ⟨rfl, rfl⟩, Or.inr ⟨rfl, rfl⟩, trivial⟩) ?_
          exact hk2
        · exact absurd (show (2 : Int32) = 0 from Classical.not_not.mp c508) (by decide)
      · exact absurd rfl c501
    · obtain ⟨n, hn, en⟩ := nI_rng (a := 0) (b := 500) ok.1 ok.2 (by omega) (by omega)
      have hF : FI (sI K 28 4 0) T X := FI_thr h1 0
      obtain ⟨f1, f2, f3⟩ := FI_ticks n (sI K 28 4 0) 0 T X hF
      have hth : thr (ticksK n (sI K 28 4 0) 0).1 = thr (sI K 28 4 0) := thr_ticks n _ 0
      have ht4 : (ticksK n (sI K 28 4 0) 0).1.1 28 4 = 0 := congrArg Prod.fst hth
      have hLI : LI xs L (c + 1) (ticksK n (sI K 28 4 0) 0).1 (oG G (nI (ticksK n (sI K 28 4 0) 0).2).toInt64) := LI_new h ⟨T + n, X + 193 * n, f1, by omega, by omega⟩ (by rw [show (ticksK n (sI K 28 4 0) 0).1.1 28 1 = K.1 28 1 from congrArg Prod.snd hth]; exact h4) (fun q => absurd ((congrArg Prod.snd hth).symm.trans q) hs) rfl rfl (show G.2.2 1 ≤ _ by omega) (show G.2.2 2 ≤ _ by omega)
      obtain ⟨r, hq, hk2⟩ := hk _ _ hLI
      refine ⟨r, hq, ?_⟩
      show Ev M_L_law 470 (lawLs i) [] (conc (sI K 28 4 0) K G) r
      refine ev_aload_n dL_law_470 rfl rfl ?_
      refine ev_aload_n dL_law_471 rfl rfl ?_
      refine ev_iload dL_law_472 rfl ?_
      refine ev_iconst (v := 1) dL_law_474 rfl ?_
      refine ev_iadd dL_law_475 ?_
      refine ev_ialdv dL_law_476 rfl ((nI_add i 1)) (hb 1 (by omega)) ((show _ = vI (nI n) from congrArg vI en)) ?_
      refine ev_aload_n dL_law_477 rfl rfl ?_
      refine evS3 dL_law_478 cl_L_law_77 ⟨rfl, rfl, fun h => nomatch h⟩ (Nat.le_of_ble_eq_true rfl) (l_tick (sI K 28 4 0) K G _ _ _ _ (e_tick (sI K 28 4 0) K G T X n hn hs hF)) ?_
      refine ev_istore dL_law_481 rfl ?_
      refine ev_aload_n dL_law_483 rfl rfl ?_
      refine ev_aload_n dL_law_484 rfl rfl ?_
      refine ev_iload dL_law_485 rfl ?_
      refine ev_iconst (v := 1) dL_law_487 rfl ?_
      refine ev_iadd dL_law_488 ?_
      refine ev_ialdv dL_law_489 rfl ((nI_add i 1)) (hb 1 (by omega)) ((show _ = vI (nI n) from congrArg vI en)) ?_
      refine evV2 dL_law_490 cl_L_law_80 ⟨rfl, rfl, fun _ => ⟨_, rfl⟩⟩ (Nat.le_of_ble_eq_true rfl) (m_tick _ K _ T X n hn hs hF ⟨by omega, by omega⟩) ?_
      refine ev_istore dL_law_493 rfl ?_
      refine ev_aload_n dL_law_495 rfl rfl ?_
      refine evV1 dL_law_496 cl_L_law_51 ⟨rfl, rfl, fun _ => ⟨_, rfl⟩⟩ (Nat.le_of_ble_eq_true rfl) (m_thrown _ _ _) ?_
      refine ev_iload dL_law_499 rfl ?_
      refine ev_icmp_eq (tgt := 506) dL_law_501 rfl (fun c501 => ?_) (fun c501 => ?_)
      · refine ev_iload dL_law_506 rfl ?_
        refine ev_if_ne (tgt := 523) dL_law_508 rfl (fun c508 => ?_) (fun c508 => ?_)
        · exact absurd rfl c508
        · refine ev_aload_n dL_law_511 rfl rfl ?_
          refine ev_iconst (v := 0) dL_law_512 rfl ?_
          refine ev_lald dL_law_513 rfl ((rfl : (0 : Int32) = nI 0)) Nat.zero_lt_one ?_
          refine ev_iload dL_law_514 rfl ?_
          refine ev_i2l dL_law_516 ?_
          refine ev_lcmp dL_law_517 ?_
          refine ev_if_eq (tgt := 523) dL_law_518 rfl (fun c518 => ?_) (fun c518 => ?_)
          · refine ev_goto (tgt := 759) dL_law_523 rfl ?_
            refine ev_forget (ls2 := [_, _, _, _, _, vU, vU, _, _]) (Fg_to ⟨Or.inr ⟨rfl, rfl⟩, Or.inr ⟨rfl, rfl⟩, Or.inr ⟨rfl, rfl⟩, Or.inr ⟨rfl, rfl⟩, Or.inr ⟨rfl, rfl⟩, Or.inl rfl, Or.inl rfl, Or.inr ⟨rfl, rfl⟩, Or.inr ⟨rfl, rfl⟩, trivial⟩) ?_
            exact hk2
          · exact absurd (lg_self _) c518
      · exact absurd ht4 c501
  · have hLI : LI xs L (c + 1) (sI K 28 4 1) (exG G) := LI_thr h 1 rfl rfl (show G.2.2 1 + 1 ≤ _ by omega) (show G.2.2 2 + 6 ≤ _ by omega)
    obtain ⟨r, hq, hk2⟩ := hk _ _ hLI
    refine ⟨r, hq, ?_⟩
    show Ev M_L_law 470 (lawLs i) [] (conc (sI K 28 4 1) K G) r
    refine ev_aload_n dL_law_470 rfl rfl ?_
    refine ev_aload_n dL_law_471 rfl rfl ?_
    refine ev_iload dL_law_472 rfl ?_
    refine ev_iconst (v := 1) dL_law_474 rfl ?_
    refine ev_iadd dL_law_475 ?_
    refine ev_iald dL_law_476 rfl ((nI_add i 1)) (hb 1 (by omega)) ?_
    refine ev_aload_n dL_law_477 rfl rfl ?_
    refine evS3 dL_law_478 cl_L_law_77 ⟨rfl, rfl, fun h => nomatch h⟩ (Nat.le_of_ble_eq_true rfl) (l_tickX (sI K 28 4 1) K G _ 1 (Or.inl rfl) (e_tickA (sI K 28 4 1) K G _ ok)) ?_
    refine ev_istore dL_law_481 rfl ?_
    refine ev_aload_n dL_law_483 rfl rfl ?_
    refine ev_aload_n dL_law_484 rfl rfl ?_
    refine ev_iload dL_law_485 rfl ?_
    refine ev_iconst (v := 1) dL_law_487 rfl ?_
    refine ev_iadd dL_law_488 ?_
    refine ev_iald dL_law_489 rfl ((nI_add i 1)) (hb 1 (by omega)) ?_
    refine evV2 dL_law_490 cl_L_law_80 ⟨rfl, rfl, fun _ => ⟨_, rfl⟩⟩ (Nat.le_of_ble_eq_true rfl) (m_tickA _ K _ _ ok) ?_
    refine ev_istore dL_law_493 rfl ?_
    refine ev_aload_n dL_law_495 rfl rfl ?_
    refine evV1 dL_law_496 cl_L_law_51 ⟨rfl, rfl, fun _ => ⟨_, rfl⟩⟩ (Nat.le_of_ble_eq_true rfl) (m_thrown _ _ _) ?_
    refine ev_iload dL_law_499 rfl ?_
    refine ev_icmp_eq (tgt := 506) dL_law_501 rfl (fun c501 => ?_) (fun c501 => ?_)
    · refine ev_iload dL_law_506 rfl ?_
      refine ev_if_ne (tgt := 523) dL_law_508 rfl (fun c508 => ?_) (fun c508 => ?_)
      · refine ev_goto (tgt := 759) dL_law_523 rfl ?_
        refine ev_forget (ls2 := [_, _, _, _, _, vU, vU, _, _]) (Fg_to ⟨Or.inr ⟨rfl, rfl⟩, Or.inr ⟨rfl, rfl⟩, Or.inr ⟨rfl, rfl⟩, Or.inr ⟨rfl, rfl⟩, Or.inr ⟨rfl, rfl⟩, Or.inl rfl, Or.inl rfl, Or.inr ⟨rfl, rfl⟩, Or.inr ⟨rfl, rfl⟩, trivial⟩) ?_
        exact hk2
      · exact absurd (show (1 : Int32) = 0 from Classical.not_not.mp c508) (by decide)
    · exact absurd rfl c501
theorem op_seen (xs : Nat → Int32) (L c i : Nat) (K : KT) (G : GT) (Q : Res → Prop) (hc : c ≤ 600) (hi : i + 6 ≤ L) (h : LI xs L c K G) (hk : Cont xs L c i Q) : ∃ r, Q r ∧ Ev M_L_law 526 (lawLs i) [] (conc K K G) r := by
  obtain ⟨⟨T, X, h1, h2, h3⟩, h4, h5, h6, h7, h8, h9⟩ := id h
  have hb : ∀ j, j < 6 → i + j < G.2.2 0 := fun j hj => by omega
  have hn := h1.1.1.1
  have hF : FI (sI K 28 4 0) T X := FI_thr h1 0
  have hno : (¬ isT (K.2 0 0) (G.2.1 (i + 1)) ∨ ((G.2.1 (i + 2)).toInt < 0 ∨ 9 < (G.2.1 (i + 2)).toInt)) → ∃ r, Q r ∧ Ev M_L_law 526 (lawLs i) [] (conc K K G) r := by
    intro ok
    have hLI : LI xs L (c + 1) (sI K 28 4 0) G := LI_thr h 0 rfl rfl (by omega) (by omega)
    obtain ⟨r, hq, hk2⟩ := hk _ _ hLI
    refine ⟨r, hq, ?_⟩
    show Ev M_L_law 526 (lawLs i) [] (conc (sI K 28 4 0) K G) r
    refine ev_aload_n dL_law_526 rfl rfl ?_
    refine ev_aload_n dL_law_527 rfl rfl ?_
    refine ev_iload dL_law_528 rfl ?_
    refine ev_iconst (v := 1) dL_law_530 rfl ?_
    refine ev_iadd dL_law_531 ?_
    refine ev_iald dL_law_532 rfl ((nI_add i 1)) (hb 1 (by omega)) ?_
    refine ev_aload_n dL_law_533 rfl rfl ?_
    refine ev_iload dL_law_534 rfl ?_
    refine ev_iconst (v := 2) dL_law_536 rfl ?_
    refine ev_iadd dL_law_537 ?_
    refine ev_iald dL_law_538 rfl ((nI_add i 2)) (hb 2 (by omega)) ?_
    refine evV3 dL_law_539 cl_L_law_81 ⟨rfl, rfl, fun _ => ⟨_, rfl⟩⟩ (Nat.le_of_ble_eq_true rfl) (e_seenN (sI K 28 4 0) K G _ _ hn ok) ?_
    refine ev_aload_n dL_law_542 rfl rfl ?_
    refine ev_aload_n dL_law_543 rfl rfl ?_
    refine ev_iload dL_law_544 rfl ?_
    refine ev_iconst (v := 1) dL_law_546 rfl ?_
    refine ev_iadd dL_law_547 ?_
    refine ev_iald dL_law_548 rfl ((nI_add i 1)) (hb 1 (by omega)) ?_
    refine ev_aload_n dL_law_549 rfl rfl ?_
    refine ev_iload dL_law_550 rfl ?_
    refine ev_iconst (v := 2) dL_law_552 rfl ?_
    refine ev_iadd dL_law_553 ?_
    refine ev_iald dL_law_554 rfl ((nI_add i 2)) (hb 2 (by omega)) ?_
    refine evV3 dL_law_555 cl_L_law_84 ⟨rfl, rfl, fun _ => ⟨_, rfl⟩⟩ (Nat.le_of_ble_eq_true rfl) (m_seenN _ K _ _ _ ok) ?_
    refine ev_icmp_eq (tgt := 759) dL_law_558 rfl (fun c558 => ?_) (fun c558 => ?_)
    · exact hk2
    · exact absurd rfl c558
  by_cases ok : isT (K.2 0 0) (G.2.1 (i + 1))
  · rcases swN 9 (by omega) (G.2.1 (i + 2)) with ⟨k, hk9, ek⟩ | q
    · obtain ⟨t, ht, et⟩ := isT_ex (by omega) ok
      have sN1 : seenN (sI K 28 4 0) t k = seenN K t k := by
        have hV : VR (sI K 28 4 0) = VR K := VR_congr rfl rfl rfl rfl rfl rfl rfl rfl rfl rfl
        match k, hk9 with
        | 0, _ => rfl
        | 1, _ => rfl
        | 2, _ => show (if K.1 6 t = 0 then 0 else sgn K (VR (sI K 28 4 0) t)) = _; rw [hV]; rfl
        | 3, _ => rfl
        | 4, _ => rfl
        | 5, _ => rfl
        | 6, _ => rfl
        | 7, _ => rfl
        | 8, _ => rfl
        | 9, _ => rfl
        | k + 10, q => omega
      have main : ∀ K2 : KT, LI xs L (c + 1) K2 G → conc (seenC (sI K 28 4 0) t k) (if k = 2 then weighK (sI K 28 4 0) else sI K 28 4 0) G = conc K2 K2 G → ∃ r, Q r ∧ Ev M_L_law 526 (lawLs i) [] (conc K K G) r := by
        intro K2 hLI hcn
        obtain ⟨r, hq, hk2⟩ := hk _ _ hLI
        refine ⟨r, hq, ?_⟩
        have hm := m_seen (seenC (sI K 28 4 0) t k) K G t k h1.1 (h1.due ⟨by omega, by omega⟩) ht hk9
        rw [hcn] at hm
        have he := e_seen (sI K 28 4 0) K G t k hF.1 ht hk9
        rw [sN1] at he
        show Ev M_L_law 526 (lawLs i) [] (conc (sI K 28 4 0) K G) r
        refine ev_aload_n dL_law_526 rfl rfl ?_
        refine ev_aload_n dL_law_527 rfl rfl ?_
        refine ev_iload dL_law_528 rfl ?_
        refine ev_iconst (v := 1) dL_law_530 rfl ?_
        refine ev_iadd dL_law_531 ?_
        refine ev_ialdv dL_law_532 rfl ((nI_add i 1)) (hb 1 (by omega)) ((show _ = vI (nI t) from congrArg vI et)) ?_
        refine ev_aload_n dL_law_533 rfl rfl ?_
        refine ev_iload dL_law_534 rfl ?_
        refine ev_iconst (v := 2) dL_law_536 rfl ?_
        refine ev_iadd dL_law_537 ?_
        refine ev_ialdv dL_law_538 rfl ((nI_add i 2)) (hb 2 (by omega)) ((show _ = vI (nI k) from congrArg vI ek)) ?_
        refine evV3 dL_law_539 cl_L_law_81 ⟨rfl, rfl, fun _ => ⟨_, rfl⟩⟩ (Nat.le_of_ble_eq_true rfl) he ?_
        refine ev_aload_n dL_law_542 rfl rfl ?_
        refine ev_aload_n dL_law_543 rfl rfl ?_
        refine ev_iload dL_law_544 rfl ?_
        refine ev_iconst (v := 1) dL_law_546 rfl ?_
        refine ev_iadd dL_law_547 ?_
        refine ev_ialdv dL_law_548 rfl ((nI_add i 1)) (hb 1 (by omega)) ((show _ = vI (nI t) from congrArg vI et)) ?_
        refine ev_aload_n dL_law_549 rfl rfl ?_
        refine ev_iload dL_law_550 rfl ?_
        refine ev_iconst (v := 2) dL_law_552 rfl ?_
        refine ev_iadd dL_law_553 ?_
        refine ev_ialdv dL_law_554 rfl ((nI_add i 2)) (hb 2 (by omega)) ((show _ = vI (nI k) from congrArg vI ek)) ?_
        refine evV3 dL_law_555 cl_L_law_84 ⟨rfl, rfl, fun _ => ⟨_, rfl⟩⟩ (Nat.le_of_ble_eq_true rfl) hm ?_
        refine ev_icmp_eq (tgt := 759) dL_law_558 rfl (fun c558 => ?_) (fun c558 => ?_)
        · exact hk2
        · exact absurd rfl c558
      by_cases e2 : k = 2
      · by_cases e6 : K.1 6 t = 0
        · refine main (setA (sI K 28 4 0) 13 (UM (sI K 28 4 0))) (LI_new h ⟨T, X, FI_13 hF _, by omega, by omega⟩ h4 (fun q => h5 q) rfl rfl (by omega) (by omega)) ?_
          rw [if_pos e2, show seenC (sI K 28 4 0) t k = sI K 28 4 0 from if_neg (fun q => q.2 e6)]
          rfl
        · refine main (weighK (sI K 28 4 0)) (LI_new h ⟨T, X, FI_weigh hF, by omega, by omega⟩ h4 (fun q => absurd ((h5 q).2 t) e6) rfl rfl (by omega) (by omega)) ?_
          rw [if_pos e2, show seenC (sI K 28 4 0) t k = weighK (sI K 28 4 0) from if_pos ⟨e2, e6⟩]
      · refine main (sI K 28 4 0) (LI_thr h 0 rfl rfl (by omega) (by omega)) ?_
        rw [if_neg e2, show seenC (sI K 28 4 0) t k = sI K 28 4 0 from if_neg (fun q => e2 q.1)]
    · exact hno (Or.inr q)
  · exact hno (Or.inl ok)
theorem op_held (xs : Nat → Int32) (L c i : Nat) (K : KT) (G : GT) (Q : Res → Prop) (hi : i + 6 ≤ L) (h : LI xs L c K G) (hk : Cont xs L c i Q) : ∃ r, Q r ∧ Ev M_L_law 563 (lawLs i) [] (conc K K G) r := by
  obtain ⟨⟨T, X, h1, h2, h3⟩, h4, h5, h6, h7, h8, h9⟩ := id h
  have hb : ∀ j, j < 6 → i + j < G.2.2 0 := fun j hj => by omega
  have hn := h1.1.1.2.1
  have hLI : LI xs L (c + 1) (sI K 28 4 0) G := LI_thr h 0 rfl rfl (by omega) (by omega)
  obtain ⟨r, hq, hk2⟩ := hk _ _ hLI
  refine ⟨r, hq, ?_⟩
  have hno : (¬ isT (K.2 0 1) (G.2.1 (i + 1)) ∨ ((G.2.1 (i + 2)).toInt < 0 ∨ 2 < (G.2.1 (i + 2)).toInt)) → Ev M_L_law 563 (lawLs i) [] (conc K K G) r := by
    intro ok
    show Ev M_L_law 563 (lawLs i) [] (conc K K G) r
    refine ev_aload_n dL_law_563 rfl rfl ?_
    refine ev_aload_n dL_law_564 rfl rfl ?_
    refine ev_iload dL_law_565 rfl ?_
    refine ev_iconst (v := 1) dL_law_567 rfl ?_
    refine ev_iadd dL_law_568 ?_
    refine ev_iald dL_law_569 rfl ((nI_add i 1)) (hb 1 (by omega)) ?_
    refine ev_aload_n dL_law_570 rfl rfl ?_
    refine ev_iload dL_law_571 rfl ?_
    refine ev_iconst (v := 2) dL_law_573 rfl ?_
    refine ev_iadd dL_law_574 ?_
    refine ev_iald dL_law_575 rfl ((nI_add i 2)) (hb 2 (by omega)) ?_
    refine evV3 dL_law_576 cl_L_law_85 ⟨rfl, rfl, fun _ => ⟨_, rfl⟩⟩ (Nat.le_of_ble_eq_true rfl) (e_heldN K K G _ _ hn ok) ?_
    refine ev_aload_n dL_law_579 rfl rfl ?_
    refine ev_aload_n dL_law_580 rfl rfl ?_
    refine ev_iload dL_law_581 rfl ?_
    refine ev_iconst (v := 1) dL_law_583 rfl ?_
    refine ev_iadd dL_law_584 ?_
    refine ev_iald dL_law_585 rfl ((nI_add i 1)) (hb 1 (by omega)) ?_
    refine ev_aload_n dL_law_586 rfl rfl ?_
    refine ev_iload dL_law_587 rfl ?_
    refine ev_iconst (v := 2) dL_law_589 rfl ?_
    refine ev_iadd dL_law_590 ?_
    refine ev_iald dL_law_591 rfl ((nI_add i 2)) (hb 2 (by omega)) ?_
    refine evV3 dL_law_592 cl_L_law_88 ⟨rfl, rfl, fun _ => ⟨_, rfl⟩⟩ (Nat.le_of_ble_eq_true rfl) (m_heldN K K G _ _ ok) ?_
    refine ev_icmp_eq (tgt := 759) dL_law_595 rfl (fun c595 => ?_) (fun c595 => ?_)
    · exact hk2
    · exact absurd rfl c595
  by_cases ok : isT (K.2 0 1) (G.2.1 (i + 1))
  · rcases swN 2 (by omega) (G.2.1 (i + 2)) with ⟨k, hk9, ek⟩ | q
    · obtain ⟨t, ht, et⟩ := isT_ex (by omega) ok
      refine ev_aload_n dL_law_563 rfl rfl ?_
      refine ev_aload_n dL_law_564 rfl rfl ?_
      refine ev_iload dL_law_565 rfl ?_
      refine ev_iconst (v := 1) dL_law_567 rfl ?_
      refine ev_iadd dL_law_568 ?_
      refine ev_ialdv dL_law_569 rfl ((nI_add i 1)) (hb 1 (by omega)) ((show _ = vI (nI t) from congrArg vI et)) ?_
      refine ev_aload_n dL_law_570 rfl rfl ?_
      refine ev_iload dL_law_571 rfl ?_
      refine ev_iconst (v := 2) dL_law_573 rfl ?_
      refine ev_iadd dL_law_574 ?_
      refine ev_ialdv dL_law_575 rfl ((nI_add i 2)) (hb 2 (by omega)) ((show _ = vI (nI k) from congrArg vI ek)) ?_
      refine evV3 dL_law_576 cl_L_law_85 ⟨rfl, rfl, fun _ => ⟨_, rfl⟩⟩ (Nat.le_of_ble_eq_true rfl) (e_held K K G t k h1.1 ht hk9) ?_
      refine ev_aload_n dL_law_579 rfl rfl ?_
      refine ev_aload_n dL_law_580 rfl rfl ?_
      refine ev_iload dL_law_581 rfl ?_
      refine ev_iconst (v := 1) dL_law_583 rfl ?_
      refine ev_iadd dL_law_584 ?_
      refine ev_ialdv dL_law_585 rfl ((nI_add i 1)) (hb 1 (by omega)) ((show _ = vI (nI t) from congrArg vI et)) ?_
      refine ev_aload_n dL_law_586 rfl rfl ?_
      refine ev_iload dL_law_587 rfl ?_
      refine ev_iconst (v := 2) dL_law_589 rfl ?_
      refine ev_iadd dL_law_590 ?_
      refine ev_ialdv dL_law_591 rfl ((nI_add i 2)) (hb 2 (by omega)) ((show _ = vI (nI k) from congrArg vI ek)) ?_
      refine evV3 dL_law_592 cl_L_law_88 ⟨rfl, rfl, fun _ => ⟨_, rfl⟩⟩ (Nat.le_of_ble_eq_true rfl) (m_held K K G t k h1.1 ht hk9) ?_
      refine ev_icmp_eq (tgt := 759) dL_law_595 rfl (fun c595 => ?_) (fun c595 => ?_)
      · exact hk2
      · exact absurd rfl c595
    · exact hno (Or.inr q)
  · exact hno (Or.inl ok)
theorem op_event (xs : Nat → Int32) (L c i : Nat) (K : KT) (G : GT) (Q : Res → Prop) (hc : c ≤ 600) (hi : i + 6 ≤ L) (h : LI xs L c K G) (hk : Cont xs L c i Q) : ∃ r, Q r ∧ Ev M_L_law 600 (lawLs i) [] (conc K K G) r := by
  obtain ⟨⟨T, X, h1, h2, h3⟩, h4, h5, h6, h7, h8, h9⟩ := id h
  have hb : ∀ j, j < 6 → i + j < G.2.2 0 := fun j hj => by omega
  have hev : K.2 0 3 < 2 ^ 31 := h1.ev ⟨by omega, by omega⟩
  have hLI : LI xs L (c + 1) (sI K 28 4 0) G := LI_thr h 0 rfl rfl (by omega) (by omega)
  obtain ⟨r, hq, hk2⟩ := hk _ _ hLI
  refine ⟨r, hq, ?_⟩
  have hno : ((G.2.1 (i + 1) < 0 ∨ nI 40 ≤ G.2.1 (i + 1) ∨ nI (K.2 0 3) ≤ G.2.1 (i + 1)) ∨ ((G.2.1 (i + 2)).toInt < 0 ∨ 2 < (G.2.1 (i + 2)).toInt)) → Ev M_L_law 600 (lawLs i) [] (conc K K G) r := by
    intro ok
    refine ev_aload_n dL_law_600 rfl rfl ?_
    refine ev_aload_n dL_law_601 rfl rfl ?_
    refine ev_iload dL_law_602 rfl ?_
    refine ev_iconst (v := 1) dL_law_604 rfl ?_
    refine ev_iadd dL_law_605 ?_
    refine ev_iald dL_law_606 rfl ((nI_add i 1)) (hb 1 (by omega)) ?_
    refine ev_aload_n dL_law_607 rfl rfl ?_
    refine ev_iload dL_law_608 rfl ?_
    refine ev_iconst (v := 2) dL_law_610 rfl ?_
    refine ev_iadd dL_law_611 ?_
    refine ev_iald dL_law_612 rfl ((nI_add i 2)) (hb 2 (by omega)) ?_
    refine evV3 dL_law_613 cl_L_law_89 ⟨rfl, rfl, fun _ => ⟨_, rfl⟩⟩ (Nat.le_of_ble_eq_true rfl) (e_eventN K K G _ _ h1.1 hev ok) ?_
    refine ev_aload_n dL_law_616 rfl rfl ?_
    refine ev_aload_n dL_law_617 rfl rfl ?_
    refine ev_iload dL_law_618 rfl ?_
    refine ev_iconst (v := 1) dL_law_620 rfl ?_
    refine ev_iadd dL_law_621 ?_
    refine ev_iald dL_law_622 rfl ((nI_add i 1)) (hb 1 (by omega)) ?_
    refine ev_aload_n dL_law_623 rfl rfl ?_
    refine ev_iload dL_law_624 rfl ?_
    refine ev_iconst (v := 2) dL_law_626 rfl ?_
    refine ev_iadd dL_law_627 ?_
    refine ev_iald dL_law_628 rfl ((nI_add i 2)) (hb 2 (by omega)) ?_
    refine evV3 dL_law_629 cl_L_law_92 ⟨rfl, rfl, fun _ => ⟨_, rfl⟩⟩ (Nat.le_of_ble_eq_true rfl) (m_eventN K K G _ _ ok) ?_
    refine ev_icmp_eq (tgt := 759) dL_law_632 rfl (fun c632 => ?_) (fun c632 => ?_)
    · exact hk2
    · exact absurd rfl c632
  by_cases ok : G.2.1 (i + 1) < 0 ∨ nI 40 ≤ G.2.1 (i + 1) ∨ nI (K.2 0 3) ≤ G.2.1 (i + 1)
  · exact hno (Or.inl ok)
  · rcases swN 2 (by omega) (G.2.1 (i + 2)) with ⟨k, hk9, ek⟩ | q
    · obtain ⟨e, he, ee⟩ := nI_of (x := G.2.1 (i + 1)) (fun q => ok (Or.inl q))
      have e1 : e < 40 := Classical.not_not.mp (fun q => ok (Or.inr (Or.inl (by rw [ee]; exact nI_le (by omega) (by omega)))))
      have e2 : e < K.2 0 3 := Classical.not_not.mp (fun q => ok (Or.inr (Or.inr (by rw [ee]; exact nI_le (by omega) (by omega)))))
      refine ev_aload_n dL_law_600 rfl rfl ?_
      refine ev_aload_n dL_law_601 rfl rfl ?_
      refine ev_iload dL_law_602 rfl ?_
      refine ev_iconst (v := 1) dL_law_604 rfl ?_
      refine ev_iadd dL_law_605 ?_
      refine ev_ialdv dL_law_606 rfl ((nI_add i 1)) (hb 1 (by omega)) ((show _ = vI (nI e) from congrArg vI ee)) ?_
      refine ev_aload_n dL_law_607 rfl rfl ?_
      refine ev_iload dL_law_608 rfl ?_
      refine ev_iconst (v := 2) dL_law_610 rfl ?_
      refine ev_iadd dL_law_611 ?_
      refine ev_ialdv dL_law_612 rfl ((nI_add i 2)) (hb 2 (by omega)) ((show _ = vI (nI k) from congrArg vI ek)) ?_
      refine evV3 dL_law_613 cl_L_law_89 ⟨rfl, rfl, fun _ => ⟨_, rfl⟩⟩ (Nat.le_of_ble_eq_true rfl) (e_event K K G e k h1.1 hev e1 e2 hk9) ?_
      refine ev_aload_n dL_law_616 rfl rfl ?_
      refine ev_aload_n dL_law_617 rfl rfl ?_
      refine ev_iload dL_law_618 rfl ?_
      refine ev_iconst (v := 1) dL_law_620 rfl ?_
      refine ev_iadd dL_law_621 ?_
      refine ev_ialdv dL_law_622 rfl ((nI_add i 1)) (hb 1 (by omega)) ((show _ = vI (nI e) from congrArg vI ee)) ?_
      refine ev_aload_n dL_law_623 rfl rfl ?_
      refine ev_iload dL_law_624 rfl ?_
      refine ev_iconst (v := 2) dL_law_626 rfl ?_
      refine ev_iadd dL_law_627 ?_
      refine ev_ialdv dL_law_628 rfl ((nI_add i 2)) (hb 2 (by omega)) ((show _ = vI (nI k) from congrArg vI ek)) ?_
      refine evV3 dL_law_629 cl_L_law_92 ⟨rfl, rfl, fun _ => ⟨_, rfl⟩⟩ (Nat.le_of_ble_eq_true rfl) (m_event K K G e k h1.1 hev e1 e2 hk9) ?_
      refine ev_icmp_eq (tgt := 759) dL_law_632 rfl (fun c632 => ?_) (fun c632 => ?_)
      · exact hk2
      · exact absurd rfl c632
    · exact hno (Or.inr q)
theorem op_response (xs : Nat → Int32) (L c i : Nat) (K : KT) (G : GT) (Q : Res → Prop) (hi : i + 6 ≤ L) (h : LI xs L c K G) (hk : Cont xs L c i Q) : ∃ r, Q r ∧ Ev M_L_law 637 (lawLs i) [] (conc K K G) r := by
  obtain ⟨⟨T, X, h1, h2, h3⟩, h4, h5, h6, h7, h8, h9⟩ := id h
  have hb : ∀ j, j < 6 → i + j < G.2.2 0 := fun j hj => by omega
  have hn := h1.1.1.1
  by_cases ok : isT (K.2 0 0) (G.2.1 (i + 1))
  · obtain ⟨t, ht, et⟩ := isT_ex (by omega) ok
    have hF : FI (sI K 28 4 0) T X := FI_thr h1 0
    have hLI : LI xs L (c + 1) (sI K 28 4 0) (oG G (rspN (sI K 28 4 0) t 1002 (costV (sI K 28 4 0) t + bkV (sI K 28 4 0) t)).toInt64) := LI_thr h 0 rfl rfl (show G.2.2 1 ≤ _ by omega) (show G.2.2 2 ≤ _ by omega)
    obtain ⟨r, hq, hk2⟩ := hk _ _ hLI
    refine ⟨r, hq, ?_⟩
    have he := e_response (sI K 28 4 0) K G t hF.1 ht
    have hm := fun G2 => m_response (sI K 28 4 0) K G2 t T hF.1 hF.2.2.1 ht (per_or h1.2.2.1)
    generalize rspN (sI K 28 4 0) t 1002 (costV (sI K 28 4 0) t + bkV (sI K 28 4 0) t) = w at he hm hk2
    show Ev M_L_law 637 (lawLs i) [] (conc (sI K 28 4 0) K G) r
    refine ev_aload_n dL_law_637 rfl rfl ?_
    refine ev_aload_n dL_law_638 rfl rfl ?_
    refine ev_iload dL_law_639 rfl ?_
    refine ev_iconst (v := 1) dL_law_641 rfl ?_
    refine ev_iadd dL_law_642 ?_
    refine ev_ialdv dL_law_643 rfl ((nI_add i 1)) (hb 1 (by omega)) ((show _ = vI (nI t) from congrArg vI et)) ?_
    refine ev_aload_n dL_law_644 rfl rfl ?_
    refine evS3 dL_law_645 cl_L_law_93 ⟨rfl, rfl, fun h => nomatch h⟩ (Nat.le_of_ble_eq_true rfl) (l_response (sI K 28 4 0) K G _ _ _ _ he) ?_
    refine ev_istore dL_law_648 rfl ?_
    refine ev_aload_n dL_law_650 rfl rfl ?_
    refine ev_aload_n dL_law_651 rfl rfl ?_
    refine ev_iload dL_law_652 rfl ?_
    refine ev_iconst (v := 1) dL_law_654 rfl ?_
    refine ev_iadd dL_law_655 ?_
    refine ev_ialdv dL_law_656 rfl ((nI_add i 1)) (hb 1 (by omega)) ((show _ = vI (nI t) from congrArg vI et)) ?_
    refine evV2 dL_law_657 cl_L_law_95 ⟨rfl, rfl, fun _ => ⟨_, rfl⟩⟩ (Nat.le_of_ble_eq_true rfl) (hm _) ?_
    refine ev_istore dL_law_660 rfl ?_
    refine ev_aload_n dL_law_662 rfl rfl ?_
    refine evV1 dL_law_663 cl_L_law_51 ⟨rfl, rfl, fun _ => ⟨_, rfl⟩⟩ (Nat.le_of_ble_eq_true rfl) (m_thrown _ _ _) ?_
    refine ev_iload dL_law_666 rfl ?_
    refine ev_icmp_eq (tgt := 673) dL_law_668 rfl (fun c668 => ?_) (fun c668 => ?_)
    · refine ev_iload dL_law_673 rfl ?_
      refine ev_if_ne (tgt := 690) dL_law_675 rfl (fun c675 => ?_) (fun c675 => ?_)
      · exact absurd rfl c675
      · refine ev_aload_n dL_law_678 rfl rfl ?_
        refine ev_iconst (v := 0) dL_law_679 rfl ?_
        refine ev_lald dL_law_680 rfl ((rfl : (0 : Int32) = nI 0)) Nat.zero_lt_one ?_
        refine ev_iload dL_law_681 rfl ?_
        refine ev_i2l dL_law_683 ?_
        refine ev_lcmp dL_law_684 ?_
        refine ev_if_eq (tgt := 690) dL_law_685 rfl (fun c685 => ?_) (fun c685 => ?_)
        · refine ev_goto (tgt := 759) dL_law_690 rfl ?_
          refine ev_forget (ls2 := [_, _, _, _, _, vU, vU, _, _]) (Fg_to ⟨Or.inr ⟨rfl, rfl⟩, Or.inr ⟨rfl, rfl⟩, Or.inr ⟨rfl, rfl⟩, Or.inr ⟨rfl, rfl⟩, Or.inr ⟨rfl, rfl⟩, Or.inl rfl, Or.inl rfl, Or.inr ⟨rfl, rfl⟩, Or.inr ⟨rfl, rfl⟩, trivial⟩) ?_
          exact hk2
        · exact absurd (lg_self _) c685
    · exact absurd rfl c668
  · have hLI : LI xs L (c + 1) (sI K 28 4 1) (exG G) := LI_thr h 1 rfl rfl (show G.2.2 1 + 1 ≤ _ by omega) (show G.2.2 2 + 6 ≤ _ by omega)
    obtain ⟨r, hq, hk2⟩ := hk _ _ hLI
    refine ⟨r, hq, ?_⟩
    show Ev M_L_law 637 (lawLs i) [] (conc (sI K 28 4 1) K G) r
    refine ev_aload_n dL_law_637 rfl rfl ?_
    refine ev_aload_n dL_law_638 rfl rfl ?_
    refine ev_iload dL_law_639 rfl ?_
    refine ev_iconst (v := 1) dL_law_641 rfl ?_
    refine ev_iadd dL_law_642 ?_
    refine ev_iald dL_law_643 rfl ((nI_add i 1)) (hb 1 (by omega)) ?_
    refine ev_aload_n dL_law_644 rfl rfl ?_
    refine evS3 dL_law_645 cl_L_law_93 ⟨rfl, rfl, fun h => nomatch h⟩ (Nat.le_of_ble_eq_true rfl) (l_responseX (sI K 28 4 1) K G _ (e_responseA (sI K 28 4 1) K G _ hn ok)) ?_
    refine ev_istore dL_law_648 rfl ?_
    refine ev_aload_n dL_law_650 rfl rfl ?_
    refine ev_aload_n dL_law_651 rfl rfl ?_
    refine ev_iload dL_law_652 rfl ?_
    refine ev_iconst (v := 1) dL_law_654 rfl ?_
    refine ev_iadd dL_law_655 ?_
    refine ev_iald dL_law_656 rfl ((nI_add i 1)) (hb 1 (by omega)) ?_
    refine evV2 dL_law_657 cl_L_law_95 ⟨rfl, rfl, fun _ => ⟨_, rfl⟩⟩ (Nat.le_of_ble_eq_true rfl) (m_responseA _ K _ _ ok) ?_
    refine ev_istore dL_law_660 rfl ?_
    refine ev_aload_n dL_law_662 rfl rfl ?_
    refine evV1 dL_law_663 cl_L_law_51 ⟨rfl, rfl, fun _ => ⟨_, rfl⟩⟩ (Nat.le_of_ble_eq_true rfl) (m_thrown _ _ _) ?_
    refine ev_iload dL_law_666 rfl ?_
    refine ev_icmp_eq (tgt := 673) dL_law_668 rfl (fun c668 => ?_) (fun c668 => ?_)
    · refine ev_iload dL_law_673 rfl ?_
      refine ev_if_ne (tgt := 690) dL_law_675 rfl (fun c675 => ?_) (fun c675 => ?_)
      · refine ev_goto (tgt := 759) dL_law_690 rfl ?_
        refine ev_forget (ls2 := [_, _, _, _, _, vU, vU, _, _]) (Fg_to ⟨Or.inr ⟨rfl, rfl⟩, Or.inr ⟨rfl, rfl⟩, Or.inr ⟨rfl, rfl⟩, Or.inr ⟨rfl, rfl⟩, Or.inr ⟨rfl, rfl⟩, Or.inl rfl, Or.inl rfl, Or.inr ⟨rfl, rfl⟩, Or.inr ⟨rfl, rfl⟩, trivial⟩) ?_
        exact hk2
      · exact absurd (show (1 : Int32) = 0 from Classical.not_not.mp c675) (by decide)
    · exact absurd rfl c668
theorem op_load (xs : Nat → Int32) (L c i : Nat) (K : KT) (G : GT) (Q : Res → Prop) (h : LI xs L c K G) (hk : Cont xs L c i Q) : ∃ r, Q r ∧ Ev M_L_law 693 (lawLs i) [] (conc K K G) r := by
  obtain ⟨⟨T, X, h1, h2, h3⟩, h4, h5, h6, h7, h8, h9⟩ := id h
  have hn := h1.1.1.1
  have hF : FI (sI K 28 4 0) T X := FI_thr h1 0
  have hLI : LI xs L (c + 1) (sI K 28 4 0) G := LI_thr h 0 rfl rfl (by omega) (by omega)
  obtain ⟨r, hq, hk2⟩ := hk _ _ hLI
  refine ⟨r, hq, ?_⟩
  have he := e_load (sI K 28 4 0) K G hF.1 (ldOk_0 _ hn)
  have hm := m_load (sI K 28 4 0) K G hF.1
  rw [show (sI K 28 4 0).2 0 0 = K.2 0 0 from rfl] at he
  generalize ldN (sI K 28 4 0) (K.2 0 0) 0 FP.dconst0 = w at he hm
  show Ev M_L_law 693 (lawLs i) [] (conc (sI K 28 4 0) K G) r
  refine ev_aload_n dL_law_693 rfl rfl ?_
  refine evV1 dL_law_694 cl_L_law_96 ⟨rfl, rfl, fun _ => ⟨_, rfl⟩⟩ (Nat.le_of_ble_eq_true rfl) he ?_
  refine ev_dstore dL_law_697 rfl (Nat.le_of_ble_eq_true rfl) ?_
  refine ev_aload_n dL_law_699 rfl rfl ?_
  refine evV1 dL_law_700 cl_L_law_100 ⟨rfl, rfl, fun _ => ⟨_, rfl⟩⟩ (Nat.le_of_ble_eq_true rfl) hm ?_
  refine ev_dstore dL_law_703 rfl (Nat.le_of_ble_eq_true rfl) ?_
  refine ev_dload dL_law_705 rfl ?_
  refine ev_dload dL_law_707 rfl ?_
  refine ev_dcmp dL_law_709 ?_
  refine ev_if_eq (tgt := 731) dL_law_710 rfl (fun c710 => ?_) (fun c710 => ?_)
  · refine ev_goto (tgt := 759) dL_law_731 rfl ?_
    refine ev_forget (ls2 := [_, _, _, _, _, vU, vU, vU, vU]) (Fg_to ⟨Or.inr ⟨rfl, rfl⟩, Or.inr ⟨rfl, rfl⟩, Or.inr ⟨rfl, rfl⟩, Or.inr ⟨rfl, rfl⟩, Or.inr ⟨rfl, rfl⟩, Or.inl rfl, Or.inl rfl, Or.inl rfl, Or.inl rfl, trivial⟩) ?_
    exact hk2
  · refine ev_dload dL_law_713 rfl ?_
    refine ev_dload dL_law_715 rfl ?_
    refine ev_dcmp dL_law_717 ?_
    refine ev_if_eq (tgt := 729) dL_law_718 rfl (fun c718 => ?_) (fun c718 => ?_)
    · exact absurd c718 c710
    · refine ev_dload dL_law_721 rfl ?_
      refine ev_dload dL_law_723 rfl ?_
      refine ev_dcmp dL_law_725 ?_
      refine ev_if_ne (tgt := 731) dL_law_726 rfl (fun c726 => ?_) (fun c726 => ?_)
      · refine ev_goto (tgt := 759) dL_law_731 rfl ?_
        refine ev_forget (ls2 := [_, _, _, _, _, vU, vU, vU, vU]) (Fg_to ⟨Or.inr ⟨rfl, rfl⟩, Or.inr ⟨rfl, rfl⟩, Or.inr ⟨rfl, rfl⟩, Or.inr ⟨rfl, rfl⟩, Or.inr ⟨rfl, rfl⟩, Or.inl rfl, Or.inl rfl, Or.inl rfl, Or.inl rfl, trivial⟩) ?_
        exact hk2
      · exact absurd (Classical.not_not.mp c726) c710
theorem op_look (xs : Nat → Int32) (L c i : Nat) (K : KT) (G : GT) (Q : Res → Prop) (hi : i + 6 ≤ L) (h : LI xs L c K G) (hk : Cont xs L c i Q) : ∃ r, Q r ∧ Ev M_L_law 734 (lawLs i) [] (conc K K G) r := by
  obtain ⟨⟨T, X, h1, h2, h3⟩, h4, h5, h6, h7, h8, h9⟩ := id h
  have hb : ∀ j, j < 6 → i + j < G.2.2 0 := fun j hj => by omega
  have hLI : LI xs L (c + 1) (sI K 28 4 0) G := LI_thr h 0 rfl rfl (by omega) (by omega)
  obtain ⟨r, hq, hk2⟩ := hk _ _ hLI
  refine ⟨r, hq, ?_⟩
  rcases swN 5 (by omega) (G.2.1 (i + 1)) with ⟨k, hk9, ek⟩ | q
  · refine ev_aload_n dL_law_734 rfl rfl ?_
    refine ev_aload_n dL_law_735 rfl rfl ?_
    refine ev_iload dL_law_736 rfl ?_
    refine ev_iconst (v := 1) dL_law_738 rfl ?_
    refine ev_iadd dL_law_739 ?_
    refine ev_ialdv dL_law_740 rfl ((nI_add i 1)) (hb 1 (by omega)) ((show _ = vI (nI k) from congrArg vI ek)) ?_
    refine evV2 dL_law_741 cl_L_law_101 ⟨rfl, rfl, fun _ => ⟨_, rfl⟩⟩ (Nat.le_of_ble_eq_true rfl) (e_look K K G k hk9) ?_
    refine ev_aload_n dL_law_744 rfl rfl ?_
    refine ev_aload_n dL_law_745 rfl rfl ?_
    refine ev_iload dL_law_746 rfl ?_
    refine ev_iconst (v := 1) dL_law_748 rfl ?_
    refine ev_iadd dL_law_749 ?_
    refine ev_ialdv dL_law_750 rfl ((nI_add i 1)) (hb 1 (by omega)) ((show _ = vI (nI k) from congrArg vI ek)) ?_
    refine evV2 dL_law_751 cl_L_law_104 ⟨rfl, rfl, fun _ => ⟨_, rfl⟩⟩ (Nat.le_of_ble_eq_true rfl) (m_look K K G k hk9) ?_
    refine ev_icmp_eq (tgt := 759) dL_law_754 rfl (fun c754 => ?_) (fun c754 => ?_)
    · exact hk2
    · exact absurd rfl c754
  · refine ev_aload_n dL_law_734 rfl rfl ?_
    refine ev_aload_n dL_law_735 rfl rfl ?_
    refine ev_iload dL_law_736 rfl ?_
    refine ev_iconst (v := 1) dL_law_738 rfl ?_
    refine ev_iadd dL_law_739 ?_
    refine ev_iald dL_law_740 rfl ((nI_add i 1)) (hb 1 (by omega)) ?_
    refine evV2 dL_law_741 cl_L_law_101 ⟨rfl, rfl, fun _ => ⟨_, rfl⟩⟩ (Nat.le_of_ble_eq_true rfl) (e_lookN K K G _ q) ?_
    refine ev_aload_n dL_law_744 rfl rfl ?_
    refine ev_aload_n dL_law_745 rfl rfl ?_
    refine ev_iload dL_law_746 rfl ?_
    refine ev_iconst (v := 1) dL_law_748 rfl ?_
    refine ev_iadd dL_law_749 ?_
    refine ev_iald dL_law_750 rfl ((nI_add i 1)) (hb 1 (by omega)) ?_
    refine evV2 dL_law_751 cl_L_law_104 ⟨rfl, rfl, fun _ => ⟨_, rfl⟩⟩ (Nat.le_of_ble_eq_true rfl) (m_lookN K K G _ q) ?_
    refine ev_icmp_eq (tgt := 759) dL_law_754 rfl (fun c754 => ?_) (fun c754 => ?_)
    · exact hk2
    · exact absurd rfl c754
