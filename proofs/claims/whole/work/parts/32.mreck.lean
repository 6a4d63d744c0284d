/-! THE REFERENCE: the reckoning -/
def isMx (P : Int32 → Prop) (c r : Int32) : Prop := (r = c ∨ P r) ∧ c ≤ r ∧ ∀ v, P v → v ≤ r
theorem isMx_eq {P : Int32 → Prop} {c r s : Int32} (h1 : isMx P c r) (h2 : isMx P c s) : r = s := by
  refine Int32.le_antisymm ?_ ?_
  · rcases h1.1 with q | q
    · rw [q]; exact h2.2.1
    · exact h2.2.2 r q
  · rcases h2.1 with q | q
    · rw [q]; exact h1.2.1
    · exact h1.2.2 s q
theorem isMx_iff {P Q : Int32 → Prop} {c r : Int32} (h : ∀ v, P v ↔ Q v) (h1 : isMx P c r) : isMx Q c r := ⟨h1.1.imp id (h r).mp, h1.2.1, fun v q => h1.2.2 v ((h v).mpr q)⟩
theorem isMx_no {P : Int32 → Prop} {c : Int32} (h : ∀ v, ¬ P v) : isMx P c c := ⟨Or.inl rfl, Int32.le_refl _, fun v q => absurd q (h v)⟩
theorem mxI_le (c g : Int32) : c ≤ mxI c g ∧ g ≤ mxI c g := by
  unfold mxI
  by_cases h : c < g
  · rw [if_pos h]; exact ⟨Int32.le_of_lt h, Int32.le_refl _⟩
  · rw [if_neg h]; exact ⟨Int32.le_refl _, Int32.not_lt.mp h⟩
theorem mxI_or (c g : Int32) : mxI c g = c ∨ (mxI c g = g ∧ c < g) := by
  unfold mxI
  by_cases h : c < g
  · rw [if_pos h]; exact Or.inr ⟨rfl, h⟩
  · rw [if_neg h]; exact Or.inl rfl
/-- one value, then the rest -/
theorem isMx_one {P Q : Int32 → Prop} {c g r : Int32} (h : isMx P (mxI c g) r) (hq : ∀ v, Q v ↔ (v = g ∨ P v)) : isMx Q c r := by
  refine ⟨?_, Int32.le_trans (mxI_le c g).1 h.2.1, fun v q => ?_⟩
  · rcases h.1 with q | q
    · rcases mxI_or c g with e | e
      · exact Or.inl (q.trans e)
      · exact Or.inr ((hq r).mpr (Or.inl (q.trans e.1)))
    · exact Or.inr ((hq r).mpr (Or.inr q))
  · rcases (hq v).mp q with e | e
    · rw [e]; exact Int32.le_trans (mxI_le c g).2 h.2.1
    · exact h.2.2 v e
/-- the greatest of some, then the rest -/
theorem isMx_many {P Q S : Int32 → Prop} {c g r : Int32} (hc : 0 ≤ c) (hg : isMx S 0 g) (h : isMx P (mxI c g) r) (hq : ∀ v, Q v ↔ (S v ∨ P v)) : isMx Q c r := by
  refine ⟨?_, Int32.le_trans (mxI_le c g).1 h.2.1, fun v q => ?_⟩
  · rcases h.1 with q | q
    · rcases mxI_or c g with e | e
      · exact Or.inl (q.trans e)
      · rcases hg.1 with e0 | e0
        · exact absurd (e0 ▸ e.2) (Int32.not_lt.mpr hc)
        · exact Or.inr ((hq r).mpr (Or.inl (by rw [q, e.1]; exact e0)))
    · exact Or.inr ((hq r).mpr (Or.inr q))
  · rcases (hq v).mp q with e | e
    · exact Int32.le_trans (Int32.le_trans (hg.2.2 v e) (mxI_le c g).2) h.2.1
    · exact h.2.2 v e
/-! what the class takes the greatest of -/
def gsP (K : KT) (u : Nat) (x : Int32) (i : Nat) (v : Int32) : Prop := ∃ k, i ≤ k ∧ k < K.2 2 u ∧ K.1 26 (10 * u + k) = 1 ∧ K.1 27 (10 * u + k) = x ∧ v = secN K u x (K.2 2 u - (k + 1)) (k + 1) 0
theorem gsP_s {K : KT} {u : Nat} {x : Int32} {i : Nat} (hi : i < K.2 2 u) (v : Int32) : gsP K u x i v ↔ ((K.1 26 (10 * u + i) = 1 ∧ K.1 27 (10 * u + i) = x ∧ v = secN K u x (K.2 2 u - (i + 1)) (i + 1) 0) ∨ gsP K u x (i + 1) v) := by
  constructor
  · rintro ⟨k, h1, h2, h3⟩
    by_cases e : k = i
    · subst e; exact Or.inl h3
    · exact Or.inr ⟨k, by omega, h2, h3⟩
  · rintro (h | ⟨k, h1, h2, h3⟩)
    · exact ⟨i, Nat.le_refl i, hi, h⟩
    · exact ⟨k, by omega, h2, h3⟩
theorem gs_mx (K : KT) (u : Nat) (x : Int32) : ∀ (j i : Nat) (c : Int32), i + j = K.2 2 u → isMx (gsP K u x i) c (gsN K u x j i c) := by
  intro j
  induction j with
  | zero => intro i c hi; exact isMx_no (fun v ⟨k, h1, h2, _⟩ => by omega)
  | succ j ih =>
    intro i c hi
    simp only [gsN]
    have ej : K.2 2 u - (i + 1) = j := by omega
    by_cases h : K.1 26 (10 * u + i) = 1 ∧ K.1 27 (10 * u + i) = x
    · rw [if_pos h]
      refine isMx_one (ih (i + 1) _ (by omega)) (fun v => (gsP_s (by omega) v).trans ?_)
      rw [ej]
      exact ⟨fun q => q.imp (fun q => q.2.2) id, fun q => q.imp (fun q => ⟨h.1, h.2, q⟩) id⟩
    · rw [if_neg h]
      refine isMx_iff (fun v => ?_) (ih (i + 1) c (by omega))
      refine Iff.trans ?_ (gsP_s (i := i) (by omega) v).symm
      exact ⟨Or.inr, fun q => q.elim (fun q => absurd ⟨q.1, q.2.1⟩ h) id⟩
def gbP (K : KT) (p x : Int32) (i : Nat) (v : Int32) : Prop := ∃ u, i ≤ u ∧ u < K.2 0 0 ∧ K.1 0 u < p ∧ gsP K u x 0 v
theorem gbP_s {K : KT} {p x : Int32} {i : Nat} (hi : i < K.2 0 0) (v : Int32) : gbP K p x i v ↔ ((K.1 0 i < p ∧ gsP K i x 0 v) ∨ gbP K p x (i + 1) v) := by
  constructor
  · rintro ⟨k, h1, h2, h3⟩
    by_cases e : k = i
    · subst e; exact Or.inl h3
    · exact Or.inr ⟨k, by omega, h2, h3⟩
  · rintro (h | ⟨k, h1, h2, h3⟩)
    · exact ⟨i, Nat.le_refl i, hi, h⟩
    · exact ⟨k, by omega, h2, h3⟩
theorem gb_mx (K : KT) (p x : Int32) : ∀ (j i : Nat) (c : Int32), i + j = K.2 0 0 → 0 ≤ c → isMx (gbP K p x i) c (gbN K p x j i c) := by
  intro j
  induction j with
  | zero => intro i c hi _; exact isMx_no (fun v ⟨k, h1, h2, _⟩ => by omega)
  | succ j ih =>
    intro i c hi hc
    simp only [gbN]
    by_cases h : K.1 0 i < p
    · rw [if_pos h]
      refine isMx_many hc (gs_mx K i x (K.2 2 i) 0 0 (by omega)) (ih (i + 1) _ (by omega) (Int32.le_trans hc (mxI_le _ _).1)) (fun v => (gbP_s (by omega) v).trans ?_)
      exact ⟨fun q => q.imp (fun q => q.2) id, fun q => q.imp (fun q => ⟨h, q⟩) id⟩
    · rw [if_neg h]
      refine isMx_iff (fun v => ?_) (ih (i + 1) c (by omega) hc)
      refine Iff.trans ?_ (gbP_s (i := i) (by omega) v).symm
      exact ⟨Or.inr, fun q => q.elim (fun q => absurd q.1 h) id⟩
def bkP (K : KT) (p : Int32) (i : Nat) (v : Int32) : Prop := ∃ m, i ≤ m ∧ m < K.2 0 1 ∧ p ≤ ceilV K (nI m) ∧ gbP K p (nI m) 0 v
theorem bkP_s {K : KT} {p : Int32} {i : Nat} (hi : i < K.2 0 1) (v : Int32) : bkP K p i v ↔ ((p ≤ ceilV K (nI i) ∧ gbP K p (nI i) 0 v) ∨ bkP K p (i + 1) v) := by
  constructor
  · rintro ⟨k, h1, h2, h3⟩
    by_cases e : k = i
    · subst e; exact Or.inl h3
    · exact Or.inr ⟨k, by omega, h2, h3⟩
  · rintro (h | ⟨k, h1, h2, h3⟩)
    · exact ⟨i, Nat.le_refl i, hi, h⟩
    · exact ⟨k, by omega, h2, h3⟩
theorem bk_mx (K : KT) (p : Int32) : ∀ (j i : Nat) (c : Int32), i + j = K.2 0 1 → 0 ≤ c → isMx (bkP K p i) c (bkN K p j i c) := by
  intro j
  induction j with
  | zero => intro i c hi _; exact isMx_no (fun v ⟨k, h1, h2, _⟩ => by omega)
  | succ j ih =>
    intro i c hi hc
    simp only [bkN]
    by_cases h : p ≤ ceilV K (nI i)
    · rw [if_pos h]
      refine isMx_many hc (gb_mx K p (nI i) (K.2 0 0) 0 0 (by omega) (by decide)) (ih (i + 1) _ (by omega) (Int32.le_trans hc (mxI_le _ _).1)) (fun v => (bkP_s (by omega) v).trans ?_)
      exact ⟨fun q => q.imp (fun q => q.2) id, fun q => q.imp (fun q => ⟨h, q⟩) id⟩
    · rw [if_neg h]
      refine isMx_iff (fun v => ?_) (ih (i + 1) c (by omega) hc)
      refine Iff.trans ?_ (bkP_s (i := i) (by omega) v).symm
      exact ⟨Or.inr, fun q => q.elim (fun q => absurd q.1 h) id⟩
/-! what the reference takes the greatest of -/
def mbC (M : KT) (p : Int32) (u k : Nat) : Prop := M.1 26 (10 * u + k) = 1 ∧ p ≤ ceilV M (M.1 27 (10 * u + k))
def mbS (M : KT) (u k : Nat) : Int32 := secN M u (M.1 27 (10 * u + k)) (M.2 2 u - (k + 1)) (k + 1) 0
def mbI (M : KT) (p : Int32) (u i : Nat) (v : Int32) : Prop := ∃ k, i ≤ k ∧ k < M.2 2 u ∧ mbC M p u k ∧ v = mbS M u k
def mbO (M : KT) (p : Int32) (i : Nat) (v : Int32) : Prop := ∃ u, i ≤ u ∧ u < M.2 0 0 ∧ M.1 0 u < p ∧ mbI M p u 0 v
theorem mbI_s {M : KT} {p : Int32} {u i : Nat} (hi : i < M.2 2 u) (v : Int32) : mbI M p u i v ↔ ((mbC M p u i ∧ v = mbS M u i) ∨ mbI M p u (i + 1) v) := by
  constructor
  · rintro ⟨k, h1, h2, h3⟩
    by_cases e : k = i
    · subst e; exact Or.inl h3
    · exact Or.inr ⟨k, by omega, h2, h3⟩
  · rintro (h | ⟨k, h1, h2, h3⟩)
    · exact ⟨i, Nat.le_refl i, hi, h⟩
    · exact ⟨k, by omega, h2, h3⟩
theorem mbO_s {M : KT} {p : Int32} {i : Nat} (hi : i < M.2 0 0) (v : Int32) : mbO M p i v ↔ ((M.1 0 i < p ∧ mbI M p i 0 v) ∨ mbO M p (i + 1) v) := by
  constructor
  · rintro ⟨k, h1, h2, h3⟩
    by_cases e : k = i
    · subst e; exact Or.inl h3
    · exact Or.inr ⟨k, by omega, h2, h3⟩
  · rintro (h | ⟨k, h1, h2, h3⟩)
    · exact ⟨i, Nat.le_refl i, hi, h⟩
    · exact ⟨k, by omega, h2, h3⟩
theorem mb_bk {M : KT} (h : Inv M) (p v : Int32) : bkP M p 0 v ↔ mbO M p 0 v := by
  constructor
  · rintro ⟨m, -, hm, hp, u, -, hu, hup, k, -, hk, k1, k2, hv⟩
    exact ⟨u, Nat.zero_le _, hu, hup, k, Nat.zero_le _, hk, ⟨k1, by rw [k2]; exact hp⟩, by unfold mbS; rw [k2]; exact hv⟩
  · rintro ⟨u, -, hu, hup, k, -, hk, ⟨k1, k2⟩, hv⟩
    rcases h.2.2.2 u k hu hk with ⟨q, -⟩ | ⟨-, m, hm, em⟩
    · rw [k1] at q; exact absurd q (by decide)
    · rw [em] at k2
      unfold mbS at hv
      rw [em] at hv
      exact ⟨m, Nat.zero_le _, hm, k2, u, Nat.zero_le _, hu, hup, k, Nat.zero_le _, hk, k1, em, hv⟩
theorem mb_in (K M : KT) (G : GT) (t u : Nat) (h : Inv M) (ht : t < M.2 0 0) (hu : u < M.2 0 0) (hp : M.1 0 u < M.1 0 t) (r : Res) : ∀ (j k : Nat) (c : Int32), k + j = M.2 2 u → (∀ v, isMx (mbI M (M.1 0 t) u k) c v → Ev M_X7_blocking 110 [vR 8 0, vI (nI t), vI v, vI (nI u), vU, vU] [] (conc K M G) r) → Ev M_X7_blocking 15 [vR 8 0, vI (nI t), vI c, vI (nI u), vI (nI k), vU] [] (conc K M G) r := by
  have hn := h.1.1
  have hz := (h.2.2.1 u hu).1
  intro j
  induction j with
  | zero =>
    intro k c hk hr
    refine ev_iload dX7_blocking_15 rfl ?_
    refine ev_aload_n dX7_blocking_17 rfl rfl ?_
    refine ev_getf dX7_blocking_18 fl_7_33 ?_
    refine ev_iload_n dX7_blocking_21 rfl ?_
    refine ev_iald dX7_blocking_22 rfl rfl (show _ < 8 from by omega) ?_
    refine ev_icmp_ge (tgt := 110) dX7_blocking_23 rfl (fun c23 => ?_) (fun c23 => ?_)
    · refine ev_forget (ls2 := [_, _, _, _, vU, _]) (Fg_to ⟨Or.inr ⟨rfl, rfl⟩, Or.inr ⟨rfl, rfl⟩, Or.inr ⟨rfl, rfl⟩, Or.inr ⟨rfl, rfl⟩, Or.inl rfl, Or.inr ⟨rfl, rfl⟩, trivial⟩) ?_
      exact hr c (isMx_no (fun v ⟨k, h1, h2, _⟩ => by omega))
    · exact absurd (nI_le (a := M.2 2 u) (b := k) (by omega) (by omega)) c23
  | succ j ih =>
    intro k c hk hr
    have e1 : nI k + Int32.ofInt 1 = nI (k + 1) := nI_1 k
    have hno : ¬ mbC M (M.1 0 t) u k → Ev M_X7_blocking 104 [vR 8 0, vI (nI t), vI c, vI (nI u), vI (nI k), vU] [] (conc K M G) r := by
      intro q
      refine ev_iinc dX7_blocking_104 rfl ?_
      refine ev_goto (tgt := 15) dX7_blocking_107 rfl ?_
      rw [e1]
      refine ih (k + 1) c (by omega) (fun v hv => hr v (isMx_iff (fun v => ?_) hv))
      refine Iff.trans ?_ (mbI_s (i := k) (by omega) v).symm
      exact ⟨Or.inr, fun q2 => q2.elim (fun q2 => absurd q2.1 q) id⟩
    have hyes : mbC M (M.1 0 t) u k → Ev M_X7_blocking 104 [vR 8 0, vI (nI t), vI (mxI c (mbS M u k)), vI (nI u), vI (nI k), vU] [] (conc K M G) r := by
      intro q
      refine ev_iinc dX7_blocking_104 rfl ?_
      refine ev_goto (tgt := 15) dX7_blocking_107 rfl ?_
      rw [e1]
      refine ih (k + 1) _ (by omega) (fun v hv => hr v (isMx_one hv (fun v => ?_)))
      refine (mbI_s (i := k) (by omega) v).trans ?_
      exact ⟨fun q2 => q2.imp (fun q2 => q2.2) id, fun q2 => q2.imp (fun q2 => ⟨q, q2⟩) id⟩
    refine ev_iload dX7_blocking_15 rfl ?_
    refine ev_aload_n dX7_blocking_17 rfl rfl ?_
    refine ev_getf dX7_blocking_18 fl_7_33 ?_
    refine ev_iload_n dX7_blocking_21 rfl ?_
    refine ev_iald dX7_blocking_22 rfl rfl (show _ < 8 from by omega) ?_
    refine ev_icmp_ge (tgt := 110) dX7_blocking_23 rfl (fun c23 => ?_) (fun c23 => ?_)
    · exact absurd c23 (nI_ge (a := k) (b := M.2 2 u) (by omega) (by omega))
    · refine ev_aload_n dX7_blocking_26 rfl rfl ?_
      refine ev_getf dX7_blocking_27 fl_7_13 ?_
      refine ev_iload_n dX7_blocking_30 rfl ?_
      refine ev_iald dX7_blocking_31 rfl rfl (show _ < 8 from by omega) ?_
      refine ev_aload_n dX7_blocking_32 rfl rfl ?_
      refine ev_getf dX7_blocking_33 fl_7_13 ?_
      refine ev_iload_n dX7_blocking_36 rfl ?_
      refine ev_iald dX7_blocking_37 rfl rfl (show _ < 8 from by omega) ?_
      refine ev_icmp_ge (tgt := 110) dX7_blocking_38 rfl (fun c38 => ?_) (fun c38 => ?_)
      · exact absurd hp (Int32.not_lt.mpr c38)
      · refine ev_aload_n dX7_blocking_41 rfl rfl ?_
        refine ev_getf dX7_blocking_42 fl_7_36 ?_
        refine ev_bipush (v := 10) dX7_blocking_45 rfl ?_
        refine ev_iload_n dX7_blocking_47 rfl ?_
        refine ev_imul dX7_blocking_48 ?_
        refine ev_iload dX7_blocking_49 rfl ?_
        refine ev_iadd dX7_blocking_51 ?_
        refine ev_iald dX7_blocking_52 rfl (ix10 u k) (show _ < 80 from by omega) ?_
        refine ev_iconst (v := 1) dX7_blocking_53 rfl ?_
        refine ev_icmp_ne (tgt := 104) dX7_blocking_54 rfl (fun c54 => ?_) (fun c54 => ?_)
        · exact hno (fun q => c54 q.1)
        · refine ev_aload_n dX7_blocking_57 rfl rfl ?_
          refine ev_aload_n dX7_blocking_58 rfl rfl ?_
          refine ev_getf dX7_blocking_59 fl_7_39 ?_
          refine ev_bipush (v := 10) dX7_blocking_62 rfl ?_
          refine ev_iload_n dX7_blocking_64 rfl ?_
          refine ev_imul dX7_blocking_65 ?_
          refine ev_iload dX7_blocking_66 rfl ?_
          refine ev_iadd dX7_blocking_68 ?_
          refine ev_iald dX7_blocking_69 rfl (ix10 u k) (show _ < 80 from by omega) ?_
          refine evV2 dX7_blocking_70 cl_X7_blocking_187 ⟨rfl, rfl, fun _ => ⟨_, rfl⟩⟩ (Nat.le_of_ble_eq_true rfl) (m_ceil K M G (M.1 27 (10 * u + k)) h) ?_
          refine ev_aload_n dX7_blocking_73 rfl rfl ?_
          refine ev_getf dX7_blocking_74 fl_7_13 ?_
          refine ev_iload_n dX7_blocking_77 rfl ?_
          refine ev_iald dX7_blocking_78 rfl rfl (show _ < 8 from by omega) ?_
          refine ev_icmp_lt (tgt := 104) dX7_blocking_79 rfl (fun c79 => ?_) (fun c79 => ?_)
          · exact hno (fun q => Int32.not_lt.mpr q.2 c79)
          · have hq : mbC M (M.1 0 t) u k := ⟨Classical.not_not.mp c54, Int32.not_lt.mp c79⟩
            refine ev_aload_n dX7_blocking_82 rfl rfl ?_
            refine ev_iload_n dX7_blocking_83 rfl ?_
            refine ev_iload dX7_blocking_84 rfl ?_
            refine evV3 dX7_blocking_86 cl_X7_blocking_191 ⟨rfl, rfl, fun _ => ⟨_, rfl⟩⟩ (Nat.le_of_ble_eq_true rfl) (m_section K M G u k (by omega) hz (by omega)) ?_
            refine ev_istore dX7_blocking_89 rfl ?_
            refine ev_iload dX7_blocking_91 rfl ?_
            refine ev_iload_n dX7_blocking_93 rfl ?_
            refine ev_icmp_le (tgt := 102) dX7_blocking_94 rfl (fun c94 => ?_) (fun c94 => ?_)
            · refine ev_iload_n dX7_blocking_102 rfl ?_
              refine ev_istore_n dX7_blocking_103 rfl ?_
              refine ev_forget (ls2 := [_, _, _, _, _, vU]) (Fg_to ⟨Or.inr ⟨rfl, rfl⟩, Or.inr ⟨rfl, rfl⟩, Or.inr ⟨rfl, rfl⟩, Or.inr ⟨rfl, rfl⟩, Or.inr ⟨rfl, rfl⟩, Or.inl rfl, trivial⟩) ?_
              have hy := hyes hq
              rw [show mxI c (mbS M u k) = c from if_neg (Int32.not_lt.mpr c94)] at hy
              exact hy
            · refine ev_iload dX7_blocking_97 rfl ?_
              refine ev_goto (tgt := 103) dX7_blocking_99 rfl ?_
              refine ev_istore_n dX7_blocking_103 rfl ?_
              refine ev_forget (ls2 := [_, _, _, _, _, vU]) (Fg_to ⟨Or.inr ⟨rfl, rfl⟩, Or.inr ⟨rfl, rfl⟩, Or.inr ⟨rfl, rfl⟩, Or.inr ⟨rfl, rfl⟩, Or.inr ⟨rfl, rfl⟩, Or.inl rfl, trivial⟩) ?_
              have hy := hyes hq
              rw [show mxI c (mbS M u k) = mbS M u k from if_pos (Int32.not_le.mp c94)] at hy
              exact hy
theorem mb_out (K M : KT) (G : GT) (t : Nat) (h : Inv M) (ht : t < M.2 0 0) (R : Int32) : ∀ (j i : Nat) (c : Int32), i + j = M.2 0 0 → 0 ≤ c → (∀ v, isMx (mbO M (M.1 0 t) i) c v → v = R) → Ev M_X7_blocking 4 [vR 8 0, vI (nI t), vI c, vI (nI i), vU, vU] [] (conc K M G) (0, some (vI R), conc K M G) := by
  have hn := h.1.1
  intro j
  induction j with
  | zero =>
    intro i c hi hc hr
    rw [← hr c (isMx_no (fun v ⟨k, h1, h2, _⟩ => by omega))]
    refine ev_iload_n dX7_blocking_4 rfl ?_
    refine ev_aload_n dX7_blocking_5 rfl rfl ?_
    refine ev_getf dX7_blocking_6 fl_7_112 ?_
    refine ev_icmp_ge (tgt := 116) dX7_blocking_9 rfl (fun c9 => ?_) (fun c9 => ?_)
    · refine ev_iload_n dX7_blocking_116 rfl ?_
      exact ev_iret dX7_blocking_117 (Or.inl rfl)
    · exact absurd (nI_le (a := M.2 0 0) (b := i) (by omega) (by omega)) c9
  | succ j ih =>
    intro i c hi hc hr
    have e1 : nI i + Int32.ofInt 1 = nI (i + 1) := nI_1 i
    have hz := (h.2.2.1 i (by omega)).1
    by_cases hp : M.1 0 i < M.1 0 t
    · have h110 : ∀ v, isMx (mbI M (M.1 0 t) i 0) c v → Ev M_X7_blocking 110 [vR 8 0, vI (nI t), vI v, vI (nI i), vU, vU] [] (conc K M G) (0, some (vI R), conc K M G) := by
        intro v hv
        refine ev_iinc dX7_blocking_110 rfl ?_
        refine ev_goto (tgt := 4) dX7_blocking_113 rfl ?_
        rw [e1]
        refine ih (i + 1) v (by omega) (Int32.le_trans hc hv.2.1) (fun w hw => hr w ?_)
        refine ⟨?_, Int32.le_trans hv.2.1 hw.2.1, fun z q => ?_⟩
        · rcases hw.1 with q | q
          · rcases hv.1 with q2 | q2
            · exact Or.inl (q.trans q2)
            · exact Or.inr ((mbO_s (by omega) w).mpr (Or.inl ⟨hp, by rw [q]; exact q2⟩))
          · exact Or.inr ((mbO_s (by omega) w).mpr (Or.inr q))
        · rcases (mbO_s (by omega) z).mp q with q2 | q2
          · exact Int32.le_trans (hv.2.2 z q2.2) hw.2.1
          · exact hw.2.2 z q2
      refine ev_iload_n dX7_blocking_4 rfl ?_
      refine ev_aload_n dX7_blocking_5 rfl rfl ?_
      refine ev_getf dX7_blocking_6 fl_7_112 ?_
      refine ev_icmp_ge (tgt := 116) dX7_blocking_9 rfl (fun c9 => ?_) (fun c9 => ?_)
      · exact absurd c9 (nI_ge (a := i) (b := M.2 0 0) (by omega) (by omega))
      · refine ev_iconst (v := 0) dX7_blocking_12 rfl ?_
        refine ev_istore dX7_blocking_13 rfl ?_
        exact mb_in K M G t i h ht (by omega) hp _ (M.2 2 i) 0 c (by omega) h110
    · have h110 : Ev M_X7_blocking 110 [vR 8 0, vI (nI t), vI c, vI (nI i), vU, vU] [] (conc K M G) (0, some (vI R), conc K M G) := by
        refine ev_iinc dX7_blocking_110 rfl ?_
        refine ev_goto (tgt := 4) dX7_blocking_113 rfl ?_
        rw [e1]
        refine ih (i + 1) c (by omega) hc (fun w hw => hr w (isMx_iff (fun v => ?_) hw))
        refine Iff.trans ?_ (mbO_s (i := i) (by omega) v).symm
        exact ⟨Or.inr, fun q => q.elim (fun q => absurd q.1 hp) id⟩
      refine ev_iload_n dX7_blocking_4 rfl ?_
      refine ev_aload_n dX7_blocking_5 rfl rfl ?_
      refine ev_getf dX7_blocking_6 fl_7_112 ?_
      refine ev_icmp_ge (tgt := 116) dX7_blocking_9 rfl (fun c9 => ?_) (fun c9 => ?_)
      · exact absurd c9 (nI_ge (a := i) (b := M.2 0 0) (by omega) (by omega))
      · refine ev_iconst (v := 0) dX7_blocking_12 rfl ?_
        refine ev_istore dX7_blocking_13 rfl ?_
        refine ev_iload dX7_blocking_15 rfl ?_
        refine ev_aload_n dX7_blocking_17 rfl rfl ?_
        refine ev_getf dX7_blocking_18 fl_7_33 ?_
        refine ev_iload_n dX7_blocking_21 rfl ?_
        refine ev_iald dX7_blocking_22 rfl rfl (show _ < 8 from by omega) ?_
        refine ev_icmp_ge (tgt := 110) dX7_blocking_23 rfl (fun c23 => ?_) (fun c23 => ?_)
        · refine ev_forget (ls2 := [_, _, _, _, vU, _]) (Fg_to ⟨Or.inr ⟨rfl, rfl⟩, Or.inr ⟨rfl, rfl⟩, Or.inr ⟨rfl, rfl⟩, Or.inr ⟨rfl, rfl⟩, Or.inl rfl, Or.inr ⟨rfl, rfl⟩, trivial⟩) ?_
          exact h110
        · refine ev_aload_n dX7_blocking_26 rfl rfl ?_
          refine ev_getf dX7_blocking_27 fl_7_13 ?_
          refine ev_iload_n dX7_blocking_30 rfl ?_
          refine ev_iald dX7_blocking_31 rfl rfl (show _ < 8 from by omega) ?_
          refine ev_aload_n dX7_blocking_32 rfl rfl ?_
          refine ev_getf dX7_blocking_33 fl_7_13 ?_
          refine ev_iload_n dX7_blocking_36 rfl ?_
          refine ev_iald dX7_blocking_37 rfl rfl (show _ < 8 from by omega) ?_
          refine ev_icmp_ge (tgt := 110) dX7_blocking_38 rfl (fun c38 => ?_) (fun c38 => ?_)
          · refine ev_forget (ls2 := [_, _, _, _, vU, _]) (Fg_to ⟨Or.inr ⟨rfl, rfl⟩, Or.inr ⟨rfl, rfl⟩, Or.inr ⟨rfl, rfl⟩, Or.inr ⟨rfl, rfl⟩, Or.inl rfl, Or.inr ⟨rfl, rfl⟩, trivial⟩) ?_
            exact h110
          · exact absurd (Int32.not_le.mp c38) hp
theorem m_blocking (K M : KT) (G : GT) (t : Nat) (h : Inv M) (ht : t < M.2 0 0) : Ev M_X7_blocking 0 (ent M_X7_blocking [vR 8 0, vI (nI t)]) [] (conc K M G) (0, some (vI (bkV M t)), conc K M G) := by
  show Ev M_X7_blocking 0 [vR 8 0, vI (nI t), vU, vU, vU, vU] [] (conc K M G) _
  have hl := mb_out K M G t h ht (bkV M t) (M.2 0 0) 0 0 (by omega) (by decide) (fun v hv => isMx_eq hv (isMx_iff (mb_bk h (M.1 0 t)) (bk_mx M (M.1 0 t) (M.2 0 1) 0 0 (by omega) (by decide))))
  refine ev_iconst (v := 0) dX7_blocking_0 rfl ?_
  refine ev_istore_n dX7_blocking_1 rfl ?_
  refine ev_iconst (v := 0) dX7_blocking_2 rfl ?_
  refine ev_istore_n dX7_blocking_3 rfl ?_
  exact hl
