/-! SOUNDNESS: throwing -/
theorem HR_X {D : va_G} {B : Nat} {α : AD} {S : Sto} {U : State} {H H1 : Heap} (h : HR D B α S U H) (ho : ∀ q, q < H.size → H1[q]? = H[q]?) : HR D B α (newX S) U H1 := by
  have e : ∀ t, tagK t = true → (newX S).2 t = S.2 t := fun t ht => by
    have h9 := tag_lt ht
    have h19 : ¬ t = 19 := fun q => by rw [q] at ht; exact absurd ht (by decide)
    exact bump_other (by omega) (by omega) h19
  refine ⟨fun t i h1 h2 h3 => ?_, fun t i ty h1 h2 => ?_, fun t i t' i' k1 k2 l1 l2 => ?_⟩
  · rw [e t (tagK_o h1 h2)] at h3
    exact ⟨(h.1 t i h1 h2 h3).1, (h.1 t i h1 h2 h3).2.kept (ho _ (h.lt (tagK_o h1 h2) h3))⟩
  · rw [e t (tagK_a h1)] at h2
    have hl := (wid_bump (S := S) (S2 := newX S) (t := 19) (w := 6) (by omega) rfl t).2
    exact ⟨(h.2.1 t i ty h1 h2).1, ((h.2.1 t i ty h1 h2).2.kept (ho _ (h.lt (tagK_a h1) h2))).to hl.symm (fun _ _ => rfl)⟩
  · rw [e t k1] at l1
    rw [e t' k2] at l2
    exact h.2.2 t i t' i' k1 k2 l1 l2
theorem gd_1 : ∀ w ∈ Cond.classLink RX6 36 "java/lang/IllegalArgumentException" :: Cond.initialized "java/lang/IllegalArgumentException" :: vx_atS RX6 40 "java/lang/IllegalArgumentException" excN, vx_ot w = true := List.all_eq_true.mp (by decide +kernel)
theorem gd_2 : ∀ w ∈ Cond.classLink RX6 50 "java/lang/IllegalStateException" :: Cond.initialized "java/lang/IllegalStateException" :: vx_atS RX6 54 "java/lang/IllegalStateException" excN, vx_ot w = true := List.all_eq_true.mp (by decide +kernel)
theorem PP_throw : Rl_throw PP := by
  intro M pc ls st S r E h0 h1
  obtain ⟨o6, hH0, hF6, hQ90, hE, hdup, is, text, w, hin, hldc, hic, hat⟩ := h0
  have hE2 : E = 1 ∨ E = 2 := hE.elim (fun q => Or.inl q.1) (fun q => Or.inr q.1)
  refine ⟨Mono_newX S, fun _ => ⟨_, rfl, Nat.le_refl _⟩, fun w1 w2 w3 => ⟨WFS_newX w1, fun v e => ?_⟩, ?_⟩
  · cases e
    intro t i e
    cases e
    exact ⟨Or.inr rfl, by show S.2 19 < bump S.2 19 6 19; rw [bump_self]; omega⟩
  · intro p l e R s m args below meth c D B αe α Se H locs A cells slots mc ms hC h1' h2 h3 h4 h5 h6 h7 h8 hcn
    obtain ⟨c1, c2, c3, c4, c5, c6⟩ := hcn
    have n1 : Se.2 100 + mc = S.2 100 + 1 := c3.trans (show bump S.2 19 6 100 = S.2 100 + 1 from bump_100 (by omega))
    have n2 : Se.2 101 + ms = S.2 101 + 6 := c4.trans (show bump S.2 19 6 101 = S.2 101 + 6 from bump_101 (by omega))
    have hown : s.vm.findClass RX6 = some m.cls := by have := hC.own; rw [o6] at this; exact this
    have hF := hC.2.2.2.2.2.2.2.2.2.1
    have hQ := hC.2.2.2.2.2.2.2.2.2.2.1
    have htab := hC.2.2.2.2.2.2.2.2.1
    rw [hH0] at htab
    have hout : ∀ pc', ∀ x ∈ c.exceptionTable.toList, covers x pc' = false := fun pc' x hx => by rw [htab] at hx; cases hx
    obtain ⟨sa, hstr⟩ := hC.ex.2.2.2.1 _ hin
    have hx : ∀ t : State, s.vm.Alike t.vm → H.size ≤ t.heap.size → (∀ q : Nat, q < H.size → t.heap[q]? = H[q]?) → XC D B αe Se (E, some (vR 19 (S.2 19)), newX S) (EN E) s t := by
      intro t ha hz ho
      refine ⟨show E ≠ 0 by omega, rfl, α, h2, (HR_X h6 ho).moved ha, Nat.le_trans h8.1 hz, fun q q1 q2 => (ho q (Nat.lt_of_lt_of_le q1 h8.1)).trans (h8.2.1 q q1 q2)⟩
    have hloc : ((st.map (tv α)).map fun v => v.category).sum + (13 * (excN.length + 1) + 43) ≤ R.locals := by
      rw [wsum_tv]
      show wsum st + (13 * (2 + 1) + 43) ≤ R.locals
      omega
    have hfr : excN.length + 3 < R.frames := by
      show 2 + 3 < R.frames
      omega
    have hnm : ∀ n ∈ excN, Bundle.fit n = true := List.all_eq_true.mp (by decide +kernel)
    rcases hE2 with q | q
    · subst q
      have d0 := hE.elim (fun q => q.2) (fun q => absurd q.1 (by decide))
      have di := hic.elim (fun q => q.2) (fun q => absurd q.1 (by decide))
      rcases hldc with ⟨q, hl⟩ | ⟨q, hl⟩
      · subst q
        exact vx_throwS (cls := "java/lang/IllegalArgumentException") (names := excN) hC.1 hC.2.1 hC.2.2.1 hown (by decide +kernel) hnm (hC.wd (wr_4 _ (List.mem_of_getElem? (i := 7) rfl)) args) (hC.wd (wr_4 _ (List.mem_of_getElem? (i := 8) rfl)) args) hstr (fun w hw => hC.ex.2.2.2.2.1.1 w hw args) gd_1 hC.ex.2.2.2.2.2.2.1.1 hC.ex.2.2.2.2.2.2.1.2 h8 (h7.2.1.trans hC.2.2.2.1.symm) d0 hdup hl di hat (hout _) hfr hloc (by omega) (by omega) hC.2.2.2.2.2.1 hx h8.2.2 (by omega) (by omega)
      · subst q
        exact vx_throwSW (cls := "java/lang/IllegalArgumentException") (names := excN) hC.1 hC.2.1 hC.2.2.1 hown (by decide +kernel) hnm (hC.wd (wr_4 _ (List.mem_of_getElem? (i := 7) rfl)) args) (hC.wd (wr_4 _ (List.mem_of_getElem? (i := 8) rfl)) args) hstr (fun w hw => hC.ex.2.2.2.2.1.1 w hw args) gd_1 hC.ex.2.2.2.2.2.2.1.1 hC.ex.2.2.2.2.2.2.1.2 h8 (h7.2.1.trans hC.2.2.2.1.symm) d0 hdup hl di hat (hout _) hfr hloc (by omega) (by omega) hC.2.2.2.2.2.1 hx h8.2.2 (by omega) (by omega)
    · subst q
      have d0 := hE.elim (fun q => absurd q.1 (by decide)) (fun q => q.2)
      have di := hic.elim (fun q => absurd q.1 (by decide)) (fun q => q.2)
      rcases hldc with ⟨q, hl⟩ | ⟨q, hl⟩
      · subst q
        exact vx_throwS (cls := "java/lang/IllegalStateException") (names := excN) hC.1 hC.2.1 hC.2.2.1 hown (by decide +kernel) hnm (hC.wd (wr_4 _ (List.mem_of_getElem? (i := 9) rfl)) args) (hC.wd (wr_4 _ (List.mem_of_getElem? (i := 10) rfl)) args) hstr (fun w hw => hC.ex.2.2.2.2.1.2 w hw args) gd_2 hC.ex.2.2.2.2.2.2.1.1 hC.ex.2.2.2.2.2.2.1.2 h8 (h7.2.1.trans hC.2.2.2.1.symm) d0 hdup hl di hat (hout _) hfr hloc (by omega) (by omega) hC.2.2.2.2.2.1 hx h8.2.2 (by omega) (by omega)
      · subst q
        exact vx_throwSW (cls := "java/lang/IllegalStateException") (names := excN) hC.1 hC.2.1 hC.2.2.1 hown (by decide +kernel) hnm (hC.wd (wr_4 _ (List.mem_of_getElem? (i := 9) rfl)) args) (hC.wd (wr_4 _ (List.mem_of_getElem? (i := 10) rfl)) args) hstr (fun w hw => hC.ex.2.2.2.2.1.2 w hw args) gd_2 hC.ex.2.2.2.2.2.2.1.1 hC.ex.2.2.2.2.2.2.1.2 h8 (h7.2.1.trans hC.2.2.2.1.symm) d0 hdup hl di hat (hout _) hfr hloc (by omega) (by omega) hC.2.2.2.2.2.1 hx h8.2.2 (by omega) (by omega)
