/-! SOUNDNESS: calls -/
def isCast (w : Cond) : Bool := match w with
  | .castable _ _ => true
  | .declares _ => true
  | _ => false
theorem atg_1 : (vx_atS RX6 40 "java/lang/IllegalArgumentException" excN).all (fun w => goodWord w || isCast w) = true := by decide +kernel
theorem atg_2 : (vx_atS RX6 54 "java/lang/IllegalStateException" excN).all (fun w => goodWord w || isCast w) = true := by decide +kernel
theorem gr_1 : wsL_law0_r1.all goodWord = true := by decide +kernel
theorem gr_2 : wsL_law0_r2.all goodWord = true := by decide +kernel
theorem gr_3 : wsL_law0_r3.all goodWord = true := by decide +kernel
theorem gr_4 : wsL_law0_r4.all goodWord = true := by decide +kernel
theorem gr_5 : wsL_law0_r5.all goodWord = true := by decide +kernel
theorem gr_6 : wsL_law0_r6.all goodWord = true := by decide +kernel
theorem gr_7 : wsL_law0_r7.all goodWord = true := by decide +kernel
theorem gr_8 : wsL_law0_r8.all goodWord = true := by decide +kernel
theorem gr_9 : wsL_law0_r9.all goodWord = true := by decide +kernel
theorem gr_10 : wsL_law0_r10.all goodWord = true := by decide +kernel
theorem gr_11 : wsL_law0_r11.all goodWord = true := by decide +kernel
theorem gr_12 : wsL_law0_r12.all goodWord = true := by decide +kernel
theorem gr_13 : wsL_law0_r13.all goodWord = true := by decide +kernel
theorem gr_14 : wsL_law0_r14.all goodWord = true := by decide +kernel
theorem gr_15 : wsL_law0_r15.all goodWord = true := by decide +kernel
theorem gr_16 : wsL_law0_r16.all goodWord = true := by decide +kernel
theorem gr_17 : wsL_law0_r17.all goodWord = true := by decide +kernel
theorem gr_18 : wsL_law0_r18.all goodWord = true := by decide +kernel
theorem gr_19 : wsL_law0_r19.all goodWord = true := by decide +kernel
theorem gr_20 : wsL_law0_r20.all goodWord = true := by decide +kernel
theorem gr_21 : wsL_law0_r21.all goodWord = true := by decide +kernel
theorem gr_22 : wsL_law0_r22.all goodWord = true := by decide +kernel
theorem gr_23 : wsL_law0_r23.all goodWord = true := by decide +kernel
theorem gr_24 : wsL_law0_r24.all goodWord = true := by decide +kernel
theorem gx_0 : wsX00.all goodWord = true := by decide +kernel
theorem gx_1 : wsX10.all goodWord = true := by decide +kernel
theorem gx_2 : wsX20.all goodWord = true := by decide +kernel
theorem gx_3 : wsX30.all goodWord = true := by decide +kernel
theorem gx_4 : wsX40.all goodWord = true := by decide +kernel
theorem gx_5 : wsX50.all goodWord = true := by decide +kernel
theorem gx_6 : wsX60.all goodWord = true := by decide +kernel
theorem gx_7 : wsX70.all goodWord = true := by decide +kernel
theorem gd_app {a b : List Cond} (ha : a.all goodWord = true) (hb : b.all goodWord = true) : (a ++ b).all goodWord = true := by rw [List.all_append, ha, hb]; rfl
theorem gd_fil (a : List Cond) : (a.filter goodWord).all goodWord = true := List.all_eq_true.mpr fun w h => (List.mem_filter.mp h).2
theorem good_0 : wsL_law0.all goodWord = true := gd_app (gd_app (gd_app (gd_app (gd_app (gd_app (gd_app (gd_app (gd_app (gd_app gr_1 (gd_app gr_2 (gd_app gr_3 (gd_app gr_4 (gd_app gr_5 (gd_app gr_6 (gd_app gr_7 (gd_app gr_8 (gd_app gr_9 (gd_app gr_10 (gd_app gr_11 (gd_app gr_12 (gd_app gr_13 (gd_app gr_14 (gd_app gr_15 (gd_app gr_16 (gd_app gr_17 (gd_app gr_18 (gd_app gr_19 (gd_app gr_20 (gd_app gr_21 (gd_app gr_22 (gd_app gr_23 (gr_24)))))))))))))))))))))))) gx_6) gx_7) gx_2) gx_5) gx_0) gx_1) gx_4) gx_3) rfl
theorem good_L : wsL_law.all goodWord = true := gd_app (gd_app good_0 (gd_fil _)) (gd_fil _)
theorem good_w {w : Cond} (h : w ∈ wsL_law) : (w.onTables && w.keeps) = true ∨ ∃ ty, w = .arrayClass ty := good_of_word (List.all_eq_true.mp good_L w h)
theorem atE_moved {E : Nat} (hE : E = 1 ∨ E = 2) {s U : State} (hW : s.WarmedH U.vm) (h : atE E s) : atE E U := by
  have hg : ∀ w ∈ vx_atS RX6 (if E = 1 then 40 else 54) (EN E) excN, (goodWord w || isCast w) = true := by
    rcases hE with q | q
    · subst q; exact List.all_eq_true.mp atg_1
    · subst q; exact List.all_eq_true.mp atg_2
  intro w hw a
  rcases Bool.or_eq_true_iff.mp (hg w hw) with q | q
  · exact word_at hW (good_of_word q) (h w hw a)
  · have hz := h w hw #[]
    cases w with
    | castable C T => exact (va_Nw.warmC hW hz).use rfl
    | declares x => exact (va_Nw.warmD hW hz).use rfl
    | _ => exact absurd q (by simp [isCast])
theorem nest_M {w : Cond} (h : w ∈ nestL) : ∃ a i x b, w = .methodLinkNest a i x b := by
  simp only [nestL, List.mem_cons, List.not_mem_nil, or_false] at h
  rcases h with h | h | h | h <;> exact ⟨_, _, _, _, h⟩
theorem EX_moved {D : va_G} {B : Nat} {s U : State} {H : Heap} {locs : List Loc} (hW : s.WarmedH U.vm) (hS : va_S (fun q => B ≤ q) s.heap H locs) (h : EX D B s s.heap) : EX D B U H := by
  obtain ⟨h1, h2, h3, h4, h5, h6, h7, h8⟩ := h
  refine ⟨fun w hw a => word_at hW (good_w hw) (h1 w hw a), fun w hw => ?_, ⟨h3.1.moved hW.alike, h3.2.moved hW.alike⟩, fun q hq => ?_, ⟨atE_moved (Or.inl rfl) hW h5.1, atE_moved (Or.inr rfl) hW h5.2⟩, h6.moved hW.alike, ⟨(h7.1.kept hS.2.1).moved hW.alike, (h7.2.kept hS.2.1).moved hW.alike⟩, fun t t1 t8 => u_Kn_moved hW.alike (h8 t t1 t8)⟩
  · obtain ⟨a, i, x, b, e⟩ := nest_M hw
    have hz := h2 w hw
    subst e
    exact va_Nw.warmM hW hz
  · obtain ⟨sa, hz⟩ := h4 q hq
    exact ⟨sa, vk_R.warm hW hz⟩
