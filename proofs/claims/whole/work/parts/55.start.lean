/-! THE LAW'S START -/
theorem sx_nest : ∀ w ∈ nestL, w ∈ lw_tbl := by decide +kernel
theorem sx_ao : Cond.arrayOver (.object RX5) ∈ lw_tbl ∧ Cond.arrayOver (.object RX3) ∈ lw_tbl := by decide +kernel
theorem sx_str : ∀ q ∈ thrL, Cond.stringRef RX6 q.1 q.2 ∈ lw_tbl := by decide +kernel
theorem sx_ex : ∀ q ∈ thrL, Cond.exactly (.string RX6 q.1) "java/lang/String" ∈ flatC (Jvm.Cond.and given_1 narrow_1) := by decide +kernel
theorem sx_nc : Cond.not (.castable (EN 2) (EN 1)) ∈ flatC (Jvm.Cond.and given_1 narrow_1) := by decide +kernel
theorem sx_rf : Cond.isRef (.static Bundle.tN "UNASSIGNED_STACK" Bundle.steD) ∈ flatC (Jvm.Cond.and given_1 narrow_1) ∧ Cond.isRef (.static Bundle.tN "SUPPRESSED_SENTINEL" Bundle.listD) ∈ flatC (Jvm.Cond.and given_1 narrow_1) := by decide +kernel
theorem sx_ls : Cond.laysStatic Bundle.tN "UNASSIGNED_STACK" Bundle.steD ∈ lw_tbl ∧ Cond.laysStatic Bundle.tN "SUPPRESSED_SENTINEL" Bundle.listD ∈ lw_tbl ∧ Cond.initialized Bundle.tN ∈ lw_tbl := by decide +kernel
theorem sx_in : ∀ t : Fin 9, 1 ≤ t.val → Cond.instantiable (RN (t.val - 1)) (NN t.val) ∈ lw_tbl := by decide +kernel
theorem sx_at {E : Nat} (hE : E = 1 ∨ E = 2) {s : State} {a0 : Array Value} (hts : ∀ w ∈ lw_tbl, w.before a0 s = true) : atE E s := by
  have hg : ∀ w ∈ vx_atS RX6 (if E = 1 then 40 else 54) (EN E) excN, (goodWord w || isCast w) = true ∧ w ∈ lw_tbl := by
    rcases hE with q | q
    · subst q; exact fun w hw => ⟨List.all_eq_true.mp atg_1 w hw, at_in1 w hw⟩
    · subst q; exact fun w hw => ⟨List.all_eq_true.mp atg_2 w hw, at_in2 w hw⟩
  intro w hw a
  obtain ⟨g1, g2⟩ := hg w hw
  rcases Bool.or_eq_true_iff.mp g1 with q | q
  · exact word_at (State.WarmedH.refl s) (good_of_word q) (hts w g2)
  · have hz := hts w g2
    cases w with
    | castable C T => exact va_any rfl hz
    | declares x => exact va_any rfl hz
    | _ => exact absurd q (by simp [isCast])
theorem EX_start {s : State} {a0 : Array Value} (hts : ∀ w ∈ lw_tbl, w.before a0 s = true) (hg : (Jvm.Cond.and given_1 narrow_1).before a0 s = true) : ∃ D : va_G, EX D s.heap.size s s.heap := by
  have hs := flat_of_before _ hg
  have hA : ∀ a : Nat, a < s.heap.size → ¬ s.heap.size ≤ a := fun a h1 h2 => by omega
  have hk : ∀ t : Nat, ∃ (cC : ClassId) (iS : Nat → Nat), 1 ≤ t → t ≤ 8 → u_Kn s (RN (t - 1)) (TT t) (NN t) cC iS := by
    intro t
    by_cases h1 : 1 ≤ t
    · by_cases h2 : t ≤ 8
      · obtain ⟨cC, iS, h⟩ := u_known (C := RN (t - 1)) (T := TT t) (N := NN t) (n := NN t) hts (fun w hw => wsL_in w (lay_in h1 h2 w hw)) (hts _ (sx_in ⟨t, by omega⟩ h1))
        exact ⟨cC, iS, fun _ _ => h⟩
      · exact ⟨0, fun _ => 0, fun _ q => absurd q h2⟩
    · exact ⟨0, fun _ => 0, fun q _ => absurd q h1⟩
  obtain ⟨f, hf⟩ := Classical.axiomOfChoice hk
  obtain ⟨g, hg2⟩ := Classical.axiomOfChoice hf
  refine ⟨(f, g), fun w hw a => word_at (State.WarmedH.refl s) (good_w hw) (hts w (wsL_in w hw)), fun w hw => ?_, ⟨va_AO.of (hts _ sx_ao.1), va_AO.of (hts _ sx_ao.2)⟩, fun q hq => ?_, ⟨sx_at (Or.inl rfl) hts, sx_at (Or.inr rfl) hts⟩, va_Nc.of (hs _ sx_nc), ⟨vx_Zqof (hts _ sx_ls.1) (hts _ sx_ls.2.2) (hs _ sx_rf.1) hA, vx_Zqof (hts _ sx_ls.2.1) (hts _ sx_ls.2.2) (hs _ sx_rf.2) hA⟩, hg2⟩
  · have hz := hts w (sx_nest w hw)
    obtain ⟨a, i, x, b, e⟩ := nest_M hw
    subst e
    exact va_Nw.of rfl hz
  · obtain ⟨a, -, -, -, ha, -⟩ := Cond.exactly_spec (args := a0) (first := s) (o := none) (s := s) (idx := []) (hs _ (sx_ex q hq))
    exact ⟨a, vk_R.of (hts _ (sx_str q hq)) ha⟩
theorem S0_cnt {xs : Nat → Int32} {L t i : Nat} (ht : tagK t = true) (hi : i < (S0 xs L).2 t) : t = 18 ∧ i = 0 := by
  have h9 := tag_lt ht
  by_cases q : t = 18
  · subst q
    have : i < 1 := hi
    exact ⟨rfl, by omega⟩
  · have e : (S0 xs L).2 t = 0 := by
      show (if t = 18 then 1 else if t = 102 then L else 0) = 0
      rw [if_neg q, if_neg (by omega)]
    omega
theorem HR_start {D : va_G} {s : State} {b L : Nat} {xs : Nat → Int32} (hL : L ≤ 3073) (hX : va_X b L xs s s.heap) : HR D s.heap.size (fun _ _ => b) (S0 xs L) s s.heap := by
  refine ⟨fun t i h1 h2 h3 => ?_, fun t i ty h1 h2 => ?_, fun t i t' i' k1 k2 l1 l2 _ => ?_⟩
  · have := (S0_cnt (tagK_o h1 h2) h3).1
    omega
  · obtain ⟨e1, e2⟩ := S0_cnt (tagK_a h1) h2
    subst e1; subst e2
    cases h1
    obtain ⟨scr, q1, q2, q3, q4, q5⟩ := hX
    refine ⟨fun q => absurd rfl q, scr, q1, q2, q3, (fun C q => nomatch q), q4, ?_, fun j hj => q5 j hj⟩
    show L < 2 ^ 31
    omega
  · obtain ⟨e1, e2⟩ := S0_cnt k1 l1
    obtain ⟨e3, e4⟩ := S0_cnt k2 l2
    exact ⟨e1.trans e3.symm, e2.trans e4.symm⟩
theorem WFS_start (xs : Nat → Int32) (L : Nat) : WFS (S0 xs L) := by
  intro t i k h1 h2 h3
  obtain ⟨e1, e2⟩ := S0_cnt h1 h2
  subst e1; subst e2
  exact WFs_inl _ _
