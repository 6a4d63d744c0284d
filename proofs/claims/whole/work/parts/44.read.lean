/-! SOUNDNESS: reading -/
theorem lay_in {t : Nat} (h1 : 1 ≤ t) (h2 : t ≤ 8) : ∀ w ∈ u_ws (RN (t - 1)) (TT t) (NN t), w ∈ wsL_law := by
  have key : ∀ w, (w ∈ wsX60 ∨ w ∈ wsX70 ∨ w ∈ wsX20 ∨ w ∈ wsX50 ∨ w ∈ wsX00 ∨ w ∈ wsX10 ∨ w ∈ wsX40 ∨ w ∈ wsX30) → w ∈ wsL_law := by
    intro w h
    refine List.mem_append_left _ (List.mem_append_left _ (List.mem_append_left _ ?_))
    rcases h with h | h | h | h | h | h | h | h
    · exact List.mem_append_left _ (List.mem_append_left _ (List.mem_append_left _ (List.mem_append_left _ (List.mem_append_left _ (List.mem_append_left _ (List.mem_append_left _ (List.mem_append_right _ h)))))))
    · exact List.mem_append_left _ (List.mem_append_left _ (List.mem_append_left _ (List.mem_append_left _ (List.mem_append_left _ (List.mem_append_left _ (List.mem_append_right _ h))))))
    · exact List.mem_append_left _ (List.mem_append_left _ (List.mem_append_left _ (List.mem_append_left _ (List.mem_append_left _ (List.mem_append_right _ h)))))
    · exact List.mem_append_left _ (List.mem_append_left _ (List.mem_append_left _ (List.mem_append_left _ (List.mem_append_right _ h))))
    · exact List.mem_append_left _ (List.mem_append_left _ (List.mem_append_left _ (List.mem_append_right _ h)))
    · exact List.mem_append_left _ (List.mem_append_left _ (List.mem_append_right _ h))
    · exact List.mem_append_left _ (List.mem_append_right _ h)
    · exact List.mem_append_right _ h
  intro w hw
  match t, h1, h2, hw with
  | 1, _, _, hw => exact key w (Or.inr (Or.inr (Or.inr (Or.inr (Or.inl hw)))))
  | 2, _, _, hw => exact key w (Or.inr (Or.inr (Or.inr (Or.inr (Or.inr (Or.inl hw))))))
  | 3, _, _, hw => exact key w (Or.inr (Or.inr (Or.inl hw)))
  | 4, _, _, hw => exact key w (Or.inr (Or.inr (Or.inr (Or.inr (Or.inr (Or.inr (Or.inr hw)))))))
  | 5, _, _, hw => exact key w (Or.inr (Or.inr (Or.inr (Or.inr (Or.inr (Or.inr (Or.inl hw)))))))
  | 6, _, _, hw => exact key w (Or.inr (Or.inr (Or.inr (Or.inl hw))))
  | 7, _, _, hw => exact key w (Or.inl hw)
  | 8, _, _, hw => exact key w (Or.inr (Or.inl hw))
  | t + 9, _, h, _ => omega
theorem MC.ex {p : Program} {l : Launch} {R : Room} {s : State} {m : MethodId} {meth : Method} {c : Code} {M : MT} {D : va_G} {B : Nat} (h : MC p l R s m meth c M D B) : EX D B s s.heap := h.2.2.2.2.2.2.2.2.2.2.2.1
theorem MC.own {p : Program} {l : Launch} {R : Room} {s : State} {m : MethodId} {meth : Method} {c : Code} {M : MT} {D : va_G} {B : Nat} (h : MC p l R s m meth c M D B) : s.vm.findClass (RN (mO M)) = some m.cls := h.2.2.2.2.2.2.2.1
theorem MC.wd {p : Program} {l : Launch} {R : Room} {s : State} {m : MethodId} {meth : Method} {c : Code} {M : MT} {D : va_G} {B : Nat} (h : MC p l R s m meth c M D B) {w : Cond} (hw : w ∈ wsL_law) (a : Array Value) : w.before a s = true := h.ex.1 w hw a
theorem MC.kn {p : Program} {l : Launch} {R : Room} {s : State} {m : MethodId} {meth : Method} {c : Code} {M : MT} {D : va_G} {B : Nat} (h : MC p l R s m meth c M D B) : ∀ t, 1 ≤ t → t ≤ 8 → u_Kn s (RN (t - 1)) (TT t) (NN t) (D.1 t) (D.2 t) := h.ex.2.2.2.2.2.2.2
theorem PP_getf : Rl_getf PP := by
  intro M pc ls st S r idx t i k h0 h1 kk0
  obtain ⟨hl, hk, t1, t8⟩ := h1
  have hwv : WFS S → (∀ v ∈ vR t i :: st, WFv S v) → i < S.2 t ∧ WFv S (S.1 t i k) := fun w b => by
    have hi := ((fmc b).1 t i rfl).2
    exact ⟨hi, (w t i k (tagK_o t1 t8) hi (by unfold wid; rw [if_pos t8]; exact hk)).v⟩
  refine PP_step kk0 (fun w a b => ⟨a, cfm (hwv w b).2 (fmc b).2⟩) (fun {p l e R s m args below meth c D B α H locs A cells slots Q} C w a b hH L _ kk => ?_)
  obtain ⟨cell, q1, q2, q3, q4⟩ := (hH.1 t i t1 t8 (hwv w b).1).2
  obtain ⟨hS, hfc, kC, hkC, hkind⟩ := C.kn t t1 t8
  obtain ⟨cf, kf, fi, f, hi, hsl⟩ := hS k hk
  refine W.getf (v := tv α (S.1 t i k)) C.1 C.2.1 C.own (C.wd hl args) hi (u_facts hfc hkC (u_lays (fun w hw => C.wd hw args) (lay_in t1 t8) hk) hi).1 q1 (by rw [q3]; exact fun h => by cases h) ?_ rfl rfl h0 (kk _ L)
  rw [hsl]
  exact q4 k hk
theorem arr_ix {n j : Nat} {x : Int32} (e : x = nI j) (hj : j < n) (hn : n < 2 ^ 31) : ¬ (x < 0 ∨ n ≤ x.toNatClampNeg) ∧ x.toNatClampNeg = j := by
  subst e
  have e1 : (nI j).toNatClampNeg = j := nI_clamp (by omega)
  refine ⟨fun q => q.elim (fun q => ?_) (fun q => by rw [e1] at q; omega), e1⟩
  have := Int32.not_lt.mpr (nI_pos' (show j < 2 ^ 31 by omega))
  exact this q
theorem aTy_hi {t : Nat} {ty : FieldType} (h : aTy t = some ty) : ¬ t ≤ 8 := fun q8 => by
  by_cases q0 : 1 ≤ t
  · rw [aTy_no q0 q8] at h; cases h
  · rw [show t = 0 by omega] at h; cases h
theorem rd_wf {S : Sto} {t i j : Nat} {ty : FieldType} {x : AV} {st : List AV} (h : aTy t = some ty) (hj : j < lenA S t) (w : WFS S) (b : ∀ v ∈ x :: vR t i :: st, WFv S v) : i < S.2 t ∧ WFv S (S.1 t i j) := by
  have hi := ((fmc (fmc b).2).1 t i rfl).2
  exact ⟨hi, (w t i j (tagK_a h) hi (by unfold wid; rw [if_neg (aTy_hi h)]; exact hj)).v⟩
theorem PP_iald : Rl_iald PP := by
  intro M pc ls st S r t i j x h0 h1 h2 h3 kk0
  refine PP_step kk0 (fun w a b => ⟨a, cfm (rd_wf h1 h3 w b).2 (fmc (fmc b).2).2⟩) (fun {p l e R s m args below meth c D B α H locs A cells slots Q} C w a b hH L _ kk => ?_)
  obtain ⟨cell, q, r1, r2, r3, r4, r6, r5⟩ := (hH.2.1 t i _ h1 (rd_wf h1 h3 w b).1).2
  obtain ⟨i1, i2⟩ := arr_ix h2 h3 r6
  refine W.iald (v := tv α (S.1 t i j)) C.1 C.2.1 q r1 r2 (by rw [r4]; exact i1) (by rw [i2]; exact r5 j h3) rfl rfl h0 (kk _ L)
theorem PP_zald : Rl_zald PP := by
  intro M pc ls st S r t i j x h0 h1 h2 h3 kk0
  refine PP_step kk0 (fun w a b => ⟨a, cfm (rd_wf h1 h3 w b).2 (fmc (fmc b).2).2⟩) (fun {p l e R s m args below meth c D B α H locs A cells slots Q} C w a b hH L _ kk => ?_)
  obtain ⟨cell, q, r1, r2, r3, r4, r6, r5⟩ := (hH.2.1 t i _ h1 (rd_wf h1 h3 w b).1).2
  obtain ⟨i1, i2⟩ := arr_ix h2 h3 r6
  refine W.zald (v := tv α (S.1 t i j)) C.1 C.2.1 q r1 r2 (by rw [r4]; exact i1) (by rw [i2]; exact r5 j h3) rfl rfl h0 (kk _ L)
theorem PP_lald : Rl_lald PP := by
  intro M pc ls st S r t i j x h0 h1 h2 h3 kk0
  refine PP_step kk0 (fun w a b => ⟨a, cfm (rd_wf h1 h3 w b).2 (fmc (fmc b).2).2⟩) (fun {p l e R s m args below meth c D B α H locs A cells slots Q} C w a b hH L _ kk => ?_)
  obtain ⟨cell, q, r1, r2, r3, r4, r6, r5⟩ := (hH.2.1 t i _ h1 (rd_wf h1 h3 w b).1).2
  obtain ⟨i1, i2⟩ := arr_ix h2 h3 r6
  refine W.lald (v := tv α (S.1 t i j)) C.1 C.2.1 q r1 r2 (by rw [r4]; exact i1) (by rw [i2]; exact r5 j h3) rfl rfl h0 (kk _ L)
theorem PP_aald : Rl_aald PP := by
  intro M pc ls st S r t i j x Cn h0 h1 h2 h3 kk0
  refine PP_step kk0 (fun w a b => ⟨a, cfm (rd_wf h1 h3 w b).2 (fmc (fmc b).2).2⟩) (fun {p l e R s m args below meth c D B α H locs A cells slots Q} C w a b hH L _ kk => ?_)
  obtain ⟨cell, q, r1, r2, r3, r4, r6, r5⟩ := (hH.2.1 t i _ h1 (rd_wf h1 h3 w b).1).2
  obtain ⟨i1, i2⟩ := arr_ix h2 h3 r6
  refine W.aald (v := tv α (S.1 t i j)) C.1 C.2.1 q r1 rfl r2 (by rw [r4]; exact i1) (by rw [i2]; exact r5 j h3) rfl rfl h0 (kk _ L)
theorem PP_alen : Rl_alen PP := by
  intro M pc ls st S r t i h0 h1 kk0
  obtain ⟨ty, ety⟩ := Option.isSome_iff_exists.mp h1
  refine PP_step kk0 (fun w a b => ⟨a, cfm (WFv_inl _ _) (fmc b).2⟩) (fun {p l e R s m args below meth c D B α H locs A cells slots Q} C w a b hH L _ kk => ?_)
  obtain ⟨cell, q, r1, r2, r3, r4, r6, r5⟩ := (hH.2.1 t i _ ety ((fmc b).1 t i rfl).2).2
  exact W.alen C.1 C.2.1 q r1 (by rw [r4]; rfl) rfl rfl h0 (kk _ L)
/-! references compared -/
def rfO (α : AD) (v : AV) : Option Nat := match v with
  | .inr q => some (α q.1 q.2)
  | _ => none
theorem rfO_rf {v : AV} (h : isRa v = true) (α : AD) : tv α v = va_rf (rfO α v) := by
  match v, h with
  | .inl .null, _ => rfl
  | .inr (t, i), _ => rfl
theorem rfO_eq {D : va_G} {B : Nat} {α : AD} {S : Sto} {U : State} {H : Heap} (hH : HR D B α S U H) {x y : AV} (hx : isRa x = true) (hy : isRa y = true) (wx : WFv S x) (wy : WFv S y) : rfO α x = rfO α y ↔ x = y := by
  have tg : ∀ {t i : Nat}, isRa (vR t i) = true → WFv S (vR t i) → tagK t = true ∧ i < S.2 t := by
    intro t i h w
    obtain ⟨a, b⟩ := w t i rfl
    refine ⟨a.resolve_right (fun q => ?_), b⟩
    subst q
    exact absurd h (by show ¬ ((19 : Nat) != 19) = true; decide)
  match x, hx, y, hy with
  | .inl .null, _, .inl .null, _ => exact ⟨fun _ => rfl, fun _ => rfl⟩
  | .inl .null, _, .inr (t, i), _ => exact ⟨(fun q => nomatch q), (fun q => nomatch q)⟩
  | .inr (t, i), _, .inl .null, _ => exact ⟨(fun q => nomatch q), (fun q => nomatch q)⟩
  | .inr (t, i), h1, .inr (t2, i2), h2 =>
    refine ⟨fun q => ?_, fun q => by rw [q]⟩
    obtain ⟨a1, a2⟩ := tg h1 wx
    obtain ⟨b1, b2⟩ := tg h2 wy
    have e : α t i = α t2 i2 := Option.some.inj q
    obtain ⟨e1, e2⟩ := hH.2.2 t i t2 i2 a1 b1 a2 b2 e
    subst e1; subst e2
    rfl
theorem PP_acmp_eq : Rl_acmp_eq PP := by
  intro M pc ls st S r x y off tgt h0 h1 h2 h3 k1 k2
  by_cases hc : x = y
  · refine PP_step (k1 hc) (fun _ a b => ⟨a, (fmc (fmc b).2).2⟩) (fun {p l e R s m args below meth c D B α H locs A cells slots Q} C w a b hH L _ kk => ?_)
    have eq := rfO_eq hH h2 h3 (fmc (fmc b).2).1 (fmc b).1
    show W p l e R s m args below meth c H locs cells slots Q (F0 m pc A (tv α y :: tv α x :: st.map (tv α)))
    rw [rfO_rf h2, rfO_rf h3]
    exact lv_acmp_eq C.1 C.2.1 h0 h1 (fun _ => kk _ L) (fun n => absurd (eq.mpr hc) n)
  · refine PP_step (k2 hc) (fun _ a b => ⟨a, (fmc (fmc b).2).2⟩) (fun {p l e R s m args below meth c D B α H locs A cells slots Q} C w a b hH L _ kk => ?_)
    have eq := rfO_eq hH h2 h3 (fmc (fmc b).2).1 (fmc b).1
    show W p l e R s m args below meth c H locs cells slots Q (F0 m pc A (tv α y :: tv α x :: st.map (tv α)))
    rw [rfO_rf h2, rfO_rf h3]
    exact lv_acmp_eq C.1 C.2.1 h0 h1 (fun n => absurd (eq.mp n) hc) (fun _ => kk _ L)
theorem PP_acmp_ne : Rl_acmp_ne PP := by
  intro M pc ls st S r x y off tgt h0 h1 h2 h3 k1 k2
  by_cases hc : x = y
  · refine PP_step (k2 hc) (fun _ a b => ⟨a, (fmc (fmc b).2).2⟩) (fun {p l e R s m args below meth c D B α H locs A cells slots Q} C w a b hH L _ kk => ?_)
    have eq := rfO_eq hH h2 h3 (fmc (fmc b).2).1 (fmc b).1
    show W p l e R s m args below meth c H locs cells slots Q (F0 m pc A (tv α y :: tv α x :: st.map (tv α)))
    rw [rfO_rf h2, rfO_rf h3]
    exact lv_acmp_ne C.1 C.2.1 h0 h1 (fun n => absurd (eq.mpr hc) n) (fun _ => kk _ L)
  · refine PP_step (k1 hc) (fun _ a b => ⟨a, (fmc (fmc b).2).2⟩) (fun {p l e R s m args below meth c D B α H locs A cells slots Q} C w a b hH L _ kk => ?_)
    have eq := rfO_eq hH h2 h3 (fmc (fmc b).2).1 (fmc b).1
    show W p l e R s m args below meth c H locs cells slots Q (F0 m pc A (tv α y :: tv α x :: st.map (tv α)))
    rw [rfO_rf h2, rfO_rf h3]
    exact lv_acmp_ne C.1 C.2.1 h0 h1 (fun _ => kk _ L) (fun n => absurd (eq.mp n) hc)
/-! the library's calls -/
theorem wsum_tv (α : AD) (st : List AV) : ((st.map (tv α)).map fun v => v.category).sum = wsum st := by
  unfold wsum
  rw [List.map_map]
  congr 1
  exact List.map_congr_left fun v _ => tv_cat α v
theorem PP_objinit : Rl_objinit PP := by
  intro M pc ls st S r idx t i h0 h1 h2 h3 kk0
  rw [Bool.and_eq_true, decide_eq_true_eq, decide_eq_true_eq] at h3
  refine PP_step kk0 (fun w a b => ⟨a, (fmc b).2⟩) (fun {p l e R s m args below meth c D B α H locs A cells slots Q} C w a b hH L _ kk => ?_)
  have hF := C.2.2.2.2.2.2.2.2.2.1
  have hQ := C.2.2.2.2.2.2.2.2.2.2.1
  refine W.objInit C.1 C.2.1 C.own (C.wd h1 args) (C.wd (wr_1 _ (List.mem_of_getElem? (i := 15) rfl)) args) (C.wd (wr_1 _ (List.mem_of_getElem? (i := 16) rfl)) args) rfl (L.2.1.trans C.2.2.2.1.symm) rfl h0 (by omega) ?_ (kk _ L)
  rw [wsum_tv]
  show 2 * 0 + wsum st + 12 ≤ R.locals
  omega
theorem PP_mmax : Rl_mmax PP := by
  intro M pc ls st S r idx x y h0 h1 h2 h3 kk0
  rw [Bool.and_eq_true, decide_eq_true_eq, decide_eq_true_eq] at h3
  refine PP_step kk0 (fun w a b => ⟨a, cfm (WFv_inl _ _) (fmc (fmc b).2).2⟩) (fun {p l e R s m args below meth c D B α H locs A cells slots Q} C w a b hH L hr kk => ?_)
  have hF := C.2.2.2.2.2.2.2.2.2.1
  have hQ := C.2.2.2.2.2.2.2.2.2.2.1
  exact va_mmax C.1 C.2.1 (C.2.2.2.1.trans L.2.1.symm) C.own (C.wd h1 args) (C.wd (wr_17 _ (List.mem_of_getElem? (i := 5) rfl)) args) (C.wd (wr_17 _ (List.mem_of_getElem? (i := 6) rfl)) args) (C.wd (wr_17 _ (List.mem_of_getElem? (i := 7) rfl)) args) (by omega) (by rw [wsum_tv]; omega) hr.1 hr.2 h0 (kk _ L)
theorem PP_mmin : Rl_mmin PP := by
  intro M pc ls st S r idx x y h0 h1 h2 h3 kk0
  rw [Bool.and_eq_true, decide_eq_true_eq, decide_eq_true_eq] at h3
  refine PP_step kk0 (fun w a b => ⟨a, cfm (WFv_inl _ _) (fmc (fmc b).2).2⟩) (fun {p l e R s m args below meth c D B α H locs A cells slots Q} C w a b hH L hr kk => ?_)
  have hF := C.2.2.2.2.2.2.2.2.2.1
  have hQ := C.2.2.2.2.2.2.2.2.2.2.1
  exact va_mmin C.1 C.2.1 (C.2.2.2.1.trans L.2.1.symm) C.own (C.wd h1 args) (C.wd (wr_21 _ (List.mem_of_getElem? (i := 17) rfl)) args) (C.wd (wr_17 _ (List.mem_of_getElem? (i := 6) rfl)) args) (C.wd (wr_21 _ (List.mem_of_getElem? (i := 18) rfl)) args) (by omega) (by rw [wsum_tv]; omega) hr.1 hr.2 h0 (kk _ L)
