/-! SOUNDNESS: writing -/
theorem PP_set {M : MT} {pc pc2 : Nat} {ls st st2 : List AV} {S : Sto} {r : Res} {t i k : Nat} {v : AV} (k0 : PP M pc2 ls st2 (setS S t i k v) r) (hw : WFS S → (∀ v ∈ ls, WFv S v) → (∀ v ∈ st, WFv S v) → WFs S v ∧ ∀ v ∈ st2, WFv S v)
    (hm : ∀ {p : Program} {l : Launch} {e : Env} {R : Room} {s : State} {m : MethodId} {args : Array Value} {below : List Frame} {meth : Method} {c : Code} {D : va_G} {B : Nat} {α : AD} {H : Heap} {locs : List Loc} {A : Array Slot} {cells slots : Nat} {Q : State → Prop},
      MC p l R s m meth c M D B → WFS S → (∀ v ∈ ls, WFv S v) → (∀ v ∈ st, WFv S v) → HR D B α S s H → LR α (mL M) ls A → va_S (fun q => B ≤ q) s.heap H locs → (∀ (H1 : Heap) (L1 : List Loc), HR D B α (setS S t i k v) s H1 → va_S (fun q => B ≤ q) s.heap H1 L1 → W p l e R s m args below meth c H1 L1 cells slots Q (F0 m pc2 A (st2.map (tv α)))) → W p l e R s m args below meth c H locs cells slots Q (F0 m pc A (st.map (tv α)))) : PP M pc ls st S r := by
  obtain ⟨k1, k2, k3, k4⟩ := k0
  refine ⟨k1, k2, fun w1 w2 w3 => k3 (WFS_set w1 (hw w1 w2 w3).1) w2 (hw w1 w2 w3).2, ?_⟩
  intro p l e R s m args below meth c D B αe α Se H locs A cells slots mc ms hC h1 h2 h3 h4 h5 h6 h7 h8 h9
  refine hm hC h3 h4 h5 h6 h7 h8 (fun H1 L1 hH1 hS1 => ?_)
  exact k4 p l e R s m args below meth c D B αe α Se H1 L1 A cells slots mc ms hC h1 h2 (WFS_set h3 (hw h3 h4 h5).1) h4 (hw h3 h4 h5).2 hH1 h7 hS1 h9
theorem aR_set {U : State} {H1 : Heap} {a : Nat} {ty : FieldType} {n : Nat} {V : Nat → Value} {cell : Cell} {j : Nat} {x : Value} (r1 : U.isArrayOf cell ty) (r2 : cell.vm ≠ .unknown) (r3 : ∀ C, ty = .object C → va_RA U cell.cls (.object C)) (r4 : cell.slots.size = n) (r6 : n < 2 ^ 31) (r5 : ∀ j, j < n → cell.slots[j]? = some (V j)) (hj : j < n) (e : H1[a]? = some (cell.setSlot j x)) : aR U H1 a ty n (fun k => if k = j then x else V k) := by
  refine ⟨_, e, r1, r2, r3, by rw [k2_slotsz]; exact r4, r6, fun k hk => ?_⟩
  show (cell.setSlot j x).slots[k]? = some (if k = j then x else V k)
  by_cases q : k = j
  · subst q
    rw [if_pos rfl]
    exact Cell.slots_setSlot_self _ (by omega)
  · rw [if_neg q, Cell.slots_setSlot_ne _ (Ne.symm q)]
    exact r5 k hk
theorem tv_if (α : AD) (S : Sto) (t i k : Nat) (v : AV) (j : Nat) : (if j = k then tv α v else tv α (S.1 t i j)) = tv α (if j = k then v else S.1 t i j) := by split <;> rfl
theorem PP_iast : Rl_iast PP := by
  intro M pc ls st S r t i j x v h0 h1 h18 h2 h3 kk0
  refine PP_set kk0 (fun w a b => ⟨WFs_inl _ _, (fmc (fmc (fmc b).2).2).2⟩) (fun {p l e R s m args below meth c D B α H locs A cells slots Q} C w a b hH L hS kk => ?_)
  have hi := ((fmc (fmc (fmc b).2).2).1 t i rfl).2
  obtain ⟨hB, cell, q, r1, r2, r3, r4, r6, r5⟩ := hH.2.1 t i _ h1 hi
  obtain ⟨i1, i2⟩ := arr_ix h2 h3 r6
  refine W.iast C.1 C.2.1 q r1 r2 (by rw [r4]; exact i1) rfl rfl h0 (fun H1 e1 e2 e3 => ?_)
  rw [i2] at e1
  refine kk H1 _ (HR_set hH (tagK_a h1) hi e3 (fun q1 q2 => absurd q2 (aTy_hi h1)) (fun ty hty => ?_)) (hS.put e2 e3 (hB h18))
  cases h1.symm.trans hty
  exact (aR_set r1 r2 r3 r4 r6 r5 h3 e1).to rfl (fun k _ => tv_if α S t i j (vI v) k)
theorem PP_last : Rl_last PP := by
  intro M pc ls st S r t i j x v h0 h1 h2 h3 kk0
  refine PP_set kk0 (fun w a b => ⟨WFs_inl _ _, (fmc (fmc (fmc b).2).2).2⟩) (fun {p l e R s m args below meth c D B α H locs A cells slots Q} C w a b hH L hS kk => ?_)
  have h18 : t ≠ 18 := fun q => by subst q; exact absurd h1 (by decide)
  have hi := ((fmc (fmc (fmc b).2).2).1 t i rfl).2
  obtain ⟨hB, cell, q, r1, r2, r3, r4, r6, r5⟩ := hH.2.1 t i _ h1 hi
  obtain ⟨i1, i2⟩ := arr_ix h2 h3 r6
  refine W.last C.1 C.2.1 q r1 r2 (by rw [r4]; exact i1) rfl rfl h0 (fun H1 e1 e2 e3 => ?_)
  rw [i2] at e1
  refine kk H1 _ (HR_set hH (tagK_a h1) hi e3 (fun q1 q2 => absurd q2 (aTy_hi h1)) (fun ty hty => ?_)) (hS.put e2 e3 (hB h18))
  cases h1.symm.trans hty
  exact (aR_set r1 r2 r3 r4 r6 r5 h3 e1).to rfl (fun k _ => tv_if α S t i j (vL v) k)
theorem nar_bool {v : Int32} (h : v &&& 1 = v) : narrow .boolean (.int v) = .int v := by
  simp [narrow, h]
theorem PP_zast : Rl_zast PP := by
  intro M pc ls st S r t i j x v h0 h1 h2 h3 h4 kk0
  refine PP_set kk0 (fun w a b => ⟨WFs_inl _ _, (fmc (fmc (fmc b).2).2).2⟩) (fun {p l e R s m args below meth c D B α H locs A cells slots Q} C w a b hH L hS kk => ?_)
  have h18 : t ≠ 18 := fun q => by subst q; exact absurd h1 (by decide)
  have hi := ((fmc (fmc (fmc b).2).2).1 t i rfl).2
  obtain ⟨hB, cell, q, r1, r2, r3, r4, r6, r5⟩ := hH.2.1 t i _ h1 hi
  obtain ⟨i1, i2⟩ := arr_ix h2 h3 r6
  refine W.zast C.1 C.2.1 q r1 r2 (by rw [r4]; exact i1) rfl rfl h0 (fun H1 e1 e2 e3 => ?_)
  rw [i2, nar_bool h4] at e1
  refine kk H1 _ (HR_set hH (tagK_a h1) hi e3 (fun q1 q2 => absurd q2 (aTy_hi h1)) (fun ty hty => ?_)) (hS.put e2 e3 (hB h18))
  cases h1.symm.trans hty
  exact (aR_set r1 r2 r3 r4 r6 r5 h3 e1).to rfl (fun k _ => tv_if α S t i j (vI v) k)
/-! a field -/
theorem ty_ok {t k : Nat} (t1 : 1 ≤ t) (t8 : t ≤ 8) (hk : k < NN t) : parseFieldDescriptor (TT t k).2.2.1 = some (tyT t k) := by
  match t, t1, t8, hk with
  | 1, _, _, hk => exact tyX0_ok k hk
  | 2, _, _, hk => exact tyX1_ok k hk
  | 3, _, _, hk => exact tyX2_ok k hk
  | 4, _, _, hk => exact tyX3_ok k hk
  | 5, _, _, hk => exact tyX4_ok k hk
  | 6, _, _, hk => exact tyX5_ok k hk
  | 7, _, _, hk => exact tyX6_ok k hk
  | 8, _, _, hk => exact tyX7_ok k hk
  | t + 9, _, h, _ => omega
theorem nm_ok {t : Nat} (t1 : 1 ≤ t) (t8 : t ≤ 8) : ∀ a, a < NN t → ∀ b, b < NN t → a ≠ b → (TT t a).2.1 ≠ (TT t b).2.1 := by
  match t, t1, t8 with
  | 1, _, _ => exact nmX0
  | 2, _, _ => exact nmX1
  | 3, _, _ => exact nmX2
  | 4, _, _ => exact nmX3
  | 5, _, _ => exact nmX4
  | 6, _, _ => exact nmX5
  | 7, _, _ => exact nmX6
  | 8, _, _ => exact nmX7
  | t + 9, _, h => omega
theorem decl_ok {t k : Nat} (t1 : 1 ≤ t) (t8 : t ≤ 8) (hk : k < NN t) : (TT t k).1 = RN (t - 1) := by
  have h : ∀ t : Fin 9, 1 ≤ t.val → ∀ k : Fin 39, k.val < NN t.val → (TT t.val k.val).1 = RN (t.val - 1) := by decide +kernel
  have hk39 : k < 39 := by
    have : ∀ t : Fin 9, NN t.val ≤ 39 := by decide +kernel
    have := this ⟨t, by omega⟩
    simp at this
    omega
  exact h ⟨t, by omega⟩ t1 ⟨k, hk39⟩ hk
theorem slot_ap {p : Program} {l : Launch} {R : Room} {s : State} {m : MethodId} {meth : Method} {c : Code} {M : MT} {D : va_G} {B : Nat} (C : MC p l R s m meth c M D B) {t : Nat} (t1 : 1 ≤ t) (t8 : t ≤ 8) : ∀ x y, x < NN t → y < NN t → x ≠ y → D.2 t x ≠ D.2 t y := by
  intro x y hx hy hne
  obtain ⟨hS, -⟩ := C.kn t t1 t8
  obtain ⟨_, _, _, fa, hia, ea⟩ := hS x hx
  obtain ⟨_, _, _, fb, hib, eb⟩ := hS y hy
  rw [← ea, ← eb]
  refine u_apart (u_lays (args := #[]) (fun w hw => C.wd hw #[]) (lay_in t1 t8) hx) (u_lays (args := #[]) (fun w hw => C.wd hw #[]) (lay_in t1 t8) hy) hia hib ?_
  rw [(State.fieldFound?_type hia (ty_ok t1 t8 hx)).1, (State.fieldFound?_type hib (ty_ok t1 t8 hy)).1]
  exact nm_ok t1 t8 x hx y hy hne
theorem fit_ok {ty : FieldType} {v : AV} (h : fitV ty v = true) (α : AD) : narrow ty (tv α v) = tv α v ∧ fits ty (tv α v) = true := by
  match ty, v, h with
  | .int, .inl (.int x), _ => exact ⟨rfl, rfl⟩
  | .boolean, .inl (.int x), h =>
    have hx : x = 0 ∨ x = 1 := by
      have h' : (x == 0 || x == 1) = true := h
      simpa using h'
    rcases hx with q | q
    · subst q; exact ⟨rfl, rfl⟩
    · subst q; exact ⟨rfl, rfl⟩
  | .object _, .inl .null, _ => exact ⟨rfl, rfl⟩
  | .object _, .inr q, _ => exact ⟨rfl, rfl⟩
  | .array _, .inl .null, _ => exact ⟨rfl, rfl⟩
  | .array _, .inr q, _ => exact ⟨rfl, rfl⟩
theorem fit_19 {ty : FieldType} {t i : Nat} (h : fitV ty (vR t i) = true) : t ≠ 19 := by
  intro q
  subst q
  cases ty <;> exact absurd (show false = true from h) (by decide)
theorem PP_putf : Rl_putf PP := by
  intro M pc ls st S r idx t i k v h0 h1 h2 h3 kk0
  obtain ⟨hl, hk, t1, t8⟩ := h1
  refine PP_set kk0 (fun w a b => ⟨fun t' i' e => ?_, (fmc (fmc b).2).2⟩) (fun {p l e R s m args below meth c D B α H locs A cells slots Q} C w a b hH L hS kk => ?_)
  · subst e
    obtain ⟨x1, x2⟩ := (fmc b).1 t' i' rfl
    exact ⟨x1.resolve_right (fit_19 h2), x2⟩
  · have hi := ((fmc (fmc b).2).1 t i rfl).2
    obtain ⟨hB, cell, q1, q2, q3, q4⟩ := hH.1 t i t1 t8 hi
    obtain ⟨hSl, hfc, kC, hkC, hkind⟩ := C.kn t t1 t8
    obtain ⟨cf, kf, fi, f, hf, hsl⟩ := hSl k hk
    have hwd : ∀ w ∈ wsL_law, w.before args s = true := fun w hw => C.wd hw args
    have hlay := hwd _ (lay_in t1 t8 _ (u_in_lay hk))
    have hst := (u_facts hfc hkC (u_lays hwd (lay_in t1 t8) hk) hf).1
    obtain ⟨n1, n2⟩ := fit_ok h2 α
    have hap := slot_ap C t1 t8
    have fin : ∀ H1 : Heap, H1[α t i]? = some (cell.setSlot f.slot (tv α v)) → H1.size = H.size → (∀ q, q ≠ α t i → H1[q]? = H[q]?) → W p l e R s m args below meth c H1 (locs ++ [⟨α t i, f.slot⟩]) cells slots Q (F0 m (pc + 3) A (st.map (tv α))) := by
      intro H1 e1 e2 e3
      rw [hsl] at e1
      refine kk H1 _ (HR_set hH (tagK_o t1 t8) hi e3 (fun _ _ => ?_) (fun ty hty => by rw [aTy_no t1 t8] at hty; cases hty)) (hS.put e2 e3 hB)
      refine t_OB.to (V := updV (fun k => tv α (S.1 t i k)) k (tv α v)) ⟨_, e1, q2, q3, t_set q4 hap hk (tv α v)⟩ (fun j _ => ?_)
      exact tv_if α S t i k v j
    by_cases hfin : (TT t k).2.2.2 = true
    · unfold u_lay at hlay
      rw [if_pos hfin] at hlay
      have h3' : (mY M).name = "<init>" ∧ mO M + 1 = t := by
        unfold finOk at h3
        rw [hfin] at h3
        simpa using h3
      have hcf : m.cls = cf := by
        obtain ⟨_, _, c', _, _, _, -, -, hf', -, -, -, hown2, -⟩ := Cond.laysFinal_spec hlay
        have e1 : c' = cf := by have := hf.symm.trans hf'; simp at this; exact this.1.symm
        rw [decl_ok t1 t8 hk, show t - 1 = mO M by omega] at hown2
        rw [← e1]; exact Option.some.inj (C.own.symm.trans hown2)
      have h6 := u_fits hfc hkC hkind (Or.inr hlay) hf (ty_ok t1 t8 hk) n1 n2
      exact W.putFinK C.1 C.2.1 C.own (C.wd hl args) hf hst hcf (C.2.2.2.2.2.2.1.trans h3'.1) (by rw [q2]; exact h6) q1 q3 (by rw [hsl]; exact k2_hasslot (q4 k hk)) rfl rfl h0 fin
    · unfold u_lay at hlay
      rw [if_neg hfin] at hlay
      have h6 := u_store hfc hkC hkind hlay hf (ty_ok t1 t8 hk) n1 n2
      exact W.putK C.1 C.2.1 (f := f) ⟨C.own, C.wd hl args, ⟨_, _, _, hf⟩, hst⟩ (by rw [q2]; exact h6) q1 q3 (by rw [hsl]; exact k2_hasslot (q4 k hk)) rfl rfl h0 fin
theorem PP_eqv : Rl_eqv PP := by
  intro M pc ls st S r S2 h0 k
  obtain ⟨k1, k2, k3, k4⟩ := k
  have hm : Mono S S2 := fun t => by rw [h0.1]; exact Nat.le_refl _
  refine ⟨hm.tr k1, fun q => ?_, fun w1 w2 w3 => k3 (WFS_eqv w1 h0) (fun v hv => (w2 v hv).mono hm) (fun v hv => (w3 v hv).mono hm), ?_⟩
  · obtain ⟨i, e1, e2⟩ := k2 q
    exact ⟨i, e1, by rw [h0.1]; exact e2⟩
  · intro p l e R s m args below meth c D B αe α Se H locs A cells slots mc ms hC h1 h2 h3 h4 h5 h6 h7 h8 h9
    refine k4 p l e R s m args below meth c D B αe α Se H locs A cells slots mc ms hC (h1.tr hm) h2 (WFS_eqv h3 h0) (fun v hv => (h4 v hv).mono hm) (fun v hv => (h5 v hv).mono hm) (HR_eqv h6 h0) h7 h8 ?_
    unfold CN at h9 ⊢
    rw [← h0.1]
    exact h9
