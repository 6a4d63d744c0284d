/-! SOUNDNESS: making -/
theorem PP_mk {M : MT} {pc pc2 : Nat} {ls st st2 : List AV} {S S2 : Sto} {r : Res} {t w : Nat} {d : Nat → AV} (k0 : PP M pc2 ls (vR t (S.2 t) :: st2) S2 r) (ht : tagK t = true) (e2 : S2.2 = bump S.2 t w) (e1 : ∀ t' i' k', S2.1 t' i' k' = if t' = t ∧ i' = S.2 t then d k' else S.1 t' i' k') (hd : ∀ k, ∃ x, d k = .inl x) (hw : (∀ v ∈ st, WFv S v) → ∀ v ∈ st2, WFv S v)
    (hm : ∀ {p : Program} {l : Launch} {e : Env} {R : Room} {s : State} {m : MethodId} {args : Array Value} {below : List Frame} {meth : Method} {c : Code} {D : va_G} {B : Nat} {α : AD} {H : Heap} {locs : List Loc} {A : Array Slot} {cells slots : Nat} {Q : State → Prop},
      MC p l R s m meth c M D B → LR α (mL M) ls A → (cells + 1 ≤ R.cells ∧ slots + w ≤ R.slots) →
      (∀ H1 : Heap, H1.size = H.size + 1 → (∀ q, q < H.size → H1[q]? = H[q]?) → (1 ≤ t → t ≤ 8 → t_OB H.size (D.1 t) (NN t) (D.2 t) H1 (fun j => tv α (d j))) → (∀ ty, aTy t = some ty → aR s H1 H.size ty (lenA S t) (fun j => tv α (d j))) → W p l e R s m args below meth c H1 locs (cells + 1) (slots + w) Q (F0 m pc2 A (.ref H.size :: st2.map (tv α)))) → W p l e R s m args below meth c H locs cells slots Q (F0 m pc A (st.map (tv α)))) : PP M pc ls st S r := by
  obtain ⟨k1, k2, k3, k4⟩ := k0
  have h9 := tag_lt ht
  have hmo : Mono S S2 := fun j => by rw [e2]; exact bump_le _ _ _ j
  have hdw : ∀ k, WFs S2 (d k) := fun k => by obtain ⟨x, e⟩ := hd k; rw [e]; exact WFs_inl _ _
  have hnv : WFv S2 (vR t (S.2 t)) := fun t' i' e => by
    cases e
    exact ⟨Or.inl ht, by rw [e2, bump_self]; omega⟩
  have n100 : S2.2 100 = S.2 100 + 1 := by rw [e2]; exact bump_100 (by omega)
  have n101 : S2.2 101 = S.2 101 + w := by rw [e2]; exact bump_101 (by omega)
  refine ⟨hmo.tr k1, fun q => ?_, fun w1 w2 w3 => k3 (WFS_new w1 ht e2 e1 hdw) (fun v hv => (w2 v hv).mono hmo) (cfm hnv (fun v hv => (hw w3 v hv).mono hmo)), ?_⟩
  · obtain ⟨i, q1, q2⟩ := k2 q
    exact ⟨i, q1, Nat.le_trans (hmo 19) q2⟩
  · intro p l e R s m args below meth c D B αe α Se H locs A cells slots mc ms hC h1 h2 h3 h4 h5 h6 h7 h8 hcn
    obtain ⟨c1, c2, c3, c4, c5, c6⟩ := hcn
    have m1 := k1 100
    have m2 := k1 101
    refine hm hC h7 ⟨by omega, by omega⟩ (fun H1 z1 o1 ob ar => ?_)
    have hX := Ext_new S α t H.size
    have hst := hw h5
    have hB : B ≤ H.size := Nat.le_trans hC.2.2.2.2.2.2.2.2.2.2.2.2 h8.1
    have hk := k4 p l e R s m args below meth c D B αe (updA α t (S.2 t) H.size) Se H1 locs A (cells + 1) (slots + w) mc ms hC (h1.tr hmo) (h2.tr h1 hX) (WFS_new h3 ht e2 e1 hdw) (fun v hv => (h4 v hv).mono hmo) (cfm hnv (fun v hv => (hst v hv).mono hmo)) (HR_new h6 h3 ht hB e2 e1 hd o1 ob ar) (LR_ext h7 hX h4) ⟨Nat.le_trans h8.1 (by omega), fun q q1 q2 => (o1 q (Nat.lt_of_lt_of_le q1 h8.1)).trans (h8.2.1 q q1 q2), h8.2.2⟩ ⟨by omega, by omega, c3, c4, c5, c6⟩
    rw [List.map_cons, tv_exts hX hst, show tv (updA α t (S.2 t) H.size) (vR t (S.2 t)) = .ref H.size from congrArg Value.ref (updA_e _ _ _ _)] at hk
    exact hk
theorem dflt_ok {ty : FieldType} (h : ty = .int ∨ ty = .boolean ∨ ty = .long ∨ (∃ C, ty = .object C) ∨ ∃ t, ty = .array t) (α : AD) : defaultValue ty = tv α (dflt ty) := by
  rcases h with q | q | q | ⟨C, q⟩ | ⟨t, q⟩ <;> subst q <;> rfl
theorem tyT_in {t k : Nat} (t1 : 1 ≤ t) (t8 : t ≤ 8) (hk : k < NN t) : tyT t k = .int ∨ tyT t k = .boolean ∨ tyT t k = .long ∨ (∃ C, tyT t k = .object C) ∨ ∃ u, tyT t k = .array u := by
  have key : ∀ ty : FieldType, (match ty with | .int => true | .boolean => true | .long => true | .object _ => true | .array _ => true | _ => false) = true → ty = .int ∨ ty = .boolean ∨ ty = .long ∨ (∃ C, ty = .object C) ∨ ∃ u, ty = .array u := by
    intro ty h
    cases ty with
    | int => exact Or.inl rfl
    | boolean => exact Or.inr (Or.inl rfl)
    | long => exact Or.inr (Or.inr (Or.inl rfl))
    | object C => exact Or.inr (Or.inr (Or.inr (Or.inl ⟨C, rfl⟩)))
    | array u => exact Or.inr (Or.inr (Or.inr (Or.inr ⟨u, rfl⟩)))
    | _ => exact absurd h (by decide)
  have h : ∀ t : Fin 9, 1 ≤ t.val → ∀ k : Fin 39, k.val < NN t.val → (match tyT t.val k.val with | .int => true | .boolean => true | .long => true | .object _ => true | .array _ => true | _ => false) = true := by decide +kernel
  have hk39 : k < 39 := by
    have : ∀ t : Fin 9, NN t.val ≤ 39 := by decide +kernel
    have := this ⟨t, by omega⟩
    simp at this
    omega
  exact key _ (h ⟨t, by omega⟩ t1 ⟨k, hk39⟩ hk)
theorem PP_new : Rl_new PP := by
  intro M pc ls st S r idx t h0 h1 kk0
  obtain ⟨n1, n2, n3, t1, t8⟩ := h1
  refine PP_mk (d := fun k => dflt (tyT t k)) kk0 (tagK_o t1 t8) rfl (fun _ _ _ => rfl) (fun k => dflt_inl _) (fun b => b) (fun {p l e R s m args below meth c D B α H locs A cells slots Q} C L hr kk => ?_)
  have hK := C.kn t t1 t8
  refine W.newcK C.1 C.2.1 C.own (C.wd n1 args) (C.wd n2 args) (C.wd n3 args) rfl h0 hr.1 hr.2 hK.2.1 rfl (fun H1 kC hkC e1 z1 o1 => ?_)
  refine kk H1 z1 o1 (fun _ _ => ?_) (fun ty hty => by rw [aTy_no t1 t8] at hty; cases hty)
  exact (u_born (tyT t) (fun w hw => C.wd hw args) (lay_in t1 t8) hK hkC e1 (fun k hk => ty_ok t1 t8 hk)).to (fun k hk => dflt_ok (tyT_in t1 t8 hk) α)
theorem alen_lt (t : Nat) : alen t ≤ 80 := by
  unfold alen
  split <;> omega
theorem PP_newa : Rl_newa PP := by
  intro M pc ls st S r t a n h0 h1 h18 h2 kk0
  have hty : newarray.typeOf a = .int ∨ newarray.typeOf a = .boolean ∨ newarray.typeOf a = .long := by
    have h : ∀ t : Fin 59, (match aTy t.val with | none => true | some .int => true | some .boolean => true | some .long => true | some (.object _) => true | _ => false) = true := by decide +kernel
    have h' := h ⟨t, tag_lt (tagK_a h1)⟩
    simp only [h1] at h'
    cases a <;> first | exact Or.inl rfl | exact Or.inr (Or.inl rfl) | exact Or.inr (Or.inr rfl) | exact absurd h' (by decide)
  have hle := alen_lt t
  have hcl : (newarray.typeOf a = .int → Cond.arrayClass .int ∈ wsL_law) ∧ (newarray.typeOf a = .long → Cond.arrayClass .long ∈ wsL_law) ∧ (newarray.typeOf a = .boolean → Cond.arrayClass .boolean ∈ wsL_law) := ⟨fun _ => wr_2 _ (List.mem_of_getElem? (i := 5) rfl), fun _ => wr_1 _ (List.mem_of_getElem? (i := 6) rfl), fun _ => wr_2 _ (List.mem_of_getElem? (i := 19) rfl)⟩
  have hw : Cond.arrayClass (newarray.typeOf a) ∈ wsL_law := by
    rcases hty with q | q | q
    · rw [q]; exact hcl.1 q
    · rw [q]; exact hcl.2.2 q
    · rw [q]; exact hcl.2.1 q
  have hn : n.toNatClampNeg = alen t := by rw [h2]; exact nI_clamp (by omega)
  have hbytes : alen t * componentBytes (newarray.typeOf a) ≤ 536870912 := by
    rcases hty with q | q | q <;> rw [q]
    · show alen t * 4 ≤ _
      omega
    · show alen t * 1 ≤ _
      omega
    · show alen t * 8 ≤ _
      omega
  refine PP_mk (d := fun _ => dflt ((aTy t).getD .int)) kk0 (tagK_a h1) rfl (fun _ _ _ => rfl) (fun k => dflt_inl _) (fun b => (fmc b).2) (fun {p l e R s m args below meth c D B α H locs A cells slots Q} C L hr kk => ?_)
  refine W.newaK C.1 C.2.1 (C.wd hw args) rfl h0 rfl (by rw [h2]; exact Int32.not_lt.mpr (nI_pos' (by omega))) hn hbytes hr.1 hr.2 rfl (fun H1 cA e1 z1 o1 hA => ?_)
  refine kk H1 z1 o1 (fun q1 q2 => absurd q2 (aTy_hi h1)) (fun ty hty2 => ?_)
  cases h1.symm.trans hty2
  have hl : lenA S t = alen t := if_neg h18
  rw [hl]
  refine ⟨_, e1, hA _ _, (by intro q; cases q), fun Cn q => ?_, by simp [arrV], by omega, fun j hj => ?_⟩
  · rcases hty with q2 | q2 | q2 <;> rw [q2] at q <;> cases q
  · rw [h1]
    show (Array.ofFn (n := alen t) fun _ => defaultValue (newarray.typeOf a))[j]? = some (tv α (dflt (newarray.typeOf a)))
    rw [Array.getElem?_ofFn, dif_pos hj, dflt_ok (hty.elim Or.inl (fun q => Or.inr (q.elim Or.inl (fun q => Or.inr (Or.inl q))))) α]
theorem PP_anew : Rl_anew PP := by
  intro M pc ls st S r idx t n h0 h1 h2 kk0
  have hle := alen_lt t
  have hn : n.toNatClampNeg = alen t := by rw [h2]; exact nI_clamp (by omega)
  have main : ∀ Cn : String, aTy t = some (.object Cn) → t ≠ 18 → Cond.classLink (RN (mO M)) idx Cn ∈ wsL_law → (∀ {D : va_G} {B : Nat} {s : State} {H : Heap}, EX D B s H → va_AO Cn s) → PP M pc ls (vI n :: st) S r := by
    intro Cn ha h18 hcl hao
    refine PP_mk (d := fun _ => dflt ((aTy t).getD .int)) kk0 (tagK_a ha) rfl (fun _ _ _ => rfl) (fun k => dflt_inl _) (fun b => (fmc b).2) (fun {p l e R s m args below meth c D B α H locs A cells slots Q} C L hr kk => ?_)
    have hs2 : slots + n.toNatClampNeg ≤ R.slots := by rw [hn]; exact hr.2
    refine W.anew C.1 C.2.1 C.own (C.wd hcl args) (hao C.ex).use rfl h0 rfl (by rw [h2]; exact Int32.not_lt.mpr (nI_pos' (by omega))) (by rw [hn]; omega) hr.1 hs2 (fun cA kA comp f1 f2 f3 f4 => ?_)
    have hl : lenA S t = alen t := if_neg h18
    rw [hn]
    refine kk _ (by simp) (fun q hq => by rw [Array.getElem?_push, if_neg (Nat.ne_of_lt hq)]) (fun q1 q2 => absurd q2 (aTy_hi ha)) (fun ty hty2 => ?_)
    cases ha.symm.trans hty2
    rw [hl]
    refine ⟨_, Array.getElem?_push_size, ⟨fun k h => (by cases h), kA, f2, comp, f3⟩, (by intro q; cases q), fun C2 q => ?_, by simp, by omega, fun j hj => ?_⟩
    · cases q
      exact ⟨kA, comp, f2, f3, f4, f1⟩
    · rw [ha]
      show (Array.replicate (alen t) Value.null)[j]? = some Value.null
      simp [hj]
  rcases h1 with ⟨q, hq⟩ | ⟨q, hq⟩
  · subst q
    exact main "TaskKernel$Task" rfl (by decide) hq (fun h => h.2.2.1.1)
  · subst q
    exact main "TaskKernel$Mutex" rfl (by decide) hq (fun h => h.2.2.1.2)
theorem PP_aast : Rl_aast PP := by
  intro M pc ls st S r t i j t2 i2 x h0 h1 h2 h3 kk0
  have main : ∀ Cn : String, aTy t = some (.object Cn) → t ≠ 18 → 1 ≤ t2 → t2 ≤ 8 → Cn = RN (t2 - 1) → PP M pc ls (vR t2 i2 :: vI x :: vR t i :: st) S r := by
    intro Cn ha h18 t1 t8 hcn
    refine PP_set kk0 (fun w a b => ⟨fun t' i' e => ?_, (fmc (fmc (fmc b).2).2).2⟩) (fun {p l e R s m args below meth c D B α H locs A cells slots Q} C w a b hH L hS kk => ?_)
    · cases e
      exact ⟨tagK_o t1 t8, ((fmc b).1 t2 i2 rfl).2⟩
    · have hi := ((fmc (fmc (fmc b).2).2).1 t i rfl).2
      have hi2 := ((fmc b).1 t2 i2 rfl).2
      obtain ⟨hB, cell, q, r1, r2, r3, r4, r6, r5⟩ := hH.2.1 t i _ ha hi
      obtain ⟨-, cv, v1, v2, v3, v4⟩ := hH.1 t2 i2 t1 t8 hi2
      obtain ⟨kA, comp, f2, f3, f4, f1⟩ := r3 Cn rfl
      obtain ⟨-, hfc, kC, hkC, -⟩ := C.kn t2 t1 t8
      have hcomp : comp = D.1 t2 := by
        rw [hcn] at f4
        exact Option.some.inj (f4.symm.trans hfc)
      obtain ⟨i1, ij⟩ := arr_ix h2 h3 r6
      refine W.aast C.1 C.2.1 q r1.1 r2 f2 f3 rfl (by rw [hcomp]; exact hkC) ⟨fun q => i1 (Or.inl q), by rw [r4, ij]; exact h3⟩ v1 (by intro q; rw [v3]; exact fun q => by cases q) (by rw [v2]; exact hkC) (by rw [v2, hcomp]; exact Vm.assignable_self _ _) rfl rfl h0 (fun H1 e1 e2 e3 => ?_)
      rw [ij] at e1
      refine kk H1 _ (HR_set hH (tagK_a ha) hi e3 (fun q1 q2 => absurd q2 (aTy_hi ha)) (fun ty hty => ?_)) (hS.put e2 e3 (hB h18))
      cases ha.symm.trans hty
      exact (aR_set r1 r2 r3 r4 r6 r5 h3 e1).to rfl (fun k _ => tv_if α S t i j (vR t2 i2) k)
  have hc : (t = 15 ∧ t2 = 6) ∨ (t = 16 ∧ t2 = 4) := by
    unfold aEl at h1
    simpa using h1
  rcases hc with ⟨q1, q2⟩ | ⟨q1, q2⟩
  · subst q1; subst q2
    exact main "TaskKernel$Task" rfl (by decide) (by decide) (by decide) rfl
  · subst q1; subst q2
    exact main "TaskKernel$Mutex" rfl (by decide) (by decide) (by decide) rfl
/-! ends -/
theorem QC_of {D : va_G} {B : Nat} {αe α : AD} {Se S : Sto} {v : Option AV} {s : State} {H : Heap} {locs : List Loc} {args : Array Value} (h2 : Ext Se αe α) (h6 : HR D B α S s H) (h8 : va_S (fun q => B ≤ q) s.heap H locs) : ∀ t : State, t.heap = H → s.WarmedH t.vm → QC D B αe Se (0, v, S) args s (.returned (v.map (tv α))) t := by
  intro t hT hW
  refine ⟨rfl, α, h2, rfl, ?_, ?_⟩
  · rw [hT]
    exact h6.moved hW.alike
  · exact ⟨by rw [hT]; exact h8.1, fun q q1 q2 => by rw [hT]; exact h8.2.1 q q1 q2⟩
theorem PP_end {M : MT} {pc : Nat} {ls st : List AV} {S : Sto} {v : Option AV} (hv : (∀ w ∈ st, WFv S w) → ∀ w, v = some w → WFv S w)
    (hm : ∀ {p : Program} {l : Launch} {e : Env} {R : Room} {s : State} {m : MethodId} {args : Array Value} {below : List Frame} {meth : Method} {c : Code} {D : va_G} {B : Nat} {α : AD} {H : Heap} {locs : List Loc} {A : Array Slot} {cells slots : Nat} {Qc : Array Value → State → Outcome → State → Prop},
      MC p l R s m meth c M D B → (∀ t : State, t.heap = H → s.WarmedH t.vm → Qc args s (.returned (v.map (tv α))) t) → (∀ q ∈ locs, B ≤ q.base) → W p l e R s m args below meth c H locs cells slots (MQ below Qc args s cells slots (fun q => B ≤ q)) (F0 m pc A (st.map (tv α)))) : PP M pc ls st S (0, v, S) := by
  refine ⟨Mono.rf S, fun q => absurd rfl q, fun w1 w2 w3 => ⟨w1, fun w e => hv w3 w e⟩, ?_⟩
  intro p l e R s m args below meth c D B αe α Se H locs A cells slots mc ms hC h1 h2 h3 h4 h5 h6 h7 h8 hcn
  obtain ⟨c1, c2, c3, c4, c5, c6⟩ := hcn
  have e1 : mc = cells := by have : Se.2 100 + mc = S.2 100 := c3; omega
  have e2 : ms = slots := by have : Se.2 101 + ms = S.2 101 := c4; omega
  subst e1; subst e2
  exact vx_ret (hm hC (QC_of h2 h6 h8) h8.2.2)
theorem PP_iret : Rl_iret PP := by
  intro M pc ls st S r x h0 h1
  refine PP_end (fun _ w e => by cases e; exact WFv_inl _ _) (fun {p l e R s m args below meth c D B α H locs A cells slots Qc} C hq hf => ?_)
  have hr := C.2.2.2.2.1
  have hk := C.2.2.2.2.2.1
  rcases h1 with h1 | ⟨h1, hx⟩
  · exact W.iret C.1 C.2.1 (hr.trans h1) hq hf h0 hk
  · exact W.zret C.1 C.2.1 (hr.trans h1) (nar_bool hx) hq hf h0 hk
theorem PP_aret : Rl_aret PP := by
  intro M pc ls st S r v Cn h0 h1 h2
  refine PP_end (fun b w e => by cases e; exact (fmc b).1) (fun {p l e R s m args below meth c D B α H locs A cells slots Qc} C hq hf => ?_)
  refine W.aret C.1 C.2.1 (C.2.2.2.2.1.trans h1) (Or.inl ⟨Cn, rfl⟩) ?_ hq hf h0 C.2.2.2.2.2.1
  rcases rf_cases h2 with q | ⟨t, i, q⟩
  · subst q; exact Or.inl rfl
  · subst q; exact Or.inr ⟨_, rfl⟩
theorem PP_dret : Rl_dret PP := by
  intro M pc ls st S r x h0 h1
  exact PP_end (fun _ w e => by cases e; exact WFv_inl _ _) (fun {p l e R s m args below meth c D B α H locs A cells slots Qc} C hq hf => W.dret C.1 C.2.1 (C.2.2.2.2.1.trans h1) hq hf h0 C.2.2.2.2.2.1)
theorem PP_vret : Rl_vret PP := by
  intro M pc ls st S r h0 h1
  exact PP_end (fun _ w e => by cases e) (fun {p l e R s m args below meth c D B α H locs A cells slots Qc} C hq hf => W.vret C.1 C.2.1 (C.2.2.2.2.1.trans h1) hq hf h0 C.2.2.2.2.2.1)
