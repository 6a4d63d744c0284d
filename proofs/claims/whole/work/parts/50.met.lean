/-! SOUNDNESS: a callee's contract -/
def PcN (D : va_G) (B : Nat) (α : AD) (S : Sto) (as : List AV) : Array Value → State → Prop := fun a U => a = (as.map (tv α)).toArray ∧ HR D B α S U U.heap ∧ EX D B U U.heap ∧ B ≤ U.heap.size
theorem va_S_refl (A : Nat → Prop) (H : Heap) : va_S A H H [] := ⟨Nat.le_refl _, fun _ _ _ => rfl, fun _ h => nomatch h⟩
theorem PcN_blind (D : va_G) (B : Nat) (α : AD) (S : Sto) (as : List AV) : FrameBlind (PcN D B α S as) := by
  intro a U g mk h
  obtain ⟨h1, h2, h3, h4⟩ := h
  refine ⟨h1, ?_, ?_, h4⟩
  · show HR D B α S (U.calling g mk a) U.heap
    exact h2.moved (Vm.Alike.refl U.vm)
  · show EX D B (U.calling g mk a) U.heap
    exact EX_moved (s := U) (U := U.calling g mk a) (State.WarmedH.refl U) (va_S_refl _ _) h3
theorem LR_entry {α : AD} {n : Nat} {as : List AV} (hall : as.all argB = true) (hle : as.length ≤ n) : LR α n (as ++ List.replicate (n - as.length) vU) ((lg_sl (as.map (tv α)) ++ List.replicate (n - (lg_sl (as.map (tv α))).length) Slot.unset).toArray) := by
  have hc1 : ∀ v ∈ as, avC v = 1 := fun v hv => argB_1 (List.all_eq_true.mp hall v hv)
  have hc : ∀ v ∈ as.map (tv α), v.category = 1 := fun v hv => by
    obtain ⟨w, hw, e⟩ := List.mem_map.mp hv
    rw [← e, tv_cat]
    exact hc1 w hw
  have hl := lv_entry (as.map (tv α)) (n := n) (by rw [lg_len _ hc, List.length_map]; exact hle)
  refine ⟨by rw [List.length_append, List.length_replicate]; omega, hl.1, hl.2.1, fun k v hk n1 n2 => ?_, fun k v hk c2 => ?_⟩
  · by_cases q : k < as.length
    · rw [List.getElem?_append_left q] at hk
      have hm := lv_args_1 (as.map (tv α)) 0 hc k (tv α v) (by rw [List.getElem?_map, hk]; rfl)
      have := hl.2.2 _ hm
      rw [Nat.zero_add] at this
      exact this
    · rw [List.getElem?_append_right (by omega), List.getElem?_replicate] at hk
      split at hk
      · cases hk; exact absurd rfl n1
      · cases hk
  · by_cases q : k < as.length
    · rw [List.getElem?_append_left q] at hk
      have := hc1 v (List.mem_of_getElem? hk)
      omega
    · rw [List.getElem?_append_right (by omega), List.getElem?_replicate] at hk
      split at hk
      · cases hk; exact absurd c2 (by decide)
      · cases hk
theorem ent_wf {N : MT} {S : Sto} {as : List AV} (h : ∀ v ∈ as, WFv S v) : ∀ v ∈ ent N as, WFv S v := by
  intro v hv
  rcases List.mem_append.mp hv with q | q
  · exact h v q
  · rw [(List.mem_replicate.mp q).2]; exact WFv_inl _ _
def rmN (N : MT) (mc ms : Nat) : Room := { frames := mF N, cells := mc, slots := ms, locals := mQ N }
theorem PP_body {p : Program} {l : Launch} {e : Env} {R : Room} {s s₁ : State} {m : MethodId} {args : Array Value} {below : List Frame} {meth : Method} {c : Code} {N : MT} {S9 : Spec} {as : List AV} {S : Sto} {r : Res} {D : va_G} {B : Nat} {α : AD} {mc ms : Nat}
    (k : PP N 0 (ent N as) [] S r) (hcls : (mY N).cls = RN (mO N)) (hst : l.stackTraces = false) (hall : as.all argB = true) (hle : as.length ≤ mL N) (hW : WFS S) (hw : ∀ v ∈ as, WFv S v)
    (Bd : BodyLoose p l (mY N) S9 (mB N) (mL N) (mR N) e s m args below meth c s₁) (hml : c.maxLocals = mL N) (htab : c.exceptionTable.toList = tableOf (mH N)) (hP : PcN D B α S as args s)
    (hF : mF N ≤ R.frames) (hQ : mQ N ≤ R.locals) (e1 : S.2 100 + mc = r.2.2.2 100) (e2 : S.2 101 + ms = r.2.2.2 101) (hmc : mc ≤ R.cells) (hms : ms ≤ R.slots) :
    W p l e R s m args below meth c s.heap [] 0 0 (vx_MQ below (QC D B α S r) (XC D B α S r) args s mc ms (fun q => B ≤ q)) (entryFrame m args (mL N)) := by
  obtain ⟨k1, k2, k3, k4⟩ := k
  obtain ⟨ha, hH, hE, hB⟩ := hP
  subst ha
  rw [lg_entry_eq]
  have hC : MC p l R s m meth c N D B := ⟨Bd.exec, Bd.bytes, hst, hml, Bd.returns, Bd.notSynchronized, (name_of_methodNamed Bd.named Bd.method).1, by rw [← hcls]; exact findClass_of_methodNamed Bd.named, htab, hF, hQ, hE, hB⟩
  exact k4 p l e R s m _ below meth c D B α α S s.heap [] _ 0 0 mc ms hC (Mono.rf S) (Ext.rf S α) hW (ent_wf hw) (fun _ h => nomatch h) hH (LR_entry hall hle) (va_S_refl _ _) ⟨rfl, rfl, e1, e2, hmc, hms⟩
theorem RN_plain : ∀ o : Fin 9, plainName (RN o.val) = true := by decide +kernel
theorem RN_noh : ∀ o : Fin 9, RN o.val ≠ "java/lang/invoke/MethodHandle" ∧ RN o.val ≠ "java/lang/invoke/VarHandle" := by decide +kernel
theorem PP_met {l : Launch} {N : MT} {as : List AV} {S : Sto} {r : Res} {D : va_G} {B : Nat} {α : AD} {mc ms : Nat} (k : PP N 0 (ent N as) [] S r) (hH : mH N = []) (ho : mO N ≤ 8) (hcls : (mY N).cls = RN (mO N)) (hst : l.stackTraces = false) (hall : as.all argB = true) (hle : as.length ≤ mL N) (hW : WFS S) (hw : ∀ v ∈ as, WFv S v) (e1 : S.2 100 + mc = r.2.2.2 100) (e2 : S.2 101 + ms = r.2.2.2 101) :
    vx_Met l (mY N) (Cond.code (mY N) (mB N) (mL N) (mR N) :: wsL_law) (rmN N mc ms) (PcN D B α S as) (QC D B α S r) (XC D B α S r) mc ms (fun q => B ≤ q) := by
  refine vx_ofW (cc := mB N) (maxL := mL N) (ret := mR N) (by rw [hcls]; exact RN_plain ⟨mO N, by omega⟩) rfl (fun p e s m args below meth c s₁ Bd hml ht hP => ?_)
  refine PP_body k hcls hst hall hle hW hw Bd hml ?_ hP (Nat.le_refl _) (Nat.le_refl _) e1 e2 (Nat.le_refl _) (Nat.le_refl _)
  rw [hH]
  cases hx : c.exceptionTable.toList with
  | nil => rfl
  | cons x t => exact absurd (ht x (by rw [hx]; exact List.mem_cons_self)) (fun f => f)
theorem vx_ofWH {l : Launch} {y : MethodName} {ws ws' : List Cond} {rm : Room} {Pc : Array Value → State → Prop} {Qc : Array Value → State → Outcome → State → Prop} {XC : String → State → State → Prop} {mc ms : Nat} {free : Addr → Prop} {cc : ByteArray} {maxL : Nat} {ret : Option FieldType} {hh : List (Nat × Nat × Nat × Nat)}
    (hy : plainName y.cls = true) (hw : ws = Cond.codeWith y cc maxL ret hh :: ws')
    (body : ∀ p e s m args below meth c s₁, BodyLoose p l y (headSpec ws rm) cc maxL ret e s m args below meth c s₁ → c.maxLocals = maxL → Pc args s →
      W p l e (headSpec ws rm).room s m args below meth c s.heap [] 0 0 (vx_MQ below Qc XC args s mc ms free) (entryFrame m args maxL)) : vx_Met l y ws rm Pc Qc XC mc ms free := by
  refine MetFree.of_bodyS (code := cc) (maxLocals := maxL) (ret := ret) hy ?_ ?_
  · intro args s m h hn
    obtain ⟨m9, meth, c, hn9, h1, h2, h3, h4, -, h5, h6, -⟩ := Cond.codeWith_spec (atoms_spec (ws := ws) h _ (by rw [hw]; exact List.mem_cons_self))
    cases hn.symm.trans hn9
    exact ⟨meth, c, h1, h2, h3, h4, h5, h6⟩
  · intro p e s m args below meth c s₁ B hml hP _
    have hh0 : s₁.heap = s.heap := by rw [B.state]; rfl
    obtain ⟨t, a1, o, b1, b2, b3⟩ := body p e s m args below meth c s₁ B hml hP s₁ hh0 (Stand.of_body B)
    exact ⟨t, o, a1, b1, b2, b3⟩
theorem PP_metH {l : Launch} {N : MT} {as : List AV} {S : Sto} {r : Res} {D : va_G} {B : Nat} {α : AD} {mc ms : Nat} (k : PP N 0 (ent N as) [] S r) (ho : mO N ≤ 8) (hcls : (mY N).cls = RN (mO N)) (hst : l.stackTraces = false) (hall : as.all argB = true) (hle : as.length ≤ mL N) (hW : WFS S) (hw : ∀ v ∈ as, WFv S v) (e1 : S.2 100 + mc = r.2.2.2 100) (e2 : S.2 101 + ms = r.2.2.2 101) :
    vx_Met l (mY N) (Cond.codeWith (mY N) (mB N) (mL N) (mR N) (mH N) :: wsL_law) (rmN N mc ms) (PcN D B α S as) (QC D B α S r) (XC D B α S r) mc ms (fun q => B ≤ q) := by
  refine vx_ofWH (cc := mB N) (maxL := mL N) (ret := mR N) (hh := mH N) (by rw [hcls]; exact RN_plain ⟨mO N, by omega⟩) rfl (fun p e s m args below meth c s₁ Bd hml hP => ?_)
  exact PP_body k hcls hst hall hle hW hw Bd hml (vx_table (x := mY N) Bd (atoms_spec (ws := Cond.codeWith (mY N) (mB N) (mL N) (mR N) (mH N) :: wsL_law) Bd.pre _ List.mem_cons_self)) hP (Nat.le_refl _) (Nat.le_refl _) e1 e2 (Nat.le_refl _) (Nat.le_refl _)
theorem vx_toMet {l : Launch} {y : MethodName} {ws : List Cond} {rm : Room} {Pc : Array Value → State → Prop} {Qc : Array Value → State → Outcome → State → Prop} {XC : String → State → State → Prop} {mc ms : Nat} {free : Addr → Prop} (h : vx_Met l y ws rm Pc Qc XC mc ms free) (hx : ∀ E st t, ¬ XC E st t) : Met l y ws rm Pc Qc mc ms free := by
  intro p e ha hc hk s m args below hf happ hP hK
  obtain ⟨n, o, a1, a2, a3, a4⟩ := h p e ha hc hk s m args below hf happ hP hK
  refine ⟨n, o, a1, a2, a3, ?_⟩
  rcases a4 with q | ⟨q, -, E, ce, L, q1, -⟩
  · exact q
  · exact absurd q1 (hx _ _ _)
theorem vx_ofRun {p : Program} {l : Launch} {e : Env} {R : Room} {s : State} {m : MethodId} {args : Array Value} {below : List Frame} {meth : Method} {c : Code} {H : Heap} {locs : List Loc} {cells slots mc ms : Nat} {g : JFrame} {rest : List Value} {Qa : State → Outcome → State → Prop} {XC : String → State → State → Prop} {free : Addr → Prop} (h : va_Run p l e R s m args below meth c H locs cells slots mc ms g rest Qa free) : vx_Run p l e R s m args below meth c H locs cells slots mc ms g rest Qa XC free :=
  fun T hT X => Or.inl (h T hT X)
theorem pay_N {N : MT} {w0 : Cond} (hc : w0 ∈ wsL_law) : GoodIn wsL_law (w0 :: wsL_law) := by
  intro w hw
  rcases List.mem_cons.mp hw with q | q
  · rw [q]; exact ⟨hc, good_w hc⟩
  · exact ⟨q, good_w q⟩
theorem PreN {D : va_G} {B : Nat} {α : AD} {S : Sto} {s : State} {H : Heap} {locs : List Loc} {as : List AV} (hE : EX D B s s.heap) (hB : B ≤ s.heap.size) (hH : HR D B α S s H) (hS : va_S (fun q => B ≤ q) s.heap H locs) : PreS s H (PcN D B α S as) (as.map (tv α)) := by
  refine ⟨PcN_blind D B α S as, fun U hU hW => ⟨rfl, ?_, ?_, ?_⟩⟩
  · rw [hU]; exact hH.moved hW.alike
  · rw [hU]; exact EX_moved hW hS hE
  · rw [hU]; exact Nat.le_trans hB hS.1
theorem F0_room (m : MethodId) (pc : Nat) (A : Array Slot) (st : List Value) : (F0 m pc A st).monitorRoom = 0 := rfl
