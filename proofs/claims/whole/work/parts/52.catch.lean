/-! SOUNDNESS: a call that throws, caught by the caller's own table.
Road: two states are twins to a search if whatever is asked behind it holds of the one as of the other. A state whose tables have not noted the class of a row is the twin of the state whose tables have; of that one the library's Finds.catchReady and Finds.catchReadyAfter speak; and twins make the same step. -/
def tw_T (e : Env) (f : JFrame) (q : Addr) (tb : List ExceptionTableEntry) (S S2 : State) : Prop :=
  ∀ (Qh : Handler → Pre) (Eh : CtlPost) (d : Bool) (acts : List Action), wp (findHandler.go f q tb) Qh Eh e d acts S ↔ wp (findHandler.go f q tb) Qh Eh e d acts S2
def tw_A (e : Env) (f : JFrame) (q : Addr) (S S2 : State) : Prop :=
  ∀ (Qh : Handler → Pre) (Eh : CtlPost) (d : Bool) (acts : List Action), wp (findHandler f q) Qh Eh e d acts S ↔ wp (findHandler f q) Qh Eh e d acts S2
theorem tw_T.tr {e : Env} {f : JFrame} {q : Addr} {tb : List ExceptionTableEntry} {S S2 S3 : State} (h : tw_T e f q tb S S2) (h' : tw_T e f q tb S2 S3) : tw_T e f q tb S S3 :=
  fun Qh Eh d acts => (h Qh Eh d acts).trans (h' Qh Eh d acts)
theorem tw_T.all {e : Env} {f : JFrame} {q : Addr} {S S2 : State} {meth : Method} {c : Code} (h : tw_T e f q c.exceptionTable.toList S S2) (h1 : S.vm.method? f.method = some meth) (h2 : S2.vm.method? f.method = some meth) (hc : meth.code = some c) : tw_A e f q S S2 :=
  fun Qh Eh d acts => ((Jvm.W.findHandler_eq h1 hc).trans (h Qh Eh d acts)).trans (Jvm.W.findHandler_eq h2 hc).symm
/-- what a row asks of the tables first, it may find noted: nothing of the thrown object is looked at for that -/
theorem tw_note {e : Env} {f : JFrame} {q : Addr} {S : State} {x : ExceptionTableEntry} {tl : List ExceptionTableEntry} {c : ClassId} (hx : covers x f.pc = true) (h0 : x.catchType ≠ 0) (hl : S.vm.ClassLinks e.platform f.method.cls x.catchType c) :
    tw_T e f q (x :: tl) S (S.setVm (S.vm.noted f.method.cls x.catchType (.cls c))) := by
  intro Qh Eh d acts
  generalize hv : S.vm.noted f.method.cls x.catchType (.cls c) = v
  have cold : (VmOp.resolveClass f.method.cls x.catchType).answer e S.vm = .ok c ∧ (VmOp.resolveClass f.method.cls x.catchType).tables e S.vm = v := by
    rw [← hv]
    exact VmM.Gives.op (resolveClass_links e.toSetting hl) rfl
  have warm : (VmOp.resolveClass f.method.cls x.catchType).answer e (S.setVm v).vm = .ok c ∧ (VmOp.resolveClass f.method.cls x.catchType).tables e (S.setVm v).vm = v := by
    obtain ⟨k, hk, hr⟩ := hl.ready
    rw [hv] at hk
    exact resolveClass_memo e hk hr
  have z1 : ((VmOp.resolveClass f.method.cls x.catchType).tables e S.vm).classes.size ≤ S.vm.classes.size := by
    rw [cold.2, ← hv, Vm.size_noted]; exact Nat.le_refl _
  have z2 : ((VmOp.resolveClass f.method.cls x.catchType).tables e (S.setVm v).vm).classes.size ≤ (S.setVm v).vm.classes.size := by
    rw [warm.2]; exact Nat.le_refl _
  have hb : ¬ (x.catchType == 0) = true := fun z => h0 (eq_of_beq z)
  unfold findHandler.go
  rw [if_pos (show (decide (x.startPc ≤ f.pc) && decide (f.pc < x.endPc)) = true from hx), if_neg hb, wp_bind', wp_bind', Jvm.W.vmOp_same _ z1, Jvm.W.vmOp_same _ z2, cold.1, cold.2, warm.1, warm.2]
  exact Iff.rfl
/-- a row that is passed: whether it lies elsewhere, or its class is noted on both sides and isn't the object's -/
theorem tw_skip {e : Env} {f : JFrame} {q : Addr} {S S2 : State} {z : ExceptionTableEntry} {tl : List ExceptionTableEntry} (hz : covers z f.pc = false) (h : tw_T e f q tl S S2) : tw_T e f q (z :: tl) S S2 :=
  fun Qh Eh d acts => ((Jvm.W.findHandler_go_skip hz).trans (h Qh Eh d acts)).trans (Jvm.W.findHandler_go_skip hz).symm
/-- what the search wants to know of the tables vm about the thrown object and a class c -/
def tw_K (vm : Vm) (ce : Cell) (c : ClassId) (b : Bool) : Prop := (∃ k, vm.classes[ce.cls]? = some k) ∧ (∃ k, vm.classes[c]? = some k) ∧ vm.assignable ce.cls c = b
theorem tw_other {e : Env} {f : JFrame} {q : Addr} {S S2 : State} {z : ExceptionTableEntry} {tl : List ExceptionTableEntry} {c : ClassId} {ce : Cell} (hz : covers z f.pc = true) (h0 : z.catchType ≠ 0) (hv : ∀ k, ce.vm ≠ .statics k)
    (hq : S.heap[q]? = some ce) (hr : S.vm.classReady f.method.cls z.catchType c) (hk : tw_K S.vm ce c false) (hq2 : S2.heap[q]? = some ce) (hr2 : S2.vm.classReady f.method.cls z.catchType c) (hk2 : tw_K S2.vm ce c false) (h : tw_T e f q tl S S2) : tw_T e f q (z :: tl) S S2 := by
  intro Qh Eh d acts
  rw [Jvm.W.findHandler_go_class hz h0 hr hq hv hk.1 hk.2.1, Jvm.W.findHandler_go_class hz h0 hr2 hq2 hv hk2.1 hk2.2.1, hk.2.2, hk2.2.2]
  exact h Qh Eh d acts
/-- twins do the same, where the one's deed ends well and what follows doesn't look at the marks -/
theorem tw_do {α : Type} {e : Env} {S S2 u : State} {t : Sem α} {a : α} {as : List Action} {k : α → State → List Action → Out} (h : ∀ (Q : α → Pre) (Eh : CtlPost), wp t Q Eh e false [] S ↔ wp t Q Eh e false [] S2)
    (hr : wp t (fun a' _ bs s' => a' = a ∧ s' = u ∧ bs = as) (fun _ _ _ => False) e false [] S2) (hk : ∀ bs cs, (k a u bs).1 = (k a u cs).1) : (vmDo e S [] t k).1 = (vmDo e S2 [] t k).1 := by
  obtain ⟨bs, hb, -⟩ := Sem.go_eq_ok (acts := []) ((h _ _).mpr hr)
  obtain ⟨cs, hc, -⟩ := Sem.go_eq_ok (acts := []) hr
  unfold vmDo
  rw [hb, hc]
  exact hk bs cs
theorem tw_step {e : Env} {S S2 : State} {f : JFrame} {q : Addr} {r : List Frame} {hpc : Nat} (h : tw_A e f q S S2) (hf : Finds e S2 f q (.found hpc)) :
    (stepThrowing e S q (.java f :: r)).1 = S2.setFrames (.java { f with pc := hpc, stack := [.ref q] } :: r) := by
  refine Eq.trans ?_ (stepThrowing_catch (r := r) hf).1
  unfold stepThrowing searchFrame
  exact tw_do (u := S2) (a := Handler.found hpc) (as := []) (fun Q Eh => by rw [wp_bind', wp_bind']; exact h _ _ _ _) (by rw [wp_bind', hf]; exact ⟨rfl, rfl, rfl⟩) (fun _ _ => rfl)
/-- a note laid on a frame and taken away with it -/
theorem tw_back {U : State} (g g' : JFrame) (x : Frame) (h : U.topJava?.isSome) : ((U.setTop g).pushFrame x).setFrames (.java g' :: U.frames.tail) = U.setTop g' := by
  cases ht : U.topJava? with
  | none => rw [ht] at h; exact nomatch h
  | some g0 =>
    obtain ⟨r, hr⟩ := State.topJava?_eq_some.mp ht
    rw [State.setTop_of_frames g' hr, State.setTop_of_frames g hr, hr]
    unfold State.pushFrame
    rw [State.setFrames_setFrames, State.setFrames_setFrames, List.tail_cons]
/-- the twin that has it all noted, and what is found there -/
def tw_F (e : Env) (s S : State) (f : JFrame) (q : Addr) (hpc : Nat) : Prop := ∃ v : Vm, s.WarmedH v ∧ tw_A e f q S (S.setVm v) ∧ Finds e (S.setVm v) f q (.found hpc)
theorem ct_W {p : Program} {l : Launch} {e : Env} {R : Room} {s : State} {m : MethodId} {args : Array Value} {below : List Frame} {meth : Method} {c : Code} {H : Heap} {locs : List Loc} {cells slots : Nat} {Q : State → Prop} {pc hpc : Nat} {A : Array Slot} {rest : List Value} {q : Addr}
    (hf : ∀ T : State, T.heap = H → Stand p l e R s m args below meth c T locs cells slots → tw_F e s ((T.setTop (F0 m pc A rest)).pushFrame (.throwing q)) (F0 m pc A rest) q hpc)
    (kk : W p l e R s m args below meth c H locs cells slots Q (F0 m hpc A [.ref q])) : vx_W p l e R s m args below meth c H locs cells slots Q (F0 m pc A rest) q := by
  intro T hT X
  obtain ⟨v, hv, ht, hd⟩ := hf T hT X
  have Y := X.noted hv
  obtain ⟨t, st, hQ⟩ := kk (T.setVm v) hT Y
  rw [← tw_back (F0 m pc A rest) (F0 m hpc A [.ref q]) (.throwing q) Y.here.top] at st
  have ent : At T (F0 m pc A rest).method c below := X.here
  refine ⟨t, Steps.head (ent.throwing q).1 (ent.throwing q).2 ?_, hQ⟩
  rw [stepThread_throwing (frames_entered X.here.top (.throwing q)), tw_step ht hd]
  exact st
/-- the address of an exception is no thing's -/
theorem HR_19 {D : va_G} {B : Nat} {α : AD} {S : Sto} {U : State} {H : Heap} (h : HR D B α S U H) (hW : WFS S) (i a : Nat) : HR D B (updA α 19 i a) S U H := by
  have h19 : ∀ t, tagK t = true → ¬ t = 19 := fun t ht q => by rw [q] at ht; exact absurd ht (by decide)
  have ha : ∀ t j, tagK t = true → updA α 19 i a t j = α t j := fun t j ht => updA_n α (fun q => h19 t ht q.1)
  have hv : ∀ v, WFs S v → tv (updA α 19 i a) v = tv α v := fun v w => by
    cases v with
    | inl x => rfl
    | inr q =>
      obtain ⟨t, j⟩ := q
      show Value.ref (updA α 19 i a t j) = Value.ref (α t j)
      rw [ha t j (w t j rfl).1]
  refine ⟨fun t j h1 h2 h3 => ?_, fun t j ty h1 h2 => ?_, fun t1 i1 t3 i3 k1 k3 l1 l3 e => ?_⟩
  · rw [ha t j (tagK_o h1 h2)]
    exact ⟨(h.1 t j h1 h2 h3).1, (h.1 t j h1 h2 h3).2.to (fun k hk => (hv _ (hW t j k (tagK_o h1 h2) h3 (by unfold wid; rw [if_pos h2]; exact hk))).symm)⟩
  · rw [ha t j (tagK_a h1)]
    exact ⟨(h.2.1 t j ty h1 h2).1, (h.2.1 t j ty h1 h2).2.to rfl (fun k hk => (hv _ (hW t j k (tagK_a h1) h2 (by unfold wid; rw [if_neg (aTy_hi h1)]; exact hk))).symm)⟩
  · rw [ha t1 i1 k1, ha t3 i3 k3] at e
    exact h.2.2 t1 i1 t3 i3 k1 k3 l1 l3 e
theorem cov_of {a b h ct pc : Nat} (h1 : a ≤ pc) (h2 : pc < b) : covers (⟨a, b, h, ct⟩ : ExceptionTableEntry) pc = true := by
  simp [covers, h1, h2]
/-- the word of a class entry, at tables that the run has warmed -/
theorem tw_link {e : Env} {s : State} {v : Vm} {own nm : String} {d : ClassId} {i : Nat} {args : Array Value} (hpl : e.platform.magicAccessors = ({} : Platform).magicAccessors) (hW : s.WarmedH v) (hown : s.vm.findClass own = some d) (hl : (Cond.classLink own i nm).before args s = true) :
    ∃ c, s.vm.findClass nm = some c ∧ v.ClassLinks e.platform d i c ∧ s.WarmedH (v.noted d i (.cls c)) := by
  obtain ⟨c, h1, h2⟩ := Cond.classLink_spec hown hl e.platform hpl
  refine ⟨c, h1, hW.classLinks h2, ?_⟩
  have h3 := h2
  obtain ⟨dk, cf, name, ck, a1, a2, a3, a4, a5, a6, a7, a8⟩ := h3.here
  exact hW.noted a1 a8 (State.rightAt_cls h2)
theorem tw_Kof {s : State} {v : Vm} {E nm : String} {ce : Cell} {c : ClassId} {b : Bool} (hW : s.WarmedH v) (h1 : s.vm.findClass E = some ce.cls) (h2 : s.vm.findClass nm = some c) (hb : s.vm.assignable ce.cls c = b) : tw_K v ce c b := by
  obtain ⟨k1, e1⟩ := Vm.classAt_of_findClass h1
  obtain ⟨k2, e2⟩ := Vm.classAt_of_findClass h2
  obtain ⟨k3, e3, -⟩ := hW.alike.2.2 _ _ e1
  obtain ⟨k4, e4, -⟩ := hW.alike.2.2 _ _ e2
  exact ⟨⟨k3, e3⟩, ⟨k4, e4⟩, by rw [hW.alike.assignable]; exact hb⟩
/-- the first row has it -/
theorem tw_first {e : Env} {s S : State} {f : JFrame} {q : Addr} {meth : Method} {c : Code} {x : ExceptionTableEntry} {tl : List ExceptionTableEntry} {own E : String} {ce : Cell} {args : Array Value} (hm : ∀ v, s.WarmedH v → v.method? f.method = some meth) (hc : meth.code = some c) (htab : c.exceptionTable.toList = x :: tl)
    (hpl : e.platform.magicAccessors = ({} : Platform).magicAccessors) (hW : s.WarmedH S.vm) (hown : s.vm.findClass own = some f.method.cls) (hx : covers x f.pc = true) (h0 : x.catchType ≠ 0) (hl : (Cond.classLink own x.catchType E).before args s = true)
    (hE : s.vm.findClass E = some ce.cls) (hq : S.heap[q]? = some ce) (hv : ∀ k, ce.vm ≠ .statics k) : tw_F e s S f q x.handlerPc := by
  obtain ⟨c1, n1, l1, w1⟩ := tw_link hpl hW hown hl
  obtain ⟨k1, k2, k3⟩ := tw_Kof w1 hE n1 rfl
  have hc1 : c1 = ce.cls := Option.some.inj (n1.symm.trans hE)
  refine ⟨_, w1, tw_T.all (by rw [htab]; exact tw_note hx h0 l1) (hm _ hW) (hm _ w1) hc, ?_⟩
  exact Finds.catchReady (s := S.setVm _) (hm _ w1) hc [] x tl htab (fun _ h => nomatch h) hx h0 l1.ready hq hv k1 k2 (k3.trans (by rw [hc1]; exact Vm.assignable_self _ _))
/-- the second row has it, and the first one's class isn't the object's -/
theorem tw_second {e : Env} {s S : State} {f : JFrame} {q : Addr} {meth : Method} {c : Code} {z x : ExceptionTableEntry} {tl : List ExceptionTableEntry} {own E nm : String} {ce : Cell} {args : Array Value} (hm : ∀ v, s.WarmedH v → v.method? f.method = some meth) (hc : meth.code = some c) (htab : c.exceptionTable.toList = z :: x :: tl)
    (hpl : e.platform.magicAccessors = ({} : Platform).magicAccessors) (hW : s.WarmedH S.vm) (hown : s.vm.findClass own = some f.method.cls) (hx : covers x f.pc = true) (h0 : x.catchType ≠ 0) (hl : (Cond.classLink own x.catchType E).before args s = true)
    (hz0 : z.catchType ≠ 0) (hzl : (Cond.classLink own z.catchType nm).before args s = true) (hno : va_Nc E nm s) (hne : x.catchType ≠ z.catchType)
    (hE : s.vm.findClass E = some ce.cls) (hq : S.heap[q]? = some ce) (hv : ∀ k, ce.vm ≠ .statics k) : tw_F e s S f q x.handlerPc := by
  have self : ∀ {v : Vm} {c1 : ClassId}, s.vm.findClass E = some c1 → s.WarmedH v → tw_K v ce c1 true := fun {v c1} n w => tw_Kof w hE n (by rw [← Option.some.inj (hE.symm.trans n)]; exact Vm.assignable_self _ _)
  cases hz : covers z f.pc with
  | false =>
    obtain ⟨c1, n1, l1, w1⟩ := tw_link hpl hW hown hl
    refine ⟨_, w1, tw_T.all (by rw [htab]; exact tw_skip hz (tw_note hx h0 l1)) (hm _ hW) (hm _ w1) hc, ?_⟩
    refine Finds.catchReadyAfter (s := S.setVm _) (hm _ w1) hc [z] x tl htab (fun y hy => ?_) hx h0 l1.ready hq hv (self n1 w1).1 (self n1 w1).2.1 (self n1 w1).2.2
    rw [List.mem_singleton.mp hy]
    exact Passes.of_skip hz
  | true =>
    obtain ⟨cz, nz, lz, wz⟩ := tw_link hpl hW hown hzl
    obtain ⟨c1, n1, l1, w1⟩ := tw_link (v := S.vm.noted f.method.cls z.catchType (.cls cz)) hpl wz hown hl
    obtain ⟨a, b, g1, g2, g3⟩ := hno
    have ea : a = ce.cls := Option.some.inj (g1.symm.trans hE)
    have eb : b = cz := Option.some.inj (g2.symm.trans nz)
    rw [ea, eb] at g3
    have rz := lz.ready
    have rz2 := Vm.classReady_noted_other rz hne (.cls c1)
    refine ⟨_, w1, tw_T.all (by rw [htab]; exact (tw_note hz hz0 lz).tr (tw_other (S := S.setVm _) (S2 := S.setVm _) hz hz0 hv hq rz (tw_Kof wz hE nz g3) hq rz2 (tw_Kof w1 hE nz g3) (tw_note (S := S.setVm _) hx h0 l1))) (hm _ hW) (hm _ w1) hc, ?_⟩
    refine Finds.catchReadyAfter (s := S.setVm _) (hm _ w1) hc [z] x tl htab (fun y hy => ?_) hx h0 l1.ready hq hv (self n1 w1).1 (self n1 w1).2.1 (self n1 w1).2.2
    rw [List.mem_singleton.mp hy]
    obtain ⟨k1, k2, k3⟩ := tw_Kof w1 hE nz g3
    exact Or.inr ⟨hz, hz0, cz, ce, rz2, hq, hv, k1, k2, k3⟩
theorem ct_Hnd {p : Program} {l : Launch} {e : Env} {R : Room} {s : State} {m : MethodId} {args : Array Value} {below : List Frame} {meth : Method} {c : Code} {M : MT} {D : va_G} {B : Nat} {H : Heap} {locs : List Loc} {cells slots : Nat} {pc hpc E : Nat} {A : Array Slot} {rest : List Value} {q : Addr} {ce : Cell}
    (hC : MC p l R s m meth c M D B) (hh : Hnd M pc E hpc) (hce : H[q]? = some ce) (hv : ce.vm = .none) (hcl : s.vm.findClass (EN E) = some ce.cls) :
    ∀ T : State, T.heap = H → Stand p l e R s m args below meth c T locs cells slots → tw_F e s ((T.setTop (F0 m pc A rest)).pushFrame (.throwing q)) (F0 m pc A rest) q hpc := by
  intro T hT X
  subst hT
  have hpl : e.platform.magicAccessors = ({} : Platform).magicAccessors := by rw [X.admits.platform]
  have hW : s.WarmedH ((T.setTop (F0 m pc A rest)).pushFrame (.throwing q)).vm := X.warmed
  have hm : ∀ v, s.WarmedH v → v.method? (F0 m pc A rest).method = some meth := fun v w => (X.noted w).method'
  have ho : ∀ k, ce.vm ≠ .statics k := fun k h => by rw [hv] at h; exact nomatch h
  obtain ⟨o8, hh⟩ := hh
  have hown : s.vm.findClass RL = some (F0 m pc A rest).method.cls := by have h := hC.own; rw [o8] at h; exact h
  have l13 : (Cond.classLink RL 13 "java/lang/IllegalArgumentException").before args s = true := hC.wd (wr_4 _ (List.mem_of_getElem? (i := 1) rfl)) args
  have l15 : (Cond.classLink RL 15 "java/lang/IllegalStateException").before args s = true := hC.wd (wr_4 _ (List.mem_of_getElem? (i := 2) rfl)) args
  have htab := hC.2.2.2.2.2.2.2.2.1
  have n0 : (13 : Nat) ≠ 0 ∧ (15 : Nat) ≠ 0 ∧ (15 : Nat) ≠ 13 := by decide
  rcases hh with ⟨hE, a, b, tl, hmH, g1, g2⟩ | ⟨hE, a, b, tl, hmH, g1, g2⟩ | ⟨hE, a, b, h0, a2, b2, tl, hmH, g1, g2⟩
  · subst hE
    rw [hmH] at htab
    exact tw_first (x := ⟨a, b, hpc, 13⟩) (tl := tableOf tl) hm X.code htab hpl hW hown (cov_of g1 g2) n0.1 l13 hcl hce ho
  · subst hE
    rw [hmH] at htab
    exact tw_first (x := ⟨a, b, hpc, 15⟩) (tl := tableOf tl) hm X.code htab hpl hW hown (cov_of g1 g2) n0.2.1 l15 hcl hce ho
  · subst hE
    rw [hmH] at htab
    exact tw_second (z := ⟨a, b, h0, 13⟩) (x := ⟨a2, b2, hpc, 15⟩) (tl := tableOf tl) hm X.code htab hpl hW hown (cov_of g1 g2) n0.2.1 l15 n0.1 l13 hC.ex.2.2.2.2.2.1 n0.2.2 hcl hce ho
theorem PP_callVX : Rl_callVX PP := by
  intro M pc ls st S r idx N as S1 v E hpc h0 h1 h2 h3 hh kN kM
  have kN0 := kN
  obtain ⟨n1, n2, n3, n4⟩ := kN
  obtain ⟨k1, k2, k3, k4⟩ := kM
  have n1' : Mono S S1 := n1
  have hE0 : E ≠ 0 := by
    obtain ⟨-, q | q | q⟩ := hh
    · rw [q.1]; decide
    · rw [q.1]; decide
    · rw [q.1]; decide
  obtain ⟨i, hvi, hi19⟩ := n2 hE0
  have hvi' : v = vR 19 i := Option.some.inj hvi
  subst hvi'
  have hsp : (∀ w ∈ as.reverse ++ st, WFv S w) → (∀ w ∈ as, WFv S w) ∧ ∀ w ∈ st, WFv S w := fun h => ⟨fun w hw => h w (List.mem_append_left _ (List.mem_reverse.mpr hw)), fun w hw => h w (List.mem_append_right _ hw)⟩
  have hnx : WFS S → (∀ w ∈ as, WFv S w) → WFS S1 ∧ WFv S1 (vR 19 i) := fun g1 g2 => ⟨(n3 g1 (ent_wf g2) (fun _ h => nomatch h)).1, (n3 g1 (ent_wf g2) (fun _ h => nomatch h)).2 _ rfl⟩
  have hvs : WFS S → (∀ w ∈ as.reverse ++ st, WFv S w) → ∀ w ∈ [vR 19 i], WFv S1 w := fun g1 g2 => cfm (hnx g1 (hsp g2).1).2 (fun _ h => nomatch h)
  refine ⟨n1'.tr k1, fun q => ?_, fun w1 w2 w3 => k3 (hnx w1 (hsp w3).1).1 (fun w hw => (w2 w hw).mono n1') (hvs w1 w3), ?_⟩
  · obtain ⟨i, q1, q2⟩ := k2 q
    exact ⟨i, q1, Nat.le_trans (n1' 19) q2⟩
  · intro p l e R s m args below meth c D B αe α Se H locs A cells slots mc ms hC g1 g2 g3 g4 g5 g6 g7 g8 hcn
    obtain ⟨c1, c2, c3, c4, c5, c6⟩ := hcn
    have m1 := k1 100
    have m2 := k1 101
    have m3 := n1' 100
    have m4 := n1' 101
    have e1 : S.2 100 + (S1.2 100 - S.2 100) = S1.2 100 := by omega
    have e2 : S.2 101 + (S1.2 101 - S.2 101) = S1.2 101 := by omega
    generalize S1.2 100 - S.2 100 = mc1 at e1
    generalize S1.2 101 - S.2 101 = ms1 at e2
    have hr := V_run (e := e) (args := args) (below := below) (cells := cells) (slots := slots) (mc := mc1) (ms := ms1) h0 h1 h2 h3 kN0 hC g3 (hsp g5).1 g6 g7 g8 e1 e2 ⟨by omega, by omega⟩
    intro T hT X
    rcases hr T hT X with ⟨v', st0, t, T', L, e0, X', hL, f1, f2, hq, stp⟩ | ⟨q, st0, t, T', L, En, ce, e0, X', hL, f1, f2, hx, hce, hcv, hcl, stp⟩
    · exact absurd hq.1 hE0
    · obtain ⟨-, hEn, α1, hX1, hH1, hF⟩ := hx
      have hEn' : En = EN E := hEn
      subst hEn'
      obtain ⟨-, -, g9⟩ := vx_keep (A0 := fun q => B ≤ q) (A1 := fun q => B ≤ q) (free := fun q => B ≤ q) e0 f1 g8 (fun _ _ h => h) (fun _ h => h) hL hF
      have hWS1 := (hnx g3 (hsp g5).1).1
      have hX2 : Ext S α (updA α1 19 i q) := fun t j hj => (updA_n α1 (fun z => by obtain ⟨z1, z2⟩ := z; subst z1; subst z2; omega)).trans (hX1 t j hj)
      have hH2 : HR D B (updA α1 19 i q) S1 s T'.heap := by
        rw [f1]
        exact HR_19 (hH1.moved (by rw [← f2]; exact X'.warmed.alike.symm)) hWS1 i q
      have hk := k4 p l e R s m args below meth c D B αe (updA α1 19 i q) Se T'.heap (locs ++ L) A (cells + mc1) (slots + ms1) mc ms hC (g1.tr n1') (g2.tr g1 hX2) hWS1 (fun w hw => (g4 w hw).mono n1') (hvs g3 g5) hH2 (LR_ext g7 hX2 g4) g9 ⟨by omega, by omega, c3, c4, c5, c6⟩
      have hst : [vR 19 i].map (tv (updA α1 19 i q)) = [Value.ref q] := by
        show [Value.ref (updA α1 19 i q 19 i)] = [Value.ref q]
        rw [updA_e]
      rw [hst] at hk
      obtain ⟨t2, a1, b1⟩ := ct_W (rest := st.map (tv α)) (ct_Hnd hC hh (by rw [f1]; exact hce) hcv hcl) hk T' rfl X'
      exact ⟨t2, stp.trans a1, b1⟩
