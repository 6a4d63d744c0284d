/-! SOUNDNESS: a call that throws, caught by the caller's own table -/
theorem ct_row {Qh : Handler → Pre} {Eh : CtlPost} {e : Env} {d : Bool} {acts : List Action} {S : State} {f : JFrame} {a : Addr} {x : ExceptionTableEntry} {t : List ExceptionTableEntry} {c : ClassId} {cell : Cell} {b : Bool} (hx : covers x f.pc = true) (h0 : x.catchType ≠ 0)
    (hl : S.vm.ClassLinks e.platform f.method.cls x.catchType c) (hcell : S.heap[a]? = some cell) (hobj : ∀ k, cell.vm ≠ .statics k) (hk : ∃ k, S.vm.classes[cell.cls]? = some k) (hc : ∃ k, S.vm.classes[c]? = some k) (hb : S.vm.assignable cell.cls c = b) :
    wp (findHandler.go f a (x :: t)) Qh Eh e d acts S ↔ (match b with
      | true => Qh (.found x.handlerPc) d acts (S.setVm (S.vm.noted f.method.cls x.catchType (.cls c)))
      | false => wp (findHandler.go f a t) Qh Eh e d acts (S.setVm (S.vm.noted f.method.cls x.catchType (.cls c)))) := by
  obtain ⟨ha, ht⟩ := (resolveClass_links e.toSetting hl).op (op := VmOp.resolveClass f.method.cls x.catchType) rfl
  have hal : S.vm.Alike (S.vm.noted f.method.cls x.catchType (.cls c)) := (Vm.Alike.refl S.vm).noted _ _ _
  obtain ⟨k1, hk1⟩ := hk
  obtain ⟨k2, hk2⟩ := hc
  obtain ⟨k3, hk3, -⟩ := hal.2.2 _ _ hk1
  obtain ⟨k4, hk4, -⟩ := hal.2.2 _ _ hk2
  have hb' : (S.vm.noted f.method.cls x.catchType (.cls c)).assignable cell.cls c = b := by rw [hal.assignable]; exact hb
  simp only [covers] at hx
  cases b <;> simp [findHandler.go, hx, h0, ha, ht, hcell, hobj, hk3, hk4, hb', VmOp.dirties, VmOp.acts]
/-- what the search of the table finds, and the tables it leaves -/
def ct_F (e : Env) (s S : State) (f : JFrame) (q : Addr) (tb : List ExceptionTableEntry) (hpc : Nat) : Prop := ∃ vm', s.WarmedH vm' ∧ ∀ (Qh : Handler → Pre) (Eh : CtlPost) (d : Bool) (acts : List Action), wp (findHandler.go f q tb) Qh Eh e d acts S ↔ Qh (.found hpc) d acts (S.setVm vm')
theorem ct_hit {e : Env} {s S : State} {f : JFrame} {q : Addr} {x : ExceptionTableEntry} {tl : List ExceptionTableEntry} {own E : String} {cell : Cell} {args : Array Value} (hpl : e.platform.magicAccessors = ({} : Platform).magicAccessors) (hW : s.WarmedH S.vm) (hown : s.vm.findClass own = some f.method.cls) (hx : covers x f.pc = true) (h0 : x.catchType ≠ 0)
    (hlink : (Cond.classLink own x.catchType E).before args s = true) (hcl : s.vm.findClass E = some cell.cls) (hcell : S.heap[q]? = some cell) (hv : cell.vm = .none) : ct_F e s S f q (x :: tl) x.handlerPc := by
  obtain ⟨c5, hc5, hcl5⟩ := Cond.classLink_spec hown hlink e.platform hpl
  have hce : c5 = cell.cls := Option.some.inj (hc5.symm.trans hcl)
  obtain ⟨dk, _, _, kt, hd, _, _, _, _, hkt, _, hopen⟩ := hcl5.here
  obtain ⟨k2, hk2, -⟩ := hW.alike.2.2 _ _ hkt
  refine ⟨_, hW.noted hd hopen (State.rightAt_cls hcl5), fun Qh Eh d acts => ?_⟩
  rw [ct_row (b := true) hx h0 (hW.classLinks hcl5) hcell (VmData.ne_statics_of (by rw [hv]; rfl)) ⟨k2, by rw [← hce]; exact hk2⟩ ⟨k2, hk2⟩ (by rw [hce]; exact Vm.assignable_self _ _)]
theorem ct_pass {e : Env} {s S : State} {f : JFrame} {q : Addr} {z : ExceptionTableEntry} {tl : List ExceptionTableEntry} {own E nm : String} {cell : Cell} {args : Array Value} {hpc : Nat} (hpl : e.platform.magicAccessors = ({} : Platform).magicAccessors) (hW : s.WarmedH S.vm) (hown : s.vm.findClass own = some f.method.cls) (h0 : z.catchType ≠ 0)
    (hlink : (Cond.classLink own z.catchType nm).before args s = true) (hno : va_Nc E nm s) (hcl : s.vm.findClass E = some cell.cls) (hcell : S.heap[q]? = some cell) (hv : cell.vm = .none)
    (hn : ∀ S2 : State, s.WarmedH S2.vm → S2.heap = S.heap → (∃ vm', S2 = S.setVm vm') → ct_F e s S2 f q tl hpc) : ct_F e s S f q (z :: tl) hpc := by
  by_cases hx : covers z f.pc = true
  · obtain ⟨c5, hc5, hcl5⟩ := Cond.classLink_spec hown hlink e.platform hpl
    obtain ⟨a8, b8, g1, g2, g3⟩ := hno
    have ea : a8 = cell.cls := Option.some.inj (g1.symm.trans hcl)
    have eb : b8 = c5 := Option.some.inj (g2.symm.trans hc5)
    rw [ea, eb] at g3
    obtain ⟨dk, _, _, kt, hd, _, _, _, _, hkt, _, hopen⟩ := hcl5.here
    obtain ⟨k2, hk2, -⟩ := hW.alike.2.2 _ _ hkt
    obtain ⟨k0, hk0⟩ := Vm.classAt_of_findClass hcl
    obtain ⟨k3, hk3, -⟩ := hW.alike.2.2 _ _ hk0
    obtain ⟨vm', hW', hq⟩ := hn (S.setVm (S.vm.noted f.method.cls z.catchType (.cls c5))) (hW.noted hd hopen (State.rightAt_cls hcl5)) rfl ⟨_, rfl⟩
    refine ⟨vm', hW', fun Qh Eh d acts => ?_⟩
    rw [ct_row (b := false) hx h0 (hW.classLinks hcl5) hcell (VmData.ne_statics_of (by rw [hv]; rfl)) ⟨k3, hk3⟩ ⟨k2, hk2⟩ (by rw [hW.alike.assignable]; exact g3)]
    exact hq Qh Eh d acts
  · obtain ⟨vm', hW', hq⟩ := hn S hW rfl ⟨S.vm, rfl⟩
    refine ⟨vm', hW', fun Qh Eh d acts => ?_⟩
    rw [Jvm.W.findHandler_go_skip (by simpa using hx)]
    exact hq Qh Eh d acts
theorem ct_step {e : Env} {S : State} {q : Addr} {f : JFrame} {r : List Frame} {hpc : Nat} {vm' : Vm} (hfind : ∀ (Qh : Handler → Pre) (Eh : CtlPost) (d : Bool) (acts : List Action), wp (findHandler f q) Qh Eh e d acts S ↔ Qh (.found hpc) d acts (S.setVm vm')) :
    (stepThrowing e S q (.java f :: r)).1 = (S.setVm vm').setFrames (.java { f with pc := hpc, stack := [.ref q] } :: r) := by
  simp only [stepThrowing, searchFrame, vmDo]
  generalize hr : Sem.go _ e false [] S = res
  obtain ⟨as, rfl, ha⟩ := Sem.eq_ok_of hr (a := Handler.found hpc) (s' := S.setVm vm') (acts' := []) (by simp [hfind])
  rfl
theorem ct_W {p : Program} {l : Launch} {e : Env} {R : Room} {s : State} {m : MethodId} {args : Array Value} {below : List Frame} {meth : Method} {c : Code} {H : Heap} {locs : List Loc} {cells slots : Nat} {Q : State → Prop} {pc hpc : Nat} {A : Array Slot} {rest : List Value} {q : Addr}
    (hf : ∀ T : State, T.heap = H → Stand p l e R s m args below meth c T locs cells slots → ct_F e s ((T.setTop (F0 m pc A rest)).pushFrame (.throwing q)) (F0 m pc A rest) q c.exceptionTable.toList hpc)
    (kk : W p l e R s m args below meth c H locs cells slots Q (F0 m hpc A [.ref q])) : vx_W p l e R s m args below meth c H locs cells slots Q (F0 m pc A rest) q := by
  intro T hT X
  obtain ⟨vm', hW', hq⟩ := hf T hT X
  have hfind : ∀ (Qh : Handler → Pre) (Eh : CtlPost) (d : Bool) (acts : List Action), wp (findHandler (F0 m pc A rest) q) Qh Eh e d acts ((T.setTop (F0 m pc A rest)).pushFrame (.throwing q)) ↔ Qh (.found hpc) d acts (((T.setTop (F0 m pc A rest)).pushFrame (.throwing q)).setVm vm') := fun Qh Eh d acts => by
    rw [Jvm.W.findHandler_eq (s := (T.setTop (F0 m pc A rest)).pushFrame (.throwing q)) (f := F0 m pc A rest) (meth := meth) (code := c) X.method' X.code]
    exact hq Qh Eh d acts
  obtain ⟨t, a1, b1⟩ := kk (T.setVm vm') hT (X.noted hW')
  refine ⟨t, ?_, b1⟩
  have h := X.here
  obtain ⟨hgo, hw⟩ := At.throwing (g := F0 m pc A rest) h q
  refine Steps.head hgo hw ?_
  rw [stepThread_throwing (frames_entered h.top _), ct_step hfind]
  obtain ⟨g₀, hg⟩ := Option.isSome_iff_exists.mp h.top
  obtain ⟨r, hr⟩ := State.topJava?_eq_some.mp hg
  have hr' : (T.setVm vm').frames = .java g₀ :: r := hr
  rw [State.setTop_of_frames _ hr'] at a1
  have key : ∀ (u : State) (F G : List Frame), ((u.setFrames F).setVm vm').setFrames G = (u.setVm vm').setFrames G := fun u F G => by
    have h1 : (u.setFrames F).setVm vm' = (u.setVm vm').setFrames F := rfl
    rw [h1, State.setFrames_setFrames]
  rw [hr, List.tail_cons, State.pushFrame, key, State.setTop_of_frames _ hr, key]
  exact a1
/-- the address of an exception is no thing's -/
theorem HR_19 {D : va_G} {B : Nat} {α : AD} {S : Sto} {U : State} {H : Heap} (h : HR D B α S U H) (hW : WFS S) (i a : Nat) : HR D B (updA α 19 i a) S U H := by
  have h19 : ∀ t, tagK t = true → ¬ t = 19 := fun t ht q => by rw [q] at ht; exact absurd ht (by decide)
  have ha : ∀ t j, tagK t = true → updA α 19 i a t j = α t j := fun t j ht => updA_n α (fun q => h19 t ht q.1)
  have hv : ∀ v, WFs S v → tv (updA α 19 i a) v = tv α v := fun v w => by
    cases v with
    | inl x => rfl
    | inr q =>
      obtain ⟨t, j⟩ := q
      show Value.ref (updA α 19 i a t j) = Value.ref (α t j)
      rw [ha t j (w t j rfl).1]
  refine ⟨fun t j h1 h2 h3 => ?_, fun t j ty h1 h2 => ?_, fun t1 i1 t3 i3 k1 k3 l1 l3 e => ?_⟩
  · rw [ha t j (tagK_o h1 h2)]
    exact ⟨(h.1 t j h1 h2 h3).1, (h.1 t j h1 h2 h3).2.to (fun k hk => (hv _ (hW t j k (tagK_o h1 h2) h3 (by unfold wid; rw [if_pos h2]; exact hk))).symm)⟩
  · rw [ha t j (tagK_a h1)]
    exact ⟨(h.2.1 t j ty h1 h2).1, (h.2.1 t j ty h1 h2).2.to rfl (fun k hk => (hv _ (hW t j k (tagK_a h1) h2 (by unfold wid; rw [if_neg (aTy_hi h1)]; exact hk))).symm)⟩
  · rw [ha t1 i1 k1, ha t3 i3 k3] at e
    exact h.2.2 t1 i1 t3 i3 k1 k3 l1 l3 e
theorem cov_of {a b h ct pc : Nat} (h1 : a ≤ pc) (h2 : pc < b) : covers (⟨a, b, h, ct⟩ : ExceptionTableEntry) pc = true := by
  simp [covers, h1, h2]
theorem ct_Hnd {p : Program} {l : Launch} {e : Env} {R : Room} {s : State} {m : MethodId} {args : Array Value} {below : List Frame} {meth : Method} {c : Code} {M : MT} {D : va_G} {B : Nat} {H : Heap} {locs : List Loc} {cells slots : Nat} {pc hpc E : Nat} {A : Array Slot} {rest : List Value} {q : Addr} {ce : Cell}
    (hC : MC p l R s m meth c M D B) (hh : Hnd M pc E hpc) (hce : H[q]? = some ce) (hv : ce.vm = .none) (hcl : s.vm.findClass (EN E) = some ce.cls) :
    ∀ T : State, T.heap = H → Stand p l e R s m args below meth c T locs cells slots → ct_F e s ((T.setTop (F0 m pc A rest)).pushFrame (.throwing q)) (F0 m pc A rest) q c.exceptionTable.toList hpc := by
  intro T hT X
  have hpl : e.platform.magicAccessors = ({} : Platform).magicAccessors := by rw [X.admits.platform]
  have hcell : ((T.setTop (F0 m pc A rest)).pushFrame (.throwing q)).heap[q]? = some ce := by
    show T.heap[q]? = some ce
    rw [hT]; exact hce
  have hWm : s.WarmedH ((T.setTop (F0 m pc A rest)).pushFrame (.throwing q)).vm := X.warmed
  obtain ⟨o8, hh⟩ := hh
  have hown : s.vm.findClass RL = some (F0 m pc A rest).method.cls := by have := hC.own; rw [o8] at this; exact this
  have l13 : (Cond.classLink RL 13 "java/lang/IllegalArgumentException").before args s = true := hC.wd (wr_4 _ (List.mem_of_getElem? (i := 1) rfl)) args
  have l15 : (Cond.classLink RL 15 "java/lang/IllegalStateException").before args s = true := hC.wd (wr_4 _ (List.mem_of_getElem? (i := 2) rfl)) args
  have htab := hC.2.2.2.2.2.2.2.2.1
  rw [htab]
  rcases hh with ⟨hE, a, b, tl, hm, g1, g2⟩ | ⟨hE, a, b, tl, hm, g1, g2⟩ | ⟨hE, a, b, h0, a2, b2, tl, hm, g1, g2⟩
  · subst hE
    rw [hm]
    exact ct_hit (x := ⟨a, b, hpc, 13⟩) (tl := tableOf tl) hpl hWm hown (cov_of g1 g2) (show (13 : Nat) ≠ 0 by decide) l13 hcl hcell hv
  · subst hE
    rw [hm]
    exact ct_hit (x := ⟨a, b, hpc, 15⟩) (tl := tableOf tl) hpl hWm hown (cov_of g1 g2) (show (15 : Nat) ≠ 0 by decide) l15 hcl hcell hv
  · subst hE
    rw [hm]
    refine ct_pass (z := ⟨a, b, h0, 13⟩) (tl := tableOf ((a2, b2, hpc, 15) :: tl)) hpl hWm hown (show (13 : Nat) ≠ 0 by decide) l13 hC.ex.2.2.2.2.2.1 hcl hcell hv (fun S2 hW2 hS2 _ => ?_)
    exact ct_hit (x := ⟨a2, b2, hpc, 15⟩) (tl := tableOf tl) hpl hW2 hown (cov_of g1 g2) (show (15 : Nat) ≠ 0 by decide) l15 hcl (by rw [hS2]; exact hcell) hv
theorem PP_callVX : Rl_callVX PP := by
  intro M pc ls st S r idx N as S1 v E hpc h0 h1 h2 h3 hh kN kM
  have kN0 := kN
  obtain ⟨n1, n2, n3, n4⟩ := kN
  obtain ⟨k1, k2, k3, k4⟩ := kM
  have n1' : Mono S S1 := n1
  have hE0 : E ≠ 0 := by
    obtain ⟨-, q | q | q⟩ := hh
    · rw [q.1]; decide
    · rw [q.1]; decide
    · rw [q.1]; decide
  obtain ⟨i, hvi, hi19⟩ := n2 hE0
  have hvi' : v = vR 19 i := Option.some.inj hvi
  subst hvi'
  have hsp : (∀ w ∈ as.reverse ++ st, WFv S w) → (∀ w ∈ as, WFv S w) ∧ ∀ w ∈ st, WFv S w := fun h => ⟨fun w hw => h w (List.mem_append_left _ (List.mem_reverse.mpr hw)), fun w hw => h w (List.mem_append_right _ hw)⟩
  have hnx : WFS S → (∀ w ∈ as, WFv S w) → WFS S1 ∧ WFv S1 (vR 19 i) := fun g1 g2 => ⟨(n3 g1 (ent_wf g2) (fun _ h => nomatch h)).1, (n3 g1 (ent_wf g2) (fun _ h => nomatch h)).2 _ rfl⟩
  have hvs : WFS S → (∀ w ∈ as.reverse ++ st, WFv S w) → ∀ w ∈ [vR 19 i], WFv S1 w := fun g1 g2 => cfm (hnx g1 (hsp g2).1).2 (fun _ h => nomatch h)
  refine ⟨n1'.tr k1, fun q => ?_, fun w1 w2 w3 => k3 (hnx w1 (hsp w3).1).1 (fun w hw => (w2 w hw).mono n1') (hvs w1 w3), ?_⟩
  · obtain ⟨i, q1, q2⟩ := k2 q
    exact ⟨i, q1, Nat.le_trans (n1' 19) q2⟩
  · intro p l e R s m args below meth c D B αe α Se H locs A cells slots mc ms hC g1 g2 g3 g4 g5 g6 g7 g8 hcn
    obtain ⟨c1, c2, c3, c4, c5, c6⟩ := hcn
    have m1 := k1 100
    have m2 := k1 101
    have m3 := n1' 100
    have m4 := n1' 101
    have e1 : S.2 100 + (S1.2 100 - S.2 100) = S1.2 100 := by omega
    have e2 : S.2 101 + (S1.2 101 - S.2 101) = S1.2 101 := by omega
    generalize S1.2 100 - S.2 100 = mc1 at e1
    generalize S1.2 101 - S.2 101 = ms1 at e2
    have hr := V_run (e := e) (args := args) (below := below) (cells := cells) (slots := slots) (mc := mc1) (ms := ms1) h0 h1 h2 h3 kN0 hC g3 (hsp g5).1 g6 g7 g8 e1 e2 ⟨by omega, by omega⟩
    intro T hT X
    rcases hr T hT X with ⟨v', st0, t, T', L, e0, X', hL, f1, f2, hq, stp⟩ | ⟨q, st0, t, T', L, En, ce, e0, X', hL, f1, f2, hx, hce, hcv, hcl, stp⟩
    · exact absurd hq.1 hE0
    · obtain ⟨-, hEn, α1, hX1, hH1, hF⟩ := hx
      have hEn' : En = EN E := hEn
      subst hEn'
      obtain ⟨-, -, g9⟩ := vx_keep (A0 := fun q => B ≤ q) (A1 := fun q => B ≤ q) (free := fun q => B ≤ q) e0 f1 g8 (fun _ _ h => h) (fun _ h => h) hL hF
      have hWS1 := (hnx g3 (hsp g5).1).1
      have hX2 : Ext S α (updA α1 19 i q) := fun t j hj => (updA_n α1 (fun z => by obtain ⟨z1, z2⟩ := z; subst z1; subst z2; omega)).trans (hX1 t j hj)
      have hH2 : HR D B (updA α1 19 i q) S1 s T'.heap := by
        rw [f1]
        exact HR_19 (hH1.moved (by rw [← f2]; exact X'.warmed.alike.symm)) hWS1 i q
      have hk := k4 p l e R s m args below meth c D B αe (updA α1 19 i q) Se T'.heap (locs ++ L) A (cells + mc1) (slots + ms1) mc ms hC (g1.tr n1') (g2.tr g1 hX2) hWS1 (fun w hw => (g4 w hw).mono n1') (hvs g3 g5) hH2 (LR_ext g7 hX2 g4) g9 ⟨by omega, by omega, c3, c4, c5, c6⟩
      have hst : [vR 19 i].map (tv (updA α1 19 i q)) = [Value.ref q] := by
        show [Value.ref (updA α1 19 i q 19 i)] = [Value.ref q]
        rw [updA_e]
      rw [hst] at hk
      obtain ⟨t2, a1, b1⟩ := ct_W (rest := st.map (tv α)) (ct_Hnd hC hh (by rw [f1]; exact hce) hcv hcl) hk T' rfl X'
      exact ⟨t2, stp.trans a1, b1⟩
