/-! SOUNDNESS: calls that return -/
theorem PP_call {M N : MT} {pc : Nat} {ls st : List AV} {S S1 : Sto} {r : Res} {as : List AV} {v : Option AV} (kN : PP N 0 (ent N as) [] S (0, v, S1)) (kM : PP M (pc + 3) ls (v.toList ++ st) S1 r)
    (hrun : ∀ {p : Program} {l : Launch} {e : Env} {R : Room} {s : State} {m : MethodId} {args : Array Value} {below : List Frame} {meth : Method} {c : Code} {D : va_G} {B : Nat} {α : AD} {H : Heap} {locs : List Loc} {A : Array Slot} {cells slots mc ms : Nat},
      MC p l R s m meth c M D B → WFS S → (∀ v ∈ as, WFv S v) → HR D B α S s H → LR α (mL M) ls A → va_S (fun q => B ≤ q) s.heap H locs → S.2 100 + mc = S1.2 100 → S.2 101 + ms = S1.2 101 → cells + mc ≤ R.cells ∧ slots + ms ≤ R.slots →
      vx_Run p l e R s m args below meth c H locs cells slots mc ms (F0 m pc A ((as.reverse ++ st).map (tv α))) (st.map (tv α)) (QC D B α S (0, v, S1) (as.map (tv α)).toArray) (XC D B α S (0, v, S1)) (fun q => B ≤ q)) : PP M pc ls (as.reverse ++ st) S r := by
  obtain ⟨n1, n2, n3, n4⟩ := kN
  obtain ⟨k1, k2, k3, k4⟩ := kM
  have n1' : Mono S S1 := n1
  have hsp : (∀ w ∈ as.reverse ++ st, WFv S w) → (∀ w ∈ as, WFv S w) ∧ ∀ w ∈ st, WFv S w := fun h => ⟨fun w hw => h w (List.mem_append_left _ (List.mem_reverse.mpr hw)), fun w hw => h w (List.mem_append_right _ hw)⟩
  have hnx : WFS S → (∀ w ∈ as, WFv S w) → WFS S1 ∧ ∀ w, v = some w → WFv S1 w := fun h1 h2 => n3 h1 (ent_wf h2) (fun _ h => nomatch h)
  have hvs : WFS S → (∀ w ∈ as.reverse ++ st, WFv S w) → ∀ w ∈ v.toList ++ st, WFv S1 w := fun h1 h2 w hw => by
    rcases List.mem_append.mp hw with q | q
    · exact (hnx h1 (hsp h2).1).2 w (by simpa using q)
    · exact ((hsp h2).2 w q).mono n1'
  refine ⟨n1'.tr k1, fun q => ?_, fun w1 w2 w3 => k3 (hnx w1 (hsp w3).1).1 (fun w hw => (w2 w hw).mono n1') (hvs w1 w3), ?_⟩
  · obtain ⟨i, q1, q2⟩ := k2 q
    exact ⟨i, q1, Nat.le_trans (n1' 19) q2⟩
  · intro p l e R s m args below meth c D B αe α Se H locs A cells slots mc ms hC h1 h2 h3 h4 h5 h6 h7 h8 hcn
    obtain ⟨c1, c2, c3, c4, c5, c6⟩ := hcn
    have m1 := k1 100
    have m2 := k1 101
    have m3 := n1' 100
    have m4 := n1' 101
    have e1 : S.2 100 + (S1.2 100 - S.2 100) = S1.2 100 := by omega
    have e2 : S.2 101 + (S1.2 101 - S.2 101) = S1.2 101 := by omega
    generalize S1.2 100 - S.2 100 = mc1 at e1
    generalize S1.2 101 - S.2 101 = ms1 at e2
    have hr := hrun (e := e) (args := args) (below := below) (cells := cells) (slots := slots) (mc := mc1) (ms := ms1) hC h3 (hsp h5).1 h6 h7 h8 e1 e2 ⟨by omega, by omega⟩
    intro T hT X
    rcases hr T hT X with ⟨v', st0, t, T', L, e0, X', hL, f1, f2, hq, stp⟩ | ⟨q, st0, t, T', L, E, ce, e0, X', hL, f1, f2, hx, -⟩
    · obtain ⟨-, α1, hX1, hv, hH1, hF⟩ := hq
      have hv' : v' = v.map (tv α1) := by injection hv
      subst hv'
      obtain ⟨-, -, g3⟩ := vx_keep (A0 := fun q => B ≤ q) (A1 := fun q => B ≤ q) (free := fun q => B ≤ q) e0 f1 h8 (fun _ _ h => h) (fun _ h => h) hL hF
      have hk := k4 p l e R s m args below meth c D B αe α1 Se T'.heap (locs ++ L) A (cells + mc1) (slots + ms1) mc ms hC (h1.tr n1') (h2.tr h1 hX1) (hnx h3 (hsp h5).1).1 (fun w hw => (h4 w hw).mono n1') (hvs h3 h5) (by rw [f1]; exact hH1.moved (by rw [← f2]; exact X'.warmed.alike.symm)) (LR_ext h7 hX1 h4) g3 ⟨by omega, by omega, c3, c4, c5, c6⟩
      have hst : (v.toList ++ st).map (tv α1) = (v.map (tv α1)).toList ++ st.map (tv α) := by
        rw [List.map_append, tv_exts hX1 (hsp h5).2]
        cases v <;> rfl
      rw [hst] at hk
      obtain ⟨t2, a1, b1⟩ := hk T' rfl X'
      exact ⟨t2, stp t2 a1, b1⟩
    · exact absurd rfl hx.1
theorem fits_R {p : Program} {l : Launch} {R : Room} {s : State} {m : MethodId} {meth : Method} {c : Code} {M N : MT} {D : va_G} {B : Nat} (hC : MC p l R s m meth c M D B) (hf : fitsIn M N = true) : (mF N + 1 ≤ R.frames ∧ 8 + (mL N + 11) + mQ N ≤ R.locals) ∧ mA N ≤ mL N := by
  unfold fitsIn at hf
  rw [Bool.and_eq_true, Bool.and_eq_true, decide_eq_true_eq, decide_eq_true_eq, decide_eq_true_eq] at hf
  have hF := hC.2.2.2.2.2.2.2.2.2.1
  have hQ := hC.2.2.2.2.2.2.2.2.2.2.1
  exact ⟨⟨Nat.le_trans hf.1.1 hF, Nat.le_trans hf.1.2 hQ⟩, hf.2⟩
theorem noh_cls {y : MethodName} {o : Nat} (h : y.cls = RN o) (ho : o ≤ 8) : y.cls ≠ "java/lang/invoke/MethodHandle" ∧ y.cls ≠ "java/lang/invoke/VarHandle" := by
  rw [h]; exact RN_noh ⟨o, by omega⟩
theorem rcv_of {as : List AV} {t i : Nat} (h : as[0]? = some (vR t i)) : ∃ tl, as = vR t i :: tl := by
  cases as with
  | nil => cases h
  | cons a tl => cases h; exact ⟨tl, rfl⟩
theorem rest_room {m : MethodId} {pc : Nat} {A : Array Slot} {st0 : List Value} {α : AD} {st : List AV} (h : wsum st ≤ 8) : 2 * (F0 m pc A st0).monitorRoom + ((st.map (tv α)).map fun v => v.category).sum ≤ 8 := by
  rw [wsum_tv]
  show 2 * 0 + wsum st ≤ 8
  omega
theorem stk_rev {α : AD} {b : AV} {tl st : List AV} : ((b :: tl).reverse ++ st).map (tv α) = (tl.map (tv α)).reverse ++ tv α b :: st.map (tv α) := by
  simp
/-- a virtual call, with what the callee's body comes to -/
theorem V_run {M N : MT} {pc idx : Nat} {ls st : List AV} {S : Sto} {rN : Res} {as : List AV} (h0 : decode (mB M) pc = .ok (.invokevirtual idx, 3)) (h1 : CallV M idx N) (h2 : argsOk N as) (h3 : wsum st ≤ 8) (kN : PP N 0 (ent N as) [] S rN)
    {p : Program} {l : Launch} {e : Env} {R : Room} {s : State} {m : MethodId} {args : Array Value} {below : List Frame} {meth : Method} {c : Code} {D : va_G} {B : Nat} {α : AD} {H : Heap} {locs : List Loc} {A : Array Slot} {cells slots mc ms : Nat}
    (hC : MC p l R s m meth c M D B) (hW : WFS S) (hw : ∀ v ∈ as, WFv S v) (hH : HR D B α S s H) (hL : LR α (mL M) ls A) (hS : va_S (fun q => B ≤ q) s.heap H locs) (e1 : S.2 100 + mc = rN.2.2.2 100) (e2 : S.2 101 + ms = rN.2.2.2 101) (hf : cells + mc ≤ R.cells ∧ slots + ms ≤ R.slots) :
    vx_Run p l e R s m args below meth c H locs cells slots mc ms (F0 m pc A ((as.reverse ++ st).map (tv α))) (st.map (tv α)) (QC D B α S rN (as.map (tv α)).toArray) (XC D B α S rN) (fun q => B ≤ q) := by
  obtain ⟨hlink, ⟨hin, hsel, hini, hcode, hH0, hcls, ho, hV, hpar, hA1⟩, hfit⟩ := h1
  obtain ⟨hlen, hall, hrec⟩ := h2
  obtain ⟨i, hi⟩ := hrec hV
  obtain ⟨tl, has⟩ := rcv_of hi
  subst has
  obtain ⟨hR, hA⟩ := fits_R hC hfit
  have hM := PP_met (l := l) (D := D) (B := B) (α := α) kN hH0 (by omega) hcls hC.2.2.1 hall (by omega) hW hw e1 e2
  have hi2 := (hw _ List.mem_cons_self (mO N + 1) i rfl).2
  obtain ⟨hB, cell, q1, q2, q3, q4⟩ := hH.1 (mO N + 1) i (by omega) (by omega) hi2
  have hP := PreN (as := vR (mO N + 1) i :: tl) hC.ex hC.2.2.2.2.2.2.2.2.2.2.2.2 hH hS
  have hkn := (hC.kn (mO N + 1) (by omega) (by omega)).2.1
  refine vx_runV (n := mA N - 1) (Ts := wsL_law) (own := RN (mO M)) (C := RN (mO N)) (index := idx) (b := α (mO N + 1) i) (As := tl.map (tv α)) ⟨hC.1, hC.2.1, hC.2.2.2.1, hC.own, fun w hw => hC.wd hw args⟩ hM ⟨callB_of (mA N - 1) (fun w hw => hC.wd hw args) (pay_N (N := N) hcode) rfl rfl rfl (by rw [hcls]; exact hC.wd hini args) (hC.wd hlink args) ⟨(noh_cls hcls (by omega)).1, (noh_cls hcls (by omega)).2, hpar⟩ hR, hC.wd hin args, hC.wd hsel args⟩ ⟨hP.1, ⟨cell, q1, by rw [q3]; rfl, by rw [q2]; exact hkn⟩, hP.2⟩ rfl ?_ (hL.2.1) stk_rev (rest_room h3) h0 hf
  rw [List.length_map]
  have : (vR (mO N + 1) i :: tl).length = mA N := hlen
  simp only [List.length_cons] at this
  omega
theorem PP_callV : Rl_callV PP := by
  intro M pc ls st S r idx N as S1 v h0 h1 h2 h3 kN kM
  exact PP_call kN kM (fun hC hW hw hH hL hS e1 e2 hf => V_run h0 h1 h2 h3 kN hC hW hw hH hL hS e1 e2 hf)
theorem PP_callS : Rl_callS PP := by
  intro M pc ls st S r idx N as S1 v h0 h1 h2 h3 kN kM
  obtain ⟨hlink, ⟨hstc, hini, hcode, hcls, ho, hV, hpar⟩, hfit⟩ := h1
  obtain ⟨hlen, hall, hrec⟩ := h2
  refine PP_call kN kM (fun {p l e R s m args below meth c D B α H locs A cells slots mc ms} hC hW hw hH hL hS e1 e2 hf => ?_)
  obtain ⟨hR, hA⟩ := fits_R hC hfit
  have hP := PreN (as := as) hC.ex hC.2.2.2.2.2.2.2.2.2.2.2.2 hH hS
  have hstk : (as.reverse ++ st).map (tv α) = (as.map (tv α)).reverse ++ st.map (tv α) := by simp
  have hparl : ∀ sig, parseMethodDescriptor (mY N).desc = some sig → mA N = sig.parameters.length := fun sig h => by
    rw [h] at hpar
    exact (Option.some.inj hpar).symm
  rcases hcode with ⟨hH0, hcode⟩ | ⟨hH1, hcode⟩
  · have hM := PP_met (l := l) (D := D) (B := B) (α := α) kN hH0 ho hcls hC.2.2.1 hall (by omega) hW hw e1 e2
    exact vx_runS (n := mA N) (Ts := wsL_law) (own := RN (mO M)) (index := idx) (As := as.map (tv α)) ⟨hC.1, hC.2.1, hC.2.2.2.1, hC.own, fun w hw => hC.wd hw args⟩ hM ⟨callB_of (mA N) (fun w hw => hC.wd hw args) (pay_N (N := N) hcode) rfl rfl rfl (by rw [hcls]; exact hC.wd hini args) (hC.wd hlink args) ⟨(noh_cls hcls ho).1, (noh_cls hcls ho).2, hpar⟩ hR, hC.wd hstc args⟩ hP rfl (by rw [List.length_map]; exact hlen) (hL.2.1) hstk (rest_room h3) h0 hf
  · have hM := PP_metH (l := l) (D := D) (B := B) (α := α) kN ho hcls hC.2.2.1 hall (by omega) hW hw e1 e2
    exact vx_runSX (n := mA N) (Ts := wsL_law) (own := RN (mO M)) (index := idx) (hh := mH N) (As := as.map (tv α)) ⟨hC.1, hC.2.1, hC.2.2.2.1, hC.own, fun w hw => hC.wd hw args⟩ hM ⟨⟨rfl, rfl, hR.1, hR.2, pay_in (fun w hw => hC.wd hw args) (pay_N (N := N) hcode), List.mem_cons_self⟩, hC.wd hcode args, by rw [hcls]; exact hC.wd hini args, noh_cls hcls ho, hparl, hC.wd hlink args, hC.wd hstc args⟩ hP rfl (by rw [List.length_map]; exact hlen) (hL.2.1) hstk (rest_room h3) h0 hf
theorem PP_callI : Rl_callI PP := by
  intro M pc ls st S r idx N as S1 v h0 h1 h2 h3 kN kM
  obtain ⟨hlink, ⟨hin, hini, hcode, hH0, hret, hcls, hnm, ho, hV, hpar, hA1⟩, hfit⟩ := h1
  obtain ⟨hlen, hall, hrec⟩ := h2
  obtain ⟨i, hi⟩ := hrec hV
  obtain ⟨tl, has⟩ := rcv_of hi
  subst has
  refine PP_call kN kM (fun {p l e R s m args below meth c D B α H locs A cells slots mc ms} hC hW hw hH hL hS e1 e2 hf => ?_)
  obtain ⟨hR, hA⟩ := fits_R hC hfit
  have hP := PreN (as := vR (mO N + 1) i :: tl) hC.ex hC.2.2.2.2.2.2.2.2.2.2.2.2 hH hS
  have hM := vx_toMet (PP_met (l := l) (D := D) (B := B) (α := α) kN hH0 (by omega) hcls hC.2.2.1 hall (by omega) hW hw e1 e2) (fun E st t q => q.1 rfl)
  have hln : (tl.map (tv α)).length = mA N - 1 := by
    rw [List.length_map]
    have : (vR (mO N + 1) i :: tl).length = mA N := hlen
    simp only [List.length_cons] at this
    omega
  rw [hret] at hM hcode
  refine vx_ofRun ?_
  rcases hlink with hlink | hlink
  · exact va_runI (n := mA N - 1) (Ts := wsL_law) (own := RN (mO M)) (index := idx) (b := α (mO N + 1) i) (As := tl.map (tv α)) ⟨hC.1, hC.2.1, hC.2.2.2.1, hC.own, fun w hw => hC.wd hw args⟩ hM (cwI (mA N - 1) (fun w hw => hC.wd hw args) (pay_N (N := N) hcode) rfl rfl rfl (by rw [hcls]; exact hC.wd hini args) (hC.wd hlink args) (hC.wd hin args) hnm ⟨(noh_cls hcls (by omega)).1, (noh_cls hcls (by omega)).2, hpar⟩ hR) hP rfl hln (hL.2.1) stk_rev (rest_room h3) h0 hf
  · exact va_runIN (n := mA N - 1) (Ts := wsL_law) (own := RN (mO M)) (index := idx) (host := RX6) (b := α (mO N + 1) i) (As := tl.map (tv α)) ⟨hC.1, hC.2.1, hC.2.2.2.1, hC.own, fun w hw => hC.wd hw args⟩ hM ⟨va_cnB (mA N - 1) (fun w hw => hC.wd hw args) (pay_N (N := N) hcode) rfl rfl rfl (hC.ex.2.1 _ hlink) (by rw [hcls]; exact hC.wd hini args) ⟨(noh_cls hcls (by omega)).1, (noh_cls hcls (by omega)).2, hpar⟩ hR, hnm, hC.wd hin args⟩ hP rfl hln (hL.2.1) stk_rev (rest_room h3) h0 hf
