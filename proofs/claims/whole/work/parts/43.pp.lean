/-! SOUNDNESS: the predicate -/
def excN : List String := ["java/lang/RuntimeException", "java/lang/Exception"]
def atE (E : Nat) (U : State) : Prop := ∀ w ∈ vx_atS RX6 (if E = 1 then 40 else 54) (EN E) excN, ∀ a : Array Value, w.before a U = true
def EX (D : va_G) (B : Nat) (U : State) (H : Heap) : Prop := (∀ w ∈ wsL_law, ∀ a : Array Value, w.before a U = true) ∧ (∀ w ∈ nestL, va_Nw w U) ∧ (va_AO RX5 U ∧ va_AO RX3 U) ∧ (∀ q ∈ thrL, ∃ sa, vk_R RX6 q.1 q.2 sa U) ∧ (atE 1 U ∧ atE 2 U) ∧ va_Nc (EN 2) (EN 1) U ∧ (vx_Zq Bundle.tN "UNASSIGNED_STACK" Bundle.steD (fun q => B ≤ q) U H ∧ vx_Zq Bundle.tN "SUPPRESSED_SENTINEL" Bundle.listD (fun q => B ≤ q) U H) ∧ ∀ t, 1 ≤ t → t ≤ 8 → u_Kn U (RN (t - 1)) (TT t) (NN t) (D.1 t) (D.2 t)
/-- the machine's side: in the body of M -/
def MC (p : Program) (l : Launch) (R : Room) (s : State) (m : MethodId) (meth : Method) (c : Code) (M : MT) (D : va_G) (B : Nat) : Prop :=
  p.tables.exec = Jvm.exec ∧ c.code = mB M ∧ l.stackTraces = false ∧ c.maxLocals = mL M ∧ meth.sig.returnType = mR M ∧ meth.locks = false ∧ meth.name = (mY M).name ∧ s.vm.findClass (RN (mO M)) = some m.cls ∧ c.exceptionTable.toList = tableOf (mH M) ∧ mF M ≤ R.frames ∧ mQ M ≤ R.locals ∧ EX D B s s.heap ∧ B ≤ s.heap.size
def QC (D : va_G) (B : Nat) (αe : AD) (Se : Sto) (r : Res) : Array Value → State → Outcome → State → Prop := fun _ st o t => r.1 = 0 ∧ ∃ α1 : AD, Ext Se αe α1 ∧ o = .returned (r.2.1.map (tv α1)) ∧ HR D B α1 r.2.2 t t.heap ∧ va_F (fun q => B ≤ q) st t
def XC (D : va_G) (B : Nat) (αe : AD) (Se : Sto) (r : Res) : String → State → State → Prop := fun E st t => r.1 ≠ 0 ∧ E = EN r.1 ∧ ∃ α1 : AD, Ext Se αe α1 ∧ HR D B α1 r.2.2 t t.heap ∧ va_F (fun q => B ≤ q) st t
def CN (Se S : Sto) (r : Res) (cells slots mc ms : Nat) (R : Room) : Prop := Se.2 100 + cells = S.2 100 ∧ Se.2 101 + slots = S.2 101 ∧ Se.2 100 + mc = r.2.2.2 100 ∧ Se.2 101 + ms = r.2.2.2 101 ∧ mc ≤ R.cells ∧ ms ≤ R.slots
def MP (M : MT) (pc : Nat) (ls st : List AV) (S : Sto) (r : Res) : Prop := ∀ (p : Program) (l : Launch) (e : Env) (R : Room) (s : State) (m : MethodId) (args : Array Value) (below : List Frame) (meth : Method) (c : Code) (D : va_G) (B : Nat) (αe α : AD) (Se : Sto) (H : Heap) (locs : List Loc) (A : Array Slot) (cells slots mc ms : Nat),
  MC p l R s m meth c M D B → Mono Se S → Ext Se αe α → WFS S → (∀ v ∈ ls, WFv S v) → (∀ v ∈ st, WFv S v) → HR D B α S s H → LR α (mL M) ls A → va_S (fun q => B ≤ q) s.heap H locs → CN Se S r cells slots mc ms R →
  W p l e R s m args below meth c H locs cells slots (vx_MQ below (QC D B αe Se r) (XC D B αe Se r) args s mc ms (fun q => B ≤ q)) (F0 m pc A (st.map (tv α)))
def PP : PT := fun M pc ls st S r => Mono S r.2.2 ∧ (r.1 ≠ 0 → ∃ i, r.2.1 = some (vR 19 i) ∧ S.2 19 ≤ i) ∧ (WFS S → (∀ v ∈ ls, WFv S v) → (∀ v ∈ st, WFv S v) → WFS r.2.2 ∧ ∀ v, r.2.1 = some v → WFv r.2.2 v) ∧ MP M pc ls st S r
/-- a step that leaves the heap as it is -/
theorem PP_step {M : MT} {pc pc2 : Nat} {ls ls2 st st2 : List AV} {S : Sto} {r : Res} (k : PP M pc2 ls2 st2 S r) (hw : WFS S → (∀ v ∈ ls, WFv S v) → (∀ v ∈ st, WFv S v) → (∀ v ∈ ls2, WFv S v) ∧ ∀ v ∈ st2, WFv S v)
    (hm : ∀ {p : Program} {l : Launch} {e : Env} {R : Room} {s : State} {m : MethodId} {args : Array Value} {below : List Frame} {meth : Method} {c : Code} {D : va_G} {B : Nat} {α : AD} {H : Heap} {locs : List Loc} {A : Array Slot} {cells slots : Nat} {Q : State → Prop},
      MC p l R s m meth c M D B → WFS S → (∀ v ∈ ls, WFv S v) → (∀ v ∈ st, WFv S v) → HR D B α S s H → LR α (mL M) ls A → (cells ≤ R.cells ∧ slots ≤ R.slots) → (∀ A2, LR α (mL M) ls2 A2 → W p l e R s m args below meth c H locs cells slots Q (F0 m pc2 A2 (st2.map (tv α)))) → W p l e R s m args below meth c H locs cells slots Q (F0 m pc A (st.map (tv α)))) : PP M pc ls st S r := by
  obtain ⟨k1, k2, k3, k4⟩ := k
  refine ⟨k1, k2, fun w1 w2 w3 => k3 w1 (hw w1 w2 w3).1 (hw w1 w2 w3).2, ?_⟩
  intro p l e R s m args below meth c D B αe α Se H locs A cells slots mc ms hC h1 h2 h3 h4 h5 h6 h7 h8 h9
  have hr : cells ≤ R.cells ∧ slots ≤ R.slots := by
    obtain ⟨c1, c2, c3, c4, c5, c6⟩ := h9
    have m1 := k1 100
    have m2 := k1 101
    exact ⟨by omega, by omega⟩
  refine hm hC h3 h4 h5 h6 h7 hr (fun A2 hA => ?_)
  exact k4 p l e R s m args below meth c D B αe α Se H locs A2 cells slots mc ms hC h1 h2 h3 (hw h3 h4 h5).1 (hw h3 h4 h5).2 h6 hA h8 h9
theorem fmc {S : Sto} {v : AV} {st : List AV} (h : ∀ w ∈ v :: st, WFv S w) : WFv S v ∧ ∀ w ∈ st, WFv S w := List.forall_mem_cons.mp h
theorem cfm {S : Sto} {v : AV} {st : List AV} (h : WFv S v) (h2 : ∀ w ∈ st, WFv S w) : ∀ w ∈ v :: st, WFv S w := List.forall_mem_cons.mpr ⟨h, h2⟩
theorem set_wf {S : Sto} {ls : List AV} {v : AV} (h : ∀ w ∈ ls, WFv S w) (hv : WFv S v) (k : Nat) : ∀ w ∈ ls.set k v, WFv S w := by
  intro w hw
  rcases List.mem_or_eq_of_mem_set hw with q | q
  · exact h w q
  · rw [q]; exact hv
theorem rf_cases {v : AV} (h : isRf v = true) : v = vN ∨ ∃ t i, v = vR t i := by
  match v, h with
  | .inl .null, _ => exact Or.inl rfl
  | .inr (t, i), _ => exact Or.inr ⟨t, i, rfl⟩
theorem LR_at {α : AD} {n : Nat} {ls : List AV} {A : Array Slot} (h : LR α n ls A) {k : Nat} {v : AV} (hk : ls[k]? = some v) (h1 : v ≠ vU) (h2 : v ≠ vU2) : A[k]? = some (.val (tv α v)) := h.2.2.2.1 k v hk h1 h2
theorem nU2_lt {ls : List AV} {k : Nat} (h : nU2 ls[k]? = true) : k < ls.length := by
  cases e : ls[k]? with
  | none => rw [e] at h; exact absurd h (by decide)
  | some v => exact (List.getElem?_eq_some_iff.mp e).1
theorem PP_iconst : Rl_iconst PP := fun M pc ls st S r n v h0 h1 k => PP_step k (fun _ a b => ⟨a, cfm (WFv_inl _ _) b⟩) (fun C _ _ _ _ L _ kk => lv_iconst C.1 C.2.1 h0 h1 (kk _ L))
theorem PP_bipush : Rl_bipush PP := fun M pc ls st S r n v h0 h1 k => PP_step k (fun _ a b => ⟨a, cfm (WFv_inl _ _) b⟩) (fun C _ _ _ _ L _ kk => lv_bipush C.1 C.2.1 h0 h1 (kk _ L))
theorem PP_sipush : Rl_sipush PP := fun M pc ls st S r n v h0 h1 k => PP_step k (fun _ a b => ⟨a, cfm (WFv_inl _ _) b⟩) (fun C _ _ _ _ L _ kk => lv_sipush C.1 C.2.1 h0 h1 (kk _ L))
theorem PP_null : Rl_null PP := fun M pc ls st S r h0 k => PP_step k (fun _ a b => ⟨a, cfm (WFv_inl _ _) b⟩) (fun C _ _ _ _ L _ kk => lv_null C.1 C.2.1 h0 (kk _ L))
theorem PP_dconst : Rl_dconst PP := fun M pc ls st S r h0 k => PP_step k (fun _ a b => ⟨a, cfm (WFv_inl _ _) b⟩) (fun C _ _ _ _ L _ kk => lv_dconst0 C.1 C.2.1 h0 (kk _ L))
theorem PP_iload_n : Rl_iload_n PP := fun M pc ls st S r k x h0 h1 kk0 => PP_step kk0 (fun _ a b => ⟨a, cfm (WFv_inl _ _) b⟩) (fun C _ _ _ _ L _ kk => lv_iload_n C.1 C.2.1 h0 rfl (LR_at L h1 (by intro q; cases q) (by intro q; cases q)) (kk _ L))
theorem PP_iload : Rl_iload PP := fun M pc ls st S r k x h0 h1 kk0 => PP_step kk0 (fun _ a b => ⟨a, cfm (WFv_inl _ _) b⟩) (fun C _ _ _ _ L _ kk => lv_iload C.1 C.2.1 h0 (LR_at L h1 (by intro q; cases q) (by intro q; cases q)) (kk _ L))
theorem PP_dload_n : Rl_dload_n PP := fun M pc ls st S r k x h0 h1 kk0 => PP_step kk0 (fun _ a b => ⟨a, cfm (WFv_inl _ _) b⟩) (fun C _ _ _ _ L _ kk => lv_dload_n C.1 C.2.1 h0 rfl (LR_at L h1 (by intro q; cases q) (by intro q; cases q)) (kk _ L))
theorem PP_dload : Rl_dload PP := fun M pc ls st S r k x h0 h1 kk0 => PP_step kk0 (fun _ a b => ⟨a, cfm (WFv_inl _ _) b⟩) (fun C _ _ _ _ L _ kk => lv_dload C.1 C.2.1 h0 (LR_at L h1 (by intro q; cases q) (by intro q; cases q)) (kk _ L))
theorem PP_aload_n : Rl_aload_n PP := by
  intro M pc ls st S r k v h0 h1 h2 kk0
  refine PP_step kk0 (fun _ a b => ⟨a, cfm (a v (List.mem_of_getElem? h1)) b⟩) (fun C _ _ _ _ L _ kk => ?_)
  rcases rf_cases h2 with q | ⟨t, i, q⟩
  · subst q
    exact lv_aload_nN C.1 C.2.1 h0 rfl (LR_at L h1 (by intro q; cases q) (by intro q; cases q)) (kk _ L)
  · subst q
    exact lv_aload_n C.1 C.2.1 h0 rfl (LR_at L h1 (by intro q; cases q) (by intro q; cases q)) (kk _ L)
theorem PP_aload : Rl_aload PP := by
  intro M pc ls st S r k v h0 h1 h2 kk0
  refine PP_step kk0 (fun _ a b => ⟨a, cfm (a v (List.mem_of_getElem? h1)) b⟩) (fun C _ _ _ _ L _ kk => ?_)
  rcases rf_cases h2 with q | ⟨t, i, q⟩
  · subst q
    exact lv_aloadN C.1 C.2.1 h0 (LR_at L h1 (by intro q; cases q) (by intro q; cases q)) (kk _ L)
  · subst q
    exact lv_aload C.1 C.2.1 h0 (LR_at L h1 (by intro q; cases q) (by intro q; cases q)) (kk _ L)
theorem PP_istore_n : Rl_istore_n PP := by
  intro M pc ls st S r k x h0 h1 kk0
  refine PP_step kk0 (fun _ a b => ⟨set_wf a (WFv_inl _ _) _, (fmc b).2⟩) (fun C _ _ _ _ L _ kk => ?_)
  exact lv_istore_n C.1 C.2.1 h0 rfl L.has (by have := nU2_lt h1; have := L.1; omega) rfl (fun A2 hA => kk A2 (LR_set1 L (by have := nU2_lt h1; have := L.1; omega) h1 rfl hA))
theorem PP_istore : Rl_istore PP := by
  intro M pc ls st S r k x h0 h1 kk0
  refine PP_step kk0 (fun _ a b => ⟨set_wf a (WFv_inl _ _) _, (fmc b).2⟩) (fun C _ _ _ _ L _ kk => ?_)
  exact lv_istore C.1 C.2.1 h0 L.has (by have := nU2_lt h1; have := L.1; omega) rfl (fun A2 hA => kk A2 (LR_set1 L (by have := nU2_lt h1; have := L.1; omega) h1 rfl hA))
theorem PP_astore_n : Rl_astore_n PP := by
  intro M pc ls st S r k v h0 h1 h2 kk0
  refine PP_step kk0 (fun _ a b => ⟨set_wf a (fmc b).1 _, (fmc b).2⟩) (fun C _ _ _ _ L _ kk => ?_)
  rcases rf_cases h2 with q | ⟨t, i, q⟩
  · subst q
    exact lv_astore_nN C.1 C.2.1 h0 rfl L.has (by have := nU2_lt h1; have := L.1; omega) rfl (fun A2 hA => kk A2 (LR_set1 L (by have := nU2_lt h1; have := L.1; omega) h1 rfl hA))
  · subst q
    exact lv_astore_n C.1 C.2.1 h0 rfl L.has (by have := nU2_lt h1; have := L.1; omega) rfl (fun A2 hA => kk A2 (LR_set1 (v := vR t i) L (by have := nU2_lt h1; have := L.1; omega) h1 rfl hA))
theorem PP_astore : Rl_astore PP := by
  intro M pc ls st S r k v h0 h1 h2 kk0
  refine PP_step kk0 (fun _ a b => ⟨set_wf a (fmc b).1 _, (fmc b).2⟩) (fun C _ _ _ _ L _ kk => ?_)
  rcases rf_cases h2 with q | ⟨t, i, q⟩
  · subst q
    exact lv_astoreN C.1 C.2.1 h0 L.has (by have := nU2_lt h1; have := L.1; omega) rfl (fun A2 hA => kk A2 (LR_set1 L (by have := nU2_lt h1; have := L.1; omega) h1 rfl hA))
  · subst q
    exact lv_astore C.1 C.2.1 h0 L.has (by have := nU2_lt h1; have := L.1; omega) rfl (fun A2 hA => kk A2 (LR_set1 (v := vR t i) L (by have := nU2_lt h1; have := L.1; omega) h1 rfl hA))
theorem PP_dstore_n : Rl_dstore_n PP := by
  intro M pc ls st S r k x h0 h1 h2 kk0
  refine PP_step kk0 (fun _ a b => ⟨set_wf (set_wf a (WFv_inl _ _) _) (WFv_inl _ _) _, (fmc b).2⟩) (fun C _ _ _ _ L _ kk => ?_)
  exact lv_dstore_n C.1 C.2.1 h0 rfl L.has (by have := L.1; omega) rfl (fun A2 hA => kk A2 (LR_set2 L (by have := L.1; omega) h1 hA))
theorem PP_dstore : Rl_dstore PP := by
  intro M pc ls st S r k x h0 h1 h2 kk0
  refine PP_step kk0 (fun _ a b => ⟨set_wf (set_wf a (WFv_inl _ _) _) (WFv_inl _ _) _, (fmc b).2⟩) (fun C _ _ _ _ L _ kk => ?_)
  exact lv_dstore C.1 C.2.1 h0 L.has (by have := L.1; omega) rfl (fun A2 hA => kk A2 (LR_set2 L (by have := L.1; omega) h1 hA))
theorem PP_iinc : Rl_iinc PP := by
  intro M pc ls st S r k n x h0 h1 kk0
  have hlt : k < ls.length := (List.getElem?_eq_some_iff.mp h1).1
  refine PP_step kk0 (fun _ a b => ⟨set_wf a (WFv_inl _ _) _, b⟩) (fun {p l e R s m args below meth c D B α H locs A cells slots Q} C _ _ _ _ L _ kk => ?_)
  obtain ⟨j, hj⟩ := List.getElem?_of_mem (kn_mem (α := α) h1 (by intro q; cases q) (by intro q; cases q))
  exact lv_iinc C.1 C.2.1 h0 L.has hj rfl (by have := L.1; omega) rfl (fun A2 hA => kk A2 (LR_set1 (v := vI (x + Int32.ofInt n)) L (by have := L.1; omega) (by rw [h1]; rfl) rfl hA))
theorem PP_iadd : Rl_iadd PP := fun M pc ls st S r a b h0 k => PP_step k (fun _ a b => ⟨a, cfm (WFv_inl _ _) (fmc (fmc b).2).2⟩) (fun C _ _ _ _ L _ kk => lv_iadd C.1 C.2.1 h0 (kk _ L))
theorem PP_isub : Rl_isub PP := fun M pc ls st S r a b h0 k => PP_step k (fun _ a b => ⟨a, cfm (WFv_inl _ _) (fmc (fmc b).2).2⟩) (fun C _ _ _ _ L _ kk => lv_isub C.1 C.2.1 h0 (kk _ L))
theorem PP_imul : Rl_imul PP := fun M pc ls st S r a b h0 k => PP_step k (fun _ a b => ⟨a, cfm (WFv_inl _ _) (fmc (fmc b).2).2⟩) (fun C _ _ _ _ L _ kk => lv_imul C.1 C.2.1 h0 (kk _ L))
theorem PP_iand : Rl_iand PP := fun M pc ls st S r a b h0 k => PP_step k (fun _ a b => ⟨a, cfm (WFv_inl _ _) (fmc (fmc b).2).2⟩) (fun C _ _ _ _ L _ kk => lv_iand C.1 C.2.1 h0 (kk _ L))
theorem PP_idiv : Rl_idiv PP := fun M pc ls st S r a b h0 h1 k => PP_step k (fun _ a b => ⟨a, cfm (WFv_inl _ _) (fmc (fmc b).2).2⟩) (fun C _ _ _ _ L _ kk => lv_idiv C.1 C.2.1 h0 h1 (kk _ L))
theorem PP_irem : Rl_irem PP := fun M pc ls st S r a b h0 h1 k => PP_step k (fun _ a b => ⟨a, cfm (WFv_inl _ _) (fmc (fmc b).2).2⟩) (fun C _ _ _ _ L _ kk => lv_irem C.1 C.2.1 h0 h1 (kk _ L))
theorem PP_dadd : Rl_dadd PP := fun M pc ls st S r a b h0 h1 k => PP_step k (fun _ a b => ⟨a, cfm (WFv_inl _ _) (fmc (fmc b).2).2⟩) (fun C _ _ _ _ L _ kk => lv_dadd C.1 C.2.1 h0 h1 (kk _ L))
theorem PP_ddiv : Rl_ddiv PP := fun M pc ls st S r a b h0 h1 k => PP_step k (fun _ a b => ⟨a, cfm (WFv_inl _ _) (fmc (fmc b).2).2⟩) (fun C _ _ _ _ L _ kk => lv_ddiv C.1 C.2.1 h0 h1 (kk _ L))
theorem PP_ineg : Rl_ineg PP := fun M pc ls st S r a h0 k => PP_step k (fun _ a b => ⟨a, cfm (WFv_inl _ _) (fmc b).2⟩) (fun C _ _ _ _ L _ kk => lv_ineg C.1 C.2.1 h0 (kk _ L))
theorem PP_i2l : Rl_i2l PP := fun M pc ls st S r a h0 k => PP_step k (fun _ a b => ⟨a, cfm (WFv_inl _ _) (fmc b).2⟩) (fun C _ _ _ _ L _ kk => lv_i2l C.1 C.2.1 h0 rfl (kk _ L))
theorem PP_i2d : Rl_i2d PP := fun M pc ls st S r a h0 k => PP_step k (fun _ a b => ⟨a, cfm (WFv_inl _ _) (fmc b).2⟩) (fun C _ _ _ _ L _ kk => lv_i2d C.1 C.2.1 h0 (kk _ L))
theorem PP_lcmp : Rl_lcmp PP := fun M pc ls st S r a b h0 k => PP_step k (fun _ a b => ⟨a, cfm (WFv_inl _ _) (fmc (fmc b).2).2⟩) (fun C _ _ _ _ L _ kk => W.lcmp C.1 C.2.1 h0 (kk _ L))
theorem PP_dcmp : Rl_dcmp PP := fun M pc ls st S r a b op h0 k => PP_step k (fun _ a b => ⟨a, cfm (WFv_inl _ _) (fmc (fmc b).2).2⟩) (fun C _ _ _ _ L _ kk => lv_dcmp C.1 C.2.1 h0 (kk _ L))
theorem PP_dup : Rl_dup PP := fun M pc ls st S r v h0 h1 k => PP_step k (fun _ a b => ⟨a, cfm (fmc b).1 b⟩) (fun C _ _ _ _ L _ kk => lv_dup C.1 C.2.1 h0 ((tv_cat _ v).trans h1) (kk _ L))
theorem PP_dup2 : Rl_dup2 PP := fun M pc ls st S r v w h0 h1 h2 k => PP_step k (fun _ a b => ⟨a, cfm (fmc b).1 (cfm (fmc (fmc b).2).1 b)⟩) (fun C _ _ _ _ L _ kk => lv_dup2_11 C.1 C.2.1 h0 ((tv_cat _ v).trans h1) ((tv_cat _ w).trans h2) (kk _ L))
theorem PP_if_eq : Rl_if_eq PP := by
  intro M pc ls st S r x off tgt h0 h1 k1 k2
  by_cases hc : x = 0
  · exact PP_step (k1 hc) (fun _ a b => ⟨a, (fmc b).2⟩) (fun C _ _ _ _ L _ kk => lv_if_eq C.1 C.2.1 h0 h1 (fun _ => kk _ L) (fun n => absurd hc n))
  · exact PP_step (k2 hc) (fun _ a b => ⟨a, (fmc b).2⟩) (fun C _ _ _ _ L _ kk => lv_if_eq C.1 C.2.1 h0 h1 (fun n => absurd n hc) (fun _ => kk _ L))
theorem PP_if_ne : Rl_if_ne PP := by
  intro M pc ls st S r x off tgt h0 h1 k1 k2
  by_cases hc : ¬ x = 0
  · exact PP_step (k1 hc) (fun _ a b => ⟨a, (fmc b).2⟩) (fun C _ _ _ _ L _ kk => lv_if_ne C.1 C.2.1 h0 h1 (fun _ => kk _ L) (fun n => absurd n hc))
  · exact PP_step (k2 hc) (fun _ a b => ⟨a, (fmc b).2⟩) (fun C _ _ _ _ L _ kk => lv_if_ne C.1 C.2.1 h0 h1 (fun n => absurd n hc) (fun _ => kk _ L))
theorem PP_if_lt : Rl_if_lt PP := by
  intro M pc ls st S r x off tgt h0 h1 k1 k2
  by_cases hc : x < 0
  · exact PP_step (k1 hc) (fun _ a b => ⟨a, (fmc b).2⟩) (fun C _ _ _ _ L _ kk => lv_if_lt C.1 C.2.1 h0 h1 (fun _ => kk _ L) (fun n => absurd hc n))
  · exact PP_step (k2 hc) (fun _ a b => ⟨a, (fmc b).2⟩) (fun C _ _ _ _ L _ kk => lv_if_lt C.1 C.2.1 h0 h1 (fun n => absurd n hc) (fun _ => kk _ L))
theorem PP_if_ge : Rl_if_ge PP := by
  intro M pc ls st S r x off tgt h0 h1 k1 k2
  by_cases hc : 0 ≤ x
  · exact PP_step (k1 hc) (fun _ a b => ⟨a, (fmc b).2⟩) (fun C _ _ _ _ L _ kk => lv_if_ge C.1 C.2.1 h0 h1 (fun _ => kk _ L) (fun n => absurd hc n))
  · exact PP_step (k2 hc) (fun _ a b => ⟨a, (fmc b).2⟩) (fun C _ _ _ _ L _ kk => lv_if_ge C.1 C.2.1 h0 h1 (fun n => absurd n hc) (fun _ => kk _ L))
theorem PP_if_gt : Rl_if_gt PP := by
  intro M pc ls st S r x off tgt h0 h1 k1 k2
  by_cases hc : 0 < x
  · exact PP_step (k1 hc) (fun _ a b => ⟨a, (fmc b).2⟩) (fun C _ _ _ _ L _ kk => lv_if_gt C.1 C.2.1 h0 h1 (fun _ => kk _ L) (fun n => absurd hc n))
  · exact PP_step (k2 hc) (fun _ a b => ⟨a, (fmc b).2⟩) (fun C _ _ _ _ L _ kk => lv_if_gt C.1 C.2.1 h0 h1 (fun n => absurd n hc) (fun _ => kk _ L))
theorem PP_if_le : Rl_if_le PP := by
  intro M pc ls st S r x off tgt h0 h1 k1 k2
  by_cases hc : x ≤ 0
  · exact PP_step (k1 hc) (fun _ a b => ⟨a, (fmc b).2⟩) (fun C _ _ _ _ L _ kk => lv_if_le C.1 C.2.1 h0 h1 (fun _ => kk _ L) (fun n => absurd hc n))
  · exact PP_step (k2 hc) (fun _ a b => ⟨a, (fmc b).2⟩) (fun C _ _ _ _ L _ kk => lv_if_le C.1 C.2.1 h0 h1 (fun n => absurd n hc) (fun _ => kk _ L))
theorem PP_icmp_eq : Rl_icmp_eq PP := by
  intro M pc ls st S r x y off tgt h0 h1 k1 k2
  by_cases hc : x = y
  · exact PP_step (k1 hc) (fun _ a b => ⟨a, (fmc (fmc b).2).2⟩) (fun C _ _ _ _ L _ kk => lv_icmp_eq C.1 C.2.1 h0 h1 (fun _ => kk _ L) (fun n => absurd hc n))
  · exact PP_step (k2 hc) (fun _ a b => ⟨a, (fmc (fmc b).2).2⟩) (fun C _ _ _ _ L _ kk => lv_icmp_eq C.1 C.2.1 h0 h1 (fun n => absurd n hc) (fun _ => kk _ L))
theorem PP_icmp_ne : Rl_icmp_ne PP := by
  intro M pc ls st S r x y off tgt h0 h1 k1 k2
  by_cases hc : ¬ x = y
  · exact PP_step (k1 hc) (fun _ a b => ⟨a, (fmc (fmc b).2).2⟩) (fun C _ _ _ _ L _ kk => lv_icmp_ne C.1 C.2.1 h0 h1 (fun _ => kk _ L) (fun n => absurd n hc))
  · exact PP_step (k2 hc) (fun _ a b => ⟨a, (fmc (fmc b).2).2⟩) (fun C _ _ _ _ L _ kk => lv_icmp_ne C.1 C.2.1 h0 h1 (fun n => absurd n hc) (fun _ => kk _ L))
theorem PP_icmp_lt : Rl_icmp_lt PP := by
  intro M pc ls st S r x y off tgt h0 h1 k1 k2
  by_cases hc : x < y
  · exact PP_step (k1 hc) (fun _ a b => ⟨a, (fmc (fmc b).2).2⟩) (fun C _ _ _ _ L _ kk => lv_icmp_lt C.1 C.2.1 h0 h1 (fun _ => kk _ L) (fun n => absurd hc n))
  · exact PP_step (k2 hc) (fun _ a b => ⟨a, (fmc (fmc b).2).2⟩) (fun C _ _ _ _ L _ kk => lv_icmp_lt C.1 C.2.1 h0 h1 (fun n => absurd n hc) (fun _ => kk _ L))
theorem PP_icmp_ge : Rl_icmp_ge PP := by
  intro M pc ls st S r x y off tgt h0 h1 k1 k2
  by_cases hc : y ≤ x
  · exact PP_step (k1 hc) (fun _ a b => ⟨a, (fmc (fmc b).2).2⟩) (fun C _ _ _ _ L _ kk => lv_icmp_ge C.1 C.2.1 h0 h1 (fun _ => kk _ L) (fun n => absurd hc n))
  · exact PP_step (k2 hc) (fun _ a b => ⟨a, (fmc (fmc b).2).2⟩) (fun C _ _ _ _ L _ kk => lv_icmp_ge C.1 C.2.1 h0 h1 (fun n => absurd n hc) (fun _ => kk _ L))
theorem PP_icmp_gt : Rl_icmp_gt PP := by
  intro M pc ls st S r x y off tgt h0 h1 k1 k2
  by_cases hc : y < x
  · exact PP_step (k1 hc) (fun _ a b => ⟨a, (fmc (fmc b).2).2⟩) (fun C _ _ _ _ L _ kk => lv_icmp_gt C.1 C.2.1 h0 h1 (fun _ => kk _ L) (fun n => absurd hc n))
  · exact PP_step (k2 hc) (fun _ a b => ⟨a, (fmc (fmc b).2).2⟩) (fun C _ _ _ _ L _ kk => lv_icmp_gt C.1 C.2.1 h0 h1 (fun n => absurd n hc) (fun _ => kk _ L))
theorem PP_icmp_le : Rl_icmp_le PP := by
  intro M pc ls st S r x y off tgt h0 h1 k1 k2
  by_cases hc : x ≤ y
  · exact PP_step (k1 hc) (fun _ a b => ⟨a, (fmc (fmc b).2).2⟩) (fun C _ _ _ _ L _ kk => lv_icmp_le C.1 C.2.1 h0 h1 (fun _ => kk _ L) (fun n => absurd hc n))
  · exact PP_step (k2 hc) (fun _ a b => ⟨a, (fmc (fmc b).2).2⟩) (fun C _ _ _ _ L _ kk => lv_icmp_le C.1 C.2.1 h0 h1 (fun n => absurd n hc) (fun _ => kk _ L))
theorem PP_goto : Rl_goto PP := fun M pc ls st S r off tgt h0 h1 k => PP_step k (fun _ a b => ⟨a, b⟩) (fun C _ _ _ _ L _ kk => lv_goto C.1 C.2.1 h0 h1 (kk _ L))
theorem PP_tsIn : Rl_tsIn PP := fun M pc ls st S r x dflt lo hi offs len off tgt h0 h1 h2 h3 h4 k => PP_step k (fun _ a b => ⟨a, (fmc b).2⟩) (fun C _ _ _ _ L _ kk => lv_tableIn C.1 C.2.1 h0 h1 h2 h3 h4 (kk _ L))
theorem PP_tsOut : Rl_tsOut PP := fun M pc ls st S r x dflt lo hi offs len tgt h0 h1 h2 k => PP_step k (fun _ a b => ⟨a, (fmc b).2⟩) (fun C _ _ _ _ L _ kk => lv_tableOut C.1 C.2.1 h0 h1 h2 (kk _ L))
theorem PP_ifnull : Rl_ifnull PP := by
  intro M pc ls st S r x off tgt h0 h1 h2 k1 k2
  rcases rf_cases h2 with q | ⟨t, i, q⟩
  · subst q
    exact PP_step (k1 rfl) (fun _ a b => ⟨a, (fmc b).2⟩) (fun C _ _ _ _ L _ kk => lv_ifnullN C.1 C.2.1 h0 h1 (kk _ L))
  · subst q
    exact PP_step (k2 (by intro q; cases q)) (fun _ a b => ⟨a, (fmc b).2⟩) (fun C _ _ _ _ L _ kk => lv_ifnull C.1 C.2.1 h0 (kk _ L))
theorem PP_ifnonnull : Rl_ifnonnull PP := by
  intro M pc ls st S r x off tgt h0 h1 h2 k1 k2
  rcases rf_cases h2 with q | ⟨t, i, q⟩
  · subst q
    exact PP_step (k2 rfl) (fun _ a b => ⟨a, (fmc b).2⟩) (fun C _ _ _ _ L _ kk => lv_ifnonnullN C.1 C.2.1 h0 (kk _ L))
  · subst q
    exact PP_step (k1 (by intro q; cases q)) (fun _ a b => ⟨a, (fmc b).2⟩) (fun C _ _ _ _ L _ kk => lv_ifnonnull C.1 C.2.1 h0 h1 (kk _ L))
theorem PP_forget : Rl_forget PP := by
  intro M pc ls st S r ls2 h0 k
  refine PP_step k (fun _ a b => ⟨fun v hv => ?_, b⟩) (fun C _ _ _ _ L _ kk => kk _ (LR_forget L h0))
  obtain ⟨k, hk⟩ := List.getElem?_of_mem hv
  rcases h0.2 k v hk with q | q
  · rw [q]; exact WFv_inl _ _
  · exact a v (List.mem_of_getElem? q.1)
