/-! SOUNDNESS: the locals -/
def LR (α : AD) (n : Nat) (ls : List AV) (A : Array Slot) : Prop := ls.length = n ∧ A.size = n ∧ lv_wf A ∧ (∀ (k : Nat) (v : AV), ls[k]? = some v → v ≠ vU → v ≠ vU2 → A[k]? = some (Slot.val (tv α v))) ∧ ∀ (k : Nat) (v : AV), ls[k]? = some v → avC v = 2 → ls[k + 1]? = some vU2
def kn1 (α : AD) (ls : List AV) (k : Nat) : Option (Nat × Value) := match ls[k]? with
  | none => none
  | some v => if v = vU ∨ v = vU2 then none else some (k, tv α v)
def kn (α : AD) (ls : List AV) : List (Nat × Value) := (List.range ls.length).filterMap (kn1 α ls)
theorem kn_mem {α : AD} {ls : List AV} {k : Nat} {v : AV} (h : ls[k]? = some v) (h1 : v ≠ vU) (h2 : v ≠ vU2) : (k, tv α v) ∈ kn α ls := by
  refine List.mem_filterMap.mpr ⟨k, List.mem_range.mpr (List.getElem?_eq_some_iff.mp h).1, ?_⟩
  unfold kn1
  rw [h]
  exact if_neg (fun q => q.elim h1 h2)
theorem LR.has {α : AD} {n : Nat} {ls : List AV} {A : Array Slot} (h : LR α n ls A) : lv_has A n (kn α ls) := by
  refine ⟨h.2.1, h.2.2.1, fun q hq => ?_⟩
  obtain ⟨k, -, e⟩ := List.mem_filterMap.mp hq
  unfold kn1 at e
  split at e
  · cases e
  · next v hv =>
    split at e
    · cases e
    · next hne =>
      cases e
      exact h.2.2.2.1 k v hv (fun q => hne (Or.inl q)) (fun q => hne (Or.inr q))
theorem nU2_ne {o : Option AV} (h : nU2 o = true) : o ≠ some vU2 := by
  intro q
  subst q
  exact absurd h (by decide)
theorem LR_set1 {α : AD} {n : Nat} {ls : List AV} {A A1 : Array Slot} {i : Nat} {v : AV} (h : LR α n ls A) (hi : i < n) (hu : nU2 ls[i]? = true) (hc : avC v = 1)
    (h1 : lv_has A1 n ((i, tv α v) :: (kn α ls).filter (fun q => !(q.1 == i) && !(q.1 + 1 == i && q.2.category == 2)))) : LR α n (ls.set i v) A1 := by
  obtain ⟨l1, l2, l3, l4, l5⟩ := h
  refine ⟨by rw [List.length_set]; exact l1, h1.1, h1.2.1, fun k w hk n1 n2 => ?_, fun k w hk c2 => ?_⟩
  · by_cases q : i = k
    · subst q
      rw [List.getElem?_set_self (by omega)] at hk
      cases hk
      exact h1.2.2 _ List.mem_cons_self
    · rw [List.getElem?_set_ne q] at hk
      refine h1.2.2 (k, tv α w) (List.mem_cons_of_mem _ (List.mem_filter.mpr ⟨kn_mem hk n1 n2, ?_⟩))
      have e1 : (k == i) = false := by simpa using fun e : k = i => q e.symm
      have e2 : (k + 1 == i && (tv α w).category == 2) = false := by
        by_cases q2 : k + 1 = i
        · have : ¬ avC w = 2 := fun c => nU2_ne hu (by rw [← q2]; exact l5 k w hk c)
          rw [tv_cat]
          simp [this]
        · simp [q2]
      simp only [e1, e2]
      rfl
  · by_cases q : i = k
    · subst q
      rw [List.getElem?_set_self (by omega)] at hk
      cases hk
      omega
    · rw [List.getElem?_set_ne q] at hk
      have e := l5 k w hk c2
      by_cases q2 : i = k + 1
      · exact absurd (by rw [q2]; exact e) (nU2_ne hu)
      · rw [List.getElem?_set_ne q2]; exact e
theorem LR_set2 {α : AD} {n : Nat} {ls : List AV} {A A1 : Array Slot} {i : Nat} {x : UInt64} (h : LR α n ls A) (hi : i + 1 < n) (hu : nU2 ls[i]? = true)
    (h1 : lv_has A1 n ((i, Value.double x) :: (kn α ls).filter (fun q => !(q.1 == i) && (!(q.1 == i + 1) && !(q.1 + 1 == i && q.2.category == 2))))) : LR α n ((ls.set i (vD x)).set (i + 1) vU2) A1 := by
  obtain ⟨l1, l2, l3, l4, l5⟩ := h
  have hl : (ls.set i (vD x)).length = ls.length := List.length_set
  refine ⟨by rw [List.length_set, hl]; exact l1, h1.1, h1.2.1, fun k w hk n1 n2 => ?_, fun k w hk c2 => ?_⟩
  · by_cases q0 : i + 1 = k
    · subst q0
      rw [List.getElem?_set_self (by omega)] at hk
      cases hk
      exact absurd rfl n2
    · rw [List.getElem?_set_ne q0] at hk
      by_cases q : i = k
      · subst q
        rw [List.getElem?_set_self (by omega)] at hk
        cases hk
        exact h1.2.2 _ List.mem_cons_self
      · rw [List.getElem?_set_ne q] at hk
        refine h1.2.2 (k, tv α w) (List.mem_cons_of_mem _ (List.mem_filter.mpr ⟨kn_mem hk n1 n2, ?_⟩))
        have e1 : (k == i) = false := by simpa using fun e : k = i => q e.symm
        have e0 : (k == i + 1) = false := by simpa using fun e : k = i + 1 => q0 e.symm
        have e2 : (k + 1 == i && (tv α w).category == 2) = false := by
          by_cases q2 : k + 1 = i
          · have : ¬ avC w = 2 := fun c => nU2_ne hu (by rw [← q2]; exact l5 k w hk c)
            rw [tv_cat]
            simp [this]
          · simp [q2]
        simp only [e1, e0, e2]
        rfl
  · by_cases q0 : i + 1 = k
    · subst q0
      rw [List.getElem?_set_self (by omega)] at hk
      cases hk
      exact absurd c2 (by decide)
    · rw [List.getElem?_set_ne q0] at hk
      by_cases q : i = k
      · subst q
        rw [List.getElem?_set_self (by omega)]
      · rw [List.getElem?_set_ne q] at hk
        have e := l5 k w hk c2
        by_cases q2 : i = k + 1
        · exact absurd (by rw [q2]; exact e) (nU2_ne hu)
        · by_cases q3 : i + 1 = k + 1
          · omega
          · rw [List.getElem?_set_ne q3, List.getElem?_set_ne q2]; exact e
theorem LR_forget {α : AD} {n : Nat} {ls ls2 : List AV} {A : Array Slot} (h : LR α n ls A) (hf : Forg ls ls2) : LR α n ls2 A := by
  obtain ⟨l1, l2, l3, l4, l5⟩ := h
  refine ⟨hf.1.trans l1, l2, l3, fun k v hk n1 n2 => ?_, fun k v hk c2 => ?_⟩
  · rcases hf.2 k v hk with q | q
    · exact absurd q n1
    · exact l4 k v q.1 n1 n2
  · rcases hf.2 k v hk with q | q
    · subst q; exact absurd c2 (by decide)
    · omega
theorem LR_ext {S : Sto} {α β : AD} {n : Nat} {ls : List AV} {A : Array Slot} (h : LR α n ls A) (hX : Ext S α β) (hw : ∀ v ∈ ls, WFv S v) : LR β n ls A :=
  ⟨h.1, h.2.1, h.2.2.1, fun k v hk n1 n2 => by rw [tv_ext hX (hw v (List.mem_of_getElem? hk))]; exact h.2.2.2.1 k v hk n1 n2, h.2.2.2.2⟩
