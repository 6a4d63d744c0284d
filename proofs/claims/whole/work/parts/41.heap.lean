/-! SOUNDNESS: the heap -/
def aR (U : State) (H : Heap) (a : Nat) (ty : FieldType) (n : Nat) (V : Nat → Value) : Prop := ∃ cell : Cell, H[a]? = some cell ∧ U.isArrayOf cell ty ∧ cell.vm ≠ .unknown ∧ (∀ C, ty = .object C → va_RA U cell.cls (.object C)) ∧ cell.slots.size = n ∧ n < 2 ^ 31 ∧ ∀ j, j < n → cell.slots[j]? = some (V j)
theorem aR.kept {U : State} {H H1 : Heap} {a : Nat} {ty : FieldType} {n : Nat} {V : Nat → Value} (h : aR U H a ty n V) (h1 : H1[a]? = H[a]?) : aR U H1 a ty n V := by
  obtain ⟨cell, q, r⟩ := h
  exact ⟨cell, by rw [h1]; exact q, r⟩
theorem aR.to {U : State} {H : Heap} {a : Nat} {ty : FieldType} {n n2 : Nat} {V V2 : Nat → Value} (h : aR U H a ty n V) (hn : n = n2) (hv : ∀ k, k < n → V k = V2 k) : aR U H a ty n2 V2 := by
  subst hn
  obtain ⟨cell, q, r1, r2, r3, r4, r6, r5⟩ := h
  exact ⟨cell, q, r1, r2, r3, r4, r6, fun k hk => by rw [← hv k hk]; exact r5 k hk⟩
theorem aR.moved {u U : State} {H : Heap} {a : Nat} {ty : FieldType} {n : Nat} {V : Nat → Value} (hvm : u.vm.Alike U.vm) (h : aR u H a ty n V) : aR U H a ty n V := by
  obtain ⟨cell, q, r1, r2, r3, r4, r5⟩ := h
  exact ⟨cell, q, State.isArrayOf_alike hvm r1, r2, fun C e => (r3 C e).moved hvm, r4, r5⟩
def HR (D : va_G) (B : Nat) (α : AD) (S : Sto) (U : State) (H : Heap) : Prop :=
  (∀ t i, 1 ≤ t → t ≤ 8 → i < S.2 t → B ≤ α t i ∧ t_OB (α t i) (D.1 t) (NN t) (D.2 t) H (fun k => tv α (S.1 t i k))) ∧
  (∀ t i ty, aTy t = some ty → i < S.2 t → (t ≠ 18 → B ≤ α t i) ∧ aR U H (α t i) ty (lenA S t) (fun k => tv α (S.1 t i k))) ∧
  (∀ t i t' i', tagK t = true → tagK t' = true → i < S.2 t → i' < S.2 t' → α t i = α t' i' → t = t' ∧ i = i')
theorem HR.moved {D : va_G} {B : Nat} {α : AD} {S : Sto} {u U : State} {H : Heap} (hvm : u.vm.Alike U.vm) (h : HR D B α S u H) : HR D B α S U H :=
  ⟨h.1, fun t i ty e hi => ⟨(h.2.1 t i ty e hi).1, (h.2.1 t i ty e hi).2.moved hvm⟩, h.2.2⟩
theorem HR.lt {D : va_G} {B : Nat} {α : AD} {S : Sto} {U : State} {H : Heap} (h : HR D B α S U H) {t i : Nat} (ht : tagK t = true) (hi : i < S.2 t) : α t i < H.size := by
  unfold tagK at ht
  rcases Bool.or_eq_true_iff.mp ht with q | q
  · rw [Bool.and_eq_true, decide_eq_true_eq, decide_eq_true_eq] at q
    obtain ⟨cell, e, -⟩ := (h.1 t i q.1 q.2 hi).2
    exact (Array.getElem?_eq_some_iff.mp e).1
  · obtain ⟨ty, e0⟩ := Option.isSome_iff_exists.mp q
    obtain ⟨cell, e, -⟩ := (h.2.1 t i ty e0 hi).2
    exact (Array.getElem?_eq_some_iff.mp e).1
theorem aTy_no {t : Nat} (h1 : 1 ≤ t) (h2 : t ≤ 8) : aTy t = none := by
  match t, h1, h2 with
  | 1, _, _ => rfl
  | 2, _, _ => rfl
  | 3, _, _ => rfl
  | 4, _, _ => rfl
  | 5, _, _ => rfl
  | 6, _, _ => rfl
  | 7, _, _ => rfl
  | 8, _, _ => rfl
  | t + 9, _, h => omega
/-- one place of one thing is written -/
theorem HR_set {D : va_G} {B : Nat} {α : AD} {S : Sto} {U : State} {H H1 : Heap} (h : HR D B α S U H) {t i k : Nat} {v : AV} (htk : tagK t = true) (hi : i < S.2 t) (ho : ∀ q, q ≠ α t i → H1[q]? = H[q]?)
    (hobj : 1 ≤ t → t ≤ 8 → t_OB (α t i) (D.1 t) (NN t) (D.2 t) H1 (fun j => tv α (if j = k then v else S.1 t i j))) (harr : ∀ ty, aTy t = some ty → aR U H1 (α t i) ty (lenA S t) (fun j => tv α (if j = k then v else S.1 t i j))) : HR D B α (setS S t i k v) U H1 := by
  have hs : ∀ j, (setS S t i k v).1 t i j = if j = k then v else S.1 t i j := fun j => by
    show (if t = t ∧ i = i ∧ j = k then v else S.1 t i j) = _
    by_cases q : j = k
    · rw [if_pos ⟨rfl, rfl, q⟩, if_pos q]
    · rw [if_neg (fun c => q c.2.2), if_neg q]
  have hn : ∀ t' i' j, ¬ (t' = t ∧ i' = i) → (setS S t i k v).1 t' i' j = S.1 t' i' j := fun t' i' j q => if_neg (fun c => q ⟨c.1, c.2.1⟩)
  refine ⟨fun t' i' h1 h2 h3 => ?_, fun t' i' ty h1 h2 => ?_, h.2.2⟩
  · by_cases q : t' = t ∧ i' = i
    · obtain ⟨q1, q2⟩ := q
      subst q1; subst q2
      exact ⟨(h.1 t' i' h1 h2 hi).1, (hobj h1 h2).to (fun j _ => by rw [hs])⟩
    · have hne : α t' i' ≠ α t i := fun e => q (h.2.2 t' i' t i (tagK_o h1 h2) htk h3 hi e)
      exact ⟨(h.1 t' i' h1 h2 h3).1, ((h.1 t' i' h1 h2 h3).2.kept (ho _ hne)).to (fun j _ => by rw [hn t' i' j q])⟩
  · by_cases q : t' = t ∧ i' = i
    · obtain ⟨q1, q2⟩ := q
      subst q1; subst q2
      exact ⟨(h.2.1 t' i' ty h1 hi).1, (harr ty h1).to rfl (fun j _ => by rw [hs])⟩
    · have hne : α t' i' ≠ α t i := fun e => q (h.2.2 t' i' t i (tagK_a h1) htk h2 hi e)
      exact ⟨(h.2.1 t' i' ty h1 h2).1, ((h.2.1 t' i' ty h1 h2).2.kept (ho _ hne)).to rfl (fun j _ => by rw [hn t' i' j q])⟩
def updA (α : AD) (t i a : Nat) : AD := fun t' i' => if t' = t ∧ i' = i then a else α t' i'
theorem updA_e (α : AD) (t i a : Nat) : updA α t i a t i = a := if_pos ⟨rfl, rfl⟩
theorem updA_n (α : AD) {t i t' i' a : Nat} (h : ¬ (t' = t ∧ i' = i)) : updA α t i a t' i' = α t' i' := if_neg h
theorem Ext_new (S : Sto) (α : AD) (t a : Nat) : Ext S α (updA α t (S.2 t) a) := fun t' i' hi => updA_n α (fun q => by obtain ⟨q1, q2⟩ := q; subst q1; omega)
/-- one thing more is made, at the heap's end -/
theorem HR_new {D : va_G} {B : Nat} {α : AD} {S S2 : Sto} {U : State} {H H1 : Heap} (h : HR D B α S U H) (hW : WFS S) {t w : Nat} {d : Nat → AV} (ht : tagK t = true) (hB : B ≤ H.size) (e2 : S2.2 = bump S.2 t w) (e1 : ∀ t' i' k', S2.1 t' i' k' = if t' = t ∧ i' = S.2 t then d k' else S.1 t' i' k')
    (hd : ∀ k, ∃ x, d k = .inl x) (ho : ∀ q, q < H.size → H1[q]? = H[q]?)
    (hobj : 1 ≤ t → t ≤ 8 → t_OB H.size (D.1 t) (NN t) (D.2 t) H1 (fun j => tv α (d j))) (harr : ∀ ty, aTy t = some ty → aR U H1 H.size ty (lenA S t) (fun j => tv α (d j))) : HR D B (updA α t (S.2 t) H.size) S2 U H1 := by
  have h9 := tag_lt ht
  have hX := Ext_new S α t H.size
  have hold : ∀ t' i', tagK t' = true → i' < S2.2 t' → ¬ (t' = t ∧ i' = S.2 t) → i' < S.2 t' := by
    intro t' i' h1 h2 q
    rw [e2] at h2
    by_cases q2 : t' = t
    · subst q2
      rw [bump_self] at h2
      have : ¬ i' = S.2 t' := fun q3 => q ⟨rfl, q3⟩
      omega
    · rw [bump_other (by omega) (by have := tag_lt h1; omega) q2] at h2
      exact h2
  have hdv : ∀ β : AD, ∀ j, tv β (d j) = tv α (d j) := fun β j => by obtain ⟨x, e⟩ := hd j; rw [e]; rfl
  refine ⟨fun t' i' h1 h2 h3 => ?_, fun t' i' ty h1 h2 => ?_, fun t1 i1 t3 i3 k1 k3 l1 l3 e => ?_⟩
  · by_cases q : t' = t ∧ i' = S.2 t
    · obtain ⟨q1, q2⟩ := q
      subst q1; subst q2
      rw [updA_e]
      exact ⟨hB, (hobj h1 h2).to (fun j _ => by rw [e1, if_pos ⟨rfl, rfl⟩]; exact (hdv _ j).symm)⟩
    · have hi := hold t' i' (tagK_o h1 h2) h3 q
      rw [updA_n α q]
      refine ⟨(h.1 t' i' h1 h2 hi).1, ((h.1 t' i' h1 h2 hi).2.kept (ho _ (h.lt (tagK_o h1 h2) hi))).to (fun j hj => ?_)⟩
      rw [e1, if_neg q]
      exact (tv_ext hX (hW t' i' j (tagK_o h1 h2) hi (by unfold wid; rw [if_pos h2]; exact hj)).v).symm
  · have hlen := (wid_bump (S := S) (S2 := S2) (by omega) e2 t').2
    by_cases q : t' = t ∧ i' = S.2 t
    · obtain ⟨q1, q2⟩ := q
      subst q1; subst q2
      rw [updA_e]
      exact ⟨fun _ => hB, (harr ty h1).to hlen.symm (fun j _ => by rw [e1, if_pos ⟨rfl, rfl⟩]; exact (hdv _ j).symm)⟩
    · have hi := hold t' i' (tagK_a h1) h2 q
      rw [updA_n α q]
      refine ⟨(h.2.1 t' i' ty h1 hi).1, ((h.2.1 t' i' ty h1 hi).2.kept (ho _ (h.lt (tagK_a h1) hi))).to hlen.symm (fun j hj => ?_)⟩
      have h8 : ¬ t' ≤ 8 := fun q8 => by
        by_cases q0 : 1 ≤ t'
        · rw [aTy_no q0 q8] at h1; cases h1
        · rw [show t' = 0 by omega] at h1; cases h1
      rw [e1, if_neg q]
      exact (tv_ext hX (hW t' i' j (tagK_a h1) hi (by unfold wid; rw [if_neg h8]; exact hj)).v).symm
  · by_cases q1 : t1 = t ∧ i1 = S.2 t
    · by_cases q3 : t3 = t ∧ i3 = S.2 t
      · exact ⟨q1.1.trans q3.1.symm, q1.2.trans q3.2.symm⟩
      · have hi := hold t3 i3 k3 l3 q3
        have := h.lt k3 hi
        rw [updA_n α q3, q1.1, q1.2, updA_e] at e
        omega
    · have hi1 := hold t1 i1 k1 l1 q1
      have hl1 := h.lt k1 hi1
      by_cases q3 : t3 = t ∧ i3 = S.2 t
      · rw [updA_n α q1, q3.1, q3.2, updA_e] at e
        omega
      · rw [updA_n α q1, updA_n α q3] at e
        exact h.2.2 t1 i1 t3 i3 k1 k3 hi1 (hold t3 i3 k3 l3 q3) e
theorem HR_eqv {D : va_G} {B : Nat} {α : AD} {S S2 : Sto} {U : State} {H : Heap} (h : HR D B α S U H) (e : EqS S S2) : HR D B α S2 U H := by
  have hl : ∀ t, lenA S t = lenA S2 t := fun t => by unfold lenA; rw [e.1]
  refine ⟨fun t i h1 h2 h3 => ?_, fun t i ty h1 h2 => ?_, fun t i t' i' k1 k2 l1 l2 => ?_⟩
  · rw [← e.1] at h3
    exact ⟨(h.1 t i h1 h2 h3).1, (h.1 t i h1 h2 h3).2.to (fun j hj => by rw [e.2 t i j h3 (by unfold wid; rw [if_pos h2]; exact hj)])⟩
  · rw [← e.1] at h2
    have h8 : ¬ t ≤ 8 := fun q8 => by
      by_cases q0 : 1 ≤ t
      · rw [aTy_no q0 q8] at h1; cases h1
      · rw [show t = 0 by omega] at h1; cases h1
    exact ⟨(h.2.1 t i ty h1 h2).1, (h.2.1 t i ty h1 h2).2.to (hl t) (fun j hj => by rw [e.2 t i j h2 (by unfold wid; rw [if_neg h8]; exact hj)])⟩
  · rw [← e.1] at l1 l2
    exact h.2.2 t i t' i' k1 k2 l1 l2
/-- an exception more: nothing lies elsewhere -/
theorem HR_newX {D : va_G} {B : Nat} {α : AD} {S : Sto} {U : State} {H H1 : Heap} (h : HR D B α S U H) (hW : WFS S) (i a : Nat) (hi19 : S.2 19 ≤ i) (ho : ∀ q, q < H.size → H1[q]? = H[q]?) : HR D B (updA α 19 i a) S U H1 := by
  have hX : Ext S α (updA α 19 i a) := fun t' i' hi => updA_n α (fun q => by obtain ⟨q1, q2⟩ := q; subst q1; omega)
  refine ⟨fun t i h1 h2 h3 => ?_, fun t i ty h1 h2 => ?_, fun t1 i1 t3 i3 k1 k3 l1 l3 e => ?_⟩
  · rw [hX t i h3]
    exact ⟨(h.1 t i h1 h2 h3).1, ((h.1 t i h1 h2 h3).2.kept (ho _ (h.lt (tagK_o h1 h2) h3))).to (fun j hj => (tv_ext hX (hW t i j (tagK_o h1 h2) h3 (by unfold wid; rw [if_pos h2]; exact hj)).v).symm)⟩
  · have h8 : ¬ t ≤ 8 := fun q8 => by
      by_cases q0 : 1 ≤ t
      · rw [aTy_no q0 q8] at h1; cases h1
      · rw [show t = 0 by omega] at h1; cases h1
    rw [hX t i h2]
    exact ⟨(h.2.1 t i ty h1 h2).1, ((h.2.1 t i ty h1 h2).2.kept (ho _ (h.lt (tagK_a h1) h2))).to rfl (fun j hj => (tv_ext hX (hW t i j (tagK_a h1) h2 (by unfold wid; rw [if_neg h8]; exact hj)).v).symm)⟩
  · rw [hX t1 i1 l1, hX t3 i3 l3] at e
    exact h.2.2 t1 i1 t3 i3 k1 k3 l1 l3 e
