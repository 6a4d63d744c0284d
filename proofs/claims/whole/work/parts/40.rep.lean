/-! SOUNDNESS: what a store stands for in the machine -/
abbrev AD : Type := Nat → Nat → Nat
def tv (α : AD) (v : AV) : Value := match v with
  | .inl x => x
  | .inr q => .ref (α q.1 q.2)
def tagK (t : Nat) : Bool := (decide (1 ≤ t) && decide (t ≤ 8)) || (aTy t).isSome
theorem tagK_o {t : Nat} (h1 : 1 ≤ t) (h2 : t ≤ 8) : tagK t = true := by unfold tagK; rw [decide_eq_true h1, decide_eq_true h2]; rfl
theorem tagK_a {t : Nat} {ty : FieldType} (h : aTy t = some ty) : tagK t = true := by unfold tagK; rw [h]; exact Bool.or_true _
theorem tv_cat (α : AD) (v : AV) : (tv α v).category = avC v := by
  cases v with
  | inl x => rfl
  | inr q => rfl
/-- references point at what has been made -/
def WFs (S : Sto) (v : AV) : Prop := ∀ t i, v = .inr (t, i) → tagK t = true ∧ i < S.2 t
def WFv (S : Sto) (v : AV) : Prop := ∀ t i, v = .inr (t, i) → (tagK t = true ∨ t = 19) ∧ i < S.2 t
def WFS (S : Sto) : Prop := ∀ t i k, tagK t = true → i < S.2 t → k < wid t S → WFs S (S.1 t i k)
def Mono (S S2 : Sto) : Prop := ∀ t, S.2 t ≤ S2.2 t
def Ext (S : Sto) (α β : AD) : Prop := ∀ t i, i < S.2 t → β t i = α t i
theorem Mono.rf (S : Sto) : Mono S S := fun _ => Nat.le_refl _
theorem Mono.tr {S S1 S2 : Sto} (h1 : Mono S S1) (h2 : Mono S1 S2) : Mono S S2 := fun t => Nat.le_trans (h1 t) (h2 t)
theorem Ext.rf (S : Sto) (α : AD) : Ext S α α := fun _ _ _ => rfl
theorem Ext.tr {S S1 : Sto} {α β γ : AD} (h1 : Ext S α β) (hm : Mono S S1) (h2 : Ext S1 β γ) : Ext S α γ := fun t i hi => (h2 t i (Nat.lt_of_lt_of_le hi (hm t))).trans (h1 t i hi)
theorem WFs.v {S : Sto} {v : AV} (h : WFs S v) : WFv S v := fun t i e => ⟨Or.inl (h t i e).1, (h t i e).2⟩
theorem WFs.mono {S S2 : Sto} {v : AV} (h : WFs S v) (hm : Mono S S2) : WFs S2 v := fun t i e => ⟨(h t i e).1, Nat.lt_of_lt_of_le (h t i e).2 (hm t)⟩
theorem WFv.mono {S S2 : Sto} {v : AV} (h : WFv S v) (hm : Mono S S2) : WFv S2 v := fun t i e => ⟨(h t i e).1, Nat.lt_of_lt_of_le (h t i e).2 (hm t)⟩
theorem WFv_inl (S : Sto) (x : Value) : WFv S (.inl x) := fun t i e => nomatch e
theorem WFs_inl (S : Sto) (x : Value) : WFs S (.inl x) := fun t i e => nomatch e
theorem tv_ext {S : Sto} {α β : AD} (h : Ext S α β) {v : AV} (hv : WFv S v) : tv β v = tv α v := by
  cases v with
  | inl x => rfl
  | inr q =>
    obtain ⟨t, i⟩ := q
    show Value.ref (β t i) = Value.ref (α t i)
    rw [h t i (hv t i rfl).2]
theorem tv_exts {S : Sto} {α β : AD} (h : Ext S α β) {l : List AV} (hv : ∀ v ∈ l, WFv S v) : l.map (tv β) = l.map (tv α) := List.map_congr_left fun v hm => tv_ext h (hv v hm)
theorem dflt_inl (ty : FieldType) : ∃ x, dflt ty = .inl x := by cases ty <;> exact ⟨_, rfl⟩
theorem WFs_dflt (S : Sto) (ty : FieldType) : WFs S (dflt ty) := by
  obtain ⟨x, e⟩ := dflt_inl ty
  rw [e]
  exact WFs_inl S x
theorem WFS_set {S : Sto} (h : WFS S) {t i k : Nat} {v : AV} (hv : WFs S v) : WFS (setS S t i k v) := by
  intro t' i' k' h1 h2 h3
  show WFs S (if t' = t ∧ i' = i ∧ k' = k then v else S.1 t' i' k')
  split
  · exact hv
  · exact h t' i' k' h1 h2 h3
theorem bump_le (c : Nat → Nat) (t w j : Nat) : c j ≤ bump c t w j := by
  unfold bump
  split
  · next h => rw [h]; exact Nat.le_succ _
  · split
    · next h => rw [h]; exact Nat.le_succ _
    · split
      · next h => rw [h]; exact Nat.le_add_right _ _
      · exact Nat.le_refl _
theorem Mono_newO (S : Sto) (t : Nat) : Mono S (newO S t) := fun j => bump_le _ _ _ j
theorem Mono_newA (S : Sto) (t : Nat) : Mono S (newA S t) := fun j => bump_le _ _ _ j
theorem Mono_newX (S : Sto) : Mono S (newX S) := fun j => bump_le _ _ _ j
theorem Mono_set (S : Sto) (t i k : Nat) (v : AV) : Mono S (setS S t i k v) := fun _ => Nat.le_refl _
theorem tag_lt {t : Nat} (h : tagK t = true) : t < 59 := by
  by_cases h2 : t < 59
  · exact h2
  · have e : aTy t = none := by
      unfold aTy
      split <;> first | omega | rfl
    unfold tagK at h
    rw [e, decide_eq_false (show ¬ t ≤ 8 by omega)] at h
    simp at h
/-- a step that makes one thing more, of tag t -/
theorem bump_other {c : Nat → Nat} {t w j : Nat} (ht : t < 100) (hj : j < 100) (hne : ¬ j = t) : bump c t w j = c j := by
  unfold bump
  rw [if_neg hne, if_neg (by omega), if_neg (by omega)]
theorem bump_102 {c : Nat → Nat} {t w : Nat} (ht : t < 100) : bump c t w 102 = c 102 := by
  unfold bump
  rw [if_neg (by omega), if_neg (by omega), if_neg (by omega)]
theorem bump_100 {c : Nat → Nat} {t w : Nat} (ht : t < 100) : bump c t w 100 = c 100 + 1 := by
  unfold bump
  rw [if_neg (by omega), if_pos rfl]
theorem bump_101 {c : Nat → Nat} {t w : Nat} (ht : t < 100) : bump c t w 101 = c 101 + w := by
  unfold bump
  rw [if_neg (by omega), if_neg (by omega), if_pos rfl]
theorem bump_self (c : Nat → Nat) (t w : Nat) : bump c t w t = c t + 1 := if_pos rfl
theorem wid_bump {S S2 : Sto} {t w : Nat} (ht : t < 100) (e : S2.2 = bump S.2 t w) (t' : Nat) : wid t' S2 = wid t' S ∧ lenA S2 t' = lenA S t' := by
  have : lenA S2 t' = lenA S t' := by unfold lenA; rw [e, bump_102 ht]
  exact ⟨by unfold wid; rw [this], this⟩
theorem WFS_new {S S2 : Sto} {t w : Nat} {d : Nat → AV} (h : WFS S) (ht : tagK t = true) (e2 : S2.2 = bump S.2 t w) (e1 : ∀ t' i' k', S2.1 t' i' k' = if t' = t ∧ i' = S.2 t then d k' else S.1 t' i' k') (hd : ∀ k, WFs S2 (d k)) : WFS S2 := by
  have h9 := tag_lt ht
  have hm : Mono S S2 := fun j => by rw [e2]; exact bump_le _ _ _ j
  intro t' i' k' h1 h2 h3
  rw [e1]
  by_cases q : t' = t ∧ i' = S.2 t
  · rw [if_pos q]; exact hd k'
  · rw [if_neg q]
    rw [(wid_bump (by omega) e2 t').1] at h3
    have hi : i' < S.2 t' := by
      rw [e2] at h2
      by_cases q2 : t' = t
      · subst q2
        rw [bump_self] at h2
        have : ¬ i' = S.2 t' := fun q3 => q ⟨rfl, q3⟩
        omega
      · rw [bump_other (by omega) (by have := tag_lt h1; omega) q2] at h2
        exact h2
    exact (h t' i' k' h1 hi h3).mono hm
theorem WFS_newO {S : Sto} (h : WFS S) {t : Nat} (ht : tagK t = true) : WFS (newO S t) := WFS_new (d := fun k => dflt (tyT t k)) h ht rfl (fun _ _ _ => rfl) (fun k => WFs_dflt _ _)
theorem WFS_newA {S : Sto} (h : WFS S) {t : Nat} (ht : tagK t = true) : WFS (newA S t) := WFS_new (d := fun _ => dflt ((aTy t).getD .int)) h ht rfl (fun _ _ _ => rfl) (fun k => WFs_dflt _ _)
theorem WFS_newX {S : Sto} (h : WFS S) : WFS (newX S) := by
  intro t i k h1 h2 h3
  have h9 := tag_lt h1
  have h19 : ¬ t = 19 := fun q => by rw [q] at h1; exact absurd h1 (by decide)
  have e : bump S.2 19 6 t = S.2 t := bump_other (by omega) (by omega) h19
  have h2' : i < bump S.2 19 6 t := h2
  rw [e] at h2'
  rw [(wid_bump (S := S) (S2 := newX S) (by omega) rfl t).1] at h3
  exact (h t i k h1 h2' h3).mono (Mono_newX S)
theorem WFS_eqv {S S2 : Sto} (h : WFS S) (e : EqS S S2) : WFS S2 := by
  intro t i k h1 h2 h3
  have h2' : i < S.2 t := by rw [e.1]; exact h2
  have hw : wid t S = wid t S2 := by unfold wid lenA; rw [e.1]
  rw [← e.2 t i k h2' (by rw [hw]; exact h3)]
  exact (h t i k h1 h2' (by rw [hw]; exact h3)).mono (fun j => by rw [e.1]; exact Nat.le_refl _)
