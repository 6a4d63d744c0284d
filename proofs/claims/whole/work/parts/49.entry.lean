/-! SOUNDNESS: a callee's first frame -/
theorem lv_args_1 : ∀ (vs : List Value) (i : Nat), (∀ v ∈ vs, v.category = 1) → ∀ (k : Nat) (v : Value), vs[k]? = some v → (i + k, v) ∈ lv_args i vs := by
  intro vs
  induction vs with
  | nil => intro i _ k v h; simp at h
  | cons a vs ih =>
    intro i hc k v h
    have ha := hc a List.mem_cons_self
    unfold lv_args
    rw [if_neg (by omega)]
    cases k with
    | zero => cases h; exact List.mem_cons_self
    | succ k =>
      refine List.mem_cons_of_mem _ ?_
      have := ih (i + 1) (fun w hw => hc w (List.mem_cons_of_mem _ hw)) k v (by simpa using h)
      rw [show i + (k + 1) = i + 1 + k by omega]
      exact this
theorem lg_len : ∀ (vs : List Value), (∀ v ∈ vs, v.category = 1) → (lg_sl vs).length = vs.length := by
  intro vs
  induction vs with
  | nil => intro _; rfl
  | cons a vs ih =>
    intro hc
    have ha := hc a List.mem_cons_self
    have := ih (fun w hw => hc w (List.mem_cons_of_mem _ hw))
    show (lg_sl (a :: vs)).length = vs.length + 1
    unfold lg_sl at this ⊢
    rw [List.flatMap_cons, if_neg (by omega), List.length_append, this]
    simp
    omega
theorem argB_1 {v : AV} (h : argB v = true) : avC v = 1 := by
  match v, h with
  | .inl (.int _), _ => rfl
  | .inl .null, _ => rfl
  | .inr _, _ => rfl
