/-! WHAT STAYS TRUE of the state's form -/
def tOk (K : KT) (i : Nat) : Prop := K.2 2 i ≤ 10 ∧ K.2 1 i ≤ K.2 2 i ∧ K.2 3 i ≤ K.2 0 1 ∧ (K.1 6 i = 0 ∨ K.1 6 i = 1 ∨ K.1 6 i = 2) ∧ (K.1 6 i = 2 ↔ ¬ K.2 3 i = 0) ∧ (K.1 6 i = 2 → K.2 1 i < K.2 2 i)
def sOk (K : KT) (i k : Nat) : Prop := (K.1 26 (10 * i + k) = 0 ∧ ∃ a, 1 ≤ a ∧ a ≤ 20 ∧ K.1 27 (10 * i + k) = nI a) ∨ ((K.1 26 (10 * i + k) = 1 ∨ K.1 26 (10 * i + k) = 2) ∧ ∃ m, m < K.2 0 1 ∧ K.1 27 (10 * i + k) = nI m)
def Inv (K : KT) : Prop := (K.2 0 0 ≤ 8 ∧ K.2 0 1 ≤ 4 ∧ K.2 0 2 ≤ K.2 0 0 ∧ K.2 0 4 = K.2 0 3 % 40) ∧ (∀ m, m < K.2 0 1 → K.2 4 m ≤ K.2 0 0) ∧ (∀ i, i < K.2 0 0 → tOk K i) ∧ (∀ i k, i < K.2 0 0 → k < K.2 2 i → sOk K i k)
theorem Inv.next {K : KT} (h : Inv K) : K.2 0 4 < 40 := by rw [h.1.2.2.2]; omega
/-- fields that the form does not speak of -/
theorem Inv_irr {K : KT} (h : Inv K) {f : Nat} (i : Nat) (v : Int32) (h6 : f ≠ 6) (h26 : f ≠ 26) (h27 : f ≠ 27) : Inv (sI K f i v) := by
  have e6 : ∀ j, (sI K f i v).1 6 j = K.1 6 j := fun j => if_neg (fun q => h6 q.symm)
  have e26 : ∀ j, (sI K f i v).1 26 j = K.1 26 j := fun j => if_neg (fun q => h26 q.symm)
  have e27 : ∀ j, (sI K f i v).1 27 j = K.1 27 j := fun j => if_neg (fun q => h27 q.symm)
  unfold Inv tOk sOk at h ⊢
  simp only [e6, e26, e27, sI_2]
  exact h
theorem Inv_arr {K : KT} (h : Inv K) {f : Nat} (g : Nat → Int32) (h6 : f ≠ 6) (h26 : f ≠ 26) (h27 : f ≠ 27) : Inv (setA K f g) := by
  have e6 : ∀ j, (setA K f g).1 6 j = K.1 6 j := fun j => if_neg (fun q => h6 q.symm)
  have e26 : ∀ j, (setA K f g).1 26 j = K.1 26 j := fun j => if_neg (fun q => h26 q.symm)
  have e27 : ∀ j, (setA K f g).1 27 j = K.1 27 j := fun j => if_neg (fun q => h27 q.symm)
  unfold Inv tOk sOk at h ⊢
  simp only [e6, e26, e27, setA_2]
  exact h
theorem Inv_weigh {K : KT} (h : Inv K) : Inv (weighK K) := Inv_arr (Inv_arr h _ (by decide) (by decide) (by decide)) _ (by decide) (by decide) (by decide)
theorem Inv_note {K : KT} (h : Inv K) (w : Int32) (t : Nat) : Inv (noteK K w t) := by
  obtain ⟨⟨h1, h2, h3, h4⟩, h5, h6, h7⟩ := h
  refine ⟨⟨h1, h2, h3, ?_⟩, h5, h6, h7⟩
  show (K.2 0 4 + 1) % 40 = (K.2 0 3 + 1) % 40
  rw [h4]; omega
theorem Inv_own {K : KT} (h : Inv K) (m o : Nat) (ho : o ≤ K.2 0 0) : Inv (sN K 4 m o) := by
  obtain ⟨h1, h5, h6, h7⟩ := h
  refine ⟨h1, fun q hq => ?_, h6, h7⟩
  show (if q = m then o else K.2 4 q) ≤ K.2 0 0
  split
  · exact ho
  · exact h5 q hq
theorem Inv_last {K : KT} (h : Inv K) (o : Nat) (ho : o ≤ K.2 0 0) : Inv (sN K 0 2 o) := by
  obtain ⟨⟨h1, h2, h3, h4⟩, h5, h6, h7⟩ := h
  exact ⟨⟨h1, h2, ho, h4⟩, h5, h6, h7⟩
/-- a task's state, its step, where it waits: any change of one task's own three -/
theorem Inv_task {K L : KT} (h : Inv K) (t : Nat) (hs : ∀ i, i ≠ t → L.1 6 i = K.1 6 i ∧ L.2 1 i = K.2 1 i ∧ L.2 3 i = K.2 3 i) (hg : ∀ i, L.2 0 i = K.2 0 i) (hz : ∀ i, L.2 2 i = K.2 2 i) (ho : ∀ i, L.2 4 i = K.2 4 i) (hk : ∀ i, L.1 26 i = K.1 26 i) (ha : ∀ i, L.1 27 i = K.1 27 i) (ht : t < K.2 0 0 → tOk L t) : Inv L := by
  obtain ⟨h1, h5, h6, h7⟩ := h
  refine ⟨by simp only [hg]; exact h1, fun m hm => by rw [ho, hg]; exact h5 m (by rw [hg] at hm; exact hm), fun i hi => ?_, fun i k hi hk2 => ?_⟩
  · rw [hg] at hi
    by_cases e : i = t
    · rw [e]; exact ht (e ▸ hi)
    · have := h6 i hi
      unfold tOk at this ⊢
      rw [hz, (hs i e).2.1, (hs i e).2.2, (hs i e).1, hg]
      exact this
  · rw [hg] at hi
    rw [hz] at hk2
    have := h7 i k hi hk2
    unfold sOk at this ⊢
    rw [hk, ha, hg]
    exact this
theorem Inv_idle {K : KT} (h : Inv K) (t : Nat) : Inv (sN (sI K 6 t 0) 3 t 0) := by
  refine Inv_task h t (fun i e => ⟨?_, rfl, ?_⟩) (fun _ => rfl) (fun _ => rfl) (fun _ => rfl) (fun _ => rfl) (fun _ => rfl) (fun ht => ?_)
  · show (if i = t then (0 : Int32) else K.1 6 i) = _
    rw [if_neg e]
  · show (if i = t then 0 else K.2 3 i) = _
    rw [if_neg e]
  · obtain ⟨a1, a2, -⟩ := h.2.2.1 t ht
    have e6 : (sN (sI K 6 t 0) 3 t 0).1 6 t = 0 := by show (if t = t then (0 : Int32) else _) = 0; rw [if_pos rfl]
    have e3 : (sN (sI K 6 t 0) 3 t 0).2 3 t = 0 := by show (if t = t then 0 else _) = 0; rw [if_pos rfl]
    refine ⟨a1, a2, by rw [e3]; omega, Or.inl e6, ?_, ?_⟩
    · rw [e6, e3]; exact ⟨fun q => absurd q (by decide), fun q => absurd rfl q⟩
    · rw [e6]; exact fun q => absurd q (by decide)
theorem Inv_wake {K : KT} (h : Inv K) (t : Nat) (hw : t < K.2 0 0 → ¬ K.2 3 t = 0) : Inv (wakeK K t) := by
  unfold wakeK
  refine Inv_note ?_ _ _
  refine Inv_task h t (fun i e => ⟨?_, ?_, ?_⟩) (fun _ => rfl) (fun _ => rfl) (fun _ => rfl) (fun _ => rfl) (fun _ => rfl) (fun ht => ?_)
  · show (if i = t then (1 : Int32) else K.1 6 i) = _
    rw [if_neg e]
  · show (if i = t then _ else K.2 1 i) = _
    rw [if_neg e]
  · show (if i = t then 0 else K.2 3 i) = _
    rw [if_neg e]
  · obtain ⟨a1, a2, a3, a4, a5, a6⟩ := h.2.2.1 t ht
    have hlt := a6 (a5.mpr (hw ht))
    generalize hL : (sI (sN (sI (sN (sI (sI K 28 3 (K.1 28 3 + 1)) 6 t 1) 3 t 0) 11 t (K.1 28 3 + 1)) 1 t (K.2 1 t + 1)) 7 t 0) = L
    have e6 : L.1 6 t = 1 := by rw [← hL]; show (if t = t then (1 : Int32) else _) = 1; rw [if_pos rfl]
    have e3 : L.2 3 t = 0 := by rw [← hL]; show (if t = t then 0 else _) = 0; rw [if_pos rfl]
    have e1 : L.2 1 t = K.2 1 t + 1 := by rw [← hL]; show (if t = t then _ else _) = _; rw [if_pos rfl]
    have e2 : L.2 2 t = K.2 2 t := by rw [← hL]; rfl
    refine ⟨by rw [e2]; exact a1, by rw [e1, e2]; omega, by rw [e3]; omega, Or.inr (Or.inl e6), ?_, ?_⟩
    · rw [e6, e3]; exact ⟨fun q => absurd q (by decide), fun q => absurd rfl q⟩
    · rw [e6]; exact fun q => absurd q (by decide)
theorem heirN_in (K : KT) (R : Nat → Int32) (m : Nat) : ∀ (j t b : Nat), (∀ h, b = h + 1 → h < t ∧ K.2 3 h = m + 1) → ∀ h, heirN K R m j t b = h + 1 → h < t + j ∧ K.2 3 h = m + 1 := by
  intro j
  induction j with
  | zero => intro t b hb h e; exact hb h e
  | succ j ih =>
    intro t b hb h e
    have := ih (t + 1) (heir1 K R m b t) (fun g eg => ?_) h e
    · exact ⟨by omega, this.2⟩
    · unfold heir1 at eg
      by_cases hw : K.2 3 t = m + 1
      · rw [if_pos hw] at eg
        match b, hb, eg with
        | 0, _, eg => cases eg; exact ⟨by omega, hw⟩
        | c + 1, hb, eg =>
          dsimp only at eg
          by_cases hi : inher K R t c = true
          · rw [if_pos hi] at eg; cases eg; exact ⟨by omega, hw⟩
          · rw [if_neg hi] at eg; have := hb g eg; exact ⟨by omega, this.2⟩
      · rw [if_neg hw] at eg; have := hb g eg; exact ⟨by omega, this.2⟩
theorem heirK_in {K : KT} {m h : Nat} (e : heirK K m = h + 1) : h < K.2 0 0 ∧ K.2 3 h = m + 1 := by
  have := heirN_in K (VR K) m (K.2 0 0) 0 0 (fun _ q => by cases q) h e
  exact ⟨by omega, this.2⟩
theorem Inv_give {K : KT} (h : Inv K) (m : Nat) : Inv (giveK K m) := by
  unfold giveK
  cases e : heirK K m with
  | zero => exact Inv_own (Inv_weigh h) m 0 (by omega)
  | succ g =>
    obtain ⟨h1, h2⟩ := heirK_in e
    exact Inv_wake (Inv_own (Inv_weigh h) m (g + 1) h1) g (fun _ q => by have h3 : K.2 3 g = 0 := q; omega)
theorem Inv_giveN (t : Nat) : ∀ (j m : Nat) (K : KT), Inv K → Inv (giveN t j m K) := by
  intro j
  induction j with
  | zero => intro m K h; exact h
  | succ j ih =>
    intro m K h
    refine ih _ _ ?_
    split
    · exact Inv_give h m
    · exact h
theorem Inv_end {K : KT} (h : Inv K) (t : Nat) (c : Int32) : Inv (endK K t c) := Inv_giveN t _ _ _ (Inv_idle (Inv_note h c t) t)
theorem Inv_fail {K : KT} (h : Inv K) (t : Nat) : Inv (failK K t) := Inv_end (Inv_irr h t _ (by decide) (by decide) (by decide)) t 3
theorem Inv_done {K : KT} (h : Inv K) (t : Nat) (w : Int32) : Inv (doneK K t w) := Inv_end (Inv_irr (Inv_irr h t _ (by decide) (by decide) (by decide)) t _ (by decide) (by decide) (by decide)) t 2
theorem Inv_block {K : KT} (h : Inv K) (t m : Nat) (hm : m < K.2 0 1) (ht : K.2 1 t < K.2 2 t) : Inv (blockK K t m) := by
  unfold blockK
  refine Inv_note ?_ _ _
  refine Inv_task h t (fun i e => ⟨?_, rfl, ?_⟩) (fun _ => rfl) (fun _ => rfl) (fun _ => rfl) (fun _ => rfl) (fun _ => rfl) (fun hl => ?_)
  · show (if i = t then (2 : Int32) else K.1 6 i) = _
    rw [if_neg e]
  · show (if i = t then m + 1 else K.2 3 i) = _
    rw [if_neg e]
  · obtain ⟨a1, a2, -⟩ := h.2.2.1 t hl
    generalize hL : (sI (sN (sI (sI K 28 3 (K.1 28 3 + 1)) 6 t 2) 3 t (m + 1)) 11 t (K.1 28 3 + 1)) = L
    have e6 : L.1 6 t = 2 := by rw [← hL]; show (if t = t then (2 : Int32) else _) = 2; rw [if_pos rfl]
    have e3 : L.2 3 t = m + 1 := by rw [← hL]; show (if t = t then m + 1 else _) = _; rw [if_pos rfl]
    have e1 : L.2 1 t = K.2 1 t := by rw [← hL]; rfl
    have e2 : L.2 2 t = K.2 2 t := by rw [← hL]; rfl
    have e0 : L.2 0 1 = K.2 0 1 := by rw [← hL]; rfl
    refine ⟨by rw [e2]; exact a1, by rw [e1, e2]; exact a2, by rw [e3, e0]; omega, Or.inr (Or.inr e6), ?_, ?_⟩
    · rw [e6, e3]; exact ⟨fun _ => by omega, fun _ => rfl⟩
    · rw [e1, e2]; exact fun _ => ht
theorem Inv_pass {K : KT} (h : Inv K) (t : Nat) (ht : K.2 1 t < K.2 2 t) (h6 : ¬ K.1 6 t = 2) : Inv (passK K t) := by
  refine Inv_task h t (fun i e => ⟨rfl, ?_, rfl⟩) (fun _ => rfl) (fun _ => rfl) (fun _ => rfl) (fun _ => rfl) (fun _ => rfl) (fun hl => ?_)
  · show (if i = t then _ else K.2 1 i) = _
    rw [if_neg e]
  · obtain ⟨a1, a2, a3, a4, a5, a6⟩ := h.2.2.1 t hl
    have e1 : (passK K t).2 1 t = K.2 1 t + 1 := by show (if t = t then _ else _) = _; rw [if_pos rfl]
    exact ⟨a1, by rw [e1]; exact ht, a3, a4, a5, fun q => absurd q h6⟩
theorem Inv_begin {K : KT} (h : Inv K) (t : Nat) : Inv (beginK K t) := by
  unfold beginK
  split
  · next h0 =>
    refine Inv_note ?_ _ _
    refine Inv_task h t (fun i e => ⟨?_, ?_, rfl⟩) (fun _ => rfl) (fun _ => rfl) (fun _ => rfl) (fun _ => rfl) (fun _ => rfl) (fun hl => ?_)
    · show (if i = t then (1 : Int32) else K.1 6 i) = _
      rw [if_neg e]
    · show (if i = t then 0 else K.2 1 i) = _
      rw [if_neg e]
    · obtain ⟨a1, a2, a3, a4, a5, a6⟩ := h.2.2.1 t hl
      generalize hL : (sI (sI (sI (sI (sI (sI (sN (sI (sI K 28 3 (K.1 28 3 + 1)) 6 t 1) 1 t 0) 7 t 0) 14 t 0) 8 t 0) 9 t (K.1 28 2)) 10 t (K.1 28 2 + K.1 3 t)) 11 t (K.1 28 3 + 1)) = L
      have e6 : L.1 6 t = 1 := by rw [← hL]; show (if t = t then (1 : Int32) else _) = 1; rw [if_pos rfl]
      have e3 : L.2 3 t = K.2 3 t := by rw [← hL]; rfl
      have e1 : L.2 1 t = 0 := by rw [← hL]; show (if t = t then 0 else _) = 0; rw [if_pos rfl]
      have e2 : L.2 2 t = K.2 2 t := by rw [← hL]; rfl
      have e0 : L.2 0 1 = K.2 0 1 := by rw [← hL]; rfl
      have hw : K.2 3 t = 0 := Classical.byContradiction fun q => absurd (h0.symm.trans (a5.mpr q)) (by decide)
      refine ⟨by rw [e2]; exact a1, by rw [e1]; omega, by rw [e3, e0]; exact a3, Or.inr (Or.inl e6), ?_, ?_⟩
      · rw [e6, e3, hw]; exact ⟨fun q => absurd q (by decide), fun q => absurd rfl q⟩
      · rw [e6]; exact fun q => absurd q (by decide)
  · exact Inv_note (Inv_irr h t _ (by decide) (by decide) (by decide)) _ _
