/-! LENDING COMES TO A STAND within as many rounds as there are tasks -/
theorem php : ∀ (n : Nat) (h : Nat → Nat), (∀ i, i ≤ n → h i < n) → ∃ a b, a < b ∧ b ≤ n ∧ h a = h b := by
  intro n
  induction n with
  | zero => intro h hh; exact absurd (hh 0 (Nat.le_refl 0)) (Nat.not_lt_zero _)
  | succ n ih =>
    intro h hh
    by_cases hx : ∃ a, a ≤ n ∧ h a = h (n + 1)
    · obtain ⟨a, ha, e⟩ := hx
      exact ⟨a, n + 1, by omega, Nat.le_refl _, e⟩
    · have hne : ∀ a, a ≤ n → h a ≠ h (n + 1) := fun a ha e => hx ⟨a, ha, e⟩
      have hl := hh (n + 1) (Nat.le_refl _)
      obtain ⟨a, b, h1, h2, h3⟩ := ih (fun i => if h (n + 1) < h i then h i - 1 else h i) (fun i hi => by
        have h4 := hh i (by omega)
        have h5 := hne i hi
        show (if h (n + 1) < h i then h i - 1 else h i) < n
        split <;> omega)
      refine ⟨a, b, h1, by omega, ?_⟩
      have ha := hne a (by omega)
      have hb := hne b (by omega)
      have h3' : (if h (n + 1) < h a then h a - 1 else h a) = (if h (n + 1) < h b then h b - 1 else h b) := h3
      split at h3' <;> split at h3' <;> omega
def nxt (K : KT) (u : Nat) : Nat := if u < K.2 0 0 then (match lendTo K u with
  | 0 => u
  | t + 1 => t) else u
def itn (f : Nat → Nat) : Nat → Nat → Nat
  | 0, v => v
  | j + 1, v => f (itn f j v)
theorem itn_add (f : Nat → Nat) : ∀ (a b v : Nat), itn f (a + b) v = itn f a (itn f b v) := by
  intro a
  induction a with
  | zero => intro b v; rw [Nat.zero_add]; rfl
  | succ a ih => intro b v; rw [Nat.succ_add]; show f (itn f (a + b) v) = f (itn f a (itn f b v)); rw [ih]
theorem lendTo_le {K : KT} (h : Inv K) {u : Nat} (hu : u < K.2 0 0) : lendTo K u ≤ K.2 0 0 := by
  unfold lendTo
  have h3 := (h.2.2.1 u hu).2.2.1
  split
  · omega
  · next m e =>
    split
    · exact h.2.1 m (by rw [e] at h3; omega)
    · omega
theorem nxt_lt {K : KT} (h : Inv K) {u : Nat} (hu : u < K.2 0 0) : nxt K u < K.2 0 0 := by
  unfold nxt
  rw [if_pos hu]
  have := lendTo_le h hu
  split
  · exact hu
  · next t e => omega
theorem itn_lt {K : KT} (h : Inv K) {u : Nat} (hu : u < K.2 0 0) : ∀ j, itn (nxt K) j u < K.2 0 0 := by
  intro j
  induction j with
  | zero => exact hu
  | succ j ih => exact nxt_lt h ih
theorem itn_ge {K : KT} {u : Nat} (hu : ¬ u < K.2 0 0) : ∀ j, itn (nxt K) j u = u := by
  intro j
  induction j with
  | zero => rfl
  | succ j ih => show nxt K (itn (nxt K) j u) = u; rw [ih]; unfold nxt; rw [if_neg hu]
theorem orbit {K : KT} (h : Inv K) {v : Nat} (hv : v < K.2 0 0) : ∀ (N j : Nat), j < N → ∃ j', j' ≤ K.2 0 0 ∧ itn (nxt K) j' v = itn (nxt K) j v := by
  intro N
  induction N with
  | zero => intro j hj; exact absurd hj (Nat.not_lt_zero _)
  | succ N ih =>
    intro j hj
    by_cases hs : j ≤ K.2 0 0
    · exact ⟨j, hs, rfl⟩
    · obtain ⟨a, b, h1, h2, h3⟩ := php (K.2 0 0) (fun i => itn (nxt K) i v) (fun i _ => itn_lt h hv i)
      have h3' : itn (nxt K) a v = itn (nxt K) b v := h3
      obtain ⟨j', h4, h5⟩ := ih (j - b + a) (by omega)
      refine ⟨j', h4, h5.trans ?_⟩
      rw [itn_add, h3', ← itn_add, show j - b + b = j by omega]
theorem lendF_nxt {K : KT} {R : Nat → Int32} {u : Nat} (hu : u < K.2 0 0) : lendF K R u = if R (nxt K u) < R u then updF R (nxt K u) (R u) else R := by
  unfold lendF nxt
  rw [if_pos hu]
  cases e : lendTo K u with
  | zero => exact (if_neg (fun q => Int32.lt_irrefl q)).symm
  | succ t => rfl
theorem lendF_mono {K : KT} {R : Nat → Int32} {u : Nat} (hu : u < K.2 0 0) (t : Nat) : R t ≤ lendF K R u t := by
  rw [lendF_nxt hu]
  split
  · next h =>
    unfold updF
    split
    · next e => rw [e]; exact Int32.le_of_lt h
    · exact Int32.le_refl _
  · exact Int32.le_refl _
theorem lendF_step {K : KT} {R : Nat → Int32} {u : Nat} (hu : u < K.2 0 0) : R u ≤ lendF K R u (nxt K u) := by
  rw [lendF_nxt hu]
  split
  · unfold updF; rw [if_pos rfl]; exact Int32.le_refl _
  · next h => exact Int32.not_lt.mp h
theorem lendN_mono {K : KT} : ∀ (j i : Nat) (R : Nat → Int32), i + j ≤ K.2 0 0 → ∀ t, R t ≤ lendN K j i R t := by
  intro j
  induction j with
  | zero => intro i R _ t; exact Int32.le_refl _
  | succ j ih => intro i R h t; exact Int32.le_trans (lendF_mono (by omega) t) (ih (i + 1) _ (by omega) t)
theorem lendN_step {K : KT} : ∀ (j i : Nat) (R : Nat → Int32), i + j ≤ K.2 0 0 → ∀ u, i ≤ u → u < i + j → R u ≤ lendN K j i R (nxt K u) := by
  intro j
  induction j with
  | zero => intro i R _ u h1 h2; omega
  | succ j ih =>
    intro i R h u h1 h2
    by_cases e : u = i
    · subst e
      exact Int32.le_trans (lendF_step (by omega)) (lendN_mono j (u + 1) _ (by omega) _)
    · exact Int32.le_trans (lendF_mono (u := i) (by omega) u) (ih (i + 1) _ (by omega) u (by omega) (by omega))
theorem itF_mono {K : KT} : ∀ (k : Nat) (R : Nat → Int32) (t : Nat), R t ≤ itF K k R t := by
  intro k
  induction k with
  | zero => intro R t; exact Int32.le_refl _
  | succ k ih => intro R t; rw [itF_s]; exact Int32.le_trans (ih R t) (lendN_mono _ 0 _ (by omega) t)
theorem itF_reach {K : KT} (h : Inv K) : ∀ (k j : Nat) (R : Nat → Int32) (v : Nat), v < K.2 0 0 → j ≤ k → R v ≤ itF K k R (itn (nxt K) j v) := by
  intro k
  induction k with
  | zero => intro j R v hv hj; rw [show j = 0 by omega]; exact Int32.le_refl _
  | succ k ih =>
    intro j R v hv hj
    rw [itF_s]
    cases j with
    | zero => exact Int32.le_trans (itF_mono k R v) (lendN_mono _ 0 _ (by omega) v)
    | succ j =>
      refine Int32.le_trans (ih j R v hv (by omega)) ?_
      exact lendN_step (K.2 0 0) 0 _ (by omega) (itn (nxt K) j v) (by omega) (by have := itn_lt h hv j; omega)
def comes (K : KT) (R R' : Nat → Int32) : Prop := ∀ t, ∃ v j, itn (nxt K) j v = t ∧ R' t = R v
theorem comes_F {K : KT} {R R' : Nat → Int32} (hc : comes K R R') {u : Nat} (hu : u < K.2 0 0) : comes K R (lendF K R' u) := by
  intro t
  rw [lendF_nxt hu]
  split
  · unfold updF
    split
    · next e =>
      obtain ⟨v, j, h1, h2⟩ := hc u
      exact ⟨v, j + 1, by rw [e]; show nxt K (itn (nxt K) j v) = _; rw [h1], h2⟩
    · exact hc t
  · exact hc t
theorem comes_N {K : KT} {R : Nat → Int32} : ∀ (j i : Nat) (R' : Nat → Int32), i + j ≤ K.2 0 0 → comes K R R' → comes K R (lendN K j i R') := by
  intro j
  induction j with
  | zero => intro i R' _ h; exact h
  | succ j ih => intro i R' h hc; exact ih (i + 1) _ (by omega) (comes_F hc (by omega))
theorem comes_it {K : KT} {R : Nat → Int32} : ∀ k, comes K R (itF K k R) := by
  intro k
  induction k with
  | zero => exact fun t => ⟨t, 0, rfl, rfl⟩
  | succ k ih => rw [itF_s]; exact comes_N _ 0 _ (by omega) ih
theorem lendN_id {K : KT} {R : Nat → Int32} (h : ∀ u, u < K.2 0 0 → lendF K R u = R) : ∀ (j i : Nat), i + j ≤ K.2 0 0 → lendN K j i R = R := by
  intro j
  induction j with
  | zero => intro i _; rfl
  | succ j ih => intro i hi; show lendN K j (i + 1) (lendF K R i) = R; rw [h i (by omega)]; exact ih _ (by omega)
theorem conv {K : KT} (h : Inv K) (R : Nat → Int32) : lendN K (K.2 0 0) 0 (itF K (K.2 0 0) R) = itF K (K.2 0 0) R := by
  refine lendN_id (fun u hu => ?_) _ 0 (by omega)
  rw [lendF_nxt hu]
  refine if_neg ?_
  obtain ⟨v, j, h1, h2⟩ := comes_it (K := K) (R := R) (K.2 0 0) u
  have hv : v < K.2 0 0 := Classical.byContradiction fun q => by rw [itn_ge q] at h1; omega
  obtain ⟨j', h3, h4⟩ := orbit h hv (j + 2) (j + 1) (by omega)
  have h5 : itn (nxt K) (j + 1) v = nxt K u := by show nxt K (itn (nxt K) j v) = _; rw [h1]
  rw [Int32.not_lt, h2, ← h5, ← h4]
  exact itF_reach h (K.2 0 0) j' R v hv h3
