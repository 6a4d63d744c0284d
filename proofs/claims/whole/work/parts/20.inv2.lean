/-! WORK DONE AT A STEP, NUMBERS, EVENTS: what stays true -/
def wlOk (K : KT) (t : Nat) : Prop := (K.1 7 t = 0 ∧ K.1 14 t = 0) ∨ (K.1 6 t = 1 ∧ K.2 1 t < K.2 2 t ∧ K.1 26 (10 * t + K.2 1 t) = 0 ∧ ∃ w a, 1 ≤ w ∧ w < a ∧ a ≤ 20 ∧ K.1 27 (10 * t + K.2 1 t) = nI a ∧ K.1 7 t = nI w ∧ K.1 14 t = nI (a - w))
def WL (K : KT) : Prop := ∀ t, t < K.2 0 0 → ¬ K.1 6 t = 0 → wlOk K t
def Num (K : KT) (T : Nat) : Prop := K.1 28 2 = nI T ∧ ∀ t, t < K.2 0 0 → (∃ d, d ≤ T + 200 ∧ K.1 10 t = nI d) ∧ (∃ d, d ≤ 200 ∧ K.1 3 t = nI d) ∧ (∃ p, p ≤ 200 ∧ K.1 1 t = nI p)
def ph (K : KT) (t : Nat) : Nat := if K.1 6 t = 0 then 0 else if K.1 6 t = 1 then 2 * (K.2 2 t - K.2 1 t) + 2 else 2 * (K.2 2 t - K.2 1 t) + 1
def PhN (K : KT) : Nat → Nat
  | 0 => 0
  | j + 1 => PhN K j + ph K j
def Ph (K : KT) : Nat := PhN K (K.2 0 0)
theorem PhN_same {K L : KT} : ∀ n, (∀ i, i < n → ph L i = ph K i) → PhN L n = PhN K n := by
  intro n
  induction n with
  | zero => intro _; rfl
  | succ n ih => intro h; show PhN L n + ph L n = PhN K n + ph K n; rw [ih (fun i hi => h i (by omega)), h n (by omega)]
theorem PhN_one {K L : KT} (t : Nat) : ∀ n, t < n → (∀ i, i < n → i ≠ t → ph L i = ph K i) → PhN L n + ph K t = PhN K n + ph L t := by
  intro n
  induction n with
  | zero => intro h; omega
  | succ n ih =>
    intro ht h
    show PhN L n + ph L n + ph K t = PhN K n + ph K n + ph L t
    by_cases e : t = n
    · subst e
      rw [PhN_same t (fun i hi => h i (by omega) (by omega))]
      omega
    · have := ih (by omega) (fun i hi => h i (by omega))
      rw [h n (by omega) (fun q => e q.symm)]
      omega
theorem PhN_le {K : KT} (hi : Inv K) : ∀ n, n ≤ K.2 0 0 → PhN K n ≤ 22 * n := by
  intro n
  induction n with
  | zero => intro _; exact Nat.le_refl 0
  | succ n ih =>
    intro h
    have h1 := ih (by omega)
    have h2 := (hi.2.2.1 n (by omega)).1
    show PhN K n + ph K n ≤ _
    have : ph K n ≤ 22 := by unfold ph; split <;> (try split) <;> omega
    omega
theorem Ph_le {K : KT} (hi : Inv K) : Ph K ≤ 176 := by
  have := PhN_le hi (K.2 0 0) (Nat.le_refl _)
  have := hi.1.1
  unfold Ph; omega
def After (K L : KT) : Prop := (WL K → WL L) ∧ (∀ T, Num K T → Num L T) ∧ L.2 0 3 + Ph L ≤ K.2 0 3 + Ph K ∧ Ph L ≤ Ph K ∧ L.2 0 0 = K.2 0 0 ∧ L.1 28 2 = K.1 28 2
theorem After.rf (K : KT) : After K K := ⟨fun h => h, fun _ h => h, Nat.le_refl _, Nat.le_refl _, rfl, rfl⟩
theorem After.tr {K L N : KT} (h1 : After K L) (h2 : After L N) : After K N := by
  obtain ⟨a1, a2, a3, a4, a5, a6⟩ := h1
  obtain ⟨b1, b2, b3, b4, b5, b6⟩ := h2
  exact ⟨fun h => b1 (a1 h), fun T h => b2 T (a2 T h), by omega, by omega, b5.trans a5, b6.trans a6⟩
theorem Ph_eq {K L : KT} (hn : L.2 0 0 = K.2 0 0) (h : ∀ i, ph L i = ph K i) : Ph L = Ph K := by unfold Ph; rw [hn]; exact PhN_same _ (fun i _ => h i)
theorem Ph_one {K L : KT} (hn : L.2 0 0 = K.2 0 0) {t : Nat} (ht : t < K.2 0 0) (h : ∀ i, i ≠ t → ph L i = ph K i) : Ph L + ph K t = Ph K + ph L t := by unfold Ph; rw [hn]; exact PhN_one t _ ht (fun i _ e => h i e)
/-- a note costs one event -/
theorem note_Ph (K : KT) (w : Int32) (t : Nat) : Ph (noteK K w t) = Ph K := Ph_eq rfl (fun _ => rfl)
theorem A_of {K L : KT} (h1 : WL K → WL L) (h2 : ∀ T, Num K T → Num L T) (h3 : L.2 0 3 = K.2 0 3) (h4 : Ph L = Ph K) (h5 : L.2 0 0 = K.2 0 0) (h6 : L.1 28 2 = K.1 28 2) : After K L := ⟨h1, h2, by rw [h3, h4]; exact Nat.le_refl _, by rw [h4]; exact Nat.le_refl _, h5, h6⟩
theorem weigh_A (K : KT) : After K (weighK K) := A_of (fun h => h) (fun _ h => h) rfl (Ph_eq rfl (fun _ => rfl)) rfl rfl
theorem own_A (K : KT) (m o : Nat) : After K (sN K 4 m o) := A_of (fun h => h) (fun _ h => h) rfl (Ph_eq rfl (fun _ => rfl)) rfl rfl
theorem ne1 (t i : Nat) (e : i ≠ t) {α : Type} (a b : α) : (if i = t then a else b) = b := if_neg e
theorem wake_A {K : KT} (h : Inv K) {t : Nat} (ht : t < K.2 0 0) (hw : ¬ K.2 3 t = 0) : After K (wakeK K t) ∧ Ph (wakeK K t) + 1 = Ph K := by
  obtain ⟨a1, a2, a3, a4, a5, a6⟩ := h.2.2.1 t ht
  have s2 := a5.mpr hw
  have hlt := a6 s2
  have e6 : (wakeK K t).1 6 t = 1 := by show (if t = t then (1 : Int32) else _) = 1; rw [if_pos rfl]
  have e1 : (wakeK K t).2 1 t = K.2 1 t + 1 := by show (if t = t then _ else _) = _; rw [if_pos rfl]
  have e2 : (wakeK K t).2 2 t = K.2 2 t := rfl
  have o6 : ∀ i, i ≠ t → (wakeK K t).1 6 i = K.1 6 i := fun i e => ne1 t i e _ _
  have o1 : ∀ i, i ≠ t → (wakeK K t).2 1 i = K.2 1 i := fun i e => ne1 t i e _ _
  have o7 : ∀ i, i ≠ t → (wakeK K t).1 7 i = K.1 7 i := fun i e => ne1 t i e _ _
  have hP : Ph (wakeK K t) + 1 = Ph K := by
    have := Ph_one (K := K) (L := wakeK K t) rfl ht (fun i e => by unfold ph; rw [o6 i e, o1 i e]; rfl)
    have p1 : ph K t = 2 * (K.2 2 t - K.2 1 t) + 1 := by unfold ph; rw [s2]; rfl
    have p2 : ph (wakeK K t) t = 2 * (K.2 2 t - (K.2 1 t + 1)) + 2 := by unfold ph; rw [e6, e1, e2]; rfl
    omega
  refine ⟨⟨fun hl => fun i hi h0 => ?_, fun _ h => h, ?_, by omega, rfl, rfl⟩, hP⟩
  · by_cases e : i = t
    · subst e
      rcases hl i hi (by rw [s2]; decide) with ⟨-, q⟩ | ⟨q, -⟩
      · exact Or.inl ⟨by show (if i = i then (0 : Int32) else _) = 0; rw [if_pos rfl], q⟩
      · rw [s2] at q; exact absurd q (by decide)
    · have := hl i hi (by rw [o6 i e] at h0; exact h0)
      unfold wlOk at this ⊢
      rw [o6 i e, o1 i e, o7 i e]
      exact this
  · show K.2 0 3 + 1 + Ph (wakeK K t) ≤ _
    omega
theorem give_A {K : KT} (h : Inv K) (m : Nat) : After K (giveK K m) := by
  unfold giveK
  cases e : heirK K m with
  | zero => exact (weigh_A K).tr (own_A _ m 0)
  | succ g =>
    obtain ⟨h1, h2⟩ := heirK_in e
    exact ((weigh_A K).tr (own_A _ m (g + 1))).tr (wake_A (Inv_own (Inv_weigh h) m (g + 1) h1) h1 (fun q => by have h3 : K.2 3 g = 0 := q; omega)).1
theorem giveN_A (t : Nat) : ∀ (j m : Nat) (K : KT), Inv K → After K (giveN t j m K) := by
  intro j
  induction j with
  | zero => intro m K _; exact After.rf K
  | succ j ih =>
    intro m K h
    simp only [giveN]
    by_cases c : K.2 4 m = t + 1
    · rw [if_pos c]; exact (give_A h m).tr (ih _ _ (Inv_give h m))
    · rw [if_neg c]; exact ih _ _ h
theorem ph_pos {K : KT} {t : Nat} (h : ¬ K.1 6 t = 0) : 1 ≤ ph K t := by unfold ph; rw [if_neg h]; split <;> omega
theorem ph_rdy {K : KT} {t : Nat} (h : K.1 6 t = 1) : ph K t = 2 * (K.2 2 t - K.2 1 t) + 2 := by unfold ph; rw [h]; rfl
theorem end_A {K : KT} (h : Inv K) {t : Nat} (ht : t < K.2 0 0) (h0 : ¬ K.1 6 t = 0) (c : Int32) : After K (endK K t c) ∧ Ph (endK K t c) + ph K t ≤ Ph K := by
  have hI := Inv_idle (Inv_note h c t) t
  have g := giveN_A t (K.2 0 1) 0 _ hI
  have o6 : ∀ i, i ≠ t → (sN (sI (noteK K c t) 6 t 0) 3 t 0).1 6 i = K.1 6 i := fun i e => ne1 t i e _ _
  have e6 : (sN (sI (noteK K c t) 6 t 0) 3 t 0).1 6 t = 0 := by show (if t = t then (0 : Int32) else _) = 0; rw [if_pos rfl]
  have hP : Ph (sN (sI (noteK K c t) 6 t 0) 3 t 0) + ph K t = Ph K := by
    have := Ph_one (K := K) (L := sN (sI (noteK K c t) 6 t 0) 3 t 0) rfl ht (fun i e => by unfold ph; rw [o6 i e]; rfl)
    have p2 : ph (sN (sI (noteK K c t) 6 t 0) 3 t 0) t = 0 := by unfold ph; rw [e6]; rfl
    omega
  have hp := ph_pos h0
  have hA : After K (sN (sI (noteK K c t) 6 t 0) 3 t 0) := by
    refine ⟨fun hl => fun i hi q => ?_, fun _ h => h, ?_, by omega, rfl, rfl⟩
    · by_cases e : i = t
      · subst e; exact absurd e6 q
      · have := hl i hi (by rw [o6 i e] at q; exact q)
        unfold wlOk at this ⊢
        rw [o6 i e]
        exact this
    · show K.2 0 3 + 1 + Ph (sN (sI (noteK K c t) 6 t 0) 3 t 0) ≤ _
      omega
  refine ⟨hA.tr g, ?_⟩
  have h4 : Ph (endK K t c) ≤ Ph (sN (sI (noteK K c t) 6 t 0) 3 t 0) := g.2.2.2.1
  omega
theorem fail_A {K : KT} (h : Inv K) {t : Nat} (ht : t < K.2 0 0) (h0 : ¬ K.1 6 t = 0) : After K (failK K t) ∧ Ph (failK K t) + ph K t ≤ Ph K := by
  have x : After K (sI K 16 t (K.1 16 t + 1)) := A_of (fun h => h) (fun _ h => h) rfl (Ph_eq rfl (fun _ => rfl)) rfl rfl
  have e : Ph (sI K 16 t (K.1 16 t + 1)) = Ph K := Ph_eq rfl (fun _ => rfl)
  obtain ⟨y, z⟩ := end_A (K := sI K 16 t (K.1 16 t + 1)) (Inv_irr h t _ (by decide) (by decide) (by decide)) ht h0 3
  rw [e] at z
  exact ⟨x.tr y, z⟩
theorem done_A {K : KT} (h : Inv K) {t : Nat} (ht : t < K.2 0 0) (h0 : ¬ K.1 6 t = 0) (w : Int32) : After K (doneK K t w) ∧ Ph (doneK K t w) + ph K t ≤ Ph K := by
  generalize hv : (if K.1 20 t < w - K.1 9 t then w - K.1 9 t else K.1 20 t) = v
  have x : After K (sI (sI K 15 t (K.1 15 t + 1)) 20 t v) := A_of (fun h => h) (fun _ h => h) rfl (Ph_eq rfl (fun _ => rfl)) rfl rfl
  have e : Ph (sI (sI K 15 t (K.1 15 t + 1)) 20 t v) = Ph K := Ph_eq rfl (fun _ => rfl)
  obtain ⟨y, z⟩ := end_A (K := sI (sI K 15 t (K.1 15 t + 1)) 20 t v) (Inv_irr (Inv_irr h t _ (by decide) (by decide) (by decide)) t _ (by decide) (by decide) (by decide)) ht h0 2
  rw [e] at z
  unfold doneK
  rw [hv]
  exact ⟨x.tr y, z⟩
theorem pass_A {K : KT} {t : Nat} (ht : t < K.2 0 0) (h6 : K.1 6 t = 1) (hlt : K.2 1 t < K.2 2 t) (hl0 : K.1 14 t = 0) : After K (passK K t) ∧ Ph (passK K t) + 2 = Ph K := by
  have o1 : ∀ i, i ≠ t → (passK K t).2 1 i = K.2 1 i := fun i e => ne1 t i e _ _
  have o7 : ∀ i, i ≠ t → (passK K t).1 7 i = K.1 7 i := fun i e => ne1 t i e _ _
  have hP : Ph (passK K t) + 2 = Ph K := by
    have := Ph_one (K := K) (L := passK K t) rfl ht (fun i e => by unfold ph; rw [o1 i e]; rfl)
    have p1 := ph_rdy h6
    have p2 := ph_rdy (K := passK K t) (t := t) h6
    rw [pass_self] at p2
    have : (passK K t).2 2 t = K.2 2 t := rfl
    omega
  refine ⟨⟨fun hl => fun i hi q => ?_, fun _ h => h, ?_, by omega, rfl, rfl⟩, hP⟩
  · by_cases e : i = t
    · subst e; exact Or.inl ⟨by show (if i = i then (0 : Int32) else _) = 0; rw [if_pos rfl], hl0⟩
    · have := hl i hi q
      unfold wlOk at this ⊢
      rw [o1 i e, o7 i e]
      exact this
  · show K.2 0 3 + Ph (passK K t) ≤ _
    omega
theorem block_A {K : KT} {t m : Nat} (ht : t < K.2 0 0) (h6 : K.1 6 t = 1) (hl0 : K.1 7 t = 0 ∧ K.1 14 t = 0) : After K (blockK K t m) ∧ Ph (blockK K t m) + 1 = Ph K := by
  have o6 : ∀ i, i ≠ t → (blockK K t m).1 6 i = K.1 6 i := fun i e => ne1 t i e _ _
  have e6 : (blockK K t m).1 6 t = 2 := by show (if t = t then (2 : Int32) else _) = 2; rw [if_pos rfl]
  have hP : Ph (blockK K t m) + 1 = Ph K := by
    have := Ph_one (K := K) (L := blockK K t m) rfl ht (fun i e => by unfold ph; rw [o6 i e]; rfl)
    have p1 := ph_rdy h6
    have p2 : ph (blockK K t m) t = 2 * (K.2 2 t - K.2 1 t) + 1 := by unfold ph; rw [e6]; rfl
    omega
  refine ⟨⟨fun hl => fun i hi q => ?_, fun _ h => h, ?_, by omega, rfl, rfl⟩, hP⟩
  · by_cases e : i = t
    · subst e; exact Or.inl hl0
    · have := hl i hi (by rw [o6 i e] at q; exact q)
      unfold wlOk at this ⊢
      rw [o6 i e]
      exact this
  · show K.2 0 3 + 1 + Ph (blockK K t m) ≤ _
    omega
/-- a task that is ready at a step that is no work has worked nothing there -/
theorem wl_0 {K : KT} (hl : WL K) {t : Nat} (ht : t < K.2 0 0) (h6 : K.1 6 t = 1) (hk : ¬ kdK K t = 0) : K.1 7 t = 0 ∧ K.1 14 t = 0 := by
  rcases hl t ht (by rw [h6]; decide) with q | ⟨-, -, q, -⟩
  · exact q
  · exact absurd q hk
theorem give_14 (K : KT) (m t : Nat) : (giveK K m).1 14 t = K.1 14 t := by
  unfold giveK
  cases heirK K m <;> rfl
theorem go_A (t : Nat) (w : Int32) : ∀ (j : Nat) (K : KT), Inv K → WL K → t < K.2 0 0 → K.1 6 t = 1 → K.2 2 t - K.2 1 t = j → After K (goK j K t w) ∧ (atWorkK K t = false → Ph (goK j K t w) < Ph K) := by
  intro j
  induction j with
  | zero =>
    intro K h hl ht h6 hj
    obtain ⟨a, b⟩ := done_A h ht (by rw [h6]; decide) w
    refine ⟨a, fun _ => ?_⟩
    have := ph_pos (K := K) (t := t) (by rw [h6]; decide)
    have b' : Ph (goK 0 K t w) + ph K t ≤ Ph K := b
    omega
  | succ j ih =>
    intro K h hl ht h6 hj
    have hlt : K.2 1 t < K.2 2 t := by omega
    have hm4 := h.1.2.1
    have hp := ph_pos (K := K) (t := t) (by rw [h6]; decide)
    unfold goK
    by_cases k0 : kdK K t = 0
    · rw [if_pos k0]
      refine ⟨After.rf K, fun q => ?_⟩
      simp [atWorkK, hlt, k0] at q
    · rw [if_neg k0]
      rcases h.2.2.2 t (K.2 1 t) ht hlt with ⟨q, -⟩ | ⟨k12, m, hm, ea⟩
      · exact absurd q k0
      · have eam : amK K t = m := amK_of (by omega) ea
        obtain ⟨⟨a1, a2, a3, a4⟩, ⟨b1, b2, b3, b4⟩⟩ := go_next h (m := m) ht h6 hlt
        obtain ⟨g1, g2, g3, g4, g5, g6, -⟩ := give_off (K := K) m t (h.w0 ht h6)
        have w0 := wl_0 hl ht h6 k0
        rw [eam]
        split
        · obtain ⟨x, y⟩ := fail_A h ht (by rw [h6]; decide)
          exact ⟨x, fun _ => by omega⟩
        · split
          · have x1 := give_A h m
            obtain ⟨x2, x3⟩ := pass_A (K := giveK K m) (t := t) (by rw [g5]; exact ht) (by rw [g1]; exact h6) (by rw [g2, g3]; exact hlt) (by rw [give_14]; exact w0.2)
            have x4 := x1.tr x2
            obtain ⟨x5, -⟩ := ih _ a1 (x4.1 hl) a2 a3 (by rw [a4]; omega)
            refine ⟨x4.tr x5, fun _ => ?_⟩
            have y1 := x1.2.2.2.1
            have y2 := x5.2.2.2.1
            omega
          · split
            · have x1 := own_A K m (t + 1)
              obtain ⟨x2, x3⟩ := pass_A (K := sN K 4 m (t + 1)) (t := t) ht h6 hlt w0.2
              have x4 := x1.tr x2
              obtain ⟨x5, -⟩ := ih _ b1 (x4.1 hl) b2 b3 (by rw [b4]; omega)
              refine ⟨x4.tr x5, fun _ => ?_⟩
              have y1 := x1.2.2.2.1
              have y2 := x5.2.2.2.1
              omega
            · obtain ⟨x, y⟩ := block_A (m := m) ht h6 w0
              exact ⟨x, fun _ => by omega⟩
theorem settle_A : ∀ (j : Nat) (K : KT), Inv K → WL K → After K (settleK j K).1 := by
  intro j
  induction j with
  | zero => intro K _ _; exact After.rf K
  | succ j ih =>
    intro K h hl
    simp only [settleK]
    cases e : firstK K with
    | zero => exact weigh_A K
    | succ t =>
      obtain ⟨ht, h6⟩ := firstK_in e
      dsimp only
      by_cases ha : atWorkK K t = true
      · rw [if_pos ha]; exact weigh_A K
      · rw [if_neg ha]
        have x := (weigh_A K).tr (go_A t (K.1 28 2) _ (weighK K) (Inv_weigh h) ((weigh_A K).1 hl) ht h6 rfl).1
        exact x.tr (ih _ (Inv_goOn t _ (Inv_weigh h) ht h6) (x.1 hl))
