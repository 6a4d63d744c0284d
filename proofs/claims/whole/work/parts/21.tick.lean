/-! A TICK keeps what must stay true; the class's tick -/
def FI (K : KT) (T X : Nat) : Prop := Inv K ∧ WL K ∧ Num K T ∧ K.2 0 3 + Ph K ≤ X
theorem FI.aft {K L : KT} {T X : Nat} (h : FI K T X) (hi : Inv L) (ha : After K L) : FI L T X := ⟨hi, ha.1 h.2.1, ha.2.1 T h.2.2.1, Nat.le_trans ha.2.2.1 h.2.2.2⟩
theorem FI.mono {K : KT} {T X Y : Nat} (h : FI K T X) (hx : X ≤ Y) : FI K T Y := ⟨h.1, h.2.1, h.2.2.1, Nat.le_trans h.2.2.2 hx⟩
theorem FI_note {K : KT} {T X : Nat} (h : FI K T X) (w : Int32) (t : Nat) : FI (noteK K w t) T (X + 1) := ⟨Inv_note h.1 w t, h.2.1, h.2.2.1, by
  rw [note_Ph]
  show K.2 0 3 + 1 + Ph K ≤ X + 1
  have := h.2.2.2; omega⟩
theorem FI_fail {K : KT} {T X : Nat} (h : FI K T X) {t : Nat} (ht : t < K.2 0 0) (h0 : ¬ K.1 6 t = 0) : FI (failK K t) T X := h.aft (Inv_fail h.1 t) (fail_A h.1 ht h0).1
theorem FI_irr17 {K : KT} {T X : Nat} (h : FI K T X) (t : Nat) (v : Int32) : FI (sI K 17 t v) T X := h.aft (Inv_irr h.1 t _ (by decide) (by decide) (by decide)) (A_of (fun h => h) (fun _ h => h) rfl (Ph_eq rfl (fun _ => rfl)) rfl rfl)
theorem FI_irr18 {K : KT} {T X : Nat} (h : FI K T X) (t : Nat) (v : Int32) : FI (sI K 18 t v) T X := h.aft (Inv_irr h.1 t _ (by decide) (by decide) (by decide)) (A_of (fun h => h) (fun _ h => h) rfl (Ph_eq rfl (fun _ => rfl)) rfl rfl)
theorem FI_miss1 {K : KT} {T X : Nat} (h : FI K T X) {t : Nat} (ht : t < K.2 0 0) : FI (missK1 K t) T (X + 1) := by
  unfold missK1
  split
  · next c =>
    have hN := FI_note (FI_irr17 h t (K.1 17 t + 1)) 4 t
    split
    · exact hN
    · exact FI_fail hN ht c.1
  · exact h.mono (by omega)
theorem miss1_n (K : KT) (t : Nat) : (missK1 K t).2 0 0 = K.2 0 0 := by
  unfold missK1
  split
  · split
    · rfl
    · exact fail_n _ t
  · rfl
theorem FI_missN {T : Nat} : ∀ (j t : Nat) (K : KT) (X : Nat), FI K T X → t + j ≤ K.2 0 0 → FI (missN j t K) T (X + j) ∧ (missN j t K).2 0 0 = K.2 0 0 := by
  intro j
  induction j with
  | zero => intro t K X h _; exact ⟨h, rfl⟩
  | succ j ih =>
    intro t K X h ht
    have h1 := ih (t + 1) (missK1 K t) (X + 1) (FI_miss1 h (by omega)) (by rw [miss1_n]; omega)
    rw [show X + 1 + j = X + (j + 1) by omega, miss1_n] at h1
    exact h1
theorem FI_begin {K : KT} {T X : Nat} (h : FI K T X) {t : Nat} (ht : t < K.2 0 0) : FI (beginK K t) T (X + 23) := by
  refine ⟨Inv_begin h.1 t, ?_, ?_, ?_⟩
  · unfold beginK
    split
    · next h0 =>
      intro i hi q
      by_cases e : i = t
      · subst e; exact Or.inl ⟨by show (if i = i then (0 : Int32) else _) = 0; rw [if_pos rfl], by show (if i = i then (0 : Int32) else _) = 0; rw [if_pos rfl]⟩
      · have hi' : i < K.2 0 0 := hi
        generalize hL : (noteK (sI (sI (sI (sI (sI (sI (sN (sI (sI K 28 3 (K.1 28 3 + 1)) 6 t 1) 1 t 0) 7 t 0) 14 t 0) 8 t 0) 9 t (K.1 28 2)) 10 t (K.1 28 2 + K.1 3 t)) 11 t (K.1 28 3 + 1)) 0 t) = L at q ⊢
        have o6 : L.1 6 i = K.1 6 i := by rw [← hL]; exact ne1 t i e _ _
        have o1 : L.2 1 i = K.2 1 i := by rw [← hL]; exact ne1 t i e _ _
        have o7 : L.1 7 i = K.1 7 i := by rw [← hL]; exact ne1 t i e _ _
        have o14 : L.1 14 i = K.1 14 i := by rw [← hL]; exact ne1 t i e _ _
        have oz : L.2 2 i = K.2 2 i := by rw [← hL]; rfl
        have o26 : L.1 26 = K.1 26 := by rw [← hL]; rfl
        have o27 : L.1 27 = K.1 27 := by rw [← hL]; rfl
        have := h.2.1 i hi' (by rw [o6] at q; exact q)
        unfold wlOk at this ⊢
        rw [o6, o1, o7, o14, oz, o26, o27]
        exact this
    · exact h.2.1
  · obtain ⟨n1, n2⟩ := h.2.2.1
    unfold beginK
    split
    · refine ⟨n1, fun i hi => ?_⟩
      by_cases e : i = t
      · subst e
        obtain ⟨-, ⟨d, hd, ed⟩, n3⟩ := n2 i hi
        refine ⟨⟨T + d, by omega, ?_⟩, ⟨d, hd, ed⟩, n3⟩
        show (if i = i then K.1 28 2 + K.1 3 i else _) = _
        rw [if_pos rfl, n1, ed, nI_add]
      · obtain ⟨⟨d, hd, ed⟩, n3⟩ := n2 i hi
        exact ⟨⟨d, hd, (ne1 t i e _ _).trans ed⟩, n3⟩
    · exact ⟨n1, n2⟩
  · have h4 := h.2.2.2
    have hz := (h.1.2.2.1 t ht).1
    unfold beginK
    split
    · next h0 =>
      generalize hL : (sI (sI (sI (sI (sI (sI (sN (sI (sI K 28 3 (K.1 28 3 + 1)) 6 t 1) 1 t 0) 7 t 0) 14 t 0) 8 t 0) 9 t (K.1 28 2)) 10 t (K.1 28 2 + K.1 3 t)) 11 t (K.1 28 3 + 1)) = L
      rw [note_Ph]
      have e3 : L.2 0 3 = K.2 0 3 := by rw [← hL]; rfl
      have en : L.2 0 0 = K.2 0 0 := by rw [← hL]; rfl
      have e6 : L.1 6 t = 1 := by rw [← hL]; show (if t = t then (1 : Int32) else _) = 1; rw [if_pos rfl]
      have e1 : L.2 1 t = 0 := by rw [← hL]; show (if t = t then 0 else _) = 0; rw [if_pos rfl]
      have ez : ∀ i, L.2 2 i = K.2 2 i := by intro i; rw [← hL]; rfl
      have o6 : ∀ i, i ≠ t → L.1 6 i = K.1 6 i := by intro i e; rw [← hL]; exact ne1 t i e _ _
      have o1 : ∀ i, i ≠ t → L.2 1 i = K.2 1 i := by intro i e; rw [← hL]; exact ne1 t i e _ _
      have p := Ph_one (K := K) (L := L) en ht (fun i e => by unfold ph; rw [o6 i e, o1 i e, ez])
      have p1 : ph L t = 2 * (K.2 2 t - 0) + 2 := by rw [ph_rdy e6, e1, ez]
      show L.2 0 3 + 1 + Ph L ≤ _
      omega
    · rw [note_Ph, show Ph (sI K 18 t (K.1 18 t + 1)) = Ph K from Ph_eq rfl (fun _ => rfl)]
      show K.2 0 3 + 1 + Ph K ≤ _
      omega
theorem FI_relN {T : Nat} : ∀ (j t : Nat) (K : KT) (X : Nat), FI K T X → t + j ≤ K.2 0 0 → FI (relN j t K) T (X + 23 * j) ∧ (relN j t K).2 0 0 = K.2 0 0 := by
  intro j
  induction j with
  | zero => intro t K X h _; exact ⟨h, rfl⟩
  | succ j ih =>
    intro t K X h ht
    simp only [relN]
    by_cases c : perK K t = true
    · rw [if_pos c]
      have h1 := ih (t + 1) (beginK K t) (X + 23) (FI_begin h (by omega)) (by rw [begin_n]; omega)
      rw [begin_n] at h1
      exact ⟨h1.1.mono (by omega), h1.2⟩
    · rw [if_neg c]
      have h1 := ih (t + 1) K X h (by omega)
      exact ⟨h1.1.mono (by omega), h1.2⟩
theorem FI_settle {K : KT} {T X : Nat} (h : FI K T X) (j : Nat) : FI (settleK j K).1 T X := h.aft (Inv_settle j K h.1).1 (settle_A j K h.1 h.2.1)
/-- the work left, and what was worked, tell the same end -/
theorem wl_eq {K : KT} {T X : Nat} (h : FI K T X) {t : Nat} (ht : t < K.2 0 0) (h6 : K.1 6 t = 1) (ha : atWorkK K t = true) : wlEq K t ∧ ((leftK K t = 0) ∨ ∃ w a, 1 ≤ w ∧ w < a ∧ a ≤ 20 ∧ K.1 27 (10 * t + K.2 1 t) = nI a ∧ K.1 7 t + 1 = nI w ∧ leftK K t = nI (a - w)) := by
  simp only [atWorkK, Bool.and_eq_true, decide_eq_true_eq] at ha
  obtain ⟨hlt, hk⟩ := ha
  have key : ∀ w a : Nat, w < a → a ≤ 20 → K.1 27 (10 * t + K.2 1 t) = nI a → K.1 7 t = nI w → leftK K t = nI (a - w - 1) → wlEq K t ∧ ((leftK K t = 0) ∨ ∃ w a, 1 ≤ w ∧ w < a ∧ a ≤ 20 ∧ K.1 27 (10 * t + K.2 1 t) = nI a ∧ K.1 7 t + 1 = nI w ∧ leftK K t = nI (a - w)) := by
    intro w a h1 h2 ea e7 el
    unfold wlEq
    rw [e7, nI_1, ea, el, nI_ltI (by omega) (by omega), show (0 : Int32) = nI 0 from rfl, nI_eq (by omega) (by omega)]
    refine ⟨by omega, ?_⟩
    by_cases q : a - w - 1 = 0
    · exact Or.inl q
    · exact Or.inr ⟨w + 1, a, by omega, by omega, h2, rfl, rfl, by rw [show a - (w + 1) = a - w - 1 by omega]⟩
  rcases h.1.2.2.2 t (K.2 1 t) ht hlt with ⟨-, a, a1, a2, ea⟩ | ⟨q, -⟩
  · rcases h.2.1 t ht (by rw [h6]; decide) with ⟨e7, e14⟩ | ⟨-, -, -, w, b, w1, w2, w3, eb, e7, e14⟩
    · refine key 0 a (by omega) a2 ea e7 ?_
      unfold leftK
      rw [if_pos e14, ea, show (1 : Int32) = nI 1 from rfl, pk_sub a1]
      rfl
    · refine key w b w2 w3 eb e7 ?_
      unfold leftK
      rw [e14, if_neg (by rw [show (0 : Int32) = nI 0 from rfl, nI_eq (by omega) (by omega)]; omega), show (1 : Int32) = nI 1 from rfl, pk_sub (by omega)]
  · exact absurd hk (by show ¬ K.1 26 _ = 0; rcases q with q | q <;> rw [q] <;> decide)
theorem FI_work {K : KT} {T X : Nat} (h : FI K T X) {t : Nat} (ht : t < K.2 0 0) (h6 : K.1 6 t = 1) (ha : atWorkK K t = true) : FI (workK K t) T (X + 1) ∧ (workK K t).2 0 0 = K.2 0 0 ∧ (workK K t).1 28 2 = K.1 28 2 := by
  obtain ⟨hq, hw⟩ := wl_eq h ht h6 ha
  obtain ⟨u8, u7, u4, u6, u14⟩ := unit_1 K t
  have hlt : K.2 1 t < K.2 2 t := by simp only [atWorkK, Bool.and_eq_true, decide_eq_true_eq] at ha; exact ha.1
  have hk : kdK K t = 0 := by simp only [atWorkK, Bool.and_eq_true, decide_eq_true_eq] at ha; exact ha.2
  have o7 : ∀ i, i ≠ t → (unitK K t).1 7 i = K.1 7 i := fun i e => ne1 t i e _ _
  have o14 : ∀ i, i ≠ t → (unitK K t).1 14 i = K.1 14 i := fun i e => ne1 t i e _ _
  have main : ∀ K1, Inv K1 → K1.2 0 0 = K.2 0 0 → (∀ i, i < K.2 0 0 → i ≠ t → ¬ K1.1 6 i = 0 → wlOk K1 i) → K1.1 7 t = K.1 7 t + 1 → K1.1 14 t = leftK K t → K1.1 6 t = 1 → K1.2 1 t = K.2 1 t → K1.2 2 t = K.2 2 t → K1.1 26 = K.1 26 → K1.1 27 = K.1 27 → K1.1 28 2 = K.1 28 2 → Num K1 T → K1.2 0 3 + Ph K1 ≤ X + 1 → FI (if leftK K t = 0 then goOnK (passK K1 t) t (K.1 28 2 + 1) else K1) T (X + 1) ∧ (if leftK K t = 0 then goOnK (passK K1 t) t (K.1 28 2 + 1) else K1).2 0 0 = K.2 0 0 ∧ (if leftK K t = 0 then goOnK (passK K1 t) t (K.1 28 2 + 1) else K1).1 28 2 = K.1 28 2 := by
    intro K1 i1 i2 i3 i4 i5 i6 i7 i8 i9 i10 i11 i12 i13
    have hp : Inv (passK K1 t) := Inv_pass i1 t (by rw [i7, i8]; exact hlt) (by rw [i6]; decide)
    by_cases hl : leftK K t = 0
    · rw [if_pos hl]
      have wlp : WL (passK K1 t) := by
        intro i hi q
        by_cases e : i = t
        · subst e; exact Or.inl ⟨by show (if i = i then (0 : Int32) else _) = 0; rw [if_pos rfl], i5.trans hl⟩
        · have o1 : (passK K1 t).2 1 i = K1.2 1 i := ne1 t i e _ _
          have o7' : (passK K1 t).1 7 i = K1.1 7 i := ne1 t i e _ _
          have := i3 i (by rw [← i2]; exact hi) e q
          unfold wlOk at this ⊢
          rw [o1, o7']
          exact this
      have hP : Ph (passK K1 t) ≤ Ph K1 := by
        have := Ph_one (K := K1) (L := passK K1 t) rfl (t := t) (by rw [i2]; exact ht) (fun i e => by unfold ph; rw [show (passK K1 t).2 1 i = K1.2 1 i from ne1 t i e _ _]; rfl)
        have p1 := ph_rdy i6
        have p2 := ph_rdy (K := passK K1 t) (t := t) i6
        rw [pass_self] at p2
        have : (passK K1 t).2 2 t = K1.2 2 t := rfl
        omega
      have hF : FI (passK K1 t) T (X + 1) := ⟨hp, wlp, i12, by show K1.2 0 3 + Ph (passK K1 t) ≤ _; omega⟩
      have hA := (go_A t (K.1 28 2 + 1) _ (passK K1 t) hp wlp (by show t < K1.2 0 0; rw [i2]; exact ht) i6 rfl).1
      exact ⟨hF.aft (Inv_goOn t _ hp (by show t < K1.2 0 0; rw [i2]; exact ht) i6) hA, hA.2.2.2.2.1.trans i2, hA.2.2.2.2.2.trans i11⟩
    · rw [if_neg hl]
      refine ⟨⟨i1, fun i hi q => ?_, i12, i13⟩, i2, i11⟩
      by_cases e : i = t
      · subst e
        rcases hw with hw | ⟨w, a, w1, w2, w3, ea, e7, el⟩
        · exact absurd hw hl
        · refine Or.inr ⟨i6, by rw [i7, i8]; exact hlt, by rw [i9, i7]; exact hk, w, a, w1, w2, w3, by rw [i10, i7]; exact ea, i4.trans e7, i5.trans el⟩
      · exact i3 i (by rw [← i2]; exact hi) e q
  have hU : ∀ i, i < K.2 0 0 → i ≠ t → ¬ (unitK K t).1 6 i = 0 → wlOk (unitK K t) i := by
    intro i hi e q
    have := h.2.1 i hi q
    unfold wlOk at this ⊢
    rw [o7 i e, o14 i e]
    exact this
  have hPu : Ph (unitK K t) = Ph K := Ph_eq rfl (fun _ => rfl)
  have h4 := h.2.2.2
  unfold workK
  dsimp only
  by_cases c : K.1 8 t + 1 = K.1 4 t + 1
  · rw [if_pos c]
    exact main _ (Inv_note (Inv_unit h.1 ht) 7 t) rfl hU u7 u14 (u6.trans h6) rfl rfl rfl rfl rfl h.2.2.1 (by rw [note_Ph, hPu]; show K.2 0 3 + 1 + Ph K ≤ _; omega)
  · rw [if_neg c]
    exact main _ (Inv_unit h.1 ht) rfl hU u7 u14 (u6.trans h6) rfl rfl rfl rfl rfl h.2.2.1 (by rw [hPu]; show K.2 0 3 + Ph K ≤ _; omega)
theorem FI_time {K : KT} {T X : Nat} (h : FI K T X) : FI (sI K 28 2 (K.1 28 2 + 1)) (T + 1) X := by
  refine ⟨Inv_irr h.1 2 _ (by decide) (by decide) (by decide), h.2.1, ⟨?_, fun t ht => ?_⟩, ?_⟩
  · show K.1 28 2 + 1 = _
    rw [h.2.2.1.1, nI_1]
  · obtain ⟨⟨d, hd, ed⟩, n3⟩ := h.2.2.1.2 t ht
    exact ⟨⟨d, by omega, ed⟩, n3⟩
  · rw [show Ph (sI K 28 2 (K.1 28 2 + 1)) = Ph K from Ph_eq rfl (fun _ => rfl)]
    exact h.2.2.2
/-- the state in which a tick's unit is worked -/
def midK (K : KT) : KT := relN (K.2 0 0) 0 (missN (K.2 0 0) 0 K)
theorem tick_0 {K : KT} (e : (settleK 1000 (midK K)).2 = 0) : tickK K = (sI (settleK 1000 (midK K)).1 28 2 ((settleK 1000 (midK K)).1.1 28 2 + 1), 0) := by
  unfold tickK
  simp only [show relN (K.2 0 0) 0 (missN (K.2 0 0) 0 K) = midK K from rfl, e]
theorem tick_s {K : KT} {t : Nat} (e : (settleK 1000 (midK K)).2 = t + 1) : tickK K = (sI (workK (settleK 1000 (midK K)).1 t) 28 2 ((workK (settleK 1000 (midK K)).1 t).1 28 2 + 1), 1) := by
  unfold tickK
  simp only [show relN (K.2 0 0) 0 (missN (K.2 0 0) 0 K) = midK K from rfl, e]
theorem FI_mid {K : KT} {T X : Nat} (h : FI K T X) : FI (midK K) T (X + 192) ∧ (midK K).2 0 0 = K.2 0 0 := by
  have hn := h.1.1.1
  obtain ⟨h1, e1⟩ := FI_missN (K.2 0 0) 0 K X h (by omega)
  obtain ⟨h2, e2⟩ := FI_relN (K.2 0 0) 0 _ _ h1 (by rw [e1]; omega)
  exact ⟨h2.mono (by omega), e2.trans e1⟩
theorem settle_n {K : KT} {T X : Nat} (h : FI K T X) (j : Nat) : (settleK j K).1.2 0 0 = K.2 0 0 := (settle_A j K h.1 h.2.1).2.2.2.2.1
theorem FI_tick {K : KT} {T X : Nat} (h : FI K T X) : FI (tickK K).1 (T + 1) (X + 193) ∧ (tickK K).2 ≤ 1 ∧ (tickK K).1.2 0 0 = K.2 0 0 := by
  obtain ⟨hm, en⟩ := FI_mid h
  have hs := FI_settle hm 1000
  have en2 := settle_n hm 1000
  have hx := (Inv_settle 1000 (midK K) hm.1).2
  cases e : (settleK 1000 (midK K)).2 with
  | zero => rw [tick_0 e]; exact ⟨(FI_time hs).mono (by omega), by show (0 : Nat) ≤ 1; omega, en2.trans en⟩
  | succ t =>
    obtain ⟨x1, x2, x3⟩ := hx t e
    obtain ⟨y1, y2, -⟩ := FI_work hs x1 x2 x3
    rw [tick_s e]
    exact ⟨(FI_time y1).mono (by omega), Nat.le_refl 1, y2.trans (en2.trans en)⟩
theorem tick_loop (M : KT) (G : GT) (N : Nat) (hN : N ≤ 500) : ∀ (j i b : Nat) (K : KT) (T X : Nat), i + j = N → FI K T X → Ev M_X6_tick 42 [vR 7 0, vI (nI N), vI (nI b), vI (nI i), vU] [] (conc K M G) (0, some (vI (nI (ticksK j K b).2)), conc (ticksK j K b).1 M G) := by
  intro j
  induction j with
  | zero =>
    intro i b K T X hi h
    refine ev_iload_n dX6_tick_42 rfl ?_
    refine ev_iload_n dX6_tick_43 rfl ?_
    refine ev_icmp_ge (tgt := 91) dX6_tick_44 rfl (fun c44 => ?_) (fun c44 => ?_)
    · refine ev_iload_n dX6_tick_91 rfl ?_
      exact ev_iret dX6_tick_92 (Or.inl rfl)
    · exact absurd (nI_le (a := N) (b := i) (by omega) (by omega)) c44
  | succ j ih =>
    intro i b K T X hi h
    have hn := h.1.1.1
    have e1 : nI i + Int32.ofInt 1 = nI (i + 1) := nI_1 i
    have eb : nI b + Int32.ofInt 1 = nI (b + 1) := nI_1 b
    obtain ⟨h1, n1⟩ := FI_missN (K.2 0 0) 0 K X h (by omega)
    obtain ⟨hm, en⟩ := FI_mid h
    have hs := FI_settle hm 1000
    have hx := (Inv_settle 1000 (midK K) hm.1).2
    have ht := FI_tick h
    have r1 := miss_loop M G (K.2 0 0) 0 K h.1 (by omega)
    have r2 : Ev M_X6_releasePeriodic 2 [vR 7 0, vI (nI 0)] [] (conc (missN (K.2 0 0) 0 K) M G) (0, none, conc (midK K) M G) := rel_loop M G (K.2 0 0) 0 _ h1.1 (by rw [n1]; omega)
    have r3 := e_settle (midK K) M G hm.1
    have q1 : Ev M_X6_noteMisses 0 (ent M_X6_noteMisses [vR 7 0]) [] (conc K M G) (0, none, conc (missN (K.2 0 0) 0 K) M G) := by
      show Ev M_X6_noteMisses 0 [vR 7 0, vU, vU] [] (conc K M G) _
      refine ev_iconst (v := 0) dX6_noteMisses_0 rfl ?_
      refine ev_istore_n dX6_noteMisses_1 rfl ?_
      exact r1
    have q2 : Ev M_X6_releasePeriodic 0 (ent M_X6_releasePeriodic [vR 7 0]) [] (conc (missN (K.2 0 0) 0 K) M G) (0, none, conc (midK K) M G) := by
      show Ev M_X6_releasePeriodic 0 [vR 7 0, vU] [] (conc (missN (K.2 0 0) 0 K) M G) _
      refine ev_iconst (v := 0) dX6_releasePeriodic_0 rfl ?_
      refine ev_istore_n dX6_releasePeriodic_1 rfl ?_
      exact r2
    have h75 : ∀ K2 b2, tickK K = (sI K2 28 2 (K2.1 28 2 + 1), b2) → Ev M_X6_tick 75 [vR 7 0, vI (nI N), vI (nI (b + b2)), vI (nI i), vU] [] (conc K2 M G) (0, some (vI (nI (ticksK (j + 1) K b).2)), conc (ticksK (j + 1) K b).1 M G) := by
      intro K2 b2 ek
      have hF := ht.1
      rw [ek] at hF
      rw [show ticksK (j + 1) K b = ticksK j (sI K2 28 2 (K2.1 28 2 + 1)) (b + b2) by simp only [ticksK, ek]]
      refine ev_aload_n dX6_tick_75 rfl rfl ?_
      refine ev_dup dX6_tick_76 rfl ?_
      refine ev_getf dX6_tick_77 fl_6_125 ?_
      refine ev_iconst (v := 1) dX6_tick_80 rfl ?_
      refine ev_iadd dX6_tick_81 ?_
      refine ev_putfS dX6_tick_82 fl_6_125 rfl rfl (pu_ker_7 _ _ _ _) ?_
      refine ev_iinc dX6_tick_85 rfl ?_
      refine ev_goto (tgt := 42) dX6_tick_88 rfl ?_
      rw [e1]
      exact ih (i + 1) (b + b2) _ _ _ (by omega) hF
    cases e : (settleK 1000 (midK K)).2 with
    | zero =>
      rw [e] at r3
      have ek := tick_0 e
      refine ev_iload_n dX6_tick_42 rfl ?_
      refine ev_iload_n dX6_tick_43 rfl ?_
      refine ev_icmp_ge (tgt := 91) dX6_tick_44 rfl (fun c44 => ?_) (fun c44 => ?_)
      · exact absurd c44 (nI_ge (a := i) (b := N) (by omega) (by omega))
      · refine ev_aload_n dX6_tick_47 rfl rfl ?_
        refine evV1 dX6_tick_48 cl_X6_tick_112 ⟨rfl, rfl, fun _ => ⟨_, rfl⟩⟩ (Nat.le_of_ble_eq_true rfl) q1 ?_
        refine ev_aload_n dX6_tick_51 rfl rfl ?_
        refine evV1 dX6_tick_52 cl_X6_tick_115 ⟨rfl, rfl, fun _ => ⟨_, rfl⟩⟩ (Nat.le_of_ble_eq_true rfl) q2 ?_
        refine ev_aload_n dX6_tick_55 rfl rfl ?_
        refine evV1 dX6_tick_56 cl_X6_tick_118 ⟨rfl, rfl, fun _ => ⟨_, rfl⟩⟩ (Nat.le_of_ble_eq_true rfl) r3 ?_
        refine ev_astore dX6_tick_59 rfl rfl ?_
        refine ev_aload dX6_tick_61 rfl rfl ?_
        refine ev_ifnull (tgt := 75) dX6_tick_63 rfl rfl (fun c63 => ?_) (fun c63 => ?_)
        · refine ev_forget (ls2 := [_, _, _, _, vU]) (Fg_to ⟨Or.inr ⟨rfl, rfl⟩, Or.inr ⟨rfl, rfl⟩, Or.inr ⟨rfl, rfl⟩, Or.inr ⟨rfl, rfl⟩, Or.inl rfl, trivial⟩) ?_
          exact h75 _ 0 ek
        · exact absurd rfl c63
    | succ t =>
      rw [e] at r3
      obtain ⟨x1, x2, x3⟩ := hx t e
      have ek := tick_s e
      refine ev_iload_n dX6_tick_42 rfl ?_
      refine ev_iload_n dX6_tick_43 rfl ?_
      refine ev_icmp_ge (tgt := 91) dX6_tick_44 rfl (fun c44 => ?_) (fun c44 => ?_)
      · exact absurd c44 (nI_ge (a := i) (b := N) (by omega) (by omega))
      · refine ev_aload_n dX6_tick_47 rfl rfl ?_
        refine evV1 dX6_tick_48 cl_X6_tick_112 ⟨rfl, rfl, fun _ => ⟨_, rfl⟩⟩ (Nat.le_of_ble_eq_true rfl) q1 ?_
        refine ev_aload_n dX6_tick_51 rfl rfl ?_
        refine evV1 dX6_tick_52 cl_X6_tick_115 ⟨rfl, rfl, fun _ => ⟨_, rfl⟩⟩ (Nat.le_of_ble_eq_true rfl) q2 ?_
        refine ev_aload_n dX6_tick_55 rfl rfl ?_
        refine evV1 dX6_tick_56 cl_X6_tick_118 ⟨rfl, rfl, fun _ => ⟨_, rfl⟩⟩ (Nat.le_of_ble_eq_true rfl) r3 ?_
        refine ev_astore dX6_tick_59 rfl rfl ?_
        refine ev_aload dX6_tick_61 rfl rfl ?_
        refine ev_ifnull (tgt := 75) dX6_tick_63 rfl rfl (fun c63 => ?_) (fun c63 => ?_)
        · exact nomatch c63
        · refine ev_aload_n dX6_tick_66 rfl rfl ?_
          refine ev_aload dX6_tick_67 rfl rfl ?_
          refine evV2 dX6_tick_69 cl_X6_tick_122 ⟨rfl, rfl, fun _ => ⟨_, rfl⟩⟩ (Nat.le_of_ble_eq_true rfl) (e_work _ M G t hs.1 x1 x2 x3 (wl_eq hs x1 x2 x3).1) ?_
          refine ev_iinc dX6_tick_72 rfl ?_
          refine ev_forget (ls2 := [_, _, _, _, vU]) (Fg_to ⟨Or.inr ⟨rfl, rfl⟩, Or.inr ⟨rfl, rfl⟩, Or.inr ⟨rfl, rfl⟩, Or.inr ⟨rfl, rfl⟩, Or.inl rfl, trivial⟩) ?_
          rw [eb]
          exact h75 _ 1 ek
theorem e_tick (K M : KT) (G : GT) (T X n : Nat) (hn : n ≤ 500) (hs : ¬ K.1 28 1 = 0) (h : FI K T X) : Ev M_X6_tick 0 (ent M_X6_tick [vR 7 0, vI (nI n)]) [] (conc K M G) (0, some (vI (nI (ticksK n K 0).2)), conc (ticksK n K 0).1 M G) := by
  show Ev M_X6_tick 0 [vR 7 0, vI (nI n), vU, vU, vU] [] (conc K M G) _
  have hl := tick_loop M G n hn n 0 0 K T X (by omega) h
  refine ev_iload_n dX6_tick_0 rfl ?_
  refine ev_iconst (v := 0) dX6_tick_1 rfl ?_
  refine ev_sipush (v := 500) dX6_tick_2 rfl ?_
  refine evS3 dX6_tick_5 cl_X6_tick_32 ⟨rfl, rfl, fun h => nomatch h⟩ (Nat.le_of_ble_eq_true rfl) (e_within _ _ _ _) ?_
  refine ev_if_ne (tgt := 21) dX6_tick_8 rfl (fun c8 => ?_) (fun c8 => ?_)
  · refine ev_aload_n dX6_tick_21 rfl rfl ?_
    refine ev_getf dX6_tick_22 fl_6_43 ?_
    refine ev_if_ne (tgt := 38) dX6_tick_25 rfl (fun c25 => ?_) (fun c25 => ?_)
    · refine ev_iconst (v := 0) dX6_tick_38 rfl ?_
      refine ev_istore_n dX6_tick_39 rfl ?_
      refine ev_iconst (v := 0) dX6_tick_40 rfl ?_
      refine ev_istore_n dX6_tick_41 rfl ?_
      exact hl
    · exact absurd (Classical.not_not.mp c25) hs
  · exact absurd (bI_0.mp (Classical.not_not.mp c8)) (fun q => q ⟨nI_pos' (by omega), nI_le (a := n) (b := 500) hn (by omega)⟩)
theorem e_tickA (K M : KT) (G : GT) (x : Int32) (hx : ¬ ((0 : Int32) ≤ x ∧ x ≤ 500)) : Ev M_X6_tick 0 (ent M_X6_tick [vR 7 0, vI x]) [] (conc K M G) (1, some (vR 19 (G.2.2 3)), conc K M (exG G)) := by
  show Ev M_X6_tick 0 [vR 7 0, vI x, vU, vU, vU] [] (conc K M G) _
  refine ev_iload_n dX6_tick_0 rfl ?_
  refine ev_iconst (v := 0) dX6_tick_1 rfl ?_
  refine ev_sipush (v := 500) dX6_tick_2 rfl ?_
  refine evS3 dX6_tick_5 cl_X6_tick_32 ⟨rfl, rfl, fun h => nomatch h⟩ (Nat.le_of_ble_eq_true rfl) (e_within _ _ _ _) ?_
  refine ev_if_ne (tgt := 21) dX6_tick_8 rfl (fun c8 => ?_) (fun c8 => ?_)
  · exact absurd (bI_f hx) c8
  · exact ev_thr th_X6_tick_11 (Nat.le_of_ble_eq_true rfl)
theorem e_tickS (K M : KT) (G : GT) (x : Int32) (hx : ((0 : Int32) ≤ x ∧ x ≤ 500)) (hs : K.1 28 1 = 0) : Ev M_X6_tick 0 (ent M_X6_tick [vR 7 0, vI x]) [] (conc K M G) (2, some (vR 19 (G.2.2 3)), conc K M (exG G)) := by
  show Ev M_X6_tick 0 [vR 7 0, vI x, vU, vU, vU] [] (conc K M G) _
  refine ev_iload_n dX6_tick_0 rfl ?_
  refine ev_iconst (v := 0) dX6_tick_1 rfl ?_
  refine ev_sipush (v := 500) dX6_tick_2 rfl ?_
  refine evS3 dX6_tick_5 cl_X6_tick_32 ⟨rfl, rfl, fun h => nomatch h⟩ (Nat.le_of_ble_eq_true rfl) (e_within _ _ _ _) ?_
  refine ev_if_ne (tgt := 21) dX6_tick_8 rfl (fun c8 => ?_) (fun c8 => ?_)
  · refine ev_aload_n dX6_tick_21 rfl rfl ?_
    refine ev_getf dX6_tick_22 fl_6_43 ?_
    refine ev_if_ne (tgt := 38) dX6_tick_25 rfl (fun c25 => ?_) (fun c25 => ?_)
    · exact absurd hs c25
    · exact ev_thr th_X6_tick_28 (Nat.le_of_ble_eq_true rfl)
  · exact absurd (bI_0.mp (Classical.not_not.mp c8)) (fun q => q hx)
theorem FI_ticks : ∀ (j : Nat) (K : KT) (b T X : Nat), FI K T X → FI (ticksK j K b).1 (T + j) (X + 193 * j) ∧ (ticksK j K b).2 ≤ b + j ∧ (ticksK j K b).1.2 0 0 = K.2 0 0 := by
  intro j
  induction j with
  | zero => intro K b T X h; exact ⟨h, Nat.le_refl _, rfl⟩
  | succ j ih =>
    intro K b T X h
    obtain ⟨a1, a2, a3⟩ := FI_tick h
    obtain ⟨b1, b2, b3⟩ := ih (tickK K).1 (b + (tickK K).2) (T + 1) (X + 193) a1
    simp only [ticksK]
    rw [show T + 1 + j = T + (j + 1) by omega] at b1
    exact ⟨b1.mono (by omega), by omega, b3.trans a3⟩
