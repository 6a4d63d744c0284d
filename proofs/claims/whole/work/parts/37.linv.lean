/-! WHAT THE LAW'S LOOP KEEPS -/
theorem lg_self (a : Int64) : lg_cmp a a = 0 := by
  unfold lg_cmp
  rw [if_neg (show ¬ a > a from Int64.lt_irrefl), if_pos rfl]
theorem FI_thr {K : KT} {T X : Nat} (h : FI K T X) (v : Int32) : FI (sI K 28 4 v) T X := h.aft (Inv_irr h.1 4 _ (by decide) (by decide) (by decide)) (A_of (fun h => h) (fun _ h => h) rfl (Ph_eq rfl (fun _ => rfl)) rfl rfl)
theorem FI_str {K : KT} {T X : Nat} (h : FI K T X) (v : Int32) : FI (sI K 28 1 v) T X := h.aft (Inv_irr h.1 1 _ (by decide) (by decide) (by decide)) (A_of (fun h => h) (fun _ h => h) rfl (Ph_eq rfl (fun _ => rfl)) rfl rfl)
theorem FI_stc {K : KT} {T X : Nat} (h : FI K T X) (t : Nat) (v : Int32) : FI (sI K 5 t v) T X := h.aft (Inv_irr h.1 t _ (by decide) (by decide) (by decide)) (A_of (fun h => h) (fun _ h => h) rfl (Ph_eq rfl (fun _ => rfl)) rfl rfl)
theorem FI_13 {K : KT} {T X : Nat} (h : FI K T X) (g : Nat → Int32) : FI (setA K 13 g) T X := h.aft (Inv_arr h.1 g (by decide) (by decide) (by decide)) (A_of (fun h => h) (fun _ h => h) rfl (Ph_eq rfl (fun _ => rfl)) rfl rfl)
theorem nI_rng {x : Int32} {a b : Nat} (h1 : nI a ≤ x) (h2 : x ≤ nI b) (ha : a < 2 ^ 31) (hb : b < 2 ^ 31) : ∃ j, j ≤ b ∧ x = nI j := by
  obtain ⟨j, hj, e⟩ := nI_of (x := x) (Int32.not_lt.mpr (Int32.le_trans (show (0 : Int32) ≤ nI a from nI_pos' ha) h1))
  rw [e, nI_leI hj hb] at h2
  exact ⟨j, h2, e⟩
theorem FI_task {K : KT} {T X : Nat} (h : FI K T X) (hf : Fr1 K (K.2 0 0)) (hn : K.2 0 0 < 8) {p e f d b : Int32} (ok : taskOk p e f d b) : FI (taskK K p e f d b) T X := by
  obtain ⟨⟨i1, i2, i3, i4⟩, i5, i6, i7⟩ := h.1
  have t6 : (taskK K p e f d b).1 6 = K.1 6 := rfl
  have t3n : (taskK K p e f d b).2 3 (K.2 0 0) = 0 := by show (if K.2 0 0 = K.2 0 0 then 0 else _) = 0; rw [if_pos rfl]
  have t3 : ∀ i, ¬ i = K.2 0 0 → (taskK K p e f d b).2 3 i = K.2 3 i := fun i q => if_neg q
  have f6 : K.1 6 (K.2 0 0) = 0 := hf.1.2.1
  have f1 : K.2 1 (K.2 0 0) = 0 := hf.2.2.1
  have f2 : K.2 2 (K.2 0 0) = 0 := hf.2.2.2.1
  have f10 : K.1 10 (K.2 0 0) = 0 := hf.1.2.2.2.2.2.1
  refine ⟨⟨⟨?_, i2, ?_, i4⟩, ?_, ?_, ?_⟩, ?_, ⟨h.2.2.1.1, ?_⟩, ?_⟩
  · show K.2 0 0 + 1 ≤ 8
    omega
  · show K.2 0 2 ≤ K.2 0 0 + 1
    omega
  · intro m hm
    have := i5 m hm
    show K.2 4 m ≤ K.2 0 0 + 1
    omega
  · intro i hi
    have hi' : i < K.2 0 0 + 1 := hi
    by_cases q : i = K.2 0 0
    · subst q
      refine ⟨?_, ?_, ?_, Or.inl f6, ?_, ?_⟩
      · show K.2 2 (K.2 0 0) ≤ 10
        omega
      · show K.2 1 (K.2 0 0) ≤ K.2 2 (K.2 0 0)
        omega
      · rw [t3n]; exact Nat.zero_le _
      · rw [t3n, t6, f6]
        exact ⟨fun q => absurd q (by decide), fun q => absurd rfl q⟩
      · rw [t6, f6]
        exact fun q => absurd q (by decide)
    · have := i6 i (by omega)
      unfold tOk at this ⊢
      rw [t3 i q]
      exact this
  · intro i k hi hk
    have hi' : i < K.2 0 0 + 1 := hi
    have hk' : k < K.2 2 i := hk
    by_cases q : i = K.2 0 0
    · subst q; omega
    · exact i7 i k (by omega) hk'
  · intro t ht q
    have ht' : t < K.2 0 0 + 1 := ht
    by_cases q2 : t = K.2 0 0
    · subst q2; exact absurd f6 q
    · exact h.2.1 t (by omega) q
  · intro t ht
    have ht' : t < K.2 0 0 + 1 := ht
    by_cases q2 : t = K.2 0 0
    · subst q2
      refine ⟨⟨0, by omega, f10⟩, ?_, ?_⟩
      · obtain ⟨j, j1, j2⟩ := nI_rng (a := 1) (b := 200) ok.2.2.2.1.1 ok.2.2.2.1.2 (by omega) (by omega)
        refine ⟨j, j1, ?_⟩
        show (if K.2 0 0 = K.2 0 0 then d else _) = _
        rw [if_pos rfl]; exact j2
      · rcases ok.1 with e0 | ⟨e1, e2⟩
        · refine ⟨0, by omega, ?_⟩
          show (if K.2 0 0 = K.2 0 0 then e else _) = _
          rw [if_pos rfl]; exact e0
        · obtain ⟨j, j1, j2⟩ := nI_rng (a := 2) (b := 200) e1 e2 (by omega) (by omega)
          refine ⟨j, j1, ?_⟩
          show (if K.2 0 0 = K.2 0 0 then e else _) = _
          rw [if_pos rfl]; exact j2
    · obtain ⟨n1, n2, n3⟩ := h.2.2.1.2 t (by omega)
      refine ⟨n1, ?_, ?_⟩
      · show ∃ d', d' ≤ 200 ∧ (if t = K.2 0 0 then d else K.1 3 t) = nI d'
        rw [if_neg q2]; exact n2
      · show ∃ d', d' ≤ 200 ∧ (if t = K.2 0 0 then e else K.1 1 t) = nI d'
        rw [if_neg q2]; exact n3
  · have hp : Ph (taskK K p e f d b) = Ph K := by
      show PhN (taskK K p e f d b) (K.2 0 0) + ph (taskK K p e f d b) (K.2 0 0) = PhN K (K.2 0 0)
      rw [PhN_same (K := K) (L := taskK K p e f d b) (K.2 0 0) (fun i _ => rfl)]
      have : ph (taskK K p e f d b) (K.2 0 0) = 0 := by unfold ph; rw [t6, f6]; rfl
      rw [this]; rfl
    rw [hp]
    exact h.2.2.2
theorem FI_mutex {K : KT} {T X : Nat} (h : FI K T X) (hm : K.2 0 1 < 4) (p c : Int32) : FI (mutexK K p c) T X := by
  obtain ⟨⟨i1, i2, i3, i4⟩, i5, i6, i7⟩ := h.1
  refine ⟨⟨⟨i1, ?_, i3, i4⟩, ?_, ?_, ?_⟩, h.2.1, h.2.2.1, ?_⟩
  · show K.2 0 1 + 1 ≤ 4
    omega
  · intro m hm2
    have hm3 : m < K.2 0 1 + 1 := hm2
    show (if m = K.2 0 1 then 0 else K.2 4 m) ≤ K.2 0 0
    by_cases q : m = K.2 0 1
    · rw [if_pos q]; exact Nat.zero_le _
    · rw [if_neg q]; exact i5 m (by omega)
  · intro i hi
    obtain ⟨a1, a2, a3, a4, a5, a6⟩ := i6 i hi
    exact ⟨a1, a2, by show K.2 3 i ≤ K.2 0 1 + 1; omega, a4, a5, a6⟩
  · intro i k hi hk
    rcases i7 i k hi hk with q | ⟨q, m, hm2, e⟩
    · exact Or.inl q
    · exact Or.inr ⟨q, m, by show m < K.2 0 1 + 1; omega, e⟩
  · rw [show Ph (mutexK K p c) = Ph K from Ph_eq rfl (fun _ => rfl)]
    exact h.2.2.2
theorem FI_step {K : KT} {T X : Nat} (h : FI K T X) (h6 : ∀ i, K.1 6 i = 0) {t : Nat} (ht : t < K.2 0 0) (hz : K.2 2 t < 10) {kd a : Int32} (hk : stepOk K kd a) : FI (stepK K t kd a) T X := by
  obtain ⟨⟨i1, i2, i3, i4⟩, i5, i6, i7⟩ := h.1
  have s2t : (stepK K t kd a).2 2 t = K.2 2 t + 1 := by show (if t = t then _ else _) = _; rw [if_pos rfl]
  have s2 : ∀ i, ¬ i = t → (stepK K t kd a).2 2 i = K.2 2 i := fun i q => if_neg q
  have s26 : ∀ j, (stepK K t kd a).1 26 j = if j = 10 * t + K.2 2 t then kd else K.1 26 j := fun j => rfl
  have s27 : ∀ j, (stepK K t kd a).1 27 j = if j = 10 * t + K.2 2 t then a else K.1 27 j := fun j => rfl
  refine ⟨⟨⟨i1, i2, i3, i4⟩, i5, ?_, ?_⟩, ?_, h.2.2.1, ?_⟩
  · intro i hi
    obtain ⟨a1, a2, a3, a4, a5, a6⟩ := i6 i hi
    by_cases q : i = t
    · subst q
      refine ⟨by rw [s2t]; omega, by rw [s2t]; show K.2 1 i ≤ _; omega, a3, a4, a5, ?_⟩
      intro q
      exact absurd (show K.1 6 i = 2 from q) (by rw [h6]; decide)
    · unfold tOk
      rw [s2 i q]
      exact ⟨a1, a2, a3, a4, a5, a6⟩
  · intro i k hi hk2
    have hz2 := (i6 i hi).1
    by_cases q : i = t
    · subst q
      rw [s2t] at hk2
      by_cases q2 : k = K.2 2 i
      · subst q2
        unfold sOk
        rw [s26, s27, if_pos rfl, if_pos rfl]
        rcases hk with ⟨k0, k1, k2⟩ | ⟨-, k1, k2⟩
        · left
          obtain ⟨j, j1, j2⟩ := nI_rng (a := 1) (b := 20) k1 k2 (by omega) (by omega)
          refine ⟨k0, j, ?_, j1, j2⟩
          have : nI 1 ≤ a := k1
          rw [j2, nI_leI (by omega) (by omega)] at this
          exact this
        · right
          obtain ⟨m, m1, m2⟩ := isT_ex (by omega) k2
          exact ⟨k1, m, m1, m2⟩
      · have := i7 i k hi (by omega)
        unfold sOk at this ⊢
        rw [s26, s27, if_neg (by omega), if_neg (by omega)]
        exact this
    · rw [s2 i q] at hk2
      have := i7 i k hi hk2
      unfold sOk at this ⊢
      rw [s26, s27, if_neg (by omega), if_neg (by omega)]
      exact this
  · intro i hi q
    exact absurd (h6 i) q
  · have e : Ph (stepK K t kd a) = Ph K := Ph_eq rfl (fun i => by
      unfold ph
      rw [show (stepK K t kd a).1 6 i = K.1 6 i from rfl, h6]
      rfl)
    rw [e]
    exact h.2.2.2
def Fz (K : KT) : Prop := K.1 28 1 = 0 → Fr K ∧ ∀ i, K.1 6 i = 0
theorem Fr_step {K : KT} (h : Fr K) {t : Nat} (ht : t < K.2 0 0) (hz : K.2 2 t < 10) (kd a : Int32) : Fr (stepK K t kd a) := by
  intro i hi
  have hi' : K.2 0 0 ≤ i := hi
  obtain ⟨a1, a2, a3, a4, a5⟩ := h i hi'
  refine ⟨a1, a2, a3, ?_, fun k hk => ?_⟩
  · show (if i = t then _ else K.2 2 i) = 0
    rw [if_neg (by omega)]
    exact a4
  · show (if 10 * i + k = 10 * t + K.2 2 t then kd else K.1 26 (10 * i + k)) = 0 ∧ (if 10 * i + k = 10 * t + K.2 2 t then a else K.1 27 (10 * i + k)) = 0
    rw [if_neg (by omega), if_neg (by omega)]
    exact a5 k hk
theorem Fr_stc {K : KT} (h : Fr K) {t : Nat} (ht : t < K.2 0 0) (v : Int32) : Fr (sI K 5 t v) := by
  intro i hi
  have hi' : K.2 0 0 ≤ i := hi
  obtain ⟨⟨b1, b2⟩, a2, a3⟩ := h i hi'
  refine ⟨⟨?_, b2⟩, a2, a3⟩
  show (if i = t then v else K.1 5 i) = 0
  rw [if_neg (by omega)]
  exact b1
/-- the state before the c-th call -/
def LI (xs : Nat → Int32) (L c : Nat) (K : KT) (G : GT) : Prop := (∃ T X, FI K T X ∧ T ≤ 500 * c ∧ X ≤ 96523 * c) ∧ (K.1 28 1 = 0 ∨ K.1 28 1 = 1) ∧ Fz K ∧ G.2.1 = xs ∧ G.2.2 0 = L ∧ G.2.2 1 ≤ 39 + 6 * c ∧ G.2.2 2 ≤ 655 + 48 * c
theorem LI_0 (xs : Nat → Int32) (L : Nat) (d : Int32) : LI xs L 0 (K0 d) (G0 xs L) := by
  refine ⟨⟨0, 0, ⟨⟨⟨Nat.zero_le _, Nat.zero_le _, Nat.le_refl _, rfl⟩, fun m hm => absurd hm (Nat.not_lt_zero m), fun i hi => absurd hi (Nat.not_lt_zero i), fun i k hi => absurd hi (Nat.not_lt_zero i)⟩, fun t ht => absurd ht (Nat.not_lt_zero t), ⟨rfl, fun t ht => absurd ht (Nat.not_lt_zero t)⟩, Nat.le_refl _⟩, Nat.le_refl _, Nat.le_refl _⟩, Or.inl rfl, fun _ => ⟨fun i _ => ?_, fun i => rfl⟩, rfl, rfl, Nat.le_refl _, Nat.le_refl _⟩
  exact ⟨⟨rfl, rfl, rfl, rfl, rfl, rfl, rfl, rfl⟩, ⟨rfl, rfl, rfl, rfl, rfl, rfl⟩, rfl, rfl, fun k _ => ⟨rfl, rfl⟩⟩
/-- nothing but what was thrown -/
theorem LI_thr {xs : Nat → Int32} {L c : Nat} {K : KT} {G G2 : GT} (h : LI xs L c K G) (v : Int32) (g1 : G2.2.1 = G.2.1) (g2 : G2.2.2 0 = G.2.2 0) (g3 : G2.2.2 1 ≤ G.2.2 1 + 6) (g4 : G2.2.2 2 ≤ G.2.2 2 + 48) : LI xs L (c + 1) (sI K 28 4 v) G2 := by
  obtain ⟨⟨T, X, h1, h2, h3⟩, h4, h5, h6, h7, h8, h9⟩ := h
  exact ⟨⟨T, X, FI_thr h1 v, by omega, by omega⟩, h4, h5, g1.trans h6, g2.trans h7, by omega, by omega⟩
theorem LI_new {xs : Nat → Int32} {L c : Nat} {K K2 : KT} {G G2 : GT} (h : LI xs L c K G) (hF : ∃ T X, FI K2 T X ∧ T ≤ 500 * c + 500 ∧ X ≤ 96523 * c + 96523) (hs : K2.1 28 1 = 0 ∨ K2.1 28 1 = 1) (hz : Fz K2) (g1 : G2.2.1 = G.2.1) (g2 : G2.2.2 0 = G.2.2 0) (g3 : G2.2.2 1 ≤ G.2.2 1 + 6) (g4 : G2.2.2 2 ≤ G.2.2 2 + 48) : LI xs L (c + 1) K2 G2 := by
  obtain ⟨-, -, -, h6, h7, h8, h9⟩ := h
  obtain ⟨T, X, h1, h2, h3⟩ := hF
  exact ⟨⟨T, X, h1, by omega, by omega⟩, hs, hz, g1.trans h6, g2.trans h7, by omega, by omega⟩
