/-! THE STATE: K.1 f i are ints, K.2 f i naturals. The same words for the class and the reference.
ints: 0 priority 1 period 2 offset 3 deadline 4 budget 5 strict 6 state 7 workedAtStep 8 worked/used 9 releasedAt/begun 10 due 11 since 12 rank 13 urgent 14 left 15 done 16 failed 17 misses 18 lost 19 units 20 longest 21 protocol 22 ceiling 23 24 25 events: kind, time, task; 26 kinds, 27 amounts at 10 t + k; 28: 0 deadlines 1 started 2 time 3 stamp 4 thrown
naturals: 0: 0 tasks 1 mutexes 2 last + 1 3 events 4 next; 1 at 2 steps 3 waits + 1 4 owner + 1 -/
abbrev KT : Type := (Nat → Nat → Int32) × (Nat → Nat → Nat)
abbrev GT : Type := Int64 × (Nat → Int32) × (Nat → Nat)
def sI (K : KT) (f i : Nat) (v : Int32) : KT := (fun f' i' => if f' = f then (if i' = i then v else K.1 f' i') else K.1 f' i', K.2)
def sN (K : KT) (f i : Nat) (v : Nat) : KT := (K.1, fun f' i' => if f' = f then (if i' = i then v else K.2 f' i') else K.2 f' i')
theorem sI_1 (K : KT) (f i : Nat) (v : Int32) (f' i' : Nat) : (sI K f i v).1 f' i' = if f' = f then (if i' = i then v else K.1 f' i') else K.1 f' i' := rfl
theorem sI_2 (K : KT) (f i : Nat) (v : Int32) : (sI K f i v).2 = K.2 := rfl
theorem sN_1 (K : KT) (f i : Nat) (v : Nat) : (sN K f i v).1 = K.1 := rfl
theorem sN_2 (K : KT) (f i : Nat) (v : Nat) (f' i' : Nat) : (sN K f i v).2 f' i' = if f' = f then (if i' = i then v else K.2 f' i') else K.2 f' i' := rfl
theorem KT_ext {K L : KT} (h1 : ∀ f i, K.1 f i = L.1 f i) (h2 : ∀ f i, K.2 f i = L.2 f i) : K = L := Prod.ext (funext fun f => funext fun i => h1 f i) (funext fun f => funext fun i => h2 f i)
def rfq (t o : Nat) : AV := match o with
  | 0 => vN
  | i + 1 => vR t i
def mi (o : Nat) : Int32 := match o with
  | 0 => -1
  | i + 1 => nI i
theorem isRf_rfq (t o : Nat) : isRf (rfq t o) = true := by cases o <;> rfl
theorem isRa_rfq (t o : Nat) (h : (t != 19) = true) : isRa (rfq t o) = true := by cases o <;> first | rfl | exact h
theorem avC_rfq (t o : Nat) : avC (rfq t o) = 1 := by cases o <;> rfl
def cBody (K : KT) (i k : Nat) : AV := if k = 0 then vR 10 i else if k = 1 then vR 11 i else if k = 2 then vI (nI (K.2 2 i)) else vN
def cJob (K : KT) (i k : Nat) : AV := if k = 0 then vI (K.1 6 i) else if k = 1 then vI (nI (K.2 1 i)) else if k = 2 then vI (K.1 7 i) else if k = 3 then vI (K.1 8 i) else if k = 4 then vI (K.1 9 i) else if k = 5 then vI (K.1 10 i) else if k = 6 then vI (K.1 11 i) else if k = 7 then rfq 4 (K.2 3 i) else if k = 8 then vI (K.1 12 i) else vN
def cJour (K : KT) (k : Nat) : AV := if k = 0 then vR 12 0 else if k = 1 then vR 13 0 else if k = 2 then vR 14 0 else if k = 3 then vI (nI (K.2 0 3)) else if k = 4 then vI (nI (K.2 0 4)) else vN
def cMut (K : KT) (i k : Nat) : AV := if k = 0 then vI (nI i) else if k = 1 then vI (K.1 21 i) else if k = 2 then vI (K.1 22 i) else if k = 3 then rfq 6 (K.2 4 i) else vN
def cTal (K : KT) (i k : Nat) : AV := if k = 0 then vI (K.1 15 i) else if k = 1 then vI (K.1 16 i) else if k = 2 then vI (K.1 17 i) else if k = 3 then vI (K.1 18 i) else if k = 4 then vI (K.1 19 i) else if k = 5 then vI (K.1 20 i) else vN
def cTask (K : KT) (i k : Nat) : AV := if k = 0 then vI (nI i) else if k = 1 then vI (K.1 0 i) else if k = 2 then vI (K.1 1 i) else if k = 3 then vI (K.1 2 i) else if k = 4 then vI (K.1 3 i) else if k = 5 then vI (K.1 4 i) else if k = 6 then vR 1 i else if k = 7 then vR 2 i else if k = 8 then vR 5 i else if k = 9 then vI (K.1 5 i) else vN
def cKer (K : KT) (k : Nat) : AV := if k = 0 then vI (K.1 28 0) else if k = 1 then vR 15 0 else if k = 2 then vR 16 0 else if k = 3 then vR 3 0 else if k = 4 then vI (nI (K.2 0 0)) else if k = 5 then vI (nI (K.2 0 1)) else if k = 6 then vI (K.1 28 1) else if k = 7 then vI (K.1 28 2) else if k = 8 then rfq 6 (K.2 0 2) else if k = 9 then vI (K.1 28 3) else vN
def cMod (K : KT) (k : Nat) : AV := if k = 0 then vI (K.1 28 4) else if k = 1 then vI (K.1 28 0) else if k = 2 then vI (K.1 28 1) else if k = 3 then vI (K.1 28 2) else if k = 4 then vI (mi (K.2 0 2)) else if k = 5 then vI (K.1 28 3) else if k = 6 then vI (nI (K.2 0 0)) else if k = 31 then vI (nI (K.2 0 1)) else if k = 35 then vI (nI (K.2 0 3)) else (if k < 39 then vR (20 + k) 0 else vN)
def cLow (K M : KT) (G : GT) (t i k : Nat) : AV := if t = 1 then cBody K i k else if t = 2 then cJob K i k else if t = 3 then (if i = 0 then cJour K k else vN) else if t = 4 then cMut K i k else if t = 5 then cTal K i k else if t = 6 then cTask K i k else if t = 7 then (if i = 0 then cKer K k else vN) else if t = 8 then (if i = 0 then cMod M k else vN) else if t = 10 then (if k < 10 then vI (K.1 26 (10 * i + k)) else vN) else if t = 11 then (if k < 10 then vI (K.1 27 (10 * i + k)) else vN) else if t = 12 then (if i = 0 then vI (K.1 23 k) else vN) else if t = 13 then (if i = 0 then vI (K.1 24 k) else vN) else if t = 14 then (if i = 0 then vI (K.1 25 k) else vN) else if t = 15 then (if i = 0 then (if k < K.2 0 0 then vR 6 k else vN) else vN) else if t = 16 then (if i = 0 then (if k < K.2 0 1 then vR 4 k else vN) else vN) else if t = 17 then (if i = 0 then (if k = 0 then vL G.1 else vN) else vN) else if t = 18 then (if i = 0 then vI (G.2.1 k) else vN) else vN
def cMa1 (M : KT) (t k : Nat) : AV := if t = 27 then vI (M.1 0 k) else if t = 28 then vI (M.1 1 k) else if t = 29 then vI (M.1 2 k) else if t = 30 then vI (M.1 3 k) else if t = 31 then vI (M.1 4 k) else if t = 32 then vI (M.1 5 k) else if t = 33 then vI (nI (M.2 2 k)) else if t = 34 then vI (M.1 26 k) else if t = 35 then vI (M.1 27 k) else if t = 36 then vI (M.1 6 k) else if t = 37 then vI (nI (M.2 1 k)) else if t = 38 then vI (M.1 14 k) else if t = 39 then vI (M.1 10 k) else if t = 40 then vI (M.1 9 k) else if t = 41 then vI (M.1 11 k) else if t = 42 then vI (mi (M.2 3 k)) else vN
def cMa2 (M : KT) (t k : Nat) : AV := if t = 43 then vI (M.1 8 k) else if t = 44 then vI (M.1 13 k) else if t = 45 then vI (M.1 15 k) else if t = 46 then vI (M.1 16 k) else if t = 47 then vI (M.1 17 k) else if t = 48 then vI (M.1 18 k) else if t = 49 then vI (M.1 19 k) else if t = 50 then vI (M.1 20 k) else if t = 52 then vI (M.1 21 k) else if t = 53 then vI (M.1 22 k) else if t = 54 then vI (mi (M.2 4 k)) else if t = 56 then vI (M.1 23 k) else if t = 57 then vI (M.1 24 k) else if t = 58 then vI (M.1 25 k) else vN
def concF (K M : KT) (G : GT) (t i k : Nat) : AV := if t < 20 then cLow K M G t i k else if i = 0 then (if t < 43 then cMa1 M t k else cMa2 M t k) else vN
def concC (K : KT) (G : GT) (t : Nat) : Nat := if t = 1 then K.2 0 0 else if t = 2 then K.2 0 0 else if t = 4 then K.2 0 1 else if t = 5 then K.2 0 0 else if t = 6 then K.2 0 0 else if t = 10 then K.2 0 0 else if t = 11 then K.2 0 0 else if t = 19 then G.2.2 3 else if t = 100 then G.2.2 1 else if t = 101 then G.2.2 2 else if t = 102 then G.2.2 0 else if t < 20 then (if t = 3 then 1 else if t = 7 then 1 else if t = 8 then 1 else if t < 12 then 0 else if t < 19 then 1 else 0) else if t < 27 then 0 else if t < 51 then 1 else if t = 52 then 1 else if t = 53 then 1 else if t = 54 then 1 else if t = 56 then 1 else if t = 57 then 1 else if t = 58 then 1 else 0
def conc (K M : KT) (G : GT) : Sto := (concF K M G, concC K G)
theorem co_tasks {K M : KT} {G : GT} {i : Nat} (h : i < K.2 0 0) : (conc K M G).1 15 0 i = vR 6 i := if_pos h
theorem co_muts {K M : KT} {G : GT} {i : Nat} (h : i < K.2 0 1) : (conc K M G).1 16 0 i = vR 4 i := if_pos h
theorem co_bk {K M : KT} {G : GT} {i k : Nat} (h : k < 10) : (conc K M G).1 10 i k = vI (K.1 26 (10 * i + k)) := if_pos h
theorem co_ba {K M : KT} {G : GT} {i k : Nat} (h : k < 10) : (conc K M G).1 11 i k = vI (K.1 27 (10 * i + k)) := if_pos h
theorem co_wait {K M : KT} {G : GT} {i w : Nat} (h : K.2 3 i = w) : (conc K M G).1 2 i 7 = rfq 4 w := by rw [← h]; rfl
theorem co_own {K M : KT} {G : GT} {i w : Nat} (h : K.2 4 i = w) : (conc K M G).1 4 i 3 = rfq 6 w := by rw [← h]; rfl
theorem co_last {K M : KT} {G : GT} {w : Nat} (h : K.2 0 2 = w) : (conc K M G).1 7 0 8 = rfq 6 w := by rw [← h]; rfl
theorem pu_job_0 (K M : KT) (G : GT) (i : Nat) (v : Int32) : setS (conc K M G) 2 i 0 (vI v) = conc (sI K 6 i v) M G := by
  refine Prod.ext (funext fun t' => funext fun i' => funext fun k' => ?_) rfl
  show (if t' = 2 ∧ i' = i ∧ k' = 0 then _ else concF K M G t' i' k') = concF (sI K 6 i v) M G t' i' k'
  by_cases ht : t' = 2
  · subst ht
    by_cases hi : i' = i
    · subst hi
      by_cases hk : k' = 0
      · subst hk
        simp [concF, cLow, cMa1, cMa2, sI, sN, rfq, mi, cJob]
      · rw [if_neg (fun c => hk c.2.2)]
        simp [concF, cLow, cMa1, cMa2, sI, sN, rfq, mi, cJob, hk]
    · rw [if_neg (fun c => hi c.2.1)]
      simp [concF, cLow, cMa1, cMa2, sI, sN, rfq, mi, cJob, hi]
  · rw [if_neg (fun c => ht c.1)]
    simp only [concF, cLow, cMa1, cMa2, if_neg ht]
    rfl
theorem pu_job_2 (K M : KT) (G : GT) (i : Nat) (v : Int32) : setS (conc K M G) 2 i 2 (vI v) = conc (sI K 7 i v) M G := by
  refine Prod.ext (funext fun t' => funext fun i' => funext fun k' => ?_) rfl
  show (if t' = 2 ∧ i' = i ∧ k' = 2 then _ else concF K M G t' i' k') = concF (sI K 7 i v) M G t' i' k'
  by_cases ht : t' = 2
  · subst ht
    by_cases hi : i' = i
    · subst hi
      by_cases hk : k' = 2
      · subst hk
        simp [concF, cLow, cMa1, cMa2, sI, sN, rfq, mi, cJob]
      · rw [if_neg (fun c => hk c.2.2)]
        simp [concF, cLow, cMa1, cMa2, sI, sN, rfq, mi, cJob, hk]
    · rw [if_neg (fun c => hi c.2.1)]
      simp [concF, cLow, cMa1, cMa2, sI, sN, rfq, mi, cJob, hi]
  · rw [if_neg (fun c => ht c.1)]
    simp only [concF, cLow, cMa1, cMa2, if_neg ht]
    rfl
theorem pu_job_3 (K M : KT) (G : GT) (i : Nat) (v : Int32) : setS (conc K M G) 2 i 3 (vI v) = conc (sI K 8 i v) M G := by
  refine Prod.ext (funext fun t' => funext fun i' => funext fun k' => ?_) rfl
  show (if t' = 2 ∧ i' = i ∧ k' = 3 then _ else concF K M G t' i' k') = concF (sI K 8 i v) M G t' i' k'
  by_cases ht : t' = 2
  · subst ht
    by_cases hi : i' = i
    · subst hi
      by_cases hk : k' = 3
      · subst hk
        simp [concF, cLow, cMa1, cMa2, sI, sN, rfq, mi, cJob]
      · rw [if_neg (fun c => hk c.2.2)]
        simp [concF, cLow, cMa1, cMa2, sI, sN, rfq, mi, cJob, hk]
    · rw [if_neg (fun c => hi c.2.1)]
      simp [concF, cLow, cMa1, cMa2, sI, sN, rfq, mi, cJob, hi]
  · rw [if_neg (fun c => ht c.1)]
    simp only [concF, cLow, cMa1, cMa2, if_neg ht]
    rfl
theorem pu_job_4 (K M : KT) (G : GT) (i : Nat) (v : Int32) : setS (conc K M G) 2 i 4 (vI v) = conc (sI K 9 i v) M G := by
  refine Prod.ext (funext fun t' => funext fun i' => funext fun k' => ?_) rfl
  show (if t' = 2 ∧ i' = i ∧ k' = 4 then _ else concF K M G t' i' k') = concF (sI K 9 i v) M G t' i' k'
  by_cases ht : t' = 2
  · subst ht
    by_cases hi : i' = i
    · subst hi
      by_cases hk : k' = 4
      · subst hk
        simp [concF, cLow, cMa1, cMa2, sI, sN, rfq, mi, cJob]
      · rw [if_neg (fun c => hk c.2.2)]
        simp [concF, cLow, cMa1, cMa2, sI, sN, rfq, mi, cJob, hk]
    · rw [if_neg (fun c => hi c.2.1)]
      simp [concF, cLow, cMa1, cMa2, sI, sN, rfq, mi, cJob, hi]
  · rw [if_neg (fun c => ht c.1)]
    simp only [concF, cLow, cMa1, cMa2, if_neg ht]
    rfl
theorem pu_job_5 (K M : KT) (G : GT) (i : Nat) (v : Int32) : setS (conc K M G) 2 i 5 (vI v) = conc (sI K 10 i v) M G := by
  refine Prod.ext (funext fun t' => funext fun i' => funext fun k' => ?_) rfl
  show (if t' = 2 ∧ i' = i ∧ k' = 5 then _ else concF K M G t' i' k') = concF (sI K 10 i v) M G t' i' k'
  by_cases ht : t' = 2
  · subst ht
    by_cases hi : i' = i
    · subst hi
      by_cases hk : k' = 5
      · subst hk
        simp [concF, cLow, cMa1, cMa2, sI, sN, rfq, mi, cJob]
      · rw [if_neg (fun c => hk c.2.2)]
        simp [concF, cLow, cMa1, cMa2, sI, sN, rfq, mi, cJob, hk]
    · rw [if_neg (fun c => hi c.2.1)]
      simp [concF, cLow, cMa1, cMa2, sI, sN, rfq, mi, cJob, hi]
  · rw [if_neg (fun c => ht c.1)]
    simp only [concF, cLow, cMa1, cMa2, if_neg ht]
    rfl
theorem pu_job_6 (K M : KT) (G : GT) (i : Nat) (v : Int32) : setS (conc K M G) 2 i 6 (vI v) = conc (sI K 11 i v) M G := by
  refine Prod.ext (funext fun t' => funext fun i' => funext fun k' => ?_) rfl
  show (if t' = 2 ∧ i' = i ∧ k' = 6 then _ else concF K M G t' i' k') = concF (sI K 11 i v) M G t' i' k'
  by_cases ht : t' = 2
  · subst ht
    by_cases hi : i' = i
    · subst hi
      by_cases hk : k' = 6
      · subst hk
        simp [concF, cLow, cMa1, cMa2, sI, sN, rfq, mi, cJob]
      · rw [if_neg (fun c => hk c.2.2)]
        simp [concF, cLow, cMa1, cMa2, sI, sN, rfq, mi, cJob, hk]
    · rw [if_neg (fun c => hi c.2.1)]
      simp [concF, cLow, cMa1, cMa2, sI, sN, rfq, mi, cJob, hi]
  · rw [if_neg (fun c => ht c.1)]
    simp only [concF, cLow, cMa1, cMa2, if_neg ht]
    rfl
theorem pu_job_8 (K M : KT) (G : GT) (i : Nat) (v : Int32) : setS (conc K M G) 2 i 8 (vI v) = conc (sI K 12 i v) M G := by
  refine Prod.ext (funext fun t' => funext fun i' => funext fun k' => ?_) rfl
  show (if t' = 2 ∧ i' = i ∧ k' = 8 then _ else concF K M G t' i' k') = concF (sI K 12 i v) M G t' i' k'
  by_cases ht : t' = 2
  · subst ht
    by_cases hi : i' = i
    · subst hi
      by_cases hk : k' = 8
      · subst hk
        simp [concF, cLow, cMa1, cMa2, sI, sN, rfq, mi, cJob]
      · rw [if_neg (fun c => hk c.2.2)]
        simp [concF, cLow, cMa1, cMa2, sI, sN, rfq, mi, cJob, hk]
    · rw [if_neg (fun c => hi c.2.1)]
      simp [concF, cLow, cMa1, cMa2, sI, sN, rfq, mi, cJob, hi]
  · rw [if_neg (fun c => ht c.1)]
    simp only [concF, cLow, cMa1, cMa2, if_neg ht]
    rfl
theorem pu_job_1 (K M : KT) (G : GT) (i v : Nat) : setS (conc K M G) 2 i 1 (vI (nI v)) = conc (sN K 1 i v) M G := by
  refine Prod.ext (funext fun t' => funext fun i' => funext fun k' => ?_) rfl
  show (if t' = 2 ∧ i' = i ∧ k' = 1 then _ else concF K M G t' i' k') = concF (sN K 1 i v) M G t' i' k'
  by_cases ht : t' = 2
  · subst ht
    by_cases hi : i' = i
    · subst hi
      by_cases hk : k' = 1
      · subst hk
        simp [concF, cLow, cMa1, cMa2, sI, sN, rfq, mi, cJob]
      · rw [if_neg (fun c => hk c.2.2)]
        simp [concF, cLow, cMa1, cMa2, sI, sN, rfq, mi, cJob, hk]
    · rw [if_neg (fun c => hi c.2.1)]
      simp [concF, cLow, cMa1, cMa2, sI, sN, rfq, mi, cJob, hi]
  · rw [if_neg (fun c => ht c.1)]
    simp only [concF, cLow, cMa1, cMa2, if_neg ht]
    rfl
theorem pu_job_7n (K M : KT) (G : GT) (i : Nat) : setS (conc K M G) 2 i 7 (vN) = conc (sN K 3 i 0) M G := by
  refine Prod.ext (funext fun t' => funext fun i' => funext fun k' => ?_) rfl
  show (if t' = 2 ∧ i' = i ∧ k' = 7 then _ else concF K M G t' i' k') = concF (sN K 3 i 0) M G t' i' k'
  by_cases ht : t' = 2
  · subst ht
    by_cases hi : i' = i
    · subst hi
      by_cases hk : k' = 7
      · subst hk
        simp [concF, cLow, cMa1, cMa2, sI, sN, rfq, mi, cJob]
      · rw [if_neg (fun c => hk c.2.2)]
        simp [concF, cLow, cMa1, cMa2, sI, sN, rfq, mi, cJob, hk]
    · rw [if_neg (fun c => hi c.2.1)]
      simp [concF, cLow, cMa1, cMa2, sI, sN, rfq, mi, cJob, hi]
  · rw [if_neg (fun c => ht c.1)]
    simp only [concF, cLow, cMa1, cMa2, if_neg ht]
    rfl
theorem pu_job_7 (K M : KT) (G : GT) (i v : Nat) : setS (conc K M G) 2 i 7 (vR 4 v) = conc (sN K 3 i (v + 1)) M G := by
  refine Prod.ext (funext fun t' => funext fun i' => funext fun k' => ?_) rfl
  show (if t' = 2 ∧ i' = i ∧ k' = 7 then _ else concF K M G t' i' k') = concF (sN K 3 i (v + 1)) M G t' i' k'
  by_cases ht : t' = 2
  · subst ht
    by_cases hi : i' = i
    · subst hi
      by_cases hk : k' = 7
      · subst hk
        simp [concF, cLow, cMa1, cMa2, sI, sN, rfq, mi, cJob]
      · rw [if_neg (fun c => hk c.2.2)]
        simp [concF, cLow, cMa1, cMa2, sI, sN, rfq, mi, cJob, hk]
    · rw [if_neg (fun c => hi c.2.1)]
      simp [concF, cLow, cMa1, cMa2, sI, sN, rfq, mi, cJob, hi]
  · rw [if_neg (fun c => ht c.1)]
    simp only [concF, cLow, cMa1, cMa2, if_neg ht]
    rfl
theorem pu_body_2 (K M : KT) (G : GT) (i v : Nat) : setS (conc K M G) 1 i 2 (vI (nI v)) = conc (sN K 2 i v) M G := by
  refine Prod.ext (funext fun t' => funext fun i' => funext fun k' => ?_) rfl
  show (if t' = 1 ∧ i' = i ∧ k' = 2 then _ else concF K M G t' i' k') = concF (sN K 2 i v) M G t' i' k'
  by_cases ht : t' = 1
  · subst ht
    by_cases hi : i' = i
    · subst hi
      by_cases hk : k' = 2
      · subst hk
        simp [concF, cLow, cMa1, cMa2, sI, sN, rfq, mi, cBody]
      · rw [if_neg (fun c => hk c.2.2)]
        simp [concF, cLow, cMa1, cMa2, sI, sN, rfq, mi, cBody, hk]
    · rw [if_neg (fun c => hi c.2.1)]
      simp [concF, cLow, cMa1, cMa2, sI, sN, rfq, mi, cBody, hi]
  · rw [if_neg (fun c => ht c.1)]
    simp only [concF, cLow, cMa1, cMa2, if_neg ht]
    rfl
theorem pu_jour_3 (K M : KT) (G : GT) (v : Nat) : setS (conc K M G) 3 0 3 (vI (nI v)) = conc (sN K 0 3 v) M G := by
  refine Prod.ext (funext fun t' => funext fun i' => funext fun k' => ?_) rfl
  show (if t' = 3 ∧ i' = 0 ∧ k' = 3 then _ else concF K M G t' i' k') = concF (sN K 0 3 v) M G t' i' k'
  by_cases ht : t' = 3
  · subst ht
    by_cases hi : i' = 0
    · subst hi
      by_cases hk : k' = 3
      · subst hk
        simp [concF, cLow, cMa1, cMa2, sI, sN, rfq, mi, cJour]
      · rw [if_neg (fun c => hk c.2.2)]
        simp [concF, cLow, cMa1, cMa2, sI, sN, rfq, mi, cJour, hk]
    · rw [if_neg (fun c => hi c.2.1)]
      simp [concF, cLow, cMa1, cMa2, sI, sN, rfq, mi, cJour, hi]
  · rw [if_neg (fun c => ht c.1)]
    simp only [concF, cLow, cMa1, cMa2, if_neg ht]
    rfl
theorem pu_jour_4 (K M : KT) (G : GT) (v : Nat) : setS (conc K M G) 3 0 4 (vI (nI v)) = conc (sN K 0 4 v) M G := by
  refine Prod.ext (funext fun t' => funext fun i' => funext fun k' => ?_) rfl
  show (if t' = 3 ∧ i' = 0 ∧ k' = 4 then _ else concF K M G t' i' k') = concF (sN K 0 4 v) M G t' i' k'
  by_cases ht : t' = 3
  · subst ht
    by_cases hi : i' = 0
    · subst hi
      by_cases hk : k' = 4
      · subst hk
        simp [concF, cLow, cMa1, cMa2, sI, sN, rfq, mi, cJour]
      · rw [if_neg (fun c => hk c.2.2)]
        simp [concF, cLow, cMa1, cMa2, sI, sN, rfq, mi, cJour, hk]
    · rw [if_neg (fun c => hi c.2.1)]
      simp [concF, cLow, cMa1, cMa2, sI, sN, rfq, mi, cJour, hi]
  · rw [if_neg (fun c => ht c.1)]
    simp only [concF, cLow, cMa1, cMa2, if_neg ht]
    rfl
theorem pu_mut_3n (K M : KT) (G : GT) (i : Nat) : setS (conc K M G) 4 i 3 (vN) = conc (sN K 4 i 0) M G := by
  refine Prod.ext (funext fun t' => funext fun i' => funext fun k' => ?_) rfl
  show (if t' = 4 ∧ i' = i ∧ k' = 3 then _ else concF K M G t' i' k') = concF (sN K 4 i 0) M G t' i' k'
  by_cases ht : t' = 4
  · subst ht
    by_cases hi : i' = i
    · subst hi
      by_cases hk : k' = 3
      · subst hk
        simp [concF, cLow, cMa1, cMa2, sI, sN, rfq, mi, cMut]
      · rw [if_neg (fun c => hk c.2.2)]
        simp [concF, cLow, cMa1, cMa2, sI, sN, rfq, mi, cMut, hk]
    · rw [if_neg (fun c => hi c.2.1)]
      simp [concF, cLow, cMa1, cMa2, sI, sN, rfq, mi, cMut, hi]
  · rw [if_neg (fun c => ht c.1)]
    simp only [concF, cLow, cMa1, cMa2, if_neg ht]
    rfl
theorem pu_mut_3 (K M : KT) (G : GT) (i v : Nat) : setS (conc K M G) 4 i 3 (vR 6 v) = conc (sN K 4 i (v + 1)) M G := by
  refine Prod.ext (funext fun t' => funext fun i' => funext fun k' => ?_) rfl
  show (if t' = 4 ∧ i' = i ∧ k' = 3 then _ else concF K M G t' i' k') = concF (sN K 4 i (v + 1)) M G t' i' k'
  by_cases ht : t' = 4
  · subst ht
    by_cases hi : i' = i
    · subst hi
      by_cases hk : k' = 3
      · subst hk
        simp [concF, cLow, cMa1, cMa2, sI, sN, rfq, mi, cMut]
      · rw [if_neg (fun c => hk c.2.2)]
        simp [concF, cLow, cMa1, cMa2, sI, sN, rfq, mi, cMut, hk]
    · rw [if_neg (fun c => hi c.2.1)]
      simp [concF, cLow, cMa1, cMa2, sI, sN, rfq, mi, cMut, hi]
  · rw [if_neg (fun c => ht c.1)]
    simp only [concF, cLow, cMa1, cMa2, if_neg ht]
    rfl
theorem pu_tal_0 (K M : KT) (G : GT) (i : Nat) (v : Int32) : setS (conc K M G) 5 i 0 (vI v) = conc (sI K 15 i v) M G := by
  refine Prod.ext (funext fun t' => funext fun i' => funext fun k' => ?_) rfl
  show (if t' = 5 ∧ i' = i ∧ k' = 0 then _ else concF K M G t' i' k') = concF (sI K 15 i v) M G t' i' k'
  by_cases ht : t' = 5
  · subst ht
    by_cases hi : i' = i
    · subst hi
      by_cases hk : k' = 0
      · subst hk
        simp [concF, cLow, cMa1, cMa2, sI, sN, rfq, mi, cTal]
      · rw [if_neg (fun c => hk c.2.2)]
        simp [concF, cLow, cMa1, cMa2, sI, sN, rfq, mi, cTal, hk]
    · rw [if_neg (fun c => hi c.2.1)]
      simp [concF, cLow, cMa1, cMa2, sI, sN, rfq, mi, cTal, hi]
  · rw [if_neg (fun c => ht c.1)]
    simp only [concF, cLow, cMa1, cMa2, if_neg ht]
    rfl
theorem pu_tal_1 (K M : KT) (G : GT) (i : Nat) (v : Int32) : setS (conc K M G) 5 i 1 (vI v) = conc (sI K 16 i v) M G := by
  refine Prod.ext (funext fun t' => funext fun i' => funext fun k' => ?_) rfl
  show (if t' = 5 ∧ i' = i ∧ k' = 1 then _ else concF K M G t' i' k') = concF (sI K 16 i v) M G t' i' k'
  by_cases ht : t' = 5
  · subst ht
    by_cases hi : i' = i
    · subst hi
      by_cases hk : k' = 1
      · subst hk
        simp [concF, cLow, cMa1, cMa2, sI, sN, rfq, mi, cTal]
      · rw [if_neg (fun c => hk c.2.2)]
        simp [concF, cLow, cMa1, cMa2, sI, sN, rfq, mi, cTal, hk]
    · rw [if_neg (fun c => hi c.2.1)]
      simp [concF, cLow, cMa1, cMa2, sI, sN, rfq, mi, cTal, hi]
  · rw [if_neg (fun c => ht c.1)]
    simp only [concF, cLow, cMa1, cMa2, if_neg ht]
    rfl
theorem pu_tal_2 (K M : KT) (G : GT) (i : Nat) (v : Int32) : setS (conc K M G) 5 i 2 (vI v) = conc (sI K 17 i v) M G := by
  refine Prod.ext (funext fun t' => funext fun i' => funext fun k' => ?_) rfl
  show (if t' = 5 ∧ i' = i ∧ k' = 2 then _ else concF K M G t' i' k') = concF (sI K 17 i v) M G t' i' k'
  by_cases ht : t' = 5
  · subst ht
    by_cases hi : i' = i
    · subst hi
      by_cases hk : k' = 2
      · subst hk
        simp [concF, cLow, cMa1, cMa2, sI, sN, rfq, mi, cTal]
      · rw [if_neg (fun c => hk c.2.2)]
        simp [concF, cLow, cMa1, cMa2, sI, sN, rfq, mi, cTal, hk]
    · rw [if_neg (fun c => hi c.2.1)]
      simp [concF, cLow, cMa1, cMa2, sI, sN, rfq, mi, cTal, hi]
  · rw [if_neg (fun c => ht c.1)]
    simp only [concF, cLow, cMa1, cMa2, if_neg ht]
    rfl
theorem pu_tal_3 (K M : KT) (G : GT) (i : Nat) (v : Int32) : setS (conc K M G) 5 i 3 (vI v) = conc (sI K 18 i v) M G := by
  refine Prod.ext (funext fun t' => funext fun i' => funext fun k' => ?_) rfl
  show (if t' = 5 ∧ i' = i ∧ k' = 3 then _ else concF K M G t' i' k') = concF (sI K 18 i v) M G t' i' k'
  by_cases ht : t' = 5
  · subst ht
    by_cases hi : i' = i
    · subst hi
      by_cases hk : k' = 3
      · subst hk
        simp [concF, cLow, cMa1, cMa2, sI, sN, rfq, mi, cTal]
      · rw [if_neg (fun c => hk c.2.2)]
        simp [concF, cLow, cMa1, cMa2, sI, sN, rfq, mi, cTal, hk]
    · rw [if_neg (fun c => hi c.2.1)]
      simp [concF, cLow, cMa1, cMa2, sI, sN, rfq, mi, cTal, hi]
  · rw [if_neg (fun c => ht c.1)]
    simp only [concF, cLow, cMa1, cMa2, if_neg ht]
    rfl
theorem pu_tal_4 (K M : KT) (G : GT) (i : Nat) (v : Int32) : setS (conc K M G) 5 i 4 (vI v) = conc (sI K 19 i v) M G := by
  refine Prod.ext (funext fun t' => funext fun i' => funext fun k' => ?_) rfl
  show (if t' = 5 ∧ i' = i ∧ k' = 4 then _ else concF K M G t' i' k') = concF (sI K 19 i v) M G t' i' k'
  by_cases ht : t' = 5
  · subst ht
    by_cases hi : i' = i
    · subst hi
      by_cases hk : k' = 4
      · subst hk
        simp [concF, cLow, cMa1, cMa2, sI, sN, rfq, mi, cTal]
      · rw [if_neg (fun c => hk c.2.2)]
        simp [concF, cLow, cMa1, cMa2, sI, sN, rfq, mi, cTal, hk]
    · rw [if_neg (fun c => hi c.2.1)]
      simp [concF, cLow, cMa1, cMa2, sI, sN, rfq, mi, cTal, hi]
  · rw [if_neg (fun c => ht c.1)]
    simp only [concF, cLow, cMa1, cMa2, if_neg ht]
    rfl
theorem pu_tal_5 (K M : KT) (G : GT) (i : Nat) (v : Int32) : setS (conc K M G) 5 i 5 (vI v) = conc (sI K 20 i v) M G := by
  refine Prod.ext (funext fun t' => funext fun i' => funext fun k' => ?_) rfl
  show (if t' = 5 ∧ i' = i ∧ k' = 5 then _ else concF K M G t' i' k') = concF (sI K 20 i v) M G t' i' k'
  by_cases ht : t' = 5
  · subst ht
    by_cases hi : i' = i
    · subst hi
      by_cases hk : k' = 5
      · subst hk
        simp [concF, cLow, cMa1, cMa2, sI, sN, rfq, mi, cTal]
      · rw [if_neg (fun c => hk c.2.2)]
        simp [concF, cLow, cMa1, cMa2, sI, sN, rfq, mi, cTal, hk]
    · rw [if_neg (fun c => hi c.2.1)]
      simp [concF, cLow, cMa1, cMa2, sI, sN, rfq, mi, cTal, hi]
  · rw [if_neg (fun c => ht c.1)]
    simp only [concF, cLow, cMa1, cMa2, if_neg ht]
    rfl
theorem pu_task_9 (K M : KT) (G : GT) (i : Nat) (v : Int32) : setS (conc K M G) 6 i 9 (vI v) = conc (sI K 5 i v) M G := by
  refine Prod.ext (funext fun t' => funext fun i' => funext fun k' => ?_) rfl
  show (if t' = 6 ∧ i' = i ∧ k' = 9 then _ else concF K M G t' i' k') = concF (sI K 5 i v) M G t' i' k'
  by_cases ht : t' = 6
  · subst ht
    by_cases hi : i' = i
    · subst hi
      by_cases hk : k' = 9
      · subst hk
        simp [concF, cLow, cMa1, cMa2, sI, sN, rfq, mi, cTask]
      · rw [if_neg (fun c => hk c.2.2)]
        simp [concF, cLow, cMa1, cMa2, sI, sN, rfq, mi, cTask, hk]
    · rw [if_neg (fun c => hi c.2.1)]
      simp [concF, cLow, cMa1, cMa2, sI, sN, rfq, mi, cTask, hi]
  · rw [if_neg (fun c => ht c.1)]
    simp only [concF, cLow, cMa1, cMa2, if_neg ht]
    rfl
theorem pu_ker_6 (K M : KT) (G : GT) (v : Int32) : setS (conc K M G) 7 0 6 (vI v) = conc (sI K 28 1 v) M G := by
  refine Prod.ext (funext fun t' => funext fun i' => funext fun k' => ?_) rfl
  show (if t' = 7 ∧ i' = 0 ∧ k' = 6 then _ else concF K M G t' i' k') = concF (sI K 28 1 v) M G t' i' k'
  by_cases ht : t' = 7
  · subst ht
    by_cases hi : i' = 0
    · subst hi
      by_cases hk : k' = 6
      · subst hk
        simp [concF, cLow, cMa1, cMa2, sI, sN, rfq, mi, cKer]
      · rw [if_neg (fun c => hk c.2.2)]
        simp [concF, cLow, cMa1, cMa2, sI, sN, rfq, mi, cKer, hk]
    · rw [if_neg (fun c => hi c.2.1)]
      simp [concF, cLow, cMa1, cMa2, sI, sN, rfq, mi, cKer, hi]
  · rw [if_neg (fun c => ht c.1)]
    simp only [concF, cLow, cMa1, cMa2, if_neg ht]
    rfl
theorem pu_ker_7 (K M : KT) (G : GT) (v : Int32) : setS (conc K M G) 7 0 7 (vI v) = conc (sI K 28 2 v) M G := by
  refine Prod.ext (funext fun t' => funext fun i' => funext fun k' => ?_) rfl
  show (if t' = 7 ∧ i' = 0 ∧ k' = 7 then _ else concF K M G t' i' k') = concF (sI K 28 2 v) M G t' i' k'
  by_cases ht : t' = 7
  · subst ht
    by_cases hi : i' = 0
    · subst hi
      by_cases hk : k' = 7
      · subst hk
        simp [concF, cLow, cMa1, cMa2, sI, sN, rfq, mi, cKer]
      · rw [if_neg (fun c => hk c.2.2)]
        simp [concF, cLow, cMa1, cMa2, sI, sN, rfq, mi, cKer, hk]
    · rw [if_neg (fun c => hi c.2.1)]
      simp [concF, cLow, cMa1, cMa2, sI, sN, rfq, mi, cKer, hi]
  · rw [if_neg (fun c => ht c.1)]
    simp only [concF, cLow, cMa1, cMa2, if_neg ht]
    rfl
theorem pu_ker_9 (K M : KT) (G : GT) (v : Int32) : setS (conc K M G) 7 0 9 (vI v) = conc (sI K 28 3 v) M G := by
  refine Prod.ext (funext fun t' => funext fun i' => funext fun k' => ?_) rfl
  show (if t' = 7 ∧ i' = 0 ∧ k' = 9 then _ else concF K M G t' i' k') = concF (sI K 28 3 v) M G t' i' k'
  by_cases ht : t' = 7
  · subst ht
    by_cases hi : i' = 0
    · subst hi
      by_cases hk : k' = 9
      · subst hk
        simp [concF, cLow, cMa1, cMa2, sI, sN, rfq, mi, cKer]
      · rw [if_neg (fun c => hk c.2.2)]
        simp [concF, cLow, cMa1, cMa2, sI, sN, rfq, mi, cKer, hk]
    · rw [if_neg (fun c => hi c.2.1)]
      simp [concF, cLow, cMa1, cMa2, sI, sN, rfq, mi, cKer, hi]
  · rw [if_neg (fun c => ht c.1)]
    simp only [concF, cLow, cMa1, cMa2, if_neg ht]
    rfl
theorem pu_ker_8 (K M : KT) (G : GT) (v : Nat) : setS (conc K M G) 7 0 8 (vR 6 v) = conc (sN K 0 2 (v + 1)) M G := by
  refine Prod.ext (funext fun t' => funext fun i' => funext fun k' => ?_) rfl
  show (if t' = 7 ∧ i' = 0 ∧ k' = 8 then _ else concF K M G t' i' k') = concF (sN K 0 2 (v + 1)) M G t' i' k'
  by_cases ht : t' = 7
  · subst ht
    by_cases hi : i' = 0
    · subst hi
      by_cases hk : k' = 8
      · subst hk
        simp [concF, cLow, cMa1, cMa2, sI, sN, rfq, mi, cKer]
      · rw [if_neg (fun c => hk c.2.2)]
        simp [concF, cLow, cMa1, cMa2, sI, sN, rfq, mi, cKer, hk]
    · rw [if_neg (fun c => hi c.2.1)]
      simp [concF, cLow, cMa1, cMa2, sI, sN, rfq, mi, cKer, hi]
  · rw [if_neg (fun c => ht c.1)]
    simp only [concF, cLow, cMa1, cMa2, if_neg ht]
    rfl
theorem pu_ja_12 (K M : KT) (G : GT) (j : Nat) (v : Int32) : setS (conc K M G) 12 0 j (vI v) = conc (sI K 23 j v) M G := by
  refine Prod.ext (funext fun t' => funext fun i' => funext fun k' => ?_) rfl
  show (if t' = 12 ∧ i' = 0 ∧ k' = j then _ else concF K M G t' i' k') = concF (sI K 23 j v) M G t' i' k'
  by_cases ht : t' = 12
  · subst ht
    by_cases hi : i' = 0
    · subst hi
      by_cases hk : k' = j
      · subst hk
        simp [concF, cLow, cMa1, cMa2, sI, sN, rfq, mi]
      · rw [if_neg (fun c => hk c.2.2)]
        simp [concF, cLow, cMa1, cMa2, sI, sN, rfq, mi, hk]
    · rw [if_neg (fun c => hi c.2.1)]
      simp [concF, cLow, cMa1, cMa2, sI, sN, rfq, mi, hi]
  · rw [if_neg (fun c => ht c.1)]
    simp only [concF, cLow, cMa1, cMa2, if_neg ht]
    rfl
theorem pu_ja_13 (K M : KT) (G : GT) (j : Nat) (v : Int32) : setS (conc K M G) 13 0 j (vI v) = conc (sI K 24 j v) M G := by
  refine Prod.ext (funext fun t' => funext fun i' => funext fun k' => ?_) rfl
  show (if t' = 13 ∧ i' = 0 ∧ k' = j then _ else concF K M G t' i' k') = concF (sI K 24 j v) M G t' i' k'
  by_cases ht : t' = 13
  · subst ht
    by_cases hi : i' = 0
    · subst hi
      by_cases hk : k' = j
      · subst hk
        simp [concF, cLow, cMa1, cMa2, sI, sN, rfq, mi]
      · rw [if_neg (fun c => hk c.2.2)]
        simp [concF, cLow, cMa1, cMa2, sI, sN, rfq, mi, hk]
    · rw [if_neg (fun c => hi c.2.1)]
      simp [concF, cLow, cMa1, cMa2, sI, sN, rfq, mi, hi]
  · rw [if_neg (fun c => ht c.1)]
    simp only [concF, cLow, cMa1, cMa2, if_neg ht]
    rfl
theorem pu_ja_14 (K M : KT) (G : GT) (j : Nat) (v : Int32) : setS (conc K M G) 14 0 j (vI v) = conc (sI K 25 j v) M G := by
  refine Prod.ext (funext fun t' => funext fun i' => funext fun k' => ?_) rfl
  show (if t' = 14 ∧ i' = 0 ∧ k' = j then _ else concF K M G t' i' k') = concF (sI K 25 j v) M G t' i' k'
  by_cases ht : t' = 14
  · subst ht
    by_cases hi : i' = 0
    · subst hi
      by_cases hk : k' = j
      · subst hk
        simp [concF, cLow, cMa1, cMa2, sI, sN, rfq, mi]
      · rw [if_neg (fun c => hk c.2.2)]
        simp [concF, cLow, cMa1, cMa2, sI, sN, rfq, mi, hk]
    · rw [if_neg (fun c => hi c.2.1)]
      simp [concF, cLow, cMa1, cMa2, sI, sN, rfq, mi, hi]
  · rw [if_neg (fun c => ht c.1)]
    simp only [concF, cLow, cMa1, cMa2, if_neg ht]
    rfl
theorem pu_mod_0 (K M : KT) (G : GT) (v : Int32) : setS (conc K M G) 8 0 0 (vI v) = conc K (sI M 28 4 v) G := by
  refine Prod.ext (funext fun t' => funext fun i' => funext fun k' => ?_) rfl
  show (if t' = 8 ∧ i' = 0 ∧ k' = 0 then _ else concF K M G t' i' k') = concF K (sI M 28 4 v) G t' i' k'
  by_cases ht : t' = 8
  · subst ht
    by_cases hi : i' = 0
    · subst hi
      by_cases hk : k' = 0
      · subst hk
        simp [concF, cLow, cMa1, cMa2, sI, sN, rfq, mi, cMod]
      · rw [if_neg (fun c => hk c.2.2)]
        simp [concF, cLow, cMa1, cMa2, sI, sN, rfq, mi, cMod, hk]
    · rw [if_neg (fun c => hi c.2.1)]
      simp [concF, cLow, cMa1, cMa2, sI, sN, rfq, mi, cMod, hi]
  · rw [if_neg (fun c => ht c.1)]
    simp only [concF, cLow, cMa1, cMa2, if_neg ht]
    rfl
theorem pu_mod_2 (K M : KT) (G : GT) (v : Int32) : setS (conc K M G) 8 0 2 (vI v) = conc K (sI M 28 1 v) G := by
  refine Prod.ext (funext fun t' => funext fun i' => funext fun k' => ?_) rfl
  show (if t' = 8 ∧ i' = 0 ∧ k' = 2 then _ else concF K M G t' i' k') = concF K (sI M 28 1 v) G t' i' k'
  by_cases ht : t' = 8
  · subst ht
    by_cases hi : i' = 0
    · subst hi
      by_cases hk : k' = 2
      · subst hk
        simp [concF, cLow, cMa1, cMa2, sI, sN, rfq, mi, cMod]
      · rw [if_neg (fun c => hk c.2.2)]
        simp [concF, cLow, cMa1, cMa2, sI, sN, rfq, mi, cMod, hk]
    · rw [if_neg (fun c => hi c.2.1)]
      simp [concF, cLow, cMa1, cMa2, sI, sN, rfq, mi, cMod, hi]
  · rw [if_neg (fun c => ht c.1)]
    simp only [concF, cLow, cMa1, cMa2, if_neg ht]
    rfl
theorem pu_mod_3 (K M : KT) (G : GT) (v : Int32) : setS (conc K M G) 8 0 3 (vI v) = conc K (sI M 28 2 v) G := by
  refine Prod.ext (funext fun t' => funext fun i' => funext fun k' => ?_) rfl
  show (if t' = 8 ∧ i' = 0 ∧ k' = 3 then _ else concF K M G t' i' k') = concF K (sI M 28 2 v) G t' i' k'
  by_cases ht : t' = 8
  · subst ht
    by_cases hi : i' = 0
    · subst hi
      by_cases hk : k' = 3
      · subst hk
        simp [concF, cLow, cMa1, cMa2, sI, sN, rfq, mi, cMod]
      · rw [if_neg (fun c => hk c.2.2)]
        simp [concF, cLow, cMa1, cMa2, sI, sN, rfq, mi, cMod, hk]
    · rw [if_neg (fun c => hi c.2.1)]
      simp [concF, cLow, cMa1, cMa2, sI, sN, rfq, mi, cMod, hi]
  · rw [if_neg (fun c => ht c.1)]
    simp only [concF, cLow, cMa1, cMa2, if_neg ht]
    rfl
theorem pu_mod_5 (K M : KT) (G : GT) (v : Int32) : setS (conc K M G) 8 0 5 (vI v) = conc K (sI M 28 3 v) G := by
  refine Prod.ext (funext fun t' => funext fun i' => funext fun k' => ?_) rfl
  show (if t' = 8 ∧ i' = 0 ∧ k' = 5 then _ else concF K M G t' i' k') = concF K (sI M 28 3 v) G t' i' k'
  by_cases ht : t' = 8
  · subst ht
    by_cases hi : i' = 0
    · subst hi
      by_cases hk : k' = 5
      · subst hk
        simp [concF, cLow, cMa1, cMa2, sI, sN, rfq, mi, cMod]
      · rw [if_neg (fun c => hk c.2.2)]
        simp [concF, cLow, cMa1, cMa2, sI, sN, rfq, mi, cMod, hk]
    · rw [if_neg (fun c => hi c.2.1)]
      simp [concF, cLow, cMa1, cMa2, sI, sN, rfq, mi, cMod, hi]
  · rw [if_neg (fun c => ht c.1)]
    simp only [concF, cLow, cMa1, cMa2, if_neg ht]
    rfl
theorem pu_mod_4 (K M : KT) (G : GT) (v : Nat) : setS (conc K M G) 8 0 4 (vI (nI v)) = conc K (sN M 0 2 (v + 1)) G := by
  refine Prod.ext (funext fun t' => funext fun i' => funext fun k' => ?_) rfl
  show (if t' = 8 ∧ i' = 0 ∧ k' = 4 then _ else concF K M G t' i' k') = concF K (sN M 0 2 (v + 1)) G t' i' k'
  by_cases ht : t' = 8
  · subst ht
    by_cases hi : i' = 0
    · subst hi
      by_cases hk : k' = 4
      · subst hk
        simp [concF, cLow, cMa1, cMa2, sI, sN, rfq, mi, cMod]
      · rw [if_neg (fun c => hk c.2.2)]
        simp [concF, cLow, cMa1, cMa2, sI, sN, rfq, mi, cMod, hk]
    · rw [if_neg (fun c => hi c.2.1)]
      simp [concF, cLow, cMa1, cMa2, sI, sN, rfq, mi, cMod, hi]
  · rw [if_neg (fun c => ht c.1)]
    simp only [concF, cLow, cMa1, cMa2, if_neg ht]
    rfl
theorem pu_mod_6 (K M : KT) (G : GT) (v : Nat) : setS (conc K M G) 8 0 6 (vI (nI v)) = conc K (sN M 0 0 v) G := by
  refine Prod.ext (funext fun t' => funext fun i' => funext fun k' => ?_) rfl
  show (if t' = 8 ∧ i' = 0 ∧ k' = 6 then _ else concF K M G t' i' k') = concF K (sN M 0 0 v) G t' i' k'
  by_cases ht : t' = 8
  · subst ht
    by_cases hi : i' = 0
    · subst hi
      by_cases hk : k' = 6
      · subst hk
        simp [concF, cLow, cMa1, cMa2, sI, sN, rfq, mi, cMod]
      · rw [if_neg (fun c => hk c.2.2)]
        simp [concF, cLow, cMa1, cMa2, sI, sN, rfq, mi, cMod, hk]
    · rw [if_neg (fun c => hi c.2.1)]
      simp [concF, cLow, cMa1, cMa2, sI, sN, rfq, mi, cMod, hi]
  · rw [if_neg (fun c => ht c.1)]
    simp only [concF, cLow, cMa1, cMa2, if_neg ht]
    rfl
theorem pu_mod_31 (K M : KT) (G : GT) (v : Nat) : setS (conc K M G) 8 0 31 (vI (nI v)) = conc K (sN M 0 1 v) G := by
  refine Prod.ext (funext fun t' => funext fun i' => funext fun k' => ?_) rfl
  show (if t' = 8 ∧ i' = 0 ∧ k' = 31 then _ else concF K M G t' i' k') = concF K (sN M 0 1 v) G t' i' k'
  by_cases ht : t' = 8
  · subst ht
    by_cases hi : i' = 0
    · subst hi
      by_cases hk : k' = 31
      · subst hk
        simp [concF, cLow, cMa1, cMa2, sI, sN, rfq, mi, cMod]
      · rw [if_neg (fun c => hk c.2.2)]
        simp [concF, cLow, cMa1, cMa2, sI, sN, rfq, mi, cMod, hk]
    · rw [if_neg (fun c => hi c.2.1)]
      simp [concF, cLow, cMa1, cMa2, sI, sN, rfq, mi, cMod, hi]
  · rw [if_neg (fun c => ht c.1)]
    simp only [concF, cLow, cMa1, cMa2, if_neg ht]
    rfl
theorem pu_mod_35 (K M : KT) (G : GT) (v : Nat) : setS (conc K M G) 8 0 35 (vI (nI v)) = conc K (sN M 0 3 v) G := by
  refine Prod.ext (funext fun t' => funext fun i' => funext fun k' => ?_) rfl
  show (if t' = 8 ∧ i' = 0 ∧ k' = 35 then _ else concF K M G t' i' k') = concF K (sN M 0 3 v) G t' i' k'
  by_cases ht : t' = 8
  · subst ht
    by_cases hi : i' = 0
    · subst hi
      by_cases hk : k' = 35
      · subst hk
        simp [concF, cLow, cMa1, cMa2, sI, sN, rfq, mi, cMod]
      · rw [if_neg (fun c => hk c.2.2)]
        simp [concF, cLow, cMa1, cMa2, sI, sN, rfq, mi, cMod, hk]
    · rw [if_neg (fun c => hi c.2.1)]
      simp [concF, cLow, cMa1, cMa2, sI, sN, rfq, mi, cMod, hi]
  · rw [if_neg (fun c => ht c.1)]
    simp only [concF, cLow, cMa1, cMa2, if_neg ht]
    rfl
theorem pu_ma_27 (K M : KT) (G : GT) (j : Nat) (v : Int32) : setS (conc K M G) 27 0 j (vI v) = conc K (sI M 0 j v) G := by
  refine Prod.ext (funext fun t' => funext fun i' => funext fun k' => ?_) rfl
  show (if t' = 27 ∧ i' = 0 ∧ k' = j then _ else concF K M G t' i' k') = concF K (sI M 0 j v) G t' i' k'
  by_cases ht : t' = 27
  · subst ht
    by_cases hi : i' = 0
    · subst hi
      by_cases hk : k' = j
      · subst hk
        simp [concF, cLow, cMa1, cMa2, sI, sN, rfq, mi]
      · rw [if_neg (fun c => hk c.2.2)]
        simp [concF, cLow, cMa1, cMa2, sI, sN, rfq, mi, hk]
    · rw [if_neg (fun c => hi c.2.1)]
      simp [concF, cLow, cMa1, cMa2, sI, sN, rfq, mi, hi]
  · rw [if_neg (fun c => ht c.1)]
    simp only [concF, cLow, cMa1, cMa2, if_neg ht]
    rfl
theorem pu_ma_28 (K M : KT) (G : GT) (j : Nat) (v : Int32) : setS (conc K M G) 28 0 j (vI v) = conc K (sI M 1 j v) G := by
  refine Prod.ext (funext fun t' => funext fun i' => funext fun k' => ?_) rfl
  show (if t' = 28 ∧ i' = 0 ∧ k' = j then _ else concF K M G t' i' k') = concF K (sI M 1 j v) G t' i' k'
  by_cases ht : t' = 28
  · subst ht
    by_cases hi : i' = 0
    · subst hi
      by_cases hk : k' = j
      · subst hk
        simp [concF, cLow, cMa1, cMa2, sI, sN, rfq, mi]
      · rw [if_neg (fun c => hk c.2.2)]
        simp [concF, cLow, cMa1, cMa2, sI, sN, rfq, mi, hk]
    · rw [if_neg (fun c => hi c.2.1)]
      simp [concF, cLow, cMa1, cMa2, sI, sN, rfq, mi, hi]
  · rw [if_neg (fun c => ht c.1)]
    simp only [concF, cLow, cMa1, cMa2, if_neg ht]
    rfl
theorem pu_ma_29 (K M : KT) (G : GT) (j : Nat) (v : Int32) : setS (conc K M G) 29 0 j (vI v) = conc K (sI M 2 j v) G := by
  refine Prod.ext (funext fun t' => funext fun i' => funext fun k' => ?_) rfl
  show (if t' = 29 ∧ i' = 0 ∧ k' = j then _ else concF K M G t' i' k') = concF K (sI M 2 j v) G t' i' k'
  by_cases ht : t' = 29
  · subst ht
    by_cases hi : i' = 0
    · subst hi
      by_cases hk : k' = j
      · subst hk
        simp [concF, cLow, cMa1, cMa2, sI, sN, rfq, mi]
      · rw [if_neg (fun c => hk c.2.2)]
        simp [concF, cLow, cMa1, cMa2, sI, sN, rfq, mi, hk]
    · rw [if_neg (fun c => hi c.2.1)]
      simp [concF, cLow, cMa1, cMa2, sI, sN, rfq, mi, hi]
  · rw [if_neg (fun c => ht c.1)]
    simp only [concF, cLow, cMa1, cMa2, if_neg ht]
    rfl
theorem pu_ma_30 (K M : KT) (G : GT) (j : Nat) (v : Int32) : setS (conc K M G) 30 0 j (vI v) = conc K (sI M 3 j v) G := by
  refine Prod.ext (funext fun t' => funext fun i' => funext fun k' => ?_) rfl
  show (if t' = 30 ∧ i' = 0 ∧ k' = j then _ else concF K M G t' i' k') = concF K (sI M 3 j v) G t' i' k'
  by_cases ht : t' = 30
  · subst ht
    by_cases hi : i' = 0
    · subst hi
      by_cases hk : k' = j
      · subst hk
        simp [concF, cLow, cMa1, cMa2, sI, sN, rfq, mi]
      · rw [if_neg (fun c => hk c.2.2)]
        simp [concF, cLow, cMa1, cMa2, sI, sN, rfq, mi, hk]
    · rw [if_neg (fun c => hi c.2.1)]
      simp [concF, cLow, cMa1, cMa2, sI, sN, rfq, mi, hi]
  · rw [if_neg (fun c => ht c.1)]
    simp only [concF, cLow, cMa1, cMa2, if_neg ht]
    rfl
theorem pu_ma_31 (K M : KT) (G : GT) (j : Nat) (v : Int32) : setS (conc K M G) 31 0 j (vI v) = conc K (sI M 4 j v) G := by
  refine Prod.ext (funext fun t' => funext fun i' => funext fun k' => ?_) rfl
  show (if t' = 31 ∧ i' = 0 ∧ k' = j then _ else concF K M G t' i' k') = concF K (sI M 4 j v) G t' i' k'
  by_cases ht : t' = 31
  · subst ht
    by_cases hi : i' = 0
    · subst hi
      by_cases hk : k' = j
      · subst hk
        simp [concF, cLow, cMa1, cMa2, sI, sN, rfq, mi]
      · rw [if_neg (fun c => hk c.2.2)]
        simp [concF, cLow, cMa1, cMa2, sI, sN, rfq, mi, hk]
    · rw [if_neg (fun c => hi c.2.1)]
      simp [concF, cLow, cMa1, cMa2, sI, sN, rfq, mi, hi]
  · rw [if_neg (fun c => ht c.1)]
    simp only [concF, cLow, cMa1, cMa2, if_neg ht]
    rfl
theorem pu_ma_32 (K M : KT) (G : GT) (j : Nat) (v : Int32) : setS (conc K M G) 32 0 j (vI v) = conc K (sI M 5 j v) G := by
  refine Prod.ext (funext fun t' => funext fun i' => funext fun k' => ?_) rfl
  show (if t' = 32 ∧ i' = 0 ∧ k' = j then _ else concF K M G t' i' k') = concF K (sI M 5 j v) G t' i' k'
  by_cases ht : t' = 32
  · subst ht
    by_cases hi : i' = 0
    · subst hi
      by_cases hk : k' = j
      · subst hk
        simp [concF, cLow, cMa1, cMa2, sI, sN, rfq, mi]
      · rw [if_neg (fun c => hk c.2.2)]
        simp [concF, cLow, cMa1, cMa2, sI, sN, rfq, mi, hk]
    · rw [if_neg (fun c => hi c.2.1)]
      simp [concF, cLow, cMa1, cMa2, sI, sN, rfq, mi, hi]
  · rw [if_neg (fun c => ht c.1)]
    simp only [concF, cLow, cMa1, cMa2, if_neg ht]
    rfl
theorem pu_ma_34 (K M : KT) (G : GT) (j : Nat) (v : Int32) : setS (conc K M G) 34 0 j (vI v) = conc K (sI M 26 j v) G := by
  refine Prod.ext (funext fun t' => funext fun i' => funext fun k' => ?_) rfl
  show (if t' = 34 ∧ i' = 0 ∧ k' = j then _ else concF K M G t' i' k') = concF K (sI M 26 j v) G t' i' k'
  by_cases ht : t' = 34
  · subst ht
    by_cases hi : i' = 0
    · subst hi
      by_cases hk : k' = j
      · subst hk
        simp [concF, cLow, cMa1, cMa2, sI, sN, rfq, mi]
      · rw [if_neg (fun c => hk c.2.2)]
        simp [concF, cLow, cMa1, cMa2, sI, sN, rfq, mi, hk]
    · rw [if_neg (fun c => hi c.2.1)]
      simp [concF, cLow, cMa1, cMa2, sI, sN, rfq, mi, hi]
  · rw [if_neg (fun c => ht c.1)]
    simp only [concF, cLow, cMa1, cMa2, if_neg ht]
    rfl
theorem pu_ma_35 (K M : KT) (G : GT) (j : Nat) (v : Int32) : setS (conc K M G) 35 0 j (vI v) = conc K (sI M 27 j v) G := by
  refine Prod.ext (funext fun t' => funext fun i' => funext fun k' => ?_) rfl
  show (if t' = 35 ∧ i' = 0 ∧ k' = j then _ else concF K M G t' i' k') = concF K (sI M 27 j v) G t' i' k'
  by_cases ht : t' = 35
  · subst ht
    by_cases hi : i' = 0
    · subst hi
      by_cases hk : k' = j
      · subst hk
        simp [concF, cLow, cMa1, cMa2, sI, sN, rfq, mi]
      · rw [if_neg (fun c => hk c.2.2)]
        simp [concF, cLow, cMa1, cMa2, sI, sN, rfq, mi, hk]
    · rw [if_neg (fun c => hi c.2.1)]
      simp [concF, cLow, cMa1, cMa2, sI, sN, rfq, mi, hi]
  · rw [if_neg (fun c => ht c.1)]
    simp only [concF, cLow, cMa1, cMa2, if_neg ht]
    rfl
theorem pu_ma_36 (K M : KT) (G : GT) (j : Nat) (v : Int32) : setS (conc K M G) 36 0 j (vI v) = conc K (sI M 6 j v) G := by
  refine Prod.ext (funext fun t' => funext fun i' => funext fun k' => ?_) rfl
  show (if t' = 36 ∧ i' = 0 ∧ k' = j then _ else concF K M G t' i' k') = concF K (sI M 6 j v) G t' i' k'
  by_cases ht : t' = 36
  · subst ht
    by_cases hi : i' = 0
    · subst hi
      by_cases hk : k' = j
      · subst hk
        simp [concF, cLow, cMa1, cMa2, sI, sN, rfq, mi]
      · rw [if_neg (fun c => hk c.2.2)]
        simp [concF, cLow, cMa1, cMa2, sI, sN, rfq, mi, hk]
    · rw [if_neg (fun c => hi c.2.1)]
      simp [concF, cLow, cMa1, cMa2, sI, sN, rfq, mi, hi]
  · rw [if_neg (fun c => ht c.1)]
    simp only [concF, cLow, cMa1, cMa2, if_neg ht]
    rfl
theorem pu_ma_38 (K M : KT) (G : GT) (j : Nat) (v : Int32) : setS (conc K M G) 38 0 j (vI v) = conc K (sI M 14 j v) G := by
  refine Prod.ext (funext fun t' => funext fun i' => funext fun k' => ?_) rfl
  show (if t' = 38 ∧ i' = 0 ∧ k' = j then _ else concF K M G t' i' k') = concF K (sI M 14 j v) G t' i' k'
  by_cases ht : t' = 38
  · subst ht
    by_cases hi : i' = 0
    · subst hi
      by_cases hk : k' = j
      · subst hk
        simp [concF, cLow, cMa1, cMa2, sI, sN, rfq, mi]
      · rw [if_neg (fun c => hk c.2.2)]
        simp [concF, cLow, cMa1, cMa2, sI, sN, rfq, mi, hk]
    · rw [if_neg (fun c => hi c.2.1)]
      simp [concF, cLow, cMa1, cMa2, sI, sN, rfq, mi, hi]
  · rw [if_neg (fun c => ht c.1)]
    simp only [concF, cLow, cMa1, cMa2, if_neg ht]
    rfl
theorem pu_ma_39 (K M : KT) (G : GT) (j : Nat) (v : Int32) : setS (conc K M G) 39 0 j (vI v) = conc K (sI M 10 j v) G := by
  refine Prod.ext (funext fun t' => funext fun i' => funext fun k' => ?_) rfl
  show (if t' = 39 ∧ i' = 0 ∧ k' = j then _ else concF K M G t' i' k') = concF K (sI M 10 j v) G t' i' k'
  by_cases ht : t' = 39
  · subst ht
    by_cases hi : i' = 0
    · subst hi
      by_cases hk : k' = j
      · subst hk
        simp [concF, cLow, cMa1, cMa2, sI, sN, rfq, mi]
      · rw [if_neg (fun c => hk c.2.2)]
        simp [concF, cLow, cMa1, cMa2, sI, sN, rfq, mi, hk]
    · rw [if_neg (fun c => hi c.2.1)]
      simp [concF, cLow, cMa1, cMa2, sI, sN, rfq, mi, hi]
  · rw [if_neg (fun c => ht c.1)]
    simp only [concF, cLow, cMa1, cMa2, if_neg ht]
    rfl
theorem pu_ma_40 (K M : KT) (G : GT) (j : Nat) (v : Int32) : setS (conc K M G) 40 0 j (vI v) = conc K (sI M 9 j v) G := by
  refine Prod.ext (funext fun t' => funext fun i' => funext fun k' => ?_) rfl
  show (if t' = 40 ∧ i' = 0 ∧ k' = j then _ else concF K M G t' i' k') = concF K (sI M 9 j v) G t' i' k'
  by_cases ht : t' = 40
  · subst ht
    by_cases hi : i' = 0
    · subst hi
      by_cases hk : k' = j
      · subst hk
        simp [concF, cLow, cMa1, cMa2, sI, sN, rfq, mi]
      · rw [if_neg (fun c => hk c.2.2)]
        simp [concF, cLow, cMa1, cMa2, sI, sN, rfq, mi, hk]
    · rw [if_neg (fun c => hi c.2.1)]
      simp [concF, cLow, cMa1, cMa2, sI, sN, rfq, mi, hi]
  · rw [if_neg (fun c => ht c.1)]
    simp only [concF, cLow, cMa1, cMa2, if_neg ht]
    rfl
theorem pu_ma_41 (K M : KT) (G : GT) (j : Nat) (v : Int32) : setS (conc K M G) 41 0 j (vI v) = conc K (sI M 11 j v) G := by
  refine Prod.ext (funext fun t' => funext fun i' => funext fun k' => ?_) rfl
  show (if t' = 41 ∧ i' = 0 ∧ k' = j then _ else concF K M G t' i' k') = concF K (sI M 11 j v) G t' i' k'
  by_cases ht : t' = 41
  · subst ht
    by_cases hi : i' = 0
    · subst hi
      by_cases hk : k' = j
      · subst hk
        simp [concF, cLow, cMa1, cMa2, sI, sN, rfq, mi]
      · rw [if_neg (fun c => hk c.2.2)]
        simp [concF, cLow, cMa1, cMa2, sI, sN, rfq, mi, hk]
    · rw [if_neg (fun c => hi c.2.1)]
      simp [concF, cLow, cMa1, cMa2, sI, sN, rfq, mi, hi]
  · rw [if_neg (fun c => ht c.1)]
    simp only [concF, cLow, cMa1, cMa2, if_neg ht]
    rfl
theorem pu_ma_43 (K M : KT) (G : GT) (j : Nat) (v : Int32) : setS (conc K M G) 43 0 j (vI v) = conc K (sI M 8 j v) G := by
  refine Prod.ext (funext fun t' => funext fun i' => funext fun k' => ?_) rfl
  show (if t' = 43 ∧ i' = 0 ∧ k' = j then _ else concF K M G t' i' k') = concF K (sI M 8 j v) G t' i' k'
  by_cases ht : t' = 43
  · subst ht
    by_cases hi : i' = 0
    · subst hi
      by_cases hk : k' = j
      · subst hk
        simp [concF, cLow, cMa1, cMa2, sI, sN, rfq, mi]
      · rw [if_neg (fun c => hk c.2.2)]
        simp [concF, cLow, cMa1, cMa2, sI, sN, rfq, mi, hk]
    · rw [if_neg (fun c => hi c.2.1)]
      simp [concF, cLow, cMa1, cMa2, sI, sN, rfq, mi, hi]
  · rw [if_neg (fun c => ht c.1)]
    simp only [concF, cLow, cMa1, cMa2, if_neg ht]
    rfl
theorem pu_ma_44 (K M : KT) (G : GT) (j : Nat) (v : Int32) : setS (conc K M G) 44 0 j (vI v) = conc K (sI M 13 j v) G := by
  refine Prod.ext (funext fun t' => funext fun i' => funext fun k' => ?_) rfl
  show (if t' = 44 ∧ i' = 0 ∧ k' = j then _ else concF K M G t' i' k') = concF K (sI M 13 j v) G t' i' k'
  by_cases ht : t' = 44
  · subst ht
    by_cases hi : i' = 0
    · subst hi
      by_cases hk : k' = j
      · subst hk
        simp [concF, cLow, cMa1, cMa2, sI, sN, rfq, mi]
      · rw [if_neg (fun c => hk c.2.2)]
        simp [concF, cLow, cMa1, cMa2, sI, sN, rfq, mi, hk]
    · rw [if_neg (fun c => hi c.2.1)]
      simp [concF, cLow, cMa1, cMa2, sI, sN, rfq, mi, hi]
  · rw [if_neg (fun c => ht c.1)]
    simp only [concF, cLow, cMa1, cMa2, if_neg ht]
    rfl
theorem pu_ma_45 (K M : KT) (G : GT) (j : Nat) (v : Int32) : setS (conc K M G) 45 0 j (vI v) = conc K (sI M 15 j v) G := by
  refine Prod.ext (funext fun t' => funext fun i' => funext fun k' => ?_) rfl
  show (if t' = 45 ∧ i' = 0 ∧ k' = j then _ else concF K M G t' i' k') = concF K (sI M 15 j v) G t' i' k'
  by_cases ht : t' = 45
  · subst ht
    by_cases hi : i' = 0
    · subst hi
      by_cases hk : k' = j
      · subst hk
        simp [concF, cLow, cMa1, cMa2, sI, sN, rfq, mi]
      · rw [if_neg (fun c => hk c.2.2)]
        simp [concF, cLow, cMa1, cMa2, sI, sN, rfq, mi, hk]
    · rw [if_neg (fun c => hi c.2.1)]
      simp [concF, cLow, cMa1, cMa2, sI, sN, rfq, mi, hi]
  · rw [if_neg (fun c => ht c.1)]
    simp only [concF, cLow, cMa1, cMa2, if_neg ht]
    rfl
theorem pu_ma_46 (K M : KT) (G : GT) (j : Nat) (v : Int32) : setS (conc K M G) 46 0 j (vI v) = conc K (sI M 16 j v) G := by
  refine Prod.ext (funext fun t' => funext fun i' => funext fun k' => ?_) rfl
  show (if t' = 46 ∧ i' = 0 ∧ k' = j then _ else concF K M G t' i' k') = concF K (sI M 16 j v) G t' i' k'
  by_cases ht : t' = 46
  · subst ht
    by_cases hi : i' = 0
    · subst hi
      by_cases hk : k' = j
      · subst hk
        simp [concF, cLow, cMa1, cMa2, sI, sN, rfq, mi]
      · rw [if_neg (fun c => hk c.2.2)]
        simp [concF, cLow, cMa1, cMa2, sI, sN, rfq, mi, hk]
    · rw [if_neg (fun c => hi c.2.1)]
      simp [concF, cLow, cMa1, cMa2, sI, sN, rfq, mi, hi]
  · rw [if_neg (fun c => ht c.1)]
    simp only [concF, cLow, cMa1, cMa2, if_neg ht]
    rfl
theorem pu_ma_47 (K M : KT) (G : GT) (j : Nat) (v : Int32) : setS (conc K M G) 47 0 j (vI v) = conc K (sI M 17 j v) G := by
  refine Prod.ext (funext fun t' => funext fun i' => funext fun k' => ?_) rfl
  show (if t' = 47 ∧ i' = 0 ∧ k' = j then _ else concF K M G t' i' k') = concF K (sI M 17 j v) G t' i' k'
  by_cases ht : t' = 47
  · subst ht
    by_cases hi : i' = 0
    · subst hi
      by_cases hk : k' = j
      · subst hk
        simp [concF, cLow, cMa1, cMa2, sI, sN, rfq, mi]
      · rw [if_neg (fun c => hk c.2.2)]
        simp [concF, cLow, cMa1, cMa2, sI, sN, rfq, mi, hk]
    · rw [if_neg (fun c => hi c.2.1)]
      simp [concF, cLow, cMa1, cMa2, sI, sN, rfq, mi, hi]
  · rw [if_neg (fun c => ht c.1)]
    simp only [concF, cLow, cMa1, cMa2, if_neg ht]
    rfl
theorem pu_ma_48 (K M : KT) (G : GT) (j : Nat) (v : Int32) : setS (conc K M G) 48 0 j (vI v) = conc K (sI M 18 j v) G := by
  refine Prod.ext (funext fun t' => funext fun i' => funext fun k' => ?_) rfl
  show (if t' = 48 ∧ i' = 0 ∧ k' = j then _ else concF K M G t' i' k') = concF K (sI M 18 j v) G t' i' k'
  by_cases ht : t' = 48
  · subst ht
    by_cases hi : i' = 0
    · subst hi
      by_cases hk : k' = j
      · subst hk
        simp [concF, cLow, cMa1, cMa2, sI, sN, rfq, mi]
      · rw [if_neg (fun c => hk c.2.2)]
        simp [concF, cLow, cMa1, cMa2, sI, sN, rfq, mi, hk]
    · rw [if_neg (fun c => hi c.2.1)]
      simp [concF, cLow, cMa1, cMa2, sI, sN, rfq, mi, hi]
  · rw [if_neg (fun c => ht c.1)]
    simp only [concF, cLow, cMa1, cMa2, if_neg ht]
    rfl
theorem pu_ma_49 (K M : KT) (G : GT) (j : Nat) (v : Int32) : setS (conc K M G) 49 0 j (vI v) = conc K (sI M 19 j v) G := by
  refine Prod.ext (funext fun t' => funext fun i' => funext fun k' => ?_) rfl
  show (if t' = 49 ∧ i' = 0 ∧ k' = j then _ else concF K M G t' i' k') = concF K (sI M 19 j v) G t' i' k'
  by_cases ht : t' = 49
  · subst ht
    by_cases hi : i' = 0
    · subst hi
      by_cases hk : k' = j
      · subst hk
        simp [concF, cLow, cMa1, cMa2, sI, sN, rfq, mi]
      · rw [if_neg (fun c => hk c.2.2)]
        simp [concF, cLow, cMa1, cMa2, sI, sN, rfq, mi, hk]
    · rw [if_neg (fun c => hi c.2.1)]
      simp [concF, cLow, cMa1, cMa2, sI, sN, rfq, mi, hi]
  · rw [if_neg (fun c => ht c.1)]
    simp only [concF, cLow, cMa1, cMa2, if_neg ht]
    rfl
theorem pu_ma_50 (K M : KT) (G : GT) (j : Nat) (v : Int32) : setS (conc K M G) 50 0 j (vI v) = conc K (sI M 20 j v) G := by
  refine Prod.ext (funext fun t' => funext fun i' => funext fun k' => ?_) rfl
  show (if t' = 50 ∧ i' = 0 ∧ k' = j then _ else concF K M G t' i' k') = concF K (sI M 20 j v) G t' i' k'
  by_cases ht : t' = 50
  · subst ht
    by_cases hi : i' = 0
    · subst hi
      by_cases hk : k' = j
      · subst hk
        simp [concF, cLow, cMa1, cMa2, sI, sN, rfq, mi]
      · rw [if_neg (fun c => hk c.2.2)]
        simp [concF, cLow, cMa1, cMa2, sI, sN, rfq, mi, hk]
    · rw [if_neg (fun c => hi c.2.1)]
      simp [concF, cLow, cMa1, cMa2, sI, sN, rfq, mi, hi]
  · rw [if_neg (fun c => ht c.1)]
    simp only [concF, cLow, cMa1, cMa2, if_neg ht]
    rfl
theorem pu_ma_52 (K M : KT) (G : GT) (j : Nat) (v : Int32) : setS (conc K M G) 52 0 j (vI v) = conc K (sI M 21 j v) G := by
  refine Prod.ext (funext fun t' => funext fun i' => funext fun k' => ?_) rfl
  show (if t' = 52 ∧ i' = 0 ∧ k' = j then _ else concF K M G t' i' k') = concF K (sI M 21 j v) G t' i' k'
  by_cases ht : t' = 52
  · subst ht
    by_cases hi : i' = 0
    · subst hi
      by_cases hk : k' = j
      · subst hk
        simp [concF, cLow, cMa1, cMa2, sI, sN, rfq, mi]
      · rw [if_neg (fun c => hk c.2.2)]
        simp [concF, cLow, cMa1, cMa2, sI, sN, rfq, mi, hk]
    · rw [if_neg (fun c => hi c.2.1)]
      simp [concF, cLow, cMa1, cMa2, sI, sN, rfq, mi, hi]
  · rw [if_neg (fun c => ht c.1)]
    simp only [concF, cLow, cMa1, cMa2, if_neg ht]
    rfl
theorem pu_ma_53 (K M : KT) (G : GT) (j : Nat) (v : Int32) : setS (conc K M G) 53 0 j (vI v) = conc K (sI M 22 j v) G := by
  refine Prod.ext (funext fun t' => funext fun i' => funext fun k' => ?_) rfl
  show (if t' = 53 ∧ i' = 0 ∧ k' = j then _ else concF K M G t' i' k') = concF K (sI M 22 j v) G t' i' k'
  by_cases ht : t' = 53
  · subst ht
    by_cases hi : i' = 0
    · subst hi
      by_cases hk : k' = j
      · subst hk
        simp [concF, cLow, cMa1, cMa2, sI, sN, rfq, mi]
      · rw [if_neg (fun c => hk c.2.2)]
        simp [concF, cLow, cMa1, cMa2, sI, sN, rfq, mi, hk]
    · rw [if_neg (fun c => hi c.2.1)]
      simp [concF, cLow, cMa1, cMa2, sI, sN, rfq, mi, hi]
  · rw [if_neg (fun c => ht c.1)]
    simp only [concF, cLow, cMa1, cMa2, if_neg ht]
    rfl
theorem pu_ma_56 (K M : KT) (G : GT) (j : Nat) (v : Int32) : setS (conc K M G) 56 0 j (vI v) = conc K (sI M 23 j v) G := by
  refine Prod.ext (funext fun t' => funext fun i' => funext fun k' => ?_) rfl
  show (if t' = 56 ∧ i' = 0 ∧ k' = j then _ else concF K M G t' i' k') = concF K (sI M 23 j v) G t' i' k'
  by_cases ht : t' = 56
  · subst ht
    by_cases hi : i' = 0
    · subst hi
      by_cases hk : k' = j
      · subst hk
        simp [concF, cLow, cMa1, cMa2, sI, sN, rfq, mi]
      · rw [if_neg (fun c => hk c.2.2)]
        simp [concF, cLow, cMa1, cMa2, sI, sN, rfq, mi, hk]
    · rw [if_neg (fun c => hi c.2.1)]
      simp [concF, cLow, cMa1, cMa2, sI, sN, rfq, mi, hi]
  · rw [if_neg (fun c => ht c.1)]
    simp only [concF, cLow, cMa1, cMa2, if_neg ht]
    rfl
theorem pu_ma_57 (K M : KT) (G : GT) (j : Nat) (v : Int32) : setS (conc K M G) 57 0 j (vI v) = conc K (sI M 24 j v) G := by
  refine Prod.ext (funext fun t' => funext fun i' => funext fun k' => ?_) rfl
  show (if t' = 57 ∧ i' = 0 ∧ k' = j then _ else concF K M G t' i' k') = concF K (sI M 24 j v) G t' i' k'
  by_cases ht : t' = 57
  · subst ht
    by_cases hi : i' = 0
    · subst hi
      by_cases hk : k' = j
      · subst hk
        simp [concF, cLow, cMa1, cMa2, sI, sN, rfq, mi]
      · rw [if_neg (fun c => hk c.2.2)]
        simp [concF, cLow, cMa1, cMa2, sI, sN, rfq, mi, hk]
    · rw [if_neg (fun c => hi c.2.1)]
      simp [concF, cLow, cMa1, cMa2, sI, sN, rfq, mi, hi]
  · rw [if_neg (fun c => ht c.1)]
    simp only [concF, cLow, cMa1, cMa2, if_neg ht]
    rfl
theorem pu_ma_58 (K M : KT) (G : GT) (j : Nat) (v : Int32) : setS (conc K M G) 58 0 j (vI v) = conc K (sI M 25 j v) G := by
  refine Prod.ext (funext fun t' => funext fun i' => funext fun k' => ?_) rfl
  show (if t' = 58 ∧ i' = 0 ∧ k' = j then _ else concF K M G t' i' k') = concF K (sI M 25 j v) G t' i' k'
  by_cases ht : t' = 58
  · subst ht
    by_cases hi : i' = 0
    · subst hi
      by_cases hk : k' = j
      · subst hk
        simp [concF, cLow, cMa1, cMa2, sI, sN, rfq, mi]
      · rw [if_neg (fun c => hk c.2.2)]
        simp [concF, cLow, cMa1, cMa2, sI, sN, rfq, mi, hk]
    · rw [if_neg (fun c => hi c.2.1)]
      simp [concF, cLow, cMa1, cMa2, sI, sN, rfq, mi, hi]
  · rw [if_neg (fun c => ht c.1)]
    simp only [concF, cLow, cMa1, cMa2, if_neg ht]
    rfl
theorem pu_ma_33 (K M : KT) (G : GT) (j v : Nat) : setS (conc K M G) 33 0 j (vI (nI v)) = conc K (sN M 2 j v) G := by
  refine Prod.ext (funext fun t' => funext fun i' => funext fun k' => ?_) rfl
  show (if t' = 33 ∧ i' = 0 ∧ k' = j then _ else concF K M G t' i' k') = concF K (sN M 2 j v) G t' i' k'
  by_cases ht : t' = 33
  · subst ht
    by_cases hi : i' = 0
    · subst hi
      by_cases hk : k' = j
      · subst hk
        simp [concF, cLow, cMa1, cMa2, sI, sN, rfq, mi]
      · rw [if_neg (fun c => hk c.2.2)]
        simp [concF, cLow, cMa1, cMa2, sI, sN, rfq, mi, hk]
    · rw [if_neg (fun c => hi c.2.1)]
      simp [concF, cLow, cMa1, cMa2, sI, sN, rfq, mi, hi]
  · rw [if_neg (fun c => ht c.1)]
    simp only [concF, cLow, cMa1, cMa2, if_neg ht]
    rfl
theorem pu_ma_37 (K M : KT) (G : GT) (j v : Nat) : setS (conc K M G) 37 0 j (vI (nI v)) = conc K (sN M 1 j v) G := by
  refine Prod.ext (funext fun t' => funext fun i' => funext fun k' => ?_) rfl
  show (if t' = 37 ∧ i' = 0 ∧ k' = j then _ else concF K M G t' i' k') = concF K (sN M 1 j v) G t' i' k'
  by_cases ht : t' = 37
  · subst ht
    by_cases hi : i' = 0
    · subst hi
      by_cases hk : k' = j
      · subst hk
        simp [concF, cLow, cMa1, cMa2, sI, sN, rfq, mi]
      · rw [if_neg (fun c => hk c.2.2)]
        simp [concF, cLow, cMa1, cMa2, sI, sN, rfq, mi, hk]
    · rw [if_neg (fun c => hi c.2.1)]
      simp [concF, cLow, cMa1, cMa2, sI, sN, rfq, mi, hi]
  · rw [if_neg (fun c => ht c.1)]
    simp only [concF, cLow, cMa1, cMa2, if_neg ht]
    rfl
theorem pu_ma_42 (K M : KT) (G : GT) (j v : Nat) : setS (conc K M G) 42 0 j (vI (mi v)) = conc K (sN M 3 j v) G := by
  refine Prod.ext (funext fun t' => funext fun i' => funext fun k' => ?_) rfl
  show (if t' = 42 ∧ i' = 0 ∧ k' = j then _ else concF K M G t' i' k') = concF K (sN M 3 j v) G t' i' k'
  by_cases ht : t' = 42
  · subst ht
    by_cases hi : i' = 0
    · subst hi
      by_cases hk : k' = j
      · subst hk
        simp [concF, cLow, cMa1, cMa2, sI, sN, rfq, mi]
      · rw [if_neg (fun c => hk c.2.2)]
        simp [concF, cLow, cMa1, cMa2, sI, sN, rfq, mi, hk]
    · rw [if_neg (fun c => hi c.2.1)]
      simp [concF, cLow, cMa1, cMa2, sI, sN, rfq, mi, hi]
  · rw [if_neg (fun c => ht c.1)]
    simp only [concF, cLow, cMa1, cMa2, if_neg ht]
    rfl
theorem pu_ma_54 (K M : KT) (G : GT) (j v : Nat) : setS (conc K M G) 54 0 j (vI (mi v)) = conc K (sN M 4 j v) G := by
  refine Prod.ext (funext fun t' => funext fun i' => funext fun k' => ?_) rfl
  show (if t' = 54 ∧ i' = 0 ∧ k' = j then _ else concF K M G t' i' k') = concF K (sN M 4 j v) G t' i' k'
  by_cases ht : t' = 54
  · subst ht
    by_cases hi : i' = 0
    · subst hi
      by_cases hk : k' = j
      · subst hk
        simp [concF, cLow, cMa1, cMa2, sI, sN, rfq, mi]
      · rw [if_neg (fun c => hk c.2.2)]
        simp [concF, cLow, cMa1, cMa2, sI, sN, rfq, mi, hk]
    · rw [if_neg (fun c => hi c.2.1)]
      simp [concF, cLow, cMa1, cMa2, sI, sN, rfq, mi, hi]
  · rw [if_neg (fun c => ht c.1)]
    simp only [concF, cLow, cMa1, cMa2, if_neg ht]
    rfl
