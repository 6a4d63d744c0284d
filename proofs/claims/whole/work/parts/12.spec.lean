/-! WHAT IS MEANT: the operations, on the state -/
def setA (K : KT) (f : Nat) (g : Nat → Int32) : KT := (fun f' i => if f' = f then g i else K.1 f' i, K.2)
theorem setA_1 (K : KT) (f : Nat) (g : Nat → Int32) (f' i : Nat) : (setA K f g).1 f' i = if f' = f then g i else K.1 f' i := rfl
theorem setA_2 (K : KT) (f : Nat) (g : Nat → Int32) : (setA K f g).2 = K.2 := rfl
def updF (R : Nat → Int32) (t : Nat) (v : Int32) : Nat → Int32 := fun i => if i = t then v else R i
def lendF (K : KT) (R : Nat → Int32) (u : Nat) : Nat → Int32 := match lendTo K u with
  | 0 => R
  | t + 1 => if R t < R u then updF R t (R u) else R
def lendN (K : KT) : Nat → Nat → (Nat → Int32) → Nat → Int32
  | 0, _, R => R
  | j + 1, i, R => lendN K j (i + 1) (lendF K R i)
def itF (K : KT) : Nat → (Nat → Int32) → Nat → Int32
  | 0, R => R
  | j + 1, R => itF K j (lendN K (K.2 0 0) 0 R)
def liftF (K : KT) (R : Nat → Int32) (m : Nat) : Nat → Int32 := match K.2 4 m with
  | 0 => R
  | t + 1 => if K.1 21 m = 2 ∧ R t < K.1 22 m then updF R t (K.1 22 m) else R
def liftN (K : KT) : Nat → Nat → (Nat → Int32) → Nat → Int32
  | 0, _, R => R
  | j + 1, m, R => liftN K j (m + 1) (liftF K R m)
/-- the rank at first: the greater, the more urgent -/
def base (K : KT) (t : Nat) : Int32 := if K.1 28 0 = 0 then K.1 0 t else -(K.1 10 t)
def RB (K : KT) : Nat → Int32 := fun t => if t < K.2 0 0 then base K t else K.1 12 t
def RL1 (K : KT) : Nat → Int32 := if K.1 28 0 = 0 then liftN K (K.2 0 1) 0 (RB K) else RB K
/-- the ranks, as the class reckons them -/
def VR (K : KT) : Nat → Int32 := itF K 8 (RL1 K)
/-- the urgencies, as the reference reckons them: in a lesser-is-more form with deadlines -/
def sgn (K : KT) (x : Int32) : Int32 := if K.1 28 0 = 0 then x else -x
def UM (K : KT) : Nat → Int32 := fun t => if t < K.2 0 0 then sgn K (VR K t) else K.1 13 t
def weighK (K : KT) : KT := setA (setA K 12 (VR K)) 13 (UM K)
def noteK (K : KT) (w : Int32) (t : Nat) : KT := sN (sN (sI (sI (sI K 23 (K.2 0 4) w) 24 (K.2 0 4) (K.1 28 2)) 25 (K.2 0 4) (nI t)) 0 4 ((K.2 0 4 + 1) % 40)) 0 3 (K.2 0 3 + 1)
/-- is a ahead of b -/
def ahead (K : KT) (R : Nat → Int32) (a b : Nat) : Bool := if R a = R b then (if K.2 0 2 = a + 1 ∨ K.2 0 2 = b + 1 then decide (K.2 0 2 = a + 1) else decide (K.1 11 a < K.1 11 b)) else decide (R b < R a)
def inher (K : KT) (R : Nat → Int32) (a b : Nat) : Bool := if R a = R b then decide (K.1 11 a < K.1 11 b) else decide (R b < R a)
/-- the best of b and t; 0 is none, t + 1 is t -/
def pick1 (K : KT) (R : Nat → Int32) (b t : Nat) : Nat := if K.1 6 t = 1 then (match b with
  | 0 => t + 1
  | c + 1 => if ahead K R t c = true then t + 1 else c + 1) else b
def pickN (K : KT) (R : Nat → Int32) : Nat → Nat → Nat → Nat
  | 0, _, b => b
  | j + 1, t, b => pickN K R j (t + 1) (pick1 K R b t)
def firstK (K : KT) : Nat := pickN K (VR K) (K.2 0 0) 0 0
def heir1 (K : KT) (R : Nat → Int32) (m b t : Nat) : Nat := if K.2 3 t = m + 1 then (match b with
  | 0 => t + 1
  | c + 1 => if inher K R t c = true then t + 1 else c + 1) else b
def heirN (K : KT) (R : Nat → Int32) (m : Nat) : Nat → Nat → Nat → Nat
  | 0, _, b => b
  | j + 1, t, b => heirN K R m j (t + 1) (heir1 K R m b t)
def heirK (K : KT) (m : Nat) : Nat := heirN K (VR K) m (K.2 0 0) 0 0
/-- h gets the mutex that it waits at: it is ready behind that step -/
def wakeK (K : KT) (h : Nat) : KT := noteK (sI (sN (sI (sN (sI (sI K 28 3 (K.1 28 3 + 1)) 6 h 1) 3 h 0) 11 h (K.1 28 3 + 1)) 1 h (K.2 1 h + 1)) 7 h 0) 6 h
def giveK (K : KT) (m : Nat) : KT := match heirK K m with
  | 0 => sN (weighK K) 4 m 0
  | h + 1 => wakeK (sN (weighK K) 4 m (h + 1)) h
def giveN (t : Nat) : Nat → Nat → KT → KT
  | 0, _, K => K
  | j + 1, m, K => giveN t j (m + 1) (if K.2 4 m = t + 1 then giveK K m else K)
def endK (K : KT) (t : Nat) (code : Int32) : KT := giveN t (K.2 0 1) 0 (sN (sI (noteK K code t) 6 t 0) 3 t 0)
def failK (K : KT) (t : Nat) : KT := endK (sI K 16 t (K.1 16 t + 1)) t 3
def doneK (K : KT) (t : Nat) (w : Int32) : KT := endK (sI (sI K 15 t (K.1 15 t + 1)) 20 t (if K.1 20 t < w - K.1 9 t then w - K.1 9 t else K.1 20 t)) t 2
def blockK (K : KT) (t m : Nat) : KT := noteK (sI (sN (sI (sI K 28 3 (K.1 28 3 + 1)) 6 t 2) 3 t (m + 1)) 11 t (K.1 28 3 + 1)) 5 t
def passK (K : KT) (t : Nat) : KT := sI (sN K 1 t (K.2 1 t + 1)) 7 t 0
/-- the step that t is at: its kind, its number -/
def kdK (K : KT) (t : Nat) : Int32 := K.1 26 (10 * t + K.2 1 t)
def amK (K : KT) (t : Nat) : Nat := (K.1 27 (10 * t + K.2 1 t)).toNatClampNeg
def failsK (K : KT) (t m : Nat) (kd : Int32) : Bool := if kd = 2 then !decide (K.2 4 m = t + 1) else (decide (K.2 4 m = t + 1) || (decide (K.1 28 0 = 0) && decide (K.1 21 m = 2) && decide (K.1 22 m < K.1 0 t)))
def goK : Nat → KT → Nat → Int32 → KT
  | 0, K, t, w => doneK K t w
  | j + 1, K, t, w => if kdK K t = 0 then K else if failsK K t (amK K t) (kdK K t) = true then failK K t else if kdK K t = 2 then goK j (passK (giveK K (amK K t)) t) t w else if K.2 4 (amK K t) = 0 then goK j (passK (sN K 4 (amK K t) (t + 1)) t) t w else blockK K t (amK K t)
def goOnK (K : KT) (t : Nat) (w : Int32) : KT := goK (K.2 2 t - K.2 1 t) K t w
def atWorkK (K : KT) (t : Nat) : Bool := decide (K.2 1 t < K.2 2 t) && decide (kdK K t = 0)
def beginK (K : KT) (t : Nat) : KT := if K.1 6 t = 0 then noteK (sI (sI (sI (sI (sI (sI (sN (sI (sI K 28 3 (K.1 28 3 + 1)) 6 t 1) 1 t 0) 7 t 0) 14 t 0) 8 t 0) 9 t (K.1 28 2)) 10 t (K.1 28 2 + K.1 3 t)) 11 t (K.1 28 3 + 1)) 0 t else noteK (sI K 18 t (K.1 18 t + 1)) 1 t
def missK1 (K : KT) (t : Nat) : KT := if ¬ K.1 6 t = 0 ∧ K.1 10 t = K.1 28 2 then (if K.1 5 t = 0 then noteK (sI K 17 t (K.1 17 t + 1)) 4 t else failK (noteK (sI K 17 t (K.1 17 t + 1)) 4 t) t) else K
def missN : Nat → Nat → KT → KT
  | 0, _, K => K
  | j + 1, t, K => missN j (t + 1) (missK1 K t)
def perK (K : KT) (t : Nat) : Bool := decide (0 < K.1 1 t) && decide (K.1 2 t ≤ K.1 28 2) && decide ((K.1 28 2 - K.1 2 t) - (K.1 28 2 - K.1 2 t) / K.1 1 t * K.1 1 t = 0)
def relN : Nat → Nat → KT → KT
  | 0, _, K => K
  | j + 1, t, K => relN j (t + 1) (if perK K t = true then beginK K t else K)
def settleK : Nat → KT → KT × Nat
  | 0, K => (K, 0)
  | j + 1, K => match firstK K with
    | 0 => (weighK K, 0)
    | t + 1 => if atWorkK K t = true then (weighK K, t + 1) else settleK j (goOnK (weighK K) t (K.1 28 2))
def leftK (K : KT) (t : Nat) : Int32 := (if K.1 14 t = 0 then K.1 27 (10 * t + K.2 1 t) else K.1 14 t) - 1
def unitK (K : KT) (t : Nat) : KT := sI (sI (sI (sI (sN K 0 2 (t + 1)) 8 t (K.1 8 t + 1)) 7 t (K.1 7 t + 1)) 14 t (leftK K t)) 19 t (K.1 19 t + 1)
def workK (K : KT) (t : Nat) : KT :=
  let K1 := if K.1 8 t + 1 = K.1 4 t + 1 then noteK (unitK K t) 7 t else unitK K t
  if leftK K t = 0 then goOnK (passK K1 t) t (K.1 28 2 + 1) else K1
def tickK (K : KT) : KT × Nat :=
  let p := settleK 1000 (relN (K.2 0 0) 0 (missN (K.2 0 0) 0 K))
  match p.2 with
  | 0 => (sI p.1 28 2 (p.1.1 28 2 + 1), 0)
  | t + 1 => (sI (workK p.1 t) 28 2 ((workK p.1 t).1 28 2 + 1), 1)
def ticksK : Nat → KT → Nat → KT × Nat
  | 0, K, b => (K, b)
  | j + 1, K, b => ticksK j (tickK K).1 (b + (tickK K).2)
