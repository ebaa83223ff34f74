/-! WHAT A STATE IS, AND WHAT CALLS DO TO IT -/
/-- a call on its way: 0 its store, 1 ticks to go, 2 its delay, 3 a trial, 4 the closing -/
abbrev Cl : Type := Nat → Nat
/-- a store: 0 many, 1 next, 2 breaker, 3 bits, 4 outcomes, 5 still, 6 last, 7 through, 8 refused, 9 bad, 10 cuts, 11 closings, 12.. the row -/
abbrev Rw : Type := Nat → Nat
/-- 0..4 settings, 5 ticks, 6 bad, 7 good, 8 trials; the calls on their way; the stores -/
abbrev AA : Type := (Nat → Nat) × List Cl × (Nat → Rw)
def u1 (f : Nat → Nat) (k v : Nat) : Nat → Nat := fun j => if j = k then v else f j
theorem u1_s {f : Nat → Nat} {k v : Nat} : u1 f k v k = v := if_pos rfl
theorem u1_n {f : Nat → Nat} {k v j : Nat} (h : j ≠ k) : u1 f k v j = f j := if_neg h
def sT (T : Nat → Rw) (st : Nat) (t : Rw) : Nat → Rw := fun s => if s = st then t else T s
theorem sT_s {T : Nat → Rw} {st : Nat} {t : Rw} : sT T st t st = t := if_pos rfl
theorem sT_n {T : Nat → Rw} {st s : Nat} {t : Rw} (h : s ≠ st) : sT T st t s = T s := if_neg h
/-- how many of the lowest n bits are set -/
def bits (b : Nat) : Nat → Nat
  | 0 => 0
  | n + 1 => bits b n + b / 2 ^ n % 2
def inWinR (g : Nat → Nat) (t : Rw) : Nat := if t 2 = 0 then min (t 4) (g 1) else 0
def badWinR (g : Nat → Nat) (t : Rw) : Nat := bits (t 3) (inWinR g t)
def cutR (n : Nat) (t : Rw) : Rw := fun k => if k = 2 then 1 else if k = 3 then 0 else if k = 4 then 0 else if k = 5 then n else if k = 6 then n else if k = 10 then t 10 + 1 else t k
def closeR (t : Rw) : Rw := fun k => if k = 2 then 0 else if k = 3 then 0 else if k = 4 then 0 else if k = 5 then 0 else if k = 6 then 0 else if k = 11 then t 11 + 1 else t k
def noteR (b : Nat) (t : Rw) : Rw := fun k => if k = 3 then (2 * t 3 + b) % 65536 else if k = 4 then min (t 4 + 1) 16 else t k
/-- 1 for a bad delay, else 0 -/
def badN (g : Nat → Nat) (d : Nat) : Nat := if d = 0 ∨ g 0 < d then 1 else 0
def winR (g : Nat → Nat) (t : Rw) : Rw := if inWinR g t = g 1 ∧ g 2 ≤ badWinR g t then cutR (g 3) t else t
def outR (g : Nat → Nat) (d tr since : Nat) (t : Rw) : Rw :=
  if tr = 1 then (if badN g d = 1 then cutR (min (2 * t 6) (g 4)) (u1 t 9 (t 9 + badN g d)) else closeR (u1 t 9 (t 9 + badN g d)))
  else if t 2 = 0 ∧ t 11 = since then winR g (noteR (badN g d) (u1 t 9 (t 9 + badN g d)))
  else u1 t 9 (t 9 + badN g d)
def outG (g : Nat → Nat) (d : Nat) : Nat → Nat := u1 (u1 g 6 (g 6 + badN g d)) 7 (g 7 + (1 - badN g d))
def outA (a : AA) (st d tr since : Nat) : AA := (outG a.1 d, a.2.1, sT a.2.2 st (outR a.1 d tr since (a.2.2 st)))
def decC (c : Cl) : Cl := u1 c 1 (c 1 - 1)
/-- those with none to go are answered, in order; which are kept -/
def ansG : List Cl → (Nat → Nat) × (Nat → Rw) → (Nat → Nat) × (Nat → Rw)
  | [], x => x
  | c :: cs, x => if c 1 = 0 then ansG cs (outG x.1 (c 2), sT x.2 (c 0) (outR x.1 (c 2) (c 3) (c 4) (x.2 (c 0)))) else ansG cs x
def keptL (cs : List Cl) : List Cl := cs.filter (fun c => !(c 1 == 0))
def waitR (t : Rw) : Rw := if t 2 = 1 then u1 (u1 t 5 (t 5 - 1)) 2 (if t 5 - 1 = 0 then 2 else 1) else t
def tickA (a : AA) : AA :=
  let x := ansG (a.2.1.map decC) (a.1, a.2.2)
  (u1 x.1 5 (x.1 5 + 1), keptL (a.2.1.map decC), fun s => if s < 4 then waitR (x.2 s) else x.2 s)
def tickN (a : AA) : Nat := a.2.1.length - (keptL (a.2.1.map decC)).length
def ticksA : Nat → AA → AA
  | 0, a => a
  | n + 1, a => ticksA n (tickA a)
def ticksN : Nat → AA → Nat
  | 0, _ => 0
  | n + 1, a => tickN a + ticksN n (tickA a)
def hasTr (a : AA) (st : Nat) : Bool := a.2.1.any (fun c => c 0 == st && c 3 == 1)
def refd (a : AA) (st : Nat) : Bool := a.2.2 st 2 == 1 || (a.2.2 st 2 == 2 && hasTr a st)
def mkC (st d tr since : Nat) : Cl := fun k => if k = 0 then st else if k = 1 then d else if k = 2 then d else if k = 3 then tr else since
/-- what a call that is let through does ahead of its outcome -/
def thruR (t : Rw) : Rw := u1 (u1 t 1 ((t 1 + 1) % t 0)) 7 (t 7 + 1)
def trN (a : AA) (st : Nat) : Nat := if a.2.2 st 2 = 2 then 1 else 0
def callA (a : AA) (st : Nat) : AA :=
  if refd a st = true then (a.1, a.2.1, sT a.2.2 st (u1 (a.2.2 st) 8 (a.2.2 st 8 + 1)))
  else if a.2.2 st (12 + a.2.2 st 1) = 0 then outA (u1 a.1 8 (a.1 8 + trN a st), a.2.1, sT a.2.2 st (thruR (a.2.2 st))) st 0 (trN a st) (a.2.2 st 11)
  else (u1 a.1 8 (a.1 8 + trN a st), a.2.1 ++ [mkC st (a.2.2 st (12 + a.2.2 st 1)) (trN a st) (a.2.2 st 11)], sT a.2.2 st (thruR (a.2.2 st)))
def callN (a : AA) (st : Nat) : Nat := if refd a st = true then 0 else trN a st + 1
/-- calls with ticks behind each one, up to the first that would be let through without room -/
def oftenA (st ticks : Nat) : Nat → AA → AA
  | 0, a => a
  | n + 1, a => if a.2.1.length = 16 ∧ refd a st = false then a else oftenA st ticks n (ticksA ticks (callA a st))
def oftenN (st ticks : Nat) : Nat → AA → Nat
  | 0, _ => 0
  | n + 1, a => if a.2.1.length = 16 ∧ refd a st = false then 0 else (if 0 < callN a st then 1 else 0) + oftenN st ticks n (ticksA ticks (callA a st))
def onWayN (a : AA) (st : Nat) : Nat := a.2.1.countP (fun c => c 0 == st)
/-- the healthiest of the first n stores -/
def bestN (a : AA) : Nat → Option Nat
  | 0 => none
  | n + 1 => if a.2.2 n 2 = 0 then
      (match bestN a n with
       | none => some n
       | some b => if badWinR a.1 (a.2.2 n) < badWinR a.1 (a.2.2 b) ∨ (badWinR a.1 (a.2.2 n) = badWinR a.1 (a.2.2 b) ∧ onWayN a n < onWayN a b) then some n else some b)
    else bestN a n
/-- the trial's flag of every call of a store is taken away -/
def clrC (st : Nat) (c : Cl) : Cl := if c 0 = st then u1 c 3 0 else c
def shutA (a : AA) (st : Nat) : AA := (a.1, a.2.1.map (clrC st), sT a.2.2 st (closeR (a.2.2 st)))
