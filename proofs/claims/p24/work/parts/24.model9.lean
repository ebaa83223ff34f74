/-! THE REFERENCE: the healthiest store, what is told -/
theorem bestN_c {a : AA} {q : Nat} (h : a.2.2 q 2 ≠ 0) : bestN a (q + 1) = bestN a q := by rw [bestN, if_neg h]
theorem bestN_n {a : AA} {q : Nat} (h : a.2.2 q 2 = 0) (hb : bestN a q = none) : bestN a (q + 1) = some q := by rw [bestN, if_pos h, hb]
theorem bestN_y {a : AA} {q b : Nat} (h : a.2.2 q 2 = 0) (hb : bestN a q = some b) (hc : badWinR a.1 (a.2.2 q) < badWinR a.1 (a.2.2 b) ∨ (badWinR a.1 (a.2.2 q) = badWinR a.1 (a.2.2 b) ∧ onWayN a q < onWayN a b)) : bestN a (q + 1) = some q := by
  rw [bestN, if_pos h, hb]; exact if_pos hc
theorem bestN_k {a : AA} {q b : Nat} (h : a.2.2 q 2 = 0) (hb : bestN a q = some b) (hc : ¬ (badWinR a.1 (a.2.2 q) < badWinR a.1 (a.2.2 b) ∨ (badWinR a.1 (a.2.2 q) = badWinR a.1 (a.2.2 b) ∧ onWayN a q < onWayN a b))) : bestN a (q + 1) = some b := by
  rw [bestN, if_pos h, hb]; exact if_neg hc
/-- what is told of a store -/
def tellN (a : AA) (st : Nat) : Nat → Nat
  | 0 => a.2.2 st 2
  | 1 => inWinR a.1 (a.2.2 st)
  | 2 => badWinR a.1 (a.2.2 st)
  | 3 => a.2.2 st 5
  | 4 => a.2.2 st 6
  | 5 => a.2.2 st 7
  | 6 => a.2.2 st 8
  | 7 => a.2.2 st 9
  | 8 => onWayN a st
  | 9 => a.2.2 st 10
  | _ => a.2.2 st (12 + a.2.2 st 1)
/-- over the first n stores -/
def ovN (a : AA) (w : Nat) : Nat → Nat
  | 0 => 0
  | n + 1 => ovN a w n + (if w = 6 then (if a.2.2 n 2 = 0 then 1 else 0) else a.2.2 n (if w = 2 then 7 else 8))
def cntN (a : AA) (sm : Nat) : Nat → Nat
  | 0 => a.1 5
  | 1 => a.2.1.length
  | 2 => ovN a 2 4
  | 3 => ovN a 3 4
  | 4 => a.1 6
  | 5 => a.1 7
  | 6 => ovN a 6 4
  | 7 => a.1 8
  | _ => sm
