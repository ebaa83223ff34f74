/-- the states kept -/
def RH (I : Nat → Nat → Int32) (hs : List AA) : Prop :=
  I 140 4 = nI hs.length ∧ hs.length ≤ 6 ∧ ∀ (i : Nat) (x : AA), hs[i]? = some x → RM (fun k => I 143 (218 * i + k)) x ∧ x.2.1.length ≤ 16
def pushH (hs : List AA) (a : AA) : List AA := (if hs.length = 6 then hs.tail else hs) ++ [a]
