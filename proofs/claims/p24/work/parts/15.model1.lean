/-- 218 ints hold the state a -/
def RM (f : Nat → Int32) (a : AA) : Prop :=
  (∀ k, k < 9 → f k = nI (a.1 k)) ∧ f 9 = nI a.2.1.length ∧ (∀ (p : Nat) (c : Cl), a.2.1[p]? = some c → ∀ w, w < 5 → f (10 + 5 * p + w) = nI (c w)) ∧ (∀ st, st < 4 → ∀ w, w < 32 → f (90 + 32 * st + w) = nI (a.2.2 st w))
/-- other cells stay -/
def FrO (o : Nat) (I I' : Nat → Nat → Int32) : Prop := ∀ q, q ≠ o → I' q = I q
theorem FrO.rf {o : Nat} {I : Nat → Nat → Int32} : FrO o I I := fun _ _ => rfl
theorem FrO.tr {o : Nat} {I I' I'' : Nat → Nat → Int32} (h : FrO o I I') (h' : FrO o I' I'') : FrO o I I'' := fun q hq => (h' q hq).trans (h q hq)
theorem FrO.up {o k : Nat} {x : Int32} {I : Nat → Nat → Int32} : FrO o I (up2 I o k x) := fun q hq => by funext j; simp [up2, hq]
theorem up2_o {I : Nat → Nat → Int32} {o k j : Nat} {x : Int32} : up2 I o k x o j = if j = k then x else I o j := by simp [up2]
