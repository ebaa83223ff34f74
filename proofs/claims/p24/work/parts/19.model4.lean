/-! THE REFERENCE: trials, refusals, calls -/
def b2 (b : Bool) : Nat := if b = true then 1 else 0
theorem b2_le (b : Bool) : b2 b ≤ 1 := by unfold b2; split <;> omega
theorem b2_t {b : Bool} (h : b = true) : b2 b = 1 := if_pos h
theorem b2_f {b : Bool} (h : b = false) : b2 b = 0 := by subst h; rfl
