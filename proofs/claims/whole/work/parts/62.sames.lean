/-! A THROWN ANSWER LEAVES THE STATE -/
section SAMES
variable {s : ST}
theorem sCall_same (v : Int32) : (sCall v s).1 ≠ 0 → (sCall v s).2.2 = s := by
  unfold sCall
  repeat' split
  all_goals first | (intro _; rfl) | (intro h; exact absurd rfl h)
theorem sOften_same (v : Int32) (n : Int32) (t : Int32) : (sOften v n t s).1 ≠ 0 → (sOften v n t s).2.2 = s := by
  unfold sOften
  repeat' split
  all_goals first | (intro _; rfl) | (intro h; exact absurd rfl h)
theorem sBest_same  : (sBest s).1 ≠ 0 → (sBest s).2.2 = s := by
  unfold sBest
  repeat' split
  all_goals first | (intro _; rfl) | (intro h; exact absurd rfl h)
theorem sBest_no  : (sBest s).1 ≠ 2 := by
  unfold sBest
  repeat' split
  all_goals (intro h; cases h)
theorem sClose_same (v : Int32) : (sClose v s).1 ≠ 0 → (sClose v s).2.2 = s := by
  unfold sClose
  repeat' split
  all_goals first | (intro _; rfl) | (intro h; exact absurd rfl h)
theorem sClose_no (v : Int32) : (sClose v s).1 ≠ 2 := by
  unfold sClose
  repeat' split
  all_goals (intro h; cases h)
theorem sSet_same (v : Int32) (w : Int32) : (sSet v w s).1 ≠ 0 → (sSet v w s).2.2 = s := by
  unfold sSet
  repeat' split
  all_goals first | (intro _; rfl) | (intro h; exact absurd rfl h)
theorem sPass_same (v : Int32) : (sPass v s).1 ≠ 0 → (sPass v s).2.2 = s := by
  unfold sPass
  repeat' split
  all_goals first | (intro _; rfl) | (intro h; exact absurd rfl h)
theorem sPass_no (v : Int32) : (sPass v s).1 ≠ 2 := by
  unfold sPass
  repeat' split
  all_goals (intro h; cases h)
theorem sAppend_same (v : Int32) : (sAppend v s).1 ≠ 0 → (sAppend v s).2.2 = s := by
  unfold sAppend
  repeat' split
  all_goals first | (intro _; rfl) | (intro h; exact absurd rfl h)
theorem sDelays_same (v : Int32) : (sDelays v s).1 ≠ 0 → (sDelays v s).2.2 = s := by
  unfold sDelays
  repeat' split
  all_goals first | (intro _; rfl) | (intro h; exact absurd rfl h)
theorem sStore_same (v : Int32) (w : Int32) : (sStore v w s).1 ≠ 0 → (sStore v w s).2.2 = s := by
  unfold sStore
  repeat' split
  all_goals first | (intro _; rfl) | (intro h; exact absurd rfl h)
theorem sDelay_same (v : Int32) (w : Int32) : (sDelay v w s).1 ≠ 0 → (sDelay v w s).2.2 = s := by
  unfold sDelay
  repeat' split
  all_goals first | (intro _; rfl) | (intro h; exact absurd rfl h)
theorem sOnWay_same (v : Int32) (w : Int32) : (sOnWay v w s).1 ≠ 0 → (sOnWay v w s).2.2 = s := by
  unfold sOnWay
  repeat' split
  all_goals first | (intro _; rfl) | (intro h; exact absurd rfl h)
theorem sOnWay_no (v : Int32) (w : Int32) : (sOnWay v w s).1 ≠ 2 := by
  unfold sOnWay
  repeat' split
  all_goals (intro h; cases h)
theorem sCount_same (v : Int32) : (sCount v s).1 ≠ 0 → (sCount v s).2.2 = s := by
  unfold sCount
  repeat' split
  all_goals first | (intro _; rfl) | (intro h; exact absurd rfl h)
theorem sCount_no (v : Int32) : (sCount v s).1 ≠ 2 := by
  unfold sCount
  repeat' split
  all_goals (intro h; cases h)
theorem sSetting_same (v : Int32) : (sSetting v s).1 ≠ 0 → (sSetting v s).2.2 = s := by
  unfold sSetting
  repeat' split
  all_goals first | (intro _; rfl) | (intro h; exact absurd rfl h)
theorem sSetting_no (v : Int32) : (sSetting v s).1 ≠ 2 := by
  unfold sSetting
  repeat' split
  all_goals (intro h; cases h)
theorem sIf_same (v : Int32) (n : Int32) (t : Int32) (w : Int32) : (sIf v n t w s).1 ≠ 0 → (sIf v n t w s).2.2 = s := by
  unfold sIf
  repeat' split
  all_goals first | (intro _; rfl) | (intro h; exact absurd rfl h)
theorem sFree_same (v : Int32) : (sFree v s).1 ≠ 0 → (sFree v s).2.2 = s := by
  unfold sFree
  repeat' split
  all_goals first | (intro _; rfl) | (intro h; exact absurd rfl h)
theorem sFree_no (v : Int32) : (sFree v s).1 ≠ 2 := by
  unfold sFree
  repeat' split
  all_goals (intro h; cases h)
theorem sUndo_same : (sUndo s).1 ≠ 0 → (sUndo s).2.2 = s := by
  unfold sUndo
  split
  · intro _; rfl
  · intro h; exact absurd rfl h
theorem sUndo_no : (sUndo s).1 ≠ 2 := by
  unfold sUndo
  split <;> (intro h; cases h)
end SAMES
