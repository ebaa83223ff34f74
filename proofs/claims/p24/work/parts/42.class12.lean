/-! THE CLASS: what is thrown -/
def XI : String := "java/lang/IndexOutOfBoundsException"
def XG : String := "java/lang/IllegalArgumentException"
def XT : String := "java/lang/IllegalStateException"
def exW (c : String) : List Cond := [.castable c c, .declares (Bundle.initS "java/lang/RuntimeException"), .declares (Bundle.initS "java/lang/Exception"), .declares (Bundle.initS Bundle.tN)]
theorem hats_of {ic : Nat} {c : String} (h1 : ((vx_atS RX3 ic c ["java/lang/RuntimeException", "java/lang/Exception"]).filter goodWord).all (fun w => decide (w ∈ lw_tbl)) = true) (h2 : ((vx_atS RX3 ic c ["java/lang/RuntimeException", "java/lang/Exception"]).filter (fun w => !goodWord w)).all (fun w => decide (w ∈ exW c)) = true) (hx : ∀ s, EXs s → va_Nw (.castable c c) s) :
    ∀ (args : Array Value) (s : State), (∀ w ∈ gT, w.before args s = true) → EXs s → ∀ w ∈ vx_atS RX3 ic c ["java/lang/RuntimeException", "java/lang/Exception"], w.before args s = true := by
  intro args s h hE
  refine vx_hat (B := exW c) (fun w hw => ?_) (fun w hw => ?_) (fun w hw => ?_)
  · have := List.all_eq_true.mp h1 w hw
    exact h w (gT_in (of_decide_eq_true this) (List.mem_filter.mp hw).2)
  · exact of_decide_eq_true (List.all_eq_true.mp h2 w hw)
  · have h7 := hE.2.2.2.2.2.2
    simp only [exW, List.mem_cons, List.not_mem_nil, or_false] at hw
    rcases hw with rfl | rfl | rfl | rfl
    · exact va_Nw.use rfl (hx s hE)
    · exact va_Nw.use rfl h7.1
    · exact va_Nw.use rfl h7.2.1
    · exact va_Nw.use rfl h7.2.2.1
theorem atXI_1 : ((vx_atS RX3 222 XI ["java/lang/RuntimeException", "java/lang/Exception"]).filter goodWord).all (fun w => decide (w ∈ lw_tbl)) = true := by decide +kernel
theorem atXI_2 : ((vx_atS RX3 222 XI ["java/lang/RuntimeException", "java/lang/Exception"]).filter (fun w => !goodWord w)).all (fun w => decide (w ∈ exW XI)) = true := by decide +kernel
theorem atXI_3 : (vx_atS RX3 222 XI ["java/lang/RuntimeException", "java/lang/Exception"]).all vx_ot = true := by decide +kernel
theorem atXI_h : ∀ (args : Array Value) (s : State), (∀ w ∈ gT, w.before args s = true) → EXs s → ∀ w ∈ vx_atS RX3 222 XI ["java/lang/RuntimeException", "java/lang/Exception"], w.before args s = true := hats_of atXI_1 atXI_2 (fun s h => h.1)
theorem atXG_1 : ((vx_atS RX3 106 XG ["java/lang/RuntimeException", "java/lang/Exception"]).filter goodWord).all (fun w => decide (w ∈ lw_tbl)) = true := by decide +kernel
theorem atXG_2 : ((vx_atS RX3 106 XG ["java/lang/RuntimeException", "java/lang/Exception"]).filter (fun w => !goodWord w)).all (fun w => decide (w ∈ exW XG)) = true := by decide +kernel
theorem atXG_3 : (vx_atS RX3 106 XG ["java/lang/RuntimeException", "java/lang/Exception"]).all vx_ot = true := by decide +kernel
theorem atXG_h : ∀ (args : Array Value) (s : State), (∀ w ∈ gT, w.before args s = true) → EXs s → ∀ w ∈ vx_atS RX3 106 XG ["java/lang/RuntimeException", "java/lang/Exception"], w.before args s = true := hats_of atXG_1 atXG_2 (fun s h => h.2.1)
theorem atXT_1 : ((vx_atS RX3 42 XT ["java/lang/RuntimeException", "java/lang/Exception"]).filter goodWord).all (fun w => decide (w ∈ lw_tbl)) = true := by decide +kernel
theorem atXT_2 : ((vx_atS RX3 42 XT ["java/lang/RuntimeException", "java/lang/Exception"]).filter (fun w => !goodWord w)).all (fun w => decide (w ∈ exW XT)) = true := by decide +kernel
theorem atXT_3 : (vx_atS RX3 42 XT ["java/lang/RuntimeException", "java/lang/Exception"]).all vx_ot = true := by decide +kernel
theorem atXT_h : ∀ (args : Array Value) (s : State), (∀ w ∈ gT, w.before args s = true) → EXs s → ∀ w ∈ vx_atS RX3 42 XT ["java/lang/RuntimeException", "java/lang/Exception"], w.before args s = true := hats_of atXT_1 atXT_2 (fun s h => h.2.2.1)
