theorem callA_r {a : AA} {st : Nat} (h : refd a st = true) : callA a st = (a.1, a.2.1, sT a.2.2 st (u1 (a.2.2 st) 8 (a.2.2 st 8 + 1))) := by unfold callA; rw [if_pos h]
theorem callA_0 {a : AA} {st : Nat} (h : refd a st = false) (hd : a.2.2 st (12 + a.2.2 st 1) = 0) : callA a st = outA (u1 a.1 8 (a.1 8 + trN a st), a.2.1, sT a.2.2 st (thruR (a.2.2 st))) st 0 (trN a st) (a.2.2 st 11) := by
  unfold callA; rw [if_neg (by simp [h]), if_pos hd]
theorem callA_1 {a : AA} {st : Nat} (h : refd a st = false) (hd : a.2.2 st (12 + a.2.2 st 1) ≠ 0) : callA a st = (u1 a.1 8 (a.1 8 + trN a st), a.2.1 ++ [mkC st (a.2.2 st (12 + a.2.2 st 1)) (trN a st) (a.2.2 st 11)], sT a.2.2 st (thruR (a.2.2 st))) := by
  unfold callA; rw [if_neg (by simp [h]), if_neg hd]
theorem trN_le (a : AA) (st : Nat) : trN a st ≤ 1 := by unfold trN; split <;> omega
theorem RK.thru {b : Nat} {t : Rw} (h : RK b t) : RK b (thruR t) := by
  obtain ⟨h0, h1, h2, h3, h4, h5, h6, h7, h8, h9, h10, h11, h12⟩ := h
  refine ⟨h0, h1, Nat.mod_lt _ h0, h3, h4, h5, h6, h7, h8, h9, h10, h11, fun j hj => ?_⟩
  show u1 (u1 t 1 _) 7 _ (12 + j) ≤ 99
  rw [u1_n (by omega), u1_n (by omega)]; exact h12 j hj
