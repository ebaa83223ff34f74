/-! A SHARE'S DATUM -/
theorem least_k {g n : Nat} (h0 : 0 < g) : ∀ (d : Nat), n ≤ g * 2 ^ d → ∃ k, k ≤ d ∧ n ≤ g * 2 ^ k ∧ (k = 0 ∨ g * 2 ^ (k - 1) < n)
  | 0, h => ⟨0, Nat.le_refl _, h, Or.inl rfl⟩
  | d + 1, h => by
    by_cases q : n ≤ g * 2 ^ d
    · obtain ⟨k, k1, k2, k3⟩ := least_k h0 d q
      exact ⟨k, by omega, k2, k3⟩
    · exact ⟨d + 1, Nat.le_refl _, h, Or.inr (by rw [Nat.add_sub_cancel]; omega)⟩
theorem share_fin {g n : Nat} (h0 : 0 < g) (hgn : g ≤ n) (hn : n < 2 ^ 31) : ∃ c k : Nat, k ≤ 31 ∧ 2 ^ 52 ≤ c ∧ c < 2 ^ 53 ∧ FP.Core.roundRatio FP.Core.b64 false g n 0 = .fin false c (-52 - (k : Int)) ∧ (k = 0 → c = 2 ^ 52) := by
  obtain ⟨k, k1, k2, k3⟩ := least_k (n := n) h0 31 (by have : 1 * 2 ^ 31 ≤ g * 2 ^ 31 := Nat.mul_le_mul_right _ h0; omega)
  have hup : g * 2 ^ k ≤ 2 * n := by
    rcases k3 with w | w
    · subst w; omega
    · rcases Nat.eq_zero_or_pos k with e | e
      · subst e; omega
      · have : 2 ^ k = 2 * 2 ^ (k - 1) := by rw [← Nat.pow_succ']; congr 1; omega
        rw [this, Nat.mul_left_comm]; omega
  have hq : FP.Core.quantum FP.Core.b64 g n 0 = -52 - (k : Int) := by
    refine FP.Core.quantum_eq h0 (by omega) (by show (-1074 : Int) ≤ _; omega) ?_ (Or.inr ?_)
    · rw [show (-52 - (k : Int) - 0 + ((FP.Core.b64.p : Nat) : Int)) = 1 - (k : Int) by show (-52 - (k : Int) - 0 + ((53 : Nat) : Int)) = _; omega]
      unfold FP.Core.Below
      rcases Nat.eq_zero_or_pos k with e | e
      · subst e
        show g * 2 ^ 0 < n * 2 ^ 1
        omega
      · rw [show (-(1 - (k : Int))).toNat = k - 1 by omega, show (1 - (k : Int)).toNat = 0 by omega]
        rcases k3 with w | w
        · omega
        · omega
    · rw [show (-52 - (k : Int) - 0 + (((FP.Core.b64.p : Nat) : Int) - 1)) = -(k : Int) by show (-52 - (k : Int) - 0 + (((53 : Nat) : Int) - 1)) = _; omega]
      unfold FP.Core.Below
      rw [show (-(-(k : Int))).toNat = k by omega, show (-(k : Int)).toNat = 0 by omega]
      omega
  have e1 : FP.Core.unitsNum g 0 (-52 - (k : Int)) = g * 2 ^ k * 2 ^ 52 := by
    unfold FP.Core.unitsNum
    rw [show (0 - (-52 - (k : Int))).toNat = k + 52 by omega, Nat.pow_add, Nat.mul_assoc]
  have e2 : FP.Core.unitsDen n 0 (-52 - (k : Int)) = n := by
    unfold FP.Core.unitsDen
    rw [show (-52 - (k : Int) - 0).toNat = 0 by omega]; omega
  obtain ⟨N, hN⟩ : ∃ N, N = FP.Core.nearest (g * 2 ^ k * 2 ^ 52) n := ⟨_, rfl⟩
  have n1 : 2 ^ 52 ≤ N := by rw [hN]; exact FP.Core.nearest_ge (by omega) (by omega)
  have n2 : N ≤ 2 ^ 53 := by rw [hN]; exact FP.Core.nearest_le (by omega) (by omega)
  have n3 : k = 0 → N ≤ 2 ^ 52 := fun e => by rw [hN]; subst e; exact FP.Core.nearest_le (by omega) (by omega)
  have hr : FP.Core.roundRatio FP.Core.b64 false g n 0 = FP.Core.settle FP.Core.b64 false N (-52 - (k : Int)) := by
    unfold FP.Core.roundRatio
    rw [if_neg (by omega)]
    unfold FP.Core.roundAt
    rw [hq, e1, e2, ← hN]
  have hqm : FP.Core.b64.qmax = 971 := by decide
  have hqm1 : -52 - (k : Int) ≤ FP.Core.b64.qmax := by rw [hqm]; omega
  have hqm2 : -52 - (k : Int) + 1 ≤ FP.Core.b64.qmax := by rw [hqm]; omega
  rw [hr]
  unfold FP.Core.settle FP.Core.bound
  by_cases hc : N < 2 ^ 53
  · rw [if_pos (show N < 2 ^ FP.Core.b64.p from hc), if_pos (show -52 - (k : Int) ≤ FP.Core.b64.qmax from hqm1)]
    exact ⟨N, k, k1, n1, hc, rfl, fun e => by have := n3 e; omega⟩
  · have hk : 1 ≤ k := by
      rcases Nat.eq_zero_or_pos k with e | e
      · have := n3 e; omega
      · exact e
    rw [if_neg (show ¬ N < 2 ^ FP.Core.b64.p from hc), if_pos (show -52 - (k : Int) + 1 ≤ FP.Core.b64.qmax from hqm2)]
    refine ⟨2 ^ 52, k - 1, by omega, Nat.le_refl _, by decide, ?_, fun _ => rfl⟩
    rw [show (-52 - ((k - 1 : Nat) : Int)) = -52 - (k : Int) + 1 by omega]
    rfl
