/-! HEALTH -/
section HEALTH
variable {G : GG} {K : Nat → Option (Nat × Nat)} {R : Nat → Nat → Value} {I : Nat → Nat → Int32} {J : Nat → Nat → Int64} {z : Nat} {σ : Sg} {a : AA} {m k : Nat}
variable {B : List Nat} {hs : List AA}
theorem X_health (hX : LX G K R) (hS : XS I (a, hs, B)) (hI : IV m k a) (hl1 : L1 a) (hmk : m + k ≤ 800000000) : Run G YX3_health [.ref (G.1 0)] (K, R, I, J, z) (Rd (K, R, I, J, z) (.double (shareD a))) := by
  obtain ⟨xk0, xr0, xr1, xr2, xk35, xrs, xr5, xD, xL1, xL18, xLs⟩ := id hX
  have hN : CSt I 1 a := hS.1
  have hk1 : K 1 = some (1, 7) := xL1.1
  refine run_of (ls := [(0, .ref (G.1 0))]) (by decide +kernel) rfl rfl (Nat.le_of_ble_eq_true rfl) ?_
  refine aw_aload_n dX3_health_0 rfl ?_
  refine aw_getR dX3_health_1 flX3_10 rfl (by assumption) (by assumption) ?_
  refine aw_vRd dX3_health_4 cvX3_162 ⟨Nat.le_of_ble_eq_true rfl, Nat.le_of_ble_eq_true rfl⟩ (by assumption) ⟨_, rfl, rfl⟩ (c_goodShare xL1 hN hI (by omega)) rfl rfl (Nat.le_of_ble_eq_true rfl) ⟨rfl, rfl⟩ ⟨Nat.zero_le _, Nat.zero_le _⟩ ?_
  exact aw_dret dX3_health_7 rfl (Nat.zero_le _) (Nat.zero_le _) ⟨rfl, rfl⟩
end HEALTH
