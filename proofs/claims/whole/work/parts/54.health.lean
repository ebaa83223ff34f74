/-! HEALTH -/
section HEALTH
variable {G : GG} {K : Nat → Option (Nat × Nat)} {R : Nat → Nat → Value} {I : Nat → Nat → Int32} {J : Nat → Nat → Int64} {z : Nat} {σ : Sg} {a : AA} {m k : Nat}
variable {B : List Nat} {hs : List AA}
theorem M_health (hL : LM G K R) (hS : MS I (a, hs, B)) (hI : IV m k a) (hmk : m + k ≤ 900000000) : Run G YX4_health [.ref (G.1 140)] (K, R, I, J, z) (fun r σ' => r = .inl (some (.double (shareD a))) ∧ ∃ I', σ' = (K, R, I', J, z) ∧ MS I' (a, hs, B) ∧ I' 140 0 = nI 0 ∧ FrM I I') := by
  obtain ⟨hk0, hr1, hk1, hr2, hk2, hr3, hk3, hr5, hk5, hr9, hk9⟩ := id hL
  have hS0 := hS.th (x := nI 0)
  refine run_of (ls := [(0, .ref (G.1 140))]) (by decide +kernel) rfl rfl (Nat.le_of_ble_eq_true rfl) ?_
  refine aw_aload_n dX4_health_0 rfl ?_
  refine aw_iconst (v := nI 0) dX4_health_1 rfl ?_
  refine aw_putI dX4_health_2 flX4_25 rfl (by intro r hr; cases hr; rfl) (by assumption) (by omega) rfl rfl ?_
  refine aw_aload_n dX4_health_5 rfl ?_
  refine aw_vRd dX4_health_6 cvX4_157 ⟨Nat.le_of_ble_eq_true rfl, Nat.le_of_ble_eq_true rfl⟩ (by assumption) ⟨_, rfl, rfl⟩ (r_share (a := a) (m := m) (k := k) hL hS0.1 hI (by omega)) rfl rfl (Nat.le_of_ble_eq_true rfl) ⟨rfl, rfl⟩ ⟨Nat.zero_le _, Nat.zero_le _⟩ ?_
  exact aw_dret dX4_health_9 rfl (Nat.zero_le _) (Nat.zero_le _) ⟨rfl, _, rfl, hS0, by rw [up2_o, if_pos rfl], FrM.th⟩
theorem X_health (hX : LX G K R) (hS : XS I (a, hs, B)) (hI : IV m k a) (hl1 : L1 a) (hmk : m + k ≤ 800000000) : Run G YX3_health [.ref (G.1 0)] (K, R, I, J, z) (Rd (K, R, I, J, z) (.double (shareD a))) := by
  obtain ⟨xk0, xr0, xr1, xr2, xk35, xrs, xr5, xD, xL1, xL18, xLs⟩ := id hX
  have hN : CSt I 1 a := hS.1
  have hk1 : K 1 = some (1, 7) := xL1.1
  refine run_of (ls := [(0, .ref (G.1 0))]) (by decide +kernel) rfl rfl (Nat.le_of_ble_eq_true rfl) ?_
  refine aw_aload_n dX3_health_0 rfl ?_
  refine aw_getR dX3_health_1 flX3_10 rfl (by assumption) (by assumption) ?_
  refine aw_vRd dX3_health_4 cvX3_162 ⟨Nat.le_of_ble_eq_true rfl, Nat.le_of_ble_eq_true rfl⟩ (by assumption) ⟨_, rfl, rfl⟩ (c_goodShare xL1 hN hI (by omega)) rfl rfl (Nat.le_of_ble_eq_true rfl) ⟨rfl, rfl⟩ ⟨Nat.zero_le _, Nat.zero_le _⟩ ?_
  exact aw_dret dX3_health_7 rfl (Nat.zero_le _) (Nat.zero_le _) ⟨rfl, rfl⟩
theorem x_mix (p q : Int64) : Run G YX3_mix [.long p, .long q] σ (Rd σ (.long (31 * p + q))) := by
  refine run_of (ls := [(0, .long p), (2, .long q)]) (by decide +kernel) rfl rfl (Nat.le_of_ble_eq_true rfl) ?_
  refine aw_ldc2 dX3_mix_0 ldX3_186 ?_
  refine aw_lload_n dX3_mix_3 rfl ?_
  refine aw_lmul dX3_mix_4 ?_
  refine aw_lload_n dX3_mix_5 rfl ?_
  refine aw_ladd dX3_mix_6 ?_
  exact aw_lret dX3_mix_7 rfl (Nat.zero_le _) (Nat.zero_le _) ⟨rfl, rfl⟩
end HEALTH
