/-! THE WRAPPERS -/
def WP (K : Nat → Option (Nat × Nat)) (R : Nat → Nat → Value) (J : Nat → Nat → Int64) (z : Nat) (I : Nat → Nat → Int32) (x : RS) : RT → Sg → Prop := fun r σ' =>
  r = .inl (some (.int (nI x.1))) ∧ ∃ I' J' z', z ≤ z' ∧ σ' = (K, R, I', J', z') ∧ XS I' x.2.2 ∧ FrC I I' ∧ (x.1 = 0 → J' 146 0 = x.2.1.toInt64) ∧ ∀ q, q ≠ 146 → J' q = J q
theorem upJ_o {J : Nat → Nat → Int64} {o j : Nat} {x : Int64} : upJ J o j x o j = x := by simp [upJ]
theorem upJ_n {J : Nat → Nat → Int64} {o j q : Nat} {x : Int64} (h : q ≠ o) : upJ J o j x q = J q := by funext k; simp [upJ, h]
section WRAPS
variable {G : GG} {K : Nat → Option (Nat × Nat)} {R : Nat → Nat → Value} {I : Nat → Nat → Int32} {J : Nat → Nat → Int64} {z : Nat} {σ : Sg} {a : AA} {m k : Nat}
variable {B : List Nat} {hs : List AA} {e1 e2 : String}
theorem W_call (hX : LX G K R) (hS : XS I (a, hs, B)) (hI : IV m k a) (hl1 : L1 a) (hmk : m + k ≤ 800000000) (v : Int32) (hO : K 146 = some (11, 1)) (hsame : (sCall v (a, hs, B)).1 ≠ 0 → (sCall v (a, hs, B)).2.2 = (a, hs, B)) : RunH G YL_call [.ref (G.1 0), .int v, .ref (G.1 146)] (K, R, I, J, z) (WP K R J z I (sCall v (a, hs, B))) := by
  have hX0 := X_call (J := J) (z := z) hX hS hI hl1 hmk v
  have xk0 : K 0 = some (3, 6) := hX.1
  generalize sCall v (a, hs, B) = x at hX0 hsame ⊢
  refine runH_of (ls := [(0, .ref (G.1 0)), (1, .int v), (2, .ref (G.1 146))]) (by decide +kernel) rfl (Nat.le_of_ble_eq_true rfl) ?_
  refine aw_aload_n dL_call_0 rfl ?_
  refine aw_iconst (v := nI 0) dL_call_1 rfl ?_
  refine aw_aload_n dL_call_2 rfl ?_
  refine aw_iload_n dL_call_3 rfl ?_
  refine aw_invV dL_call_4 cvL_7 ⟨Nat.le_of_ble_eq_true rfl, Nat.le_of_ble_eq_true rfl⟩ xk0 ⟨_, rfl, rfl⟩ (As := [.int v]) rfl rfl (Nat.le_of_ble_eq_true rfl) ⟨Nat.le_of_ble_eq_true rfl, Nat.le_of_ble_eq_true rfl⟩ hX0 (fun E σ' q => ?_) (fun r σ' q => ?_)
  · rcases q with ⟨q1, q2, -⟩ | ⟨q1, q2, z', hz, rfl⟩ | ⟨q1, q2, z', hz, rfl⟩
    · cases q2
    · cases q2
      refine ax_catch1 (x := (0, 9, 12, 13)) rfl (by decide) (by decide) (by decide) (gT_ix 408 (by decide +kernel) rfl) (fun s h => h.1) (fun qq => ?_)
      refine aw_astore_n (ls' := [(3, _), (0, _), (1, _), (2, _)]) dL_call_12 (by decide) rfl ?_
      refine aw_iconst (v := nI 1) dL_call_13 rfl ?_
      exact aw_iret dL_call_14 rfl (Nat.le_of_ble_eq_true rfl) (Nat.le_of_ble_eq_true rfl) ⟨by rw [q1], I, J, z', hz, rfl, by rw [hsame (by omega)]; exact hS, FrC.rf, fun h => by omega, fun _ _ => rfl⟩
    · cases q2
      refine ax_catch2 (x1 := (0, 9, 12, 13)) (x := (0, 9, 15, 15)) rfl (by decide) (by decide) (by decide) (by decide) (gT_ix 408 (by decide +kernel) rfl) (fun s h => h.2.2.2.2.1) (gT_ix 409 (by decide +kernel) rfl) (fun s h => h.2.2.1) (fun qq => ?_)
      refine aw_astore_n (ls' := [(3, _), (0, _), (1, _), (2, _)]) dL_call_15 (by decide) rfl ?_
      refine aw_iconst (v := nI 2) dL_call_16 rfl ?_
      exact aw_iret dL_call_17 rfl (Nat.le_of_ble_eq_true rfl) (Nat.le_of_ble_eq_true rfl) ⟨by rw [q1], I, J, z', hz, rfl, by rw [hsame (by omega)]; exact hS, FrC.rf, fun h => by omega, fun _ _ => rfl⟩
  · rcases q with ⟨q1, q2, I', rfl, h1, h2⟩ | ⟨q1, q2, -⟩ | ⟨q1, q2, -⟩
    rotate_left
    · cases q2
    · cases q2
    cases q2
    refine aw_i2l dL_call_7 ?_
    refine aw_last (n := 1) (i := 0) dL_call_8 hO (by decide) (by decide) rfl (by decide) ?_
    refine aw_goto (tgt := 18) dL_call_9 (by decide) ?_
    refine aw_iconst (v := nI 0) dL_call_18 rfl ?_
    exact aw_iret dL_call_19 rfl (Nat.le_of_ble_eq_true rfl) (Nat.le_of_ble_eq_true rfl) ⟨by rw [q1], I', _, z, Nat.le_refl _, rfl, h1, h2, fun _ => upJ_o, fun q hq => upJ_n hq⟩
end WRAPS
