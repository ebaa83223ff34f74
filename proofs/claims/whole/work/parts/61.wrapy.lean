/-! THE OTHER WRAPPERS -/
section WRAPS2
variable {G : GG} {K : Nat → Option (Nat × Nat)} {R : Nat → Nat → Value} {I : Nat → Nat → Int32} {J : Nat → Nat → Int64} {z : Nat} {σ : Sg} {a : AA} {m k : Nat}
variable {B : List Nat} {hs : List AA} {e1 e2 : String}
theorem W_callOften (hX : LX G K R) (hS : XS I (a, hs, B)) (hI : IV m k a) (hl1 : L1 a) (hmk : m + k ≤ 800000000) (v1 : Int32) (v2 : Int32) (v3 : Int32) (hO : K 146 = some (11, 1)) (hsame : (sOften v1 v2 v3 (a, hs, B)).1 ≠ 0 → (sOften v1 v2 v3 (a, hs, B)).2.2 = (a, hs, B)) : RunH G YL_callOften [.ref (G.1 0), .int v1, .int v2, .int v3, .ref (G.1 146)] (K, R, I, J, z) (WP K R J z I (sOften v1 v2 v3 (a, hs, B))) := by
  have hX0 := X_callOften (J := J) (z := z) hX hS hI hl1 hmk v1 v2 v3 
  have xk0 : K 0 = some (3, 6) := hX.1
  generalize sOften v1 v2 v3 (a, hs, B) = x at hX0 hsame ⊢
  refine runH_of (ls := [(0, .ref (G.1 0)), (1, .int v1), (2, .int v2), (3, .int v3), (4, .ref (G.1 146))]) (by decide +kernel) rfl (Nat.le_of_ble_eq_true rfl) ?_
  refine aw_aload dL_callOften_0 rfl ?_
  refine aw_iconst (v := nI 0) dL_callOften_2 rfl ?_
  refine aw_aload_n dL_callOften_3 rfl ?_
  refine aw_iload_n dL_callOften_4 rfl ?_
  refine aw_iload_n dL_callOften_5 rfl ?_
  refine aw_iload_n dL_callOften_6 rfl ?_
  refine aw_invV dL_callOften_7 cvL_17 ⟨Nat.le_of_ble_eq_true rfl, Nat.le_of_ble_eq_true rfl⟩ xk0 ⟨_, rfl, rfl⟩ (As := [.int v1, .int v2, .int v3]) rfl rfl (Nat.le_of_ble_eq_true rfl) ⟨Nat.le_of_ble_eq_true rfl, Nat.le_of_ble_eq_true rfl⟩ hX0 (fun E σ' q => ?_) (fun r σ' q => ?_)
  · rcases q with ⟨q1, q2, -⟩ | ⟨q1, q2, z', hz, rfl⟩ | ⟨q1, q2, z', hz, rfl⟩
    · cases q2
    · cases q2
      refine ax_catch1 (x := (0, 12, 15, 13)) rfl (by decide) (by decide) (by decide) (gT_ix 408 (by decide +kernel) rfl) (fun s h => h.1) (fun qq => ?_)
      refine aw_astore (ls' := [(5, _), (0, _), (1, _), (2, _), (3, _), (4, _)]) dL_callOften_15 (by decide) rfl ?_
      refine aw_iconst (v := nI 1) dL_callOften_17 rfl ?_
      exact aw_iret dL_callOften_18 rfl (Nat.le_of_ble_eq_true rfl) (Nat.le_of_ble_eq_true rfl) ⟨by rw [q1], I, J, z', hz, rfl, by rw [hsame (by omega)]; exact hS, FrC.rf, fun h => by omega, fun _ _ => rfl⟩
    · cases q2
      refine ax_catch2 (x1 := (0, 12, 15, 13)) (x := (0, 12, 19, 21)) rfl (by decide) (by decide) (by decide) (by decide) (gT_ix 408 (by decide +kernel) rfl) (fun s h => h.2.2.2.1) (gT_ix 510 (by decide +kernel) rfl) (fun s h => h.2.1) (fun qq => ?_)
      refine aw_astore (ls' := [(5, _), (0, _), (1, _), (2, _), (3, _), (4, _)]) dL_callOften_19 (by decide) rfl ?_
      refine aw_iconst (v := nI 2) dL_callOften_21 rfl ?_
      exact aw_iret dL_callOften_22 rfl (Nat.le_of_ble_eq_true rfl) (Nat.le_of_ble_eq_true rfl) ⟨by rw [q1], I, J, z', hz, rfl, by rw [hsame (by omega)]; exact hS, FrC.rf, fun h => by omega, fun _ _ => rfl⟩
  rcases q with ⟨q1, q2, I', rfl, h1, h2⟩ | ⟨q1, q2, -⟩ | ⟨q1, q2, -⟩
  rotate_left
  · cases q2
  · cases q2
  cases q2
  refine aw_i2l dL_callOften_10 ?_
  refine aw_last dL_callOften_11 (by assumption) (by omega) (by omega) rfl (by omega) ?_
  refine aw_goto (tgt := 23) dL_callOften_12 (by decide) ?_
  refine aw_iconst (v := nI 0) dL_callOften_23 rfl ?_
  exact aw_iret dL_callOften_24 rfl (Nat.le_of_ble_eq_true rfl) (Nat.le_of_ble_eq_true rfl) ⟨by rw [q1], I', _, z, Nat.le_refl _, rfl, h1, h2, fun _ => upJ_o, fun q hq => upJ_n hq⟩
theorem W_callHealthiest (hX : LX G K R) (hS : XS I (a, hs, B)) (hI : IV m k a) (hl1 : L1 a) (hmk : m + k ≤ 800000000) (hO : K 146 = some (11, 1)) (hsame : (sBest (a, hs, B)).1 ≠ 0 → (sBest (a, hs, B)).2.2 = (a, hs, B)) (hno : (sBest (a, hs, B)).1 ≠ 2) : RunH G YL_callHealthiest [.ref (G.1 0), .ref (G.1 146)] (K, R, I, J, z) (WP K R J z I (sBest (a, hs, B))) := by
  have hX0 := X_callHealthiest (J := J) (z := z) hX hS hI hl1 hmk 
  have xk0 : K 0 = some (3, 6) := hX.1
  generalize sBest (a, hs, B) = x at hX0 hsame hno ⊢
  refine runH_of (ls := [(0, .ref (G.1 0)), (1, .ref (G.1 146))]) (by decide +kernel) rfl (Nat.le_of_ble_eq_true rfl) ?_
  refine aw_aload_n dL_callHealthiest_0 rfl ?_
  refine aw_iconst (v := nI 0) dL_callHealthiest_1 rfl ?_
  refine aw_aload_n dL_callHealthiest_2 rfl ?_
  refine aw_invV dL_callHealthiest_3 cvL_23 ⟨Nat.le_of_ble_eq_true rfl, Nat.le_of_ble_eq_true rfl⟩ xk0 ⟨_, rfl, rfl⟩ (As := []) rfl rfl (Nat.le_of_ble_eq_true rfl) ⟨Nat.le_of_ble_eq_true rfl, Nat.le_of_ble_eq_true rfl⟩ hX0 (fun E σ' q => ?_) (fun r σ' q => ?_)
  · rcases q with ⟨q1, q2, -⟩ | ⟨q1, q2, z', hz, rfl⟩ | ⟨q1, q2, z', hz, rfl⟩
    · cases q2
    · cases q2
      refine ax_catch1 (x := (0, 8, 11, 15)) rfl (by decide) (by decide) (by decide) (gT_ix 409 (by decide +kernel) rfl) (fun s h => h.2.2.1) (fun qq => ?_)
      refine aw_astore_n (ls' := [(2, _), (0, _), (1, _)]) dL_callHealthiest_11 (by decide) rfl ?_
      refine aw_iconst (v := nI 1) dL_callHealthiest_12 rfl ?_
      exact aw_iret dL_callHealthiest_13 rfl (Nat.le_of_ble_eq_true rfl) (Nat.le_of_ble_eq_true rfl) ⟨by rw [q1], I, J, z', hz, rfl, by rw [hsame (by omega)]; exact hS, FrC.rf, fun h => by omega, fun _ _ => rfl⟩
    · cases q2
      exact absurd q1 hno
  rcases q with ⟨q1, q2, I', rfl, h1, h2⟩ | ⟨q1, q2, -⟩ | ⟨q1, q2, -⟩
  rotate_left
  · cases q2
  · cases q2
  cases q2
  refine aw_i2l dL_callHealthiest_6 ?_
  refine aw_last dL_callHealthiest_7 (by assumption) (by omega) (by omega) rfl (by omega) ?_
  refine aw_goto (tgt := 14) dL_callHealthiest_8 (by decide) ?_
  refine aw_iconst (v := nI 0) dL_callHealthiest_14 rfl ?_
  exact aw_iret dL_callHealthiest_15 rfl (Nat.le_of_ble_eq_true rfl) (Nat.le_of_ble_eq_true rfl) ⟨by rw [q1], I', _, z, Nat.le_refl _, rfl, h1, h2, fun _ => upJ_o, fun q hq => upJ_n hq⟩
theorem W_close (hX : LX G K R) (hS : XS I (a, hs, B)) (hI : IV m k a) (hl1 : L1 a) (hmk : m + k ≤ 800000000) (v1 : Int32) (hO : K 146 = some (11, 1)) (hsame : (sClose v1 (a, hs, B)).1 ≠ 0 → (sClose v1 (a, hs, B)).2.2 = (a, hs, B)) (hno : (sClose v1 (a, hs, B)).1 ≠ 2) : RunH G YL_close [.ref (G.1 0), .int v1, .ref (G.1 146)] (K, R, I, J, z) (WP K R J z I (sClose v1 (a, hs, B))) := by
  have hX0 := X_close (J := J) (z := z) hX hS hI hl1 hmk v1 
  have xk0 : K 0 = some (3, 6) := hX.1
  generalize sClose v1 (a, hs, B) = x at hX0 hsame hno ⊢
  refine runH_of (ls := [(0, .ref (G.1 0)), (1, .int v1), (2, .ref (G.1 146))]) (by decide +kernel) rfl (Nat.le_of_ble_eq_true rfl) ?_
  refine aw_aload_n dL_close_0 rfl ?_
  refine aw_iconst (v := nI 0) dL_close_1 rfl ?_
  refine aw_aload_n dL_close_2 rfl ?_
  refine aw_iload_n dL_close_3 rfl ?_
  refine aw_invV dL_close_4 cvL_27 ⟨Nat.le_of_ble_eq_true rfl, Nat.le_of_ble_eq_true rfl⟩ xk0 ⟨_, rfl, rfl⟩ (As := [.int v1]) rfl rfl (Nat.le_of_ble_eq_true rfl) ⟨Nat.le_of_ble_eq_true rfl, Nat.le_of_ble_eq_true rfl⟩ hX0 (fun E σ' q => ?_) (fun r σ' q => ?_)
  · rcases q with ⟨q1, q2, -⟩ | ⟨q1, q2, z', hz, rfl⟩ | ⟨q1, q2, z', hz, rfl⟩
    · cases q2
    · cases q2
      refine ax_catch1 (x := (0, 9, 12, 13)) rfl (by decide) (by decide) (by decide) (gT_ix 408 (by decide +kernel) rfl) (fun s h => h.1) (fun qq => ?_)
      refine aw_astore_n (ls' := [(3, _), (0, _), (1, _), (2, _)]) dL_close_12 (by decide) rfl ?_
      refine aw_iconst (v := nI 1) dL_close_13 rfl ?_
      exact aw_iret dL_close_14 rfl (Nat.le_of_ble_eq_true rfl) (Nat.le_of_ble_eq_true rfl) ⟨by rw [q1], I, J, z', hz, rfl, by rw [hsame (by omega)]; exact hS, FrC.rf, fun h => by omega, fun _ _ => rfl⟩
    · cases q2
      exact absurd q1 hno
  rcases q with ⟨q1, q2, I', rfl, h1, h2⟩ | ⟨q1, q2, -⟩ | ⟨q1, q2, -⟩
  rotate_left
  · cases q2
  · cases q2
  cases q2
  refine aw_i2l dL_close_7 ?_
  refine aw_last dL_close_8 (by assumption) (by omega) (by omega) rfl (by omega) ?_
  refine aw_goto (tgt := 15) dL_close_9 (by decide) ?_
  refine aw_iconst (v := nI 0) dL_close_15 rfl ?_
  exact aw_iret dL_close_16 rfl (Nat.le_of_ble_eq_true rfl) (Nat.le_of_ble_eq_true rfl) ⟨by rw [q1], I', _, z, Nat.le_refl _, rfl, h1, h2, fun _ => upJ_o, fun q hq => upJ_n hq⟩
theorem W_set (hX : LX G K R) (hS : XS I (a, hs, B)) (hI : IV m k a) (hl1 : L1 a) (hmk : m + k ≤ 800000000) (hC : SC K I) (v1 : Int32) (v2 : Int32) (hO : K 146 = some (11, 1)) (hsame : (sSet v1 v2 (a, hs, B)).1 ≠ 0 → (sSet v1 v2 (a, hs, B)).2.2 = (a, hs, B)) : RunH G YL_set [.ref (G.1 0), .int v1, .int v2, .ref (G.1 146)] (K, R, I, J, z) (WP K R J z I (sSet v1 v2 (a, hs, B))) := by
  have hX0 := X_set (J := J) (z := z) hX hS hI hl1 hmk v1 v2 hC
  have xk0 : K 0 = some (3, 6) := hX.1
  generalize sSet v1 v2 (a, hs, B) = x at hX0 hsame ⊢
  refine runH_of (ls := [(0, .ref (G.1 0)), (1, .int v1), (2, .int v2), (3, .ref (G.1 146))]) (by decide +kernel) rfl (Nat.le_of_ble_eq_true rfl) ?_
  refine aw_aload_n dL_set_0 rfl ?_
  refine aw_iconst (v := nI 0) dL_set_1 rfl ?_
  refine aw_aload_n dL_set_2 rfl ?_
  refine aw_iload_n dL_set_3 rfl ?_
  refine aw_iload_n dL_set_4 rfl ?_
  refine aw_invV dL_set_5 cvL_30 ⟨Nat.le_of_ble_eq_true rfl, Nat.le_of_ble_eq_true rfl⟩ xk0 ⟨_, rfl, rfl⟩ (As := [.int v1, .int v2]) rfl rfl (Nat.le_of_ble_eq_true rfl) ⟨Nat.le_of_ble_eq_true rfl, Nat.le_of_ble_eq_true rfl⟩ hX0 (fun E σ' q => ?_) (fun r σ' q => ?_)
  · rcases q with ⟨q1, q2, -⟩ | ⟨q1, q2, z', hz, rfl⟩ | ⟨q1, q2, z', hz, rfl⟩
    · cases q2
    · cases q2
      refine ax_catch1 (x := (0, 10, 13, 13)) rfl (by decide) (by decide) (by decide) (gT_ix 408 (by decide +kernel) rfl) (fun s h => h.1) (fun qq => ?_)
      refine aw_astore (ls' := [(4, _), (0, _), (1, _), (2, _), (3, _)]) dL_set_13 (by decide) rfl ?_
      refine aw_iconst (v := nI 1) dL_set_15 rfl ?_
      exact aw_iret dL_set_16 rfl (Nat.le_of_ble_eq_true rfl) (Nat.le_of_ble_eq_true rfl) ⟨by rw [q1], I, J, z', hz, rfl, by rw [hsame (by omega)]; exact hS, FrC.rf, fun h => by omega, fun _ _ => rfl⟩
    · cases q2
      refine ax_catch2 (x1 := (0, 10, 13, 13)) (x := (0, 10, 17, 21)) rfl (by decide) (by decide) (by decide) (by decide) (gT_ix 408 (by decide +kernel) rfl) (fun s h => h.2.2.2.1) (gT_ix 510 (by decide +kernel) rfl) (fun s h => h.2.1) (fun qq => ?_)
      refine aw_astore (ls' := [(4, _), (0, _), (1, _), (2, _), (3, _)]) dL_set_17 (by decide) rfl ?_
      refine aw_iconst (v := nI 2) dL_set_19 rfl ?_
      exact aw_iret dL_set_20 rfl (Nat.le_of_ble_eq_true rfl) (Nat.le_of_ble_eq_true rfl) ⟨by rw [q1], I, J, z', hz, rfl, by rw [hsame (by omega)]; exact hS, FrC.rf, fun h => by omega, fun _ _ => rfl⟩
  rcases q with ⟨q1, q2, I', rfl, h1, h2⟩ | ⟨q1, q2, -⟩ | ⟨q1, q2, -⟩
  rotate_left
  · cases q2
  · cases q2
  cases q2
  refine aw_i2l dL_set_8 ?_
  refine aw_last dL_set_9 (by assumption) (by omega) (by omega) rfl (by omega) ?_
  refine aw_goto (tgt := 21) dL_set_10 (by decide) ?_
  refine aw_iconst (v := nI 0) dL_set_21 rfl ?_
  exact aw_iret dL_set_22 rfl (Nat.le_of_ble_eq_true rfl) (Nat.le_of_ble_eq_true rfl) ⟨by rw [q1], I', _, z, Nat.le_refl _, rfl, h1, h2, fun _ => upJ_o, fun q hq => upJ_n hq⟩
theorem W_pass (hX : LX G K R) (hS : XS I (a, hs, B)) (hI : IV m k a) (hl1 : L1 a) (hmk : m + k ≤ 800000000) (v1 : Int32) (hO : K 146 = some (11, 1)) (hsame : (sPass v1 (a, hs, B)).1 ≠ 0 → (sPass v1 (a, hs, B)).2.2 = (a, hs, B)) (hno : (sPass v1 (a, hs, B)).1 ≠ 2) : RunH G YL_pass [.ref (G.1 0), .int v1, .ref (G.1 146)] (K, R, I, J, z) (WP K R J z I (sPass v1 (a, hs, B))) := by
  have hX0 := X_pass (J := J) (z := z) hX hS hI hl1 hmk v1 
  have xk0 : K 0 = some (3, 6) := hX.1
  generalize sPass v1 (a, hs, B) = x at hX0 hsame hno ⊢
  refine runH_of (ls := [(0, .ref (G.1 0)), (1, .int v1), (2, .ref (G.1 146))]) (by decide +kernel) rfl (Nat.le_of_ble_eq_true rfl) ?_
  refine aw_aload_n dL_pass_0 rfl ?_
  refine aw_iconst (v := nI 0) dL_pass_1 rfl ?_
  refine aw_aload_n dL_pass_2 rfl ?_
  refine aw_iload_n dL_pass_3 rfl ?_
  refine aw_invV dL_pass_4 cvL_34 ⟨Nat.le_of_ble_eq_true rfl, Nat.le_of_ble_eq_true rfl⟩ xk0 ⟨_, rfl, rfl⟩ (As := [.int v1]) rfl rfl (Nat.le_of_ble_eq_true rfl) ⟨Nat.le_of_ble_eq_true rfl, Nat.le_of_ble_eq_true rfl⟩ hX0 (fun E σ' q => ?_) (fun r σ' q => ?_)
  · rcases q with ⟨q1, q2, -⟩ | ⟨q1, q2, z', hz, rfl⟩ | ⟨q1, q2, z', hz, rfl⟩
    · cases q2
    · cases q2
      refine ax_catch1 (x := (0, 9, 12, 21)) rfl (by decide) (by decide) (by decide) (gT_ix 510 (by decide +kernel) rfl) (fun s h => h.2.1) (fun qq => ?_)
      refine aw_astore_n (ls' := [(3, _), (0, _), (1, _), (2, _)]) dL_pass_12 (by decide) rfl ?_
      refine aw_iconst (v := nI 1) dL_pass_13 rfl ?_
      exact aw_iret dL_pass_14 rfl (Nat.le_of_ble_eq_true rfl) (Nat.le_of_ble_eq_true rfl) ⟨by rw [q1], I, J, z', hz, rfl, by rw [hsame (by omega)]; exact hS, FrC.rf, fun h => by omega, fun _ _ => rfl⟩
    · cases q2
      exact absurd q1 hno
  rcases q with ⟨q1, q2, I', rfl, h1, h2⟩ | ⟨q1, q2, -⟩ | ⟨q1, q2, -⟩
  rotate_left
  · cases q2
  · cases q2
  cases q2
  refine aw_i2l dL_pass_7 ?_
  refine aw_last dL_pass_8 (by assumption) (by omega) (by omega) rfl (by omega) ?_
  refine aw_goto (tgt := 15) dL_pass_9 (by decide) ?_
  refine aw_iconst (v := nI 0) dL_pass_15 rfl ?_
  exact aw_iret dL_pass_16 rfl (Nat.le_of_ble_eq_true rfl) (Nat.le_of_ble_eq_true rfl) ⟨by rw [q1], I', _, z, Nat.le_refl _, rfl, h1, h2, fun _ => upJ_o, fun q hq => upJ_n hq⟩
theorem W_append (hX : LX G K R) (hS : XS I (a, hs, B)) (hI : IV m k a) (hl1 : L1 a) (hmk : m + k ≤ 800000000) (v1 : Int32) (hO : K 146 = some (11, 1)) (hsame : (sAppend v1 (a, hs, B)).1 ≠ 0 → (sAppend v1 (a, hs, B)).2.2 = (a, hs, B)) : RunH G YL_append [.ref (G.1 0), .int v1, .ref (G.1 146)] (K, R, I, J, z) (WP K R J z I (sAppend v1 (a, hs, B))) := by
  have hX0 := X_append (J := J) (z := z) hX hS hI hl1 hmk v1 
  have xk0 : K 0 = some (3, 6) := hX.1
  generalize sAppend v1 (a, hs, B) = x at hX0 hsame ⊢
  refine runH_of (ls := [(0, .ref (G.1 0)), (1, .int v1), (2, .ref (G.1 146))]) (by decide +kernel) rfl (Nat.le_of_ble_eq_true rfl) ?_
  refine aw_aload_n dL_append_0 rfl ?_
  refine aw_iconst (v := nI 0) dL_append_1 rfl ?_
  refine aw_aload_n dL_append_2 rfl ?_
  refine aw_iload_n dL_append_3 rfl ?_
  refine aw_invV dL_append_4 cvL_37 ⟨Nat.le_of_ble_eq_true rfl, Nat.le_of_ble_eq_true rfl⟩ xk0 ⟨_, rfl, rfl⟩ (As := [.int v1]) rfl rfl (Nat.le_of_ble_eq_true rfl) ⟨Nat.le_of_ble_eq_true rfl, Nat.le_of_ble_eq_true rfl⟩ hX0 (fun E σ' q => ?_) (fun r σ' q => ?_)
  · rcases q with ⟨q1, q2, -⟩ | ⟨q1, q2, z', hz, rfl⟩ | ⟨q1, q2, z', hz, rfl⟩
    · cases q2
    · cases q2
      refine ax_catch1 (x := (0, 9, 12, 21)) rfl (by decide) (by decide) (by decide) (gT_ix 510 (by decide +kernel) rfl) (fun s h => h.2.1) (fun qq => ?_)
      refine aw_astore_n (ls' := [(3, _), (0, _), (1, _), (2, _)]) dL_append_12 (by decide) rfl ?_
      refine aw_iconst (v := nI 1) dL_append_13 rfl ?_
      exact aw_iret dL_append_14 rfl (Nat.le_of_ble_eq_true rfl) (Nat.le_of_ble_eq_true rfl) ⟨by rw [q1], I, J, z', hz, rfl, by rw [hsame (by omega)]; exact hS, FrC.rf, fun h => by omega, fun _ _ => rfl⟩
    · cases q2
      refine ax_catch2 (x1 := (0, 9, 12, 21)) (x := (0, 9, 15, 15)) rfl (by decide) (by decide) (by decide) (by decide) (gT_ix 510 (by decide +kernel) rfl) (fun s h => h.2.2.2.2.2.1) (gT_ix 409 (by decide +kernel) rfl) (fun s h => h.2.2.1) (fun qq => ?_)
      refine aw_astore_n (ls' := [(3, _), (0, _), (1, _), (2, _)]) dL_append_15 (by decide) rfl ?_
      refine aw_iconst (v := nI 2) dL_append_16 rfl ?_
      exact aw_iret dL_append_17 rfl (Nat.le_of_ble_eq_true rfl) (Nat.le_of_ble_eq_true rfl) ⟨by rw [q1], I, J, z', hz, rfl, by rw [hsame (by omega)]; exact hS, FrC.rf, fun h => by omega, fun _ _ => rfl⟩
  rcases q with ⟨q1, q2, I', rfl, h1, h2⟩ | ⟨q1, q2, -⟩ | ⟨q1, q2, -⟩
  rotate_left
  · cases q2
  · cases q2
  cases q2
  refine aw_i2l dL_append_7 ?_
  refine aw_last dL_append_8 (by assumption) (by omega) (by omega) rfl (by omega) ?_
  refine aw_goto (tgt := 18) dL_append_9 (by decide) ?_
  refine aw_iconst (v := nI 0) dL_append_18 rfl ?_
  exact aw_iret dL_append_19 rfl (Nat.le_of_ble_eq_true rfl) (Nat.le_of_ble_eq_true rfl) ⟨by rw [q1], I', _, z, Nat.le_refl _, rfl, h1, h2, fun _ => upJ_o, fun q hq => upJ_n hq⟩
theorem W_delays (hX : LX G K R) (hS : XS I (a, hs, B)) (hI : IV m k a) (hl1 : L1 a) (hmk : m + k ≤ 800000000) (v1 : Int32) (hO : K 146 = some (11, 1)) (hsame : (sDelays v1 (a, hs, B)).1 ≠ 0 → (sDelays v1 (a, hs, B)).2.2 = (a, hs, B)) : RunH G YL_delays [.ref (G.1 0), .int v1, .ref (G.1 146)] (K, R, I, J, z) (WP K R J z I (sDelays v1 (a, hs, B))) := by
  have hX0 := X_delays (J := J) (z := z) hX hS hI hl1 hmk v1 
  have xk0 : K 0 = some (3, 6) := hX.1
  generalize sDelays v1 (a, hs, B) = x at hX0 hsame ⊢
  refine runH_of (ls := [(0, .ref (G.1 0)), (1, .int v1), (2, .ref (G.1 146))]) (by decide +kernel) rfl (Nat.le_of_ble_eq_true rfl) ?_
  refine aw_aload_n dL_delays_0 rfl ?_
  refine aw_iconst (v := nI 0) dL_delays_1 rfl ?_
  refine aw_aload_n dL_delays_2 rfl ?_
  refine aw_iload_n dL_delays_3 rfl ?_
  refine aw_invV dL_delays_4 cvL_40 ⟨Nat.le_of_ble_eq_true rfl, Nat.le_of_ble_eq_true rfl⟩ xk0 ⟨_, rfl, rfl⟩ (As := [.int v1]) rfl rfl (Nat.le_of_ble_eq_true rfl) ⟨Nat.le_of_ble_eq_true rfl, Nat.le_of_ble_eq_true rfl⟩ hX0 (fun E σ' q => ?_) (fun r σ' q => ?_)
  · rcases q with ⟨q1, q2, -⟩ | ⟨q1, q2, z', hz, rfl⟩ | ⟨q1, q2, z', hz, rfl⟩
    · cases q2
    · cases q2
      refine ax_catch1 (x := (0, 9, 12, 13)) rfl (by decide) (by decide) (by decide) (gT_ix 408 (by decide +kernel) rfl) (fun s h => h.1) (fun qq => ?_)
      refine aw_astore_n (ls' := [(3, _), (0, _), (1, _), (2, _)]) dL_delays_12 (by decide) rfl ?_
      refine aw_iconst (v := nI 1) dL_delays_13 rfl ?_
      exact aw_iret dL_delays_14 rfl (Nat.le_of_ble_eq_true rfl) (Nat.le_of_ble_eq_true rfl) ⟨by rw [q1], I, J, z', hz, rfl, by rw [hsame (by omega)]; exact hS, FrC.rf, fun h => by omega, fun _ _ => rfl⟩
    · cases q2
      refine ax_catch2 (x1 := (0, 9, 12, 13)) (x := (0, 9, 15, 21)) rfl (by decide) (by decide) (by decide) (by decide) (gT_ix 408 (by decide +kernel) rfl) (fun s h => h.2.2.2.1) (gT_ix 510 (by decide +kernel) rfl) (fun s h => h.2.1) (fun qq => ?_)
      refine aw_astore_n (ls' := [(3, _), (0, _), (1, _), (2, _)]) dL_delays_15 (by decide) rfl ?_
      refine aw_iconst (v := nI 2) dL_delays_16 rfl ?_
      exact aw_iret dL_delays_17 rfl (Nat.le_of_ble_eq_true rfl) (Nat.le_of_ble_eq_true rfl) ⟨by rw [q1], I, J, z', hz, rfl, by rw [hsame (by omega)]; exact hS, FrC.rf, fun h => by omega, fun _ _ => rfl⟩
  rcases q with ⟨q1, q2, I', rfl, h1, h2⟩ | ⟨q1, q2, -⟩ | ⟨q1, q2, -⟩
  rotate_left
  · cases q2
  · cases q2
  cases q2
  refine aw_i2l dL_delays_7 ?_
  refine aw_last dL_delays_8 (by assumption) (by omega) (by omega) rfl (by omega) ?_
  refine aw_goto (tgt := 18) dL_delays_9 (by decide) ?_
  refine aw_iconst (v := nI 0) dL_delays_18 rfl ?_
  exact aw_iret dL_delays_19 rfl (Nat.le_of_ble_eq_true rfl) (Nat.le_of_ble_eq_true rfl) ⟨by rw [q1], I', _, z, Nat.le_refl _, rfl, h1, h2, fun _ => upJ_o, fun q hq => upJ_n hq⟩
theorem W_undo (hX : LX G K R) (hS : XS I (a, hs, B)) (hI : IV m k a) (hl1 : L1 a) (hmk : m + k ≤ 800000000) (hO : K 146 = some (11, 1)) (hsame : (sUndo (a, hs, B)).1 ≠ 0 → (sUndo (a, hs, B)).2.2 = (a, hs, B)) (hno : (sUndo (a, hs, B)).1 ≠ 2) : RunH G YL_undo [.ref (G.1 0), .ref (G.1 146)] (K, R, I, J, z) (WP K R J z I (sUndo (a, hs, B))) := by
  have hX0 := X_undo (J := J) (z := z) hX hS hI hl1 hmk 
  have xk0 : K 0 = some (3, 6) := hX.1
  generalize sUndo (a, hs, B) = x at hX0 hsame hno ⊢
  refine runH_of (ls := [(0, .ref (G.1 0)), (1, .ref (G.1 146))]) (by decide +kernel) rfl (Nat.le_of_ble_eq_true rfl) ?_
  refine aw_aload_n dL_undo_0 rfl ?_
  refine aw_iconst (v := nI 0) dL_undo_1 rfl ?_
  refine aw_aload_n dL_undo_2 rfl ?_
  refine aw_invV dL_undo_3 cvL_43 ⟨Nat.le_of_ble_eq_true rfl, Nat.le_of_ble_eq_true rfl⟩ xk0 ⟨_, rfl, rfl⟩ (As := []) rfl rfl (Nat.le_of_ble_eq_true rfl) ⟨Nat.le_of_ble_eq_true rfl, Nat.le_of_ble_eq_true rfl⟩ hX0 (fun E σ' q => ?_) (fun r σ' q => ?_)
  · rcases q with ⟨q1, q2, -⟩ | ⟨q1, q2, z', hz, rfl⟩ | ⟨q1, q2, z', hz, rfl⟩
    · cases q2
    · cases q2
      refine ax_catch1 (x := (0, 8, 11, 15)) rfl (by decide) (by decide) (by decide) (gT_ix 409 (by decide +kernel) rfl) (fun s h => h.2.2.1) (fun qq => ?_)
      refine aw_astore_n (ls' := [(2, _), (0, _), (1, _)]) dL_undo_11 (by decide) rfl ?_
      refine aw_iconst (v := nI 1) dL_undo_12 rfl ?_
      exact aw_iret dL_undo_13 rfl (Nat.le_of_ble_eq_true rfl) (Nat.le_of_ble_eq_true rfl) ⟨by rw [q1], I, J, z', hz, rfl, by rw [hsame (by omega)]; exact hS, FrC.rf, fun h => by omega, fun _ _ => rfl⟩
    · cases q2
      exact absurd q1 hno
  rcases q with ⟨q1, q2, I', rfl, h1, h2⟩ | ⟨q1, q2, -⟩ | ⟨q1, q2, -⟩
  rotate_left
  · cases q2
  · cases q2
  cases q2
  refine aw_i2l dL_undo_6 ?_
  refine aw_last dL_undo_7 (by assumption) (by omega) (by omega) rfl (by omega) ?_
  refine aw_goto (tgt := 14) dL_undo_8 (by decide) ?_
  refine aw_iconst (v := nI 0) dL_undo_14 rfl ?_
  exact aw_iret dL_undo_15 rfl (Nat.le_of_ble_eq_true rfl) (Nat.le_of_ble_eq_true rfl) ⟨by rw [q1], I', _, z, Nat.le_refl _, rfl, h1, h2, fun _ => upJ_o, fun q hq => upJ_n hq⟩
theorem W_store (hX : LX G K R) (hS : XS I (a, hs, B)) (hI : IV m k a) (hl1 : L1 a) (hmk : m + k ≤ 800000000) (v1 : Int32) (v2 : Int32) (hO : K 146 = some (11, 1)) (hsame : (sStore v1 v2 (a, hs, B)).1 ≠ 0 → (sStore v1 v2 (a, hs, B)).2.2 = (a, hs, B)) : RunH G YL_store [.ref (G.1 0), .int v1, .int v2, .ref (G.1 146)] (K, R, I, J, z) (WP K R J z I (sStore v1 v2 (a, hs, B))) := by
  have hX0 := X_store (J := J) (z := z) hX hS hI hl1 hmk v1 v2 
  have xk0 : K 0 = some (3, 6) := hX.1
  generalize sStore v1 v2 (a, hs, B) = x at hX0 hsame ⊢
  refine runH_of (ls := [(0, .ref (G.1 0)), (1, .int v1), (2, .int v2), (3, .ref (G.1 146))]) (by decide +kernel) rfl (Nat.le_of_ble_eq_true rfl) ?_
  refine aw_aload_n dL_store_0 rfl ?_
  refine aw_iconst (v := nI 0) dL_store_1 rfl ?_
  refine aw_aload_n dL_store_2 rfl ?_
  refine aw_iload_n dL_store_3 rfl ?_
  refine aw_iload_n dL_store_4 rfl ?_
  refine aw_invV dL_store_5 cvL_46 ⟨Nat.le_of_ble_eq_true rfl, Nat.le_of_ble_eq_true rfl⟩ xk0 ⟨_, rfl, rfl⟩ (As := [.int v1, .int v2]) rfl rfl (Nat.le_of_ble_eq_true rfl) ⟨Nat.le_of_ble_eq_true rfl, Nat.le_of_ble_eq_true rfl⟩ hX0 (fun E σ' q => ?_) (fun r σ' q => ?_)
  · rcases q with ⟨q1, q2, -⟩ | ⟨q1, q2, z', hz, rfl⟩ | ⟨q1, q2, z', hz, rfl⟩
    · cases q2
    · cases q2
      refine ax_catch1 (x := (0, 10, 13, 13)) rfl (by decide) (by decide) (by decide) (gT_ix 408 (by decide +kernel) rfl) (fun s h => h.1) (fun qq => ?_)
      refine aw_astore (ls' := [(4, _), (0, _), (1, _), (2, _), (3, _)]) dL_store_13 (by decide) rfl ?_
      refine aw_iconst (v := nI 1) dL_store_15 rfl ?_
      exact aw_iret dL_store_16 rfl (Nat.le_of_ble_eq_true rfl) (Nat.le_of_ble_eq_true rfl) ⟨by rw [q1], I, J, z', hz, rfl, by rw [hsame (by omega)]; exact hS, FrC.rf, fun h => by omega, fun _ _ => rfl⟩
    · cases q2
      refine ax_catch2 (x1 := (0, 10, 13, 13)) (x := (0, 10, 17, 21)) rfl (by decide) (by decide) (by decide) (by decide) (gT_ix 408 (by decide +kernel) rfl) (fun s h => h.2.2.2.1) (gT_ix 510 (by decide +kernel) rfl) (fun s h => h.2.1) (fun qq => ?_)
      refine aw_astore (ls' := [(4, _), (0, _), (1, _), (2, _), (3, _)]) dL_store_17 (by decide) rfl ?_
      refine aw_iconst (v := nI 2) dL_store_19 rfl ?_
      exact aw_iret dL_store_20 rfl (Nat.le_of_ble_eq_true rfl) (Nat.le_of_ble_eq_true rfl) ⟨by rw [q1], I, J, z', hz, rfl, by rw [hsame (by omega)]; exact hS, FrC.rf, fun h => by omega, fun _ _ => rfl⟩
  rcases q with ⟨q1, q2, I', rfl, h1, h2⟩ | ⟨q1, q2, -⟩ | ⟨q1, q2, -⟩
  rotate_left
  · cases q2
  · cases q2
  cases q2
  refine aw_i2l dL_store_8 ?_
  refine aw_last dL_store_9 (by assumption) (by omega) (by omega) rfl (by omega) ?_
  refine aw_goto (tgt := 21) dL_store_10 (by decide) ?_
  refine aw_iconst (v := nI 0) dL_store_21 rfl ?_
  exact aw_iret dL_store_22 rfl (Nat.le_of_ble_eq_true rfl) (Nat.le_of_ble_eq_true rfl) ⟨by rw [q1], I', _, z, Nat.le_refl _, rfl, h1, h2, fun _ => upJ_o, fun q hq => upJ_n hq⟩
theorem W_delay (hX : LX G K R) (hS : XS I (a, hs, B)) (hI : IV m k a) (hl1 : L1 a) (hmk : m + k ≤ 800000000) (v1 : Int32) (v2 : Int32) (hO : K 146 = some (11, 1)) (hsame : (sDelay v1 v2 (a, hs, B)).1 ≠ 0 → (sDelay v1 v2 (a, hs, B)).2.2 = (a, hs, B)) : RunH G YL_delay [.ref (G.1 0), .int v1, .int v2, .ref (G.1 146)] (K, R, I, J, z) (WP K R J z I (sDelay v1 v2 (a, hs, B))) := by
  have hX0 := X_delay (J := J) (z := z) hX hS hI hl1 hmk v1 v2 
  have xk0 : K 0 = some (3, 6) := hX.1
  generalize sDelay v1 v2 (a, hs, B) = x at hX0 hsame ⊢
  refine runH_of (ls := [(0, .ref (G.1 0)), (1, .int v1), (2, .int v2), (3, .ref (G.1 146))]) (by decide +kernel) rfl (Nat.le_of_ble_eq_true rfl) ?_
  refine aw_aload_n dL_delay_0 rfl ?_
  refine aw_iconst (v := nI 0) dL_delay_1 rfl ?_
  refine aw_aload_n dL_delay_2 rfl ?_
  refine aw_iload_n dL_delay_3 rfl ?_
  refine aw_iload_n dL_delay_4 rfl ?_
  refine aw_invV dL_delay_5 cvL_49 ⟨Nat.le_of_ble_eq_true rfl, Nat.le_of_ble_eq_true rfl⟩ xk0 ⟨_, rfl, rfl⟩ (As := [.int v1, .int v2]) rfl rfl (Nat.le_of_ble_eq_true rfl) ⟨Nat.le_of_ble_eq_true rfl, Nat.le_of_ble_eq_true rfl⟩ hX0 (fun E σ' q => ?_) (fun r σ' q => ?_)
  · rcases q with ⟨q1, q2, -⟩ | ⟨q1, q2, z', hz, rfl⟩ | ⟨q1, q2, z', hz, rfl⟩
    · cases q2
    · cases q2
      refine ax_catch1 (x := (0, 10, 13, 13)) rfl (by decide) (by decide) (by decide) (gT_ix 408 (by decide +kernel) rfl) (fun s h => h.1) (fun qq => ?_)
      refine aw_astore (ls' := [(4, _), (0, _), (1, _), (2, _), (3, _)]) dL_delay_13 (by decide) rfl ?_
      refine aw_iconst (v := nI 1) dL_delay_15 rfl ?_
      exact aw_iret dL_delay_16 rfl (Nat.le_of_ble_eq_true rfl) (Nat.le_of_ble_eq_true rfl) ⟨by rw [q1], I, J, z', hz, rfl, by rw [hsame (by omega)]; exact hS, FrC.rf, fun h => by omega, fun _ _ => rfl⟩
    · cases q2
      refine ax_catch2 (x1 := (0, 10, 13, 13)) (x := (0, 10, 17, 21)) rfl (by decide) (by decide) (by decide) (by decide) (gT_ix 408 (by decide +kernel) rfl) (fun s h => h.2.2.2.1) (gT_ix 510 (by decide +kernel) rfl) (fun s h => h.2.1) (fun qq => ?_)
      refine aw_astore (ls' := [(4, _), (0, _), (1, _), (2, _), (3, _)]) dL_delay_17 (by decide) rfl ?_
      refine aw_iconst (v := nI 2) dL_delay_19 rfl ?_
      exact aw_iret dL_delay_20 rfl (Nat.le_of_ble_eq_true rfl) (Nat.le_of_ble_eq_true rfl) ⟨by rw [q1], I, J, z', hz, rfl, by rw [hsame (by omega)]; exact hS, FrC.rf, fun h => by omega, fun _ _ => rfl⟩
  rcases q with ⟨q1, q2, I', rfl, h1, h2⟩ | ⟨q1, q2, -⟩ | ⟨q1, q2, -⟩
  rotate_left
  · cases q2
  · cases q2
  cases q2
  refine aw_i2l dL_delay_8 ?_
  refine aw_last dL_delay_9 (by assumption) (by omega) (by omega) rfl (by omega) ?_
  refine aw_goto (tgt := 21) dL_delay_10 (by decide) ?_
  refine aw_iconst (v := nI 0) dL_delay_21 rfl ?_
  exact aw_iret dL_delay_22 rfl (Nat.le_of_ble_eq_true rfl) (Nat.le_of_ble_eq_true rfl) ⟨by rw [q1], I', _, z, Nat.le_refl _, rfl, h1, h2, fun _ => upJ_o, fun q hq => upJ_n hq⟩
theorem W_onWay (hX : LX G K R) (hS : XS I (a, hs, B)) (hI : IV m k a) (hl1 : L1 a) (hmk : m + k ≤ 800000000) (v1 : Int32) (v2 : Int32) (hO : K 146 = some (11, 1)) (hsame : (sOnWay v1 v2 (a, hs, B)).1 ≠ 0 → (sOnWay v1 v2 (a, hs, B)).2.2 = (a, hs, B)) (hno : (sOnWay v1 v2 (a, hs, B)).1 ≠ 2) : RunH G YL_onWay [.ref (G.1 0), .int v1, .int v2, .ref (G.1 146)] (K, R, I, J, z) (WP K R J z I (sOnWay v1 v2 (a, hs, B))) := by
  have hX0 := X_onWay (J := J) (z := z) hX hS hI hl1 hmk v1 v2 
  have xk0 : K 0 = some (3, 6) := hX.1
  generalize sOnWay v1 v2 (a, hs, B) = x at hX0 hsame hno ⊢
  refine runH_of (ls := [(0, .ref (G.1 0)), (1, .int v1), (2, .int v2), (3, .ref (G.1 146))]) (by decide +kernel) rfl (Nat.le_of_ble_eq_true rfl) ?_
  refine aw_aload_n dL_onWay_0 rfl ?_
  refine aw_iconst (v := nI 0) dL_onWay_1 rfl ?_
  refine aw_aload_n dL_onWay_2 rfl ?_
  refine aw_iload_n dL_onWay_3 rfl ?_
  refine aw_iload_n dL_onWay_4 rfl ?_
  refine aw_invV dL_onWay_5 cvL_52 ⟨Nat.le_of_ble_eq_true rfl, Nat.le_of_ble_eq_true rfl⟩ xk0 ⟨_, rfl, rfl⟩ (As := [.int v1, .int v2]) rfl rfl (Nat.le_of_ble_eq_true rfl) ⟨Nat.le_of_ble_eq_true rfl, Nat.le_of_ble_eq_true rfl⟩ hX0 (fun E σ' q => ?_) (fun r σ' q => ?_)
  · rcases q with ⟨q1, q2, -⟩ | ⟨q1, q2, z', hz, rfl⟩ | ⟨q1, q2, z', hz, rfl⟩
    · cases q2
    · cases q2
      refine ax_catch1 (x := (0, 10, 13, 21)) rfl (by decide) (by decide) (by decide) (gT_ix 510 (by decide +kernel) rfl) (fun s h => h.2.1) (fun qq => ?_)
      refine aw_astore (ls' := [(4, _), (0, _), (1, _), (2, _), (3, _)]) dL_onWay_13 (by decide) rfl ?_
      refine aw_iconst (v := nI 1) dL_onWay_15 rfl ?_
      exact aw_iret dL_onWay_16 rfl (Nat.le_of_ble_eq_true rfl) (Nat.le_of_ble_eq_true rfl) ⟨by rw [q1], I, J, z', hz, rfl, by rw [hsame (by omega)]; exact hS, FrC.rf, fun h => by omega, fun _ _ => rfl⟩
    · cases q2
      exact absurd q1 hno
  rcases q with ⟨q1, q2, I', rfl, h1, h2⟩ | ⟨q1, q2, -⟩ | ⟨q1, q2, -⟩
  rotate_left
  · cases q2
  · cases q2
  cases q2
  refine aw_i2l dL_onWay_8 ?_
  refine aw_last dL_onWay_9 (by assumption) (by omega) (by omega) rfl (by omega) ?_
  refine aw_goto (tgt := 17) dL_onWay_10 (by decide) ?_
  refine aw_iconst (v := nI 0) dL_onWay_17 rfl ?_
  exact aw_iret dL_onWay_18 rfl (Nat.le_of_ble_eq_true rfl) (Nat.le_of_ble_eq_true rfl) ⟨by rw [q1], I', _, z, Nat.le_refl _, rfl, h1, h2, fun _ => upJ_o, fun q hq => upJ_n hq⟩
theorem W_count (hX : LX G K R) (hS : XS I (a, hs, B)) (hI : IV m k a) (hl1 : L1 a) (hmk : m + k ≤ 800000000) (v1 : Int32) (hO : K 146 = some (11, 1)) (hsame : (sCount v1 (a, hs, B)).1 ≠ 0 → (sCount v1 (a, hs, B)).2.2 = (a, hs, B)) (hno : (sCount v1 (a, hs, B)).1 ≠ 2) : RunH G YL_count [.ref (G.1 0), .int v1, .ref (G.1 146)] (K, R, I, J, z) (WP K R J z I (sCount v1 (a, hs, B))) := by
  have hX0 := X_count (J := J) (z := z) hX hS hI hl1 hmk v1 
  have xk0 : K 0 = some (3, 6) := hX.1
  generalize sCount v1 (a, hs, B) = x at hX0 hsame hno ⊢
  refine runH_of (ls := [(0, .ref (G.1 0)), (1, .int v1), (2, .ref (G.1 146))]) (by decide +kernel) rfl (Nat.le_of_ble_eq_true rfl) ?_
  refine aw_aload_n dL_count_0 rfl ?_
  refine aw_iconst (v := nI 0) dL_count_1 rfl ?_
  refine aw_aload_n dL_count_2 rfl ?_
  refine aw_iload_n dL_count_3 rfl ?_
  refine aw_invV dL_count_4 cvL_55 ⟨Nat.le_of_ble_eq_true rfl, Nat.le_of_ble_eq_true rfl⟩ xk0 ⟨_, rfl, rfl⟩ (As := [.int v1]) rfl rfl (Nat.le_of_ble_eq_true rfl) ⟨Nat.le_of_ble_eq_true rfl, Nat.le_of_ble_eq_true rfl⟩ hX0 (fun E σ' q => ?_) (fun r σ' q => ?_)
  · rcases q with ⟨q1, q2, -⟩ | ⟨q1, q2, z', hz, rfl⟩ | ⟨q1, q2, z', hz, rfl⟩
    · cases q2
    · cases q2
      refine ax_catch1 (x := (0, 9, 12, 21)) rfl (by decide) (by decide) (by decide) (gT_ix 510 (by decide +kernel) rfl) (fun s h => h.2.1) (fun qq => ?_)
      refine aw_astore_n (ls' := [(3, _), (0, _), (1, _), (2, _)]) dL_count_12 (by decide) rfl ?_
      refine aw_iconst (v := nI 1) dL_count_13 rfl ?_
      exact aw_iret dL_count_14 rfl (Nat.le_of_ble_eq_true rfl) (Nat.le_of_ble_eq_true rfl) ⟨by rw [q1], I, J, z', hz, rfl, by rw [hsame (by omega)]; exact hS, FrC.rf, fun h => by omega, fun _ _ => rfl⟩
    · cases q2
      exact absurd q1 hno
  rcases q with ⟨q1, q2, I', rfl, h1, h2⟩ | ⟨q1, q2, -⟩ | ⟨q1, q2, -⟩
  rotate_left
  · cases q2
  · cases q2
  cases q2
  refine aw_i2l dL_count_7 ?_
  refine aw_last dL_count_8 (by assumption) (by omega) (by omega) rfl (by omega) ?_
  refine aw_goto (tgt := 15) dL_count_9 (by decide) ?_
  refine aw_iconst (v := nI 0) dL_count_15 rfl ?_
  exact aw_iret dL_count_16 rfl (Nat.le_of_ble_eq_true rfl) (Nat.le_of_ble_eq_true rfl) ⟨by rw [q1], I', _, z, Nat.le_refl _, rfl, h1, h2, fun _ => upJ_o, fun q hq => upJ_n hq⟩
theorem W_setting (hX : LX G K R) (hS : XS I (a, hs, B)) (hI : IV m k a) (hl1 : L1 a) (hmk : m + k ≤ 800000000) (v1 : Int32) (hO : K 146 = some (11, 1)) (hsame : (sSetting v1 (a, hs, B)).1 ≠ 0 → (sSetting v1 (a, hs, B)).2.2 = (a, hs, B)) (hno : (sSetting v1 (a, hs, B)).1 ≠ 2) : RunH G YL_setting [.ref (G.1 0), .int v1, .ref (G.1 146)] (K, R, I, J, z) (WP K R J z I (sSetting v1 (a, hs, B))) := by
  have hX0 := X_setting (J := J) (z := z) hX hS hI hl1 hmk v1 
  have xk0 : K 0 = some (3, 6) := hX.1
  generalize sSetting v1 (a, hs, B) = x at hX0 hsame hno ⊢
  refine runH_of (ls := [(0, .ref (G.1 0)), (1, .int v1), (2, .ref (G.1 146))]) (by decide +kernel) rfl (Nat.le_of_ble_eq_true rfl) ?_
  refine aw_aload_n dL_setting_0 rfl ?_
  refine aw_iconst (v := nI 0) dL_setting_1 rfl ?_
  refine aw_aload_n dL_setting_2 rfl ?_
  refine aw_iload_n dL_setting_3 rfl ?_
  refine aw_invV dL_setting_4 cvL_58 ⟨Nat.le_of_ble_eq_true rfl, Nat.le_of_ble_eq_true rfl⟩ xk0 ⟨_, rfl, rfl⟩ (As := [.int v1]) rfl rfl (Nat.le_of_ble_eq_true rfl) ⟨Nat.le_of_ble_eq_true rfl, Nat.le_of_ble_eq_true rfl⟩ hX0 (fun E σ' q => ?_) (fun r σ' q => ?_)
  · rcases q with ⟨q1, q2, -⟩ | ⟨q1, q2, z', hz, rfl⟩ | ⟨q1, q2, z', hz, rfl⟩
    · cases q2
    · cases q2
      refine ax_catch1 (x := (0, 9, 12, 13)) rfl (by decide) (by decide) (by decide) (gT_ix 408 (by decide +kernel) rfl) (fun s h => h.1) (fun qq => ?_)
      refine aw_astore_n (ls' := [(3, _), (0, _), (1, _), (2, _)]) dL_setting_12 (by decide) rfl ?_
      refine aw_iconst (v := nI 1) dL_setting_13 rfl ?_
      exact aw_iret dL_setting_14 rfl (Nat.le_of_ble_eq_true rfl) (Nat.le_of_ble_eq_true rfl) ⟨by rw [q1], I, J, z', hz, rfl, by rw [hsame (by omega)]; exact hS, FrC.rf, fun h => by omega, fun _ _ => rfl⟩
    · cases q2
      exact absurd q1 hno
  rcases q with ⟨q1, q2, I', rfl, h1, h2⟩ | ⟨q1, q2, -⟩ | ⟨q1, q2, -⟩
  rotate_left
  · cases q2
  · cases q2
  cases q2
  refine aw_i2l dL_setting_7 ?_
  refine aw_last dL_setting_8 (by assumption) (by omega) (by omega) rfl (by omega) ?_
  refine aw_goto (tgt := 15) dL_setting_9 (by decide) ?_
  refine aw_iconst (v := nI 0) dL_setting_15 rfl ?_
  exact aw_iret dL_setting_16 rfl (Nat.le_of_ble_eq_true rfl) (Nat.le_of_ble_eq_true rfl) ⟨by rw [q1], I', _, z, Nat.le_refl _, rfl, h1, h2, fun _ => upJ_o, fun q hq => upJ_n hq⟩
theorem W_ifCalled (hX : LX G K R) (hS : XS I (a, hs, B)) (hI : IV m k a) (hl1 : L1 a) (hmk : m + k ≤ 800000000) (v1 : Int32) (v2 : Int32) (v3 : Int32) (v4 : Int32) (hO : K 146 = some (11, 1)) (hsame : (sIf v1 v2 v3 v4 (a, hs, B)).1 ≠ 0 → (sIf v1 v2 v3 v4 (a, hs, B)).2.2 = (a, hs, B)) : RunH G YL_ifCalled [.ref (G.1 0), .int v1, .int v2, .int v3, .int v4, .ref (G.1 146)] (K, R, I, J, z) (WP K R J z I (sIf v1 v2 v3 v4 (a, hs, B))) := by
  have hX0 := X_ifCalled (J := J) (z := z) hX hS hI hl1 hmk v1 v2 v3 v4 
  have xk0 : K 0 = some (3, 6) := hX.1
  generalize sIf v1 v2 v3 v4 (a, hs, B) = x at hX0 hsame ⊢
  refine runH_of (ls := [(0, .ref (G.1 0)), (1, .int v1), (2, .int v2), (3, .int v3), (4, .int v4), (5, .ref (G.1 146))]) (by decide +kernel) rfl (Nat.le_of_ble_eq_true rfl) ?_
  refine aw_aload dL_ifCalled_0 rfl ?_
  refine aw_iconst (v := nI 0) dL_ifCalled_2 rfl ?_
  refine aw_aload_n dL_ifCalled_3 rfl ?_
  refine aw_iload_n dL_ifCalled_4 rfl ?_
  refine aw_iload_n dL_ifCalled_5 rfl ?_
  refine aw_iload_n dL_ifCalled_6 rfl ?_
  refine aw_iload dL_ifCalled_7 rfl ?_
  refine aw_invV dL_ifCalled_9 cvL_61 ⟨Nat.le_of_ble_eq_true rfl, Nat.le_of_ble_eq_true rfl⟩ xk0 ⟨_, rfl, rfl⟩ (As := [.int v1, .int v2, .int v3, .int v4]) rfl rfl (Nat.le_of_ble_eq_true rfl) ⟨Nat.le_of_ble_eq_true rfl, Nat.le_of_ble_eq_true rfl⟩ hX0 (fun E σ' q => ?_) (fun r σ' q => ?_)
  · rcases q with ⟨q1, q2, -⟩ | ⟨q1, q2, z', hz, rfl⟩ | ⟨q1, q2, z', hz, rfl⟩
    · cases q2
    · cases q2
      refine ax_catch1 (x := (0, 14, 17, 13)) rfl (by decide) (by decide) (by decide) (gT_ix 408 (by decide +kernel) rfl) (fun s h => h.1) (fun qq => ?_)
      refine aw_astore (ls' := [(6, _), (0, _), (1, _), (2, _), (3, _), (4, _), (5, _)]) dL_ifCalled_17 (by decide) rfl ?_
      refine aw_iconst (v := nI 1) dL_ifCalled_19 rfl ?_
      exact aw_iret dL_ifCalled_20 rfl (Nat.le_of_ble_eq_true rfl) (Nat.le_of_ble_eq_true rfl) ⟨by rw [q1], I, J, z', hz, rfl, by rw [hsame (by omega)]; exact hS, FrC.rf, fun h => by omega, fun _ _ => rfl⟩
    · cases q2
      refine ax_catch2 (x1 := (0, 14, 17, 13)) (x := (0, 14, 21, 21)) rfl (by decide) (by decide) (by decide) (by decide) (gT_ix 408 (by decide +kernel) rfl) (fun s h => h.2.2.2.1) (gT_ix 510 (by decide +kernel) rfl) (fun s h => h.2.1) (fun qq => ?_)
      refine aw_astore (ls' := [(6, _), (0, _), (1, _), (2, _), (3, _), (4, _), (5, _)]) dL_ifCalled_21 (by decide) rfl ?_
      refine aw_iconst (v := nI 2) dL_ifCalled_23 rfl ?_
      exact aw_iret dL_ifCalled_24 rfl (Nat.le_of_ble_eq_true rfl) (Nat.le_of_ble_eq_true rfl) ⟨by rw [q1], I, J, z', hz, rfl, by rw [hsame (by omega)]; exact hS, FrC.rf, fun h => by omega, fun _ _ => rfl⟩
  rcases q with ⟨q1, q2, I', rfl, h1, h2⟩ | ⟨q1, q2, -⟩ | ⟨q1, q2, -⟩
  rotate_left
  · cases q2
  · cases q2
  cases q2
  refine aw_i2l dL_ifCalled_12 ?_
  refine aw_last dL_ifCalled_13 (by assumption) (by omega) (by omega) rfl (by omega) ?_
  refine aw_goto (tgt := 25) dL_ifCalled_14 (by decide) ?_
  refine aw_iconst (v := nI 0) dL_ifCalled_25 rfl ?_
  exact aw_iret dL_ifCalled_26 rfl (Nat.le_of_ble_eq_true rfl) (Nat.le_of_ble_eq_true rfl) ⟨by rw [q1], I', _, z, Nat.le_refl _, rfl, h1, h2, fun _ => upJ_o, fun q hq => upJ_n hq⟩
theorem W_freeIn (hX : LX G K R) (hS : XS I (a, hs, B)) (hI : IV m k a) (hl1 : L1 a) (hmk : m + k ≤ 800000000) (hIS : ISv a) (v1 : Int32) (hO : K 146 = some (11, 1)) (hsame : (sFree v1 (a, hs, B)).1 ≠ 0 → (sFree v1 (a, hs, B)).2.2 = (a, hs, B)) (hno : (sFree v1 (a, hs, B)).1 ≠ 2) : RunH G YL_freeIn [.ref (G.1 0), .int v1, .ref (G.1 146)] (K, R, I, J, z) (WP K R J z I (sFree v1 (a, hs, B))) := by
  have hX0 := X_freeIn (J := J) (z := z) hX hS hI hl1 hmk v1 hIS
  have xk0 : K 0 = some (3, 6) := hX.1
  generalize sFree v1 (a, hs, B) = x at hX0 hsame hno ⊢
  refine runH_of (ls := [(0, .ref (G.1 0)), (1, .int v1), (2, .ref (G.1 146))]) (by decide +kernel) rfl (Nat.le_of_ble_eq_true rfl) ?_
  refine aw_aload_n dL_freeIn_0 rfl ?_
  refine aw_iconst (v := nI 0) dL_freeIn_1 rfl ?_
  refine aw_aload_n dL_freeIn_2 rfl ?_
  refine aw_iload_n dL_freeIn_3 rfl ?_
  refine aw_invV dL_freeIn_4 cvL_65 ⟨Nat.le_of_ble_eq_true rfl, Nat.le_of_ble_eq_true rfl⟩ xk0 ⟨_, rfl, rfl⟩ (As := [.int v1]) rfl rfl (Nat.le_of_ble_eq_true rfl) ⟨Nat.le_of_ble_eq_true rfl, Nat.le_of_ble_eq_true rfl⟩ hX0 (fun E σ' q => ?_) (fun r σ' q => ?_)
  · rcases q with ⟨q1, q2, -⟩ | ⟨q1, q2, z', hz, rfl⟩ | ⟨q1, q2, z', hz, rfl⟩
    · cases q2
    · cases q2
      refine ax_catch1 (x := (0, 9, 12, 13)) rfl (by decide) (by decide) (by decide) (gT_ix 408 (by decide +kernel) rfl) (fun s h => h.1) (fun qq => ?_)
      refine aw_astore_n (ls' := [(3, _), (0, _), (1, _), (2, _)]) dL_freeIn_12 (by decide) rfl ?_
      refine aw_iconst (v := nI 1) dL_freeIn_13 rfl ?_
      exact aw_iret dL_freeIn_14 rfl (Nat.le_of_ble_eq_true rfl) (Nat.le_of_ble_eq_true rfl) ⟨by rw [q1], I, J, z', hz, rfl, by rw [hsame (by omega)]; exact hS, FrC.rf, fun h => by omega, fun _ _ => rfl⟩
    · cases q2
      exact absurd q1 hno
  rcases q with ⟨q1, q2, I', rfl, h1, h2⟩ | ⟨q1, q2, -⟩ | ⟨q1, q2, -⟩
  rotate_left
  · cases q2
  · cases q2
  cases q2
  refine aw_i2l dL_freeIn_7 ?_
  refine aw_last dL_freeIn_8 (by assumption) (by omega) (by omega) rfl (by omega) ?_
  refine aw_goto (tgt := 15) dL_freeIn_9 (by decide) ?_
  refine aw_iconst (v := nI 0) dL_freeIn_15 rfl ?_
  exact aw_iret dL_freeIn_16 rfl (Nat.le_of_ble_eq_true rfl) (Nat.le_of_ble_eq_true rfl) ⟨by rw [q1], I', _, z, Nat.le_refl _, rfl, h1, h2, fun _ => upJ_o, fun q hq => upJ_n hq⟩
end WRAPS2
