/-! THE LAW: cell, low -/
theorem ldL_8 : Cond.constantLong RL 8 (3 : Int64) ∈ gT := gT_ix 312 (by decide +kernel) rfl
theorem ldL_10 : Cond.constantLong RL 10 (31 : Int64) ∈ gT := gT_ix 313 (by decide +kernel) rfl
theorem ldL_7 : Cond.constant RL 7 (2147483647 : Int32) ∈ gT := gT_ix 372 (by decide +kernel) rfl
def loN (v : Int32) (n : Nat) : Nat := v.toBitVec.toNat % 2 ^ 31 % n
theorem loN_lt {v : Int32} {n : Nat} (h : 0 < n) : loN v n < n := Nat.mod_lt _ h
def cellV (L : Nat) (xs : Nat → Int32) (k : Nat) : Int32 := if k < L then xs k else nI (7919 * (k + 3) * (k + 11))
section LOWS
variable {G : GG} {K : Nat → Option (Nat × Nat)} {R : Nat → Nat → Value} {I : Nat → Nat → Int32} {J : Nat → Nat → Int64} {z : Nat} {σ : Sg} {L n k : Nat} {xs : Nat → Int32} {v : Int32}
theorem q_low (h0 : 0 < n) (hn : n < 2 ^ 31) : Run G YL_low [.int v, .int (nI n)] σ (Rd σ (.int (nI (loN v n)))) := by
  have hm : v.toBitVec.toNat % 2 ^ 31 < 2 ^ 31 := Nat.mod_lt _ (by decide)
  refine run_of (ls := [(0, .int v), (1, .int (nI n))]) (by decide +kernel) rfl rfl (Nat.le_of_ble_eq_true rfl) ?_
  refine aw_iload_n dL_low_0 rfl ?_
  refine aw_ldc dL_low_1 ldL_7 ?_
  refine aw_iand dL_low_3 ?_
  refine aw_top (pk_and v 31 (by decide)) ?_
  refine aw_iload_n dL_low_4 rfl ?_
  refine aw_iremN dL_low_5 (by omega) (by omega) (by omega) ?_
  exact aw_iret dL_low_6 rfl (Nat.le_of_ble_eq_true rfl) (Nat.le_of_ble_eq_true rfl) ⟨rfl, rfl⟩
theorem q_cell (hK : K 1000 = some (10, L)) (hL : L ≤ 260) (hx : ∀ j, j < L → I 1000 j = xs j) (hk : k ≤ 100) : Run G YL_cell [.ref (G.1 1000), .int (nI k)] (K, R, I, J, z) (Rd (K, R, I, J, z) (.int (cellV L xs k))) := by
  refine run_of (ls := [(0, .ref (G.1 1000)), (1, .int (nI k))]) (by decide +kernel) rfl rfl (Nat.le_of_ble_eq_true rfl) ?_
  refine aw_iload_n dL_cell_0 rfl ?_
  refine aw_aload_n dL_cell_1 rfl ?_
  refine aw_alen dL_cell_2 (by assumption) (by omega) ?_
  refine aw_icmp_geN (tgt := 12) dL_cell_3 (by decide) (by omega) (by omega) (fun hc3 => ?_) (fun hc3 => ?_)
  · refine aw_sipush (v := nI 7919) dL_cell_12 rfl ?_
    refine aw_iload_n dL_cell_15 rfl ?_
    refine aw_iconst (v := nI 3) dL_cell_16 rfl ?_
    first | refine aw_iaddN dL_cell_17 ?_ | refine aw_iadd dL_cell_17 ?_
    first | refine aw_imulN dL_cell_18 ?_ | refine aw_imul dL_cell_18 ?_
    refine aw_iload_n dL_cell_19 rfl ?_
    refine aw_bipush (v := nI 11) dL_cell_20 rfl ?_
    first | refine aw_iaddN dL_cell_22 ?_ | refine aw_iadd dL_cell_22 ?_
    first | refine aw_imulN dL_cell_23 ?_ | refine aw_imul dL_cell_23 ?_
    exact aw_iret dL_cell_24 rfl (Nat.le_of_ble_eq_true rfl) (Nat.le_of_ble_eq_true rfl) ⟨by unfold cellV; first | rw [if_pos (show k < L by omega)] | rw [if_neg (show ¬ k < L by omega)], rfl⟩
  · refine aw_aload_n dL_cell_6 rfl ?_
    refine aw_iload_n dL_cell_7 rfl ?_
    refine aw_iald dL_cell_8 (by assumption) (by omega) rfl (by omega) (hx k (by omega)) ?_
    refine aw_goto (tgt := 24) dL_cell_9 (by decide) ?_
    exact aw_iret dL_cell_24 rfl (Nat.le_of_ble_eq_true rfl) (Nat.le_of_ble_eq_true rfl) ⟨by unfold cellV; first | rw [if_pos (show k < L by omega)] | rw [if_neg (show ¬ k < L by omega)], rfl⟩
end LOWS
