/-! SHARES -/
theorem n64_of {r : UInt64} (h : FP.Core.val64 r ≠ .nan) : vf_n64 r := by
  have h1 := (FP.Core.ne_nan r).mp h
  unfold vf_n64
  rw [UInt64.le_iff_toNat_le, FP.Core.mask_toNat]
  exact h1
theorem rr_ne {f : FP.Core.Fmt} {s : Bool} {A B : Nat} {e : Int} : FP.Core.roundRatio f s A B e ≠ .nan := by
  unfold FP.Core.roundRatio
  split
  · intro h; cases h
  · unfold FP.Core.roundAt FP.Core.settle FP.Core.bound
    split <;> split <;> intro h <;> cases h
theorem whole_fin {i : Int} {d : FP.Core.Datum} (h : FP.Core.Whole i d) : ∃ s c q, d = .fin s c q ∧ FP.Core.signed s (c * 2 ^ q.toNat) = i * ((2 ^ (-q).toNat : Nat) : Int) := by
  cases d with
  | nan => exact h.elim
  | inf s => exact h.elim
  | fin s c q => exact ⟨s, c, q, rfl, h⟩
theorem ddiv_ne {x : Int32} {n : Nat} (h0 : 0 < n) (hn : n < 2 ^ 31) : FP.Core.val64 (FP.ddiv (FP.i2d x) (FP.i2d (nI n))) ≠ .nan := by
  have h1 := FP.Core.i2d_int x
  have h2 := FP.Core.i2d_int (nI n)
  obtain ⟨s, c, q, e1, -⟩ := whole_fin h1
  obtain ⟨t, d, r, e2, e3⟩ := whole_fin h2
  have hd : d ≠ 0 := by
    intro hd
    rw [hd, Nat.zero_mul, FP.Core.signed_zero, nI_toInt hn] at e3
    have hp : 0 < 2 ^ (-r).toNat := Nat.two_pow_pos _
    have : (n : Int) * ((2 ^ (-r).toNat : Nat) : Int) ≠ 0 := Int.mul_ne_zero (by omega) (by omega)
    exact this e3.symm
  rw [FP.Core.val64_ddiv, e1, e2]
  show (if d = 0 then _ else FP.Core.roundRatio _ _ _ _ _) ≠ _
  rw [if_neg hd]
  exact rr_ne
def shareD (a : AA) : UInt64 := if a.1 6 + a.1 7 = 0 then FP.dconst1 else FP.ddiv (FP.i2d (nI (a.1 7))) (FP.i2d (nI (a.1 6 + a.1 7)))
section SHARES
variable {G : GG} {K : Nat → Option (Nat × Nat)} {R : Nat → Nat → Value} {I : Nat → Nat → Int32} {J : Nat → Nat → Int64} {z : Nat} {σ : Sg} {a : AA} {m k : Nat}
variable {h : Nat}
theorem c_goodShare (hL : LSt G K R h) (hS : CSt I h a) (hI : IV m k a) (hmk : m + k ≤ 900000000) : Run G YX1_goodShare [.ref (G.1 h)] (K, R, I, J, z) (Rd (K, R, I, J, z) (.double (shareD a))) := by
  obtain ⟨hk0, hr0, hk1, hsr, hr1, hk2, hr2, hk3, hc0, hc1, hc2, hc3, hc4, hkc0, hkc1, hkc2, hkc3, hkc4, hTs, hh⟩ := id hL
  have hm : a.1 6 + a.1 7 + a.2.1.length ≤ m := hI.2.2.2.2.2.2
  have c7 := c_sumOf (J := J) (z := z) (w := 7) hL hS hI hmk (by decide)
  rw [sumN_7 hI] at c7
  refine run_of (ls := [(0, .ref (G.1 h))]) (by decide +kernel) rfl rfl (Nat.le_of_ble_eq_true rfl) ?_
  refine aw_aload_n dX1_goodShare_0 rfl ?_
  refine aw_getI dX1_goodShare_1 flX1_47 rfl (by assumption) hS.1.2.2.1 ?_
  refine aw_aload_n dX1_goodShare_4 rfl ?_
  refine aw_bipush (v := nI 7) dX1_goodShare_5 rfl ?_
  refine aw_vRd dX1_goodShare_7 cvX1_173 ⟨Nat.le_of_ble_eq_true rfl, Nat.le_of_ble_eq_true rfl⟩ (by assumption) ⟨_, rfl, rfl⟩ (c7) rfl rfl (Nat.le_of_ble_eq_true rfl) ⟨rfl, rfl⟩ ⟨Nat.zero_le _, Nat.zero_le _⟩ ?_
  first | refine aw_iaddN dX1_goodShare_10 ?_ | refine aw_iadd dX1_goodShare_10 ?_
  rw [Nat.add_comm (a.1 7) (a.1 6)]
  refine aw_istore_n (ls' := [(1, _), (0, _)]) dX1_goodShare_11 (by decide) rfl ?_
  refine aw_iload_n dX1_goodShare_12 rfl ?_
  refine aw_if_leN (tgt := 27) dX1_goodShare_13 (by decide) (by omega) (fun hc13 => ?_) (fun hc13 => ?_)
  · refine aw_dconst1 dX1_goodShare_27 ?_
    exact aw_dret dX1_goodShare_28 rfl (Nat.zero_le _) (Nat.zero_le _) ⟨by unfold shareD; first | rw [if_pos hc13] | rw [if_neg (by omega)], rfl⟩
  · refine aw_aload_n dX1_goodShare_16 rfl ?_
    refine aw_getI dX1_goodShare_17 flX1_47 rfl (by assumption) hS.1.2.2.1 ?_
    refine aw_i2d dX1_goodShare_20 ?_
    refine aw_iload_n dX1_goodShare_21 rfl ?_
    refine aw_i2d dX1_goodShare_22 ?_
    refine aw_ddiv dX1_goodShare_23 (n64_of (ddiv_ne (by omega) (by omega))) ?_
    refine aw_goto (tgt := 28) dX1_goodShare_24 (by decide) ?_
    exact aw_dret dX1_goodShare_28 rfl (Nat.zero_le _) (Nat.zero_le _) ⟨by unfold shareD; first | rw [if_pos hc13] | rw [if_neg (by omega)], rfl⟩
end SHARES
