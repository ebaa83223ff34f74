/-! THE BITS OF A SHARE, the class's way -/
def Shp (D : UInt64) : Prop := D = FP.dconst0 ∨ ∃ c k : Nat, k ≤ 31 ∧ 2 ^ 52 ≤ c ∧ c < 2 ^ 53 ∧ FP.Core.val64 D = .fin false c (-52 - (k : Int))
theorem share_shp {a : AA} (h : a.1 6 + a.1 7 < 2 ^ 31) : Shp (shareD a) := by
  unfold shareD
  by_cases h0 : a.1 6 + a.1 7 = 0
  · rw [if_pos h0]
    exact Or.inr ⟨2 ^ 52, 0, by decide, by decide, by decide, FP.Core.val64_dconst1⟩
  · rw [if_neg h0]
    have e := share_rr (g := a.1 7) (n := a.1 6 + a.1 7) (by omega) h (by omega)
    rcases Nat.eq_zero_or_pos (a.1 7) with g0 | g0
    · left
      have e2 : FP.Core.val64 (FP.ddiv (FP.i2d (nI (a.1 7))) (FP.i2d (nI (a.1 6 + a.1 7)))) = FP.Core.val64 FP.dconst0 := by
        rw [e, g0, show FP.Core.val64 FP.dconst0 = _ from FP.Core.val64_dconst0]
        unfold FP.Core.roundRatio
        rw [if_pos rfl]
      exact FP.Core.val64_inj (ddiv_ne (by omega) h) e2
    · right
      obtain ⟨c, k, h1, h2, h3, h4, -⟩ := share_fin g0 (show a.1 7 ≤ a.1 6 + a.1 7 by omega) h
      exact ⟨c, k, h1, h2, h3, by rw [e, h4]⟩
theorem Shp.ne {D : UInt64} (h : Shp D) : FP.Core.val64 D ≠ .nan := by
  rcases h with rfl | ⟨c, k, -, -, -, h⟩
  · rw [show FP.Core.val64 FP.dconst0 = _ from FP.Core.val64_dconst0]; intro h; cases h
  · rw [h]; intro h; cases h
theorem v64_two : FP.Core.val64 4611686018427387904 = .fin false (2 ^ 52) (-51) := by decide +kernel
theorem v64_big : FP.Core.val64 4841369599423283200 = .fin false (2 ^ 52) 0 := by decide +kernel
theorem fits_c {c j : Nat} (hj : j ≤ 200) (h1 : 2 ^ 52 ≤ c) (h2 : c < 2 ^ 53) : FP.Core.fits FP.Core.b64 (.fin false c (-52 - (j : Int))) := by
  have q1 : FP.Core.b64.qmin = -1074 := by decide
  have q2 : FP.Core.b64.qmax = 971 := by decide
  have q3 : FP.Core.b64.tails = 2 ^ 52 := by decide
  refine ⟨h2, ?_, ?_, Or.inr ?_⟩
  · rw [q1]; omega
  · rw [q2]; omega
  · rw [q3]; exact h1
theorem dbl_x {x : UInt64} {c j : Nat} (hj : j + 1 ≤ 31) (h1 : 2 ^ 52 ≤ c) (h2 : c < 2 ^ 53) (hx : FP.Core.val64 x = .fin false c (-52 - ((j + 1 : Nat) : Int))) : FP.Core.val64 (FP.dmul x 4611686018427387904) = .fin false c (-52 - (j : Int)) := by
  rw [show FP.Core.val64 (FP.dmul x 4611686018427387904) = _ from FP.Core.val64_dmul _ _, hx, v64_two]
  show FP.Core.roundRatio FP.Core.b64 (false != false) (c * 2 ^ 52) 1 (-52 - ((j + 1 : Nat) : Int) + -51) = _
  refine FP.Core.roundRatio_exact FP.Core.good_b64 (by decide) (fits_c (by omega) h1 h2) ?_
  rw [show (-52 - ((j + 1 : Nat) : Int) + -51 - (-52 - (j : Int))).toNat = 0 by omega, show (-52 - (j : Int) - (-52 - ((j + 1 : Nat) : Int) + -51)).toNat = 52 by omega]
  omega
theorem cmp_x {x : UInt64} {c j : Nat} (hx : FP.Core.val64 x = .fin false c (-52 - (j : Int))) : FP.dcmp x FP.dconst1 = some (compare (c : Int) ((2 ^ 52 * 2 ^ j : Nat) : Int)) := by
  show FP.Core.order (FP.Core.val64 x) (FP.Core.val64 FP.Core.dconst1) = _
  rw [hx, FP.Core.val64_dconst1]
  simp only [FP.Core.order]
  have hm : min (-52 - (j : Int)) (-52) = -52 - (j : Int) := by omega
  rw [hm]
  unfold FP.Core.inUnits
  rw [show (-52 - (j : Int) - (-52 - (j : Int))).toNat = 0 by omega, show (-52 - (-52 - (j : Int))).toNat = j by omega, Nat.pow_zero, Nat.mul_one]
  rfl
theorem cmp_lt {x : UInt64} {c j : Nat} (h2 : c < 2 ^ 53) (hx : FP.Core.val64 x = .fin false c (-52 - ((j + 1 : Nat) : Int))) : FP.dcmp x FP.dconst1 = some .lt := by
  rw [cmp_x hx]
  have : c < 2 ^ 52 * 2 ^ (j + 1) := by
    have : 2 ^ 52 * 2 ^ 1 ≤ 2 ^ 52 * 2 ^ (j + 1) := Nat.mul_le_mul_left _ (Nat.pow_le_pow_right (by decide) (by omega))
    omega
  exact congrArg some (Int.compare_eq_lt.mpr (by omega))
theorem cmp_ge {x : UInt64} {c : Nat} (h1 : 2 ^ 52 ≤ c) (hx : FP.Core.val64 x = .fin false c (-52 - ((0 : Nat) : Int))) : ¬ FP.dcmp x FP.dconst1 = some .lt := by
  rw [cmp_x hx]
  intro h
  have := Int.compare_eq_lt.mp (Option.some.inj h)
  omega
theorem cmpV_g {o : Option Ordering} (h : ¬ o = some .lt) : (0 : Int32) ≤ Op.cmpValue o .g := by
  rcases o with _ | _ | _ | _
  · decide
  · exact absurd rfl h
  · decide
  · decide
/-- m parts of 2^52, as a number of the format -/
theorem part_x {x : UInt64} {c : Nat} (h1 : 2 ^ 52 ≤ c) (h2 : c < 2 ^ 53) (hx : FP.Core.val64 x = .fin false c (-52 - ((0 : Nat) : Int))) : ∃ s q : Nat, ∃ e : Int, FP.Core.val64 (FP.dsub x FP.dconst1) = .fin false ((c - 2 ^ 52) * 2 ^ s) e ∧ (c - 2 ^ 52 = 0 ∨ e = -52 - (s : Int)) := by
  rw [show FP.Core.val64 (FP.dsub x FP.dconst1) = _ from FP.Core.val64_dsub _ _, hx, show FP.Core.val64 FP.dconst1 = _ from FP.Core.val64_dconst1]
  have hu : FP.Core.sumUnits false c (-52 - ((0 : Nat) : Int)) true (2 ^ 52) (-52) (min (-52 - ((0 : Nat) : Int)) (-52)) = ((c - 2 ^ 52 : Nat) : Int) := by
    show (c * 2 ^ 0 : Nat) + -((2 ^ 52 * 2 ^ 0 : Nat) : Int) = _
    omega
  show ∃ s q : Nat, ∃ e : Int, FP.Core.round FP.Core.b64 (.fin (FP.Core.sumSign false true (FP.Core.sumUnits false c (-52 - ((0 : Nat) : Int)) true (2 ^ 52) (-52) (min (-52 - ((0 : Nat) : Int)) (-52)))) (FP.Core.sumUnits false c (-52 - ((0 : Nat) : Int)) true (2 ^ 52) (-52) (min (-52 - ((0 : Nat) : Int)) (-52))).natAbs (min (-52 - ((0 : Nat) : Int)) (-52))) = _ ∧ _
  rw [hu]
  have hs : FP.Core.sumSign false true ((c - 2 ^ 52 : Nat) : Int) = false := by
    unfold FP.Core.sumSign
    split
    · rfl
    · exact decide_eq_false (by omega)
  rw [hs, Int.natAbs_natCast]
  obtain ⟨m, hm⟩ : ∃ m, m = c - 2 ^ 52 := ⟨_, rfl⟩
  rw [← hm]
  show ∃ s q : Nat, ∃ e : Int, FP.Core.roundRatio FP.Core.b64 false m 1 (min (-52 - ((0 : Nat) : Int)) (-52)) = _ ∧ _
  rcases Nat.eq_zero_or_pos m with e0 | e0
  · refine ⟨0, 0, FP.Core.b64.qmin, ?_, Or.inl e0⟩
    unfold FP.Core.roundRatio
    rw [if_pos e0, e0]
  · have l1 : 2 ^ m.log2 ≤ m := Nat.log2_self_le (by omega)
    have l2 : m < 2 ^ (m.log2 + 1) := Nat.lt_log2_self
    have l3 : m.log2 < 52 := (Nat.log2_lt (by omega)).mpr (by omega)
    refine ⟨52 - m.log2, 0, -52 - ((52 - m.log2 : Nat) : Int), ?_, Or.inr rfl⟩
    have p1 : 2 ^ m.log2 * 2 ^ (52 - m.log2) = 2 ^ 52 := by rw [← Nat.pow_add, show m.log2 + (52 - m.log2) = 52 by omega]
    have p2 : 2 ^ (m.log2 + 1) * 2 ^ (52 - m.log2) = 2 ^ 53 := by rw [← Nat.pow_add, show m.log2 + 1 + (52 - m.log2) = 53 by omega]
    have b1 : 2 ^ 52 ≤ m * 2 ^ (52 - m.log2) := by rw [← p1]; exact Nat.mul_le_mul_right _ l1
    have b2 : m * 2 ^ (52 - m.log2) < 2 ^ 53 := by rw [← p2]; exact Nat.mul_lt_mul_of_pos_right l2 (Nat.two_pow_pos _)
    refine FP.Core.roundRatio_exact FP.Core.good_b64 (by decide) (fits_c (by omega) b1 b2) ?_
    rw [show (min (-52 - ((0 : Nat) : Int)) (-52) - (-52 - ((52 - m.log2 : Nat) : Int))).toNat = 52 - m.log2 by omega, show (-52 - ((52 - m.log2 : Nat) : Int) - min (-52 - ((0 : Nat) : Int)) (-52)).toNat = 0 by omega]
    omega
theorem part_int {y : UInt64} {m s : Nat} {e : Int} (hm : m < 2 ^ 52) (hy : FP.Core.val64 y = .fin false (m * 2 ^ s) e) (he : m = 0 ∨ e = -52 - (s : Int)) : FP.Core.DInt (m : Int) (FP.dmul y 4841369599423283200) := by
  unfold FP.Core.DInt
  rw [show FP.Core.val64 (FP.dmul y 4841369599423283200) = _ from FP.Core.val64_dmul _ _, hy, v64_big]
  refine FP.Core.whole_round FP.Core.good_b64 FP.Core.wide_b64 (show _ ≤ 2 ^ 53 by omega) ?_
  show FP.Core.signed (false != false) (m * 2 ^ s * 2 ^ 52 * 2 ^ (e + 0).toNat) = (m : Int) * ((2 ^ (-(e + 0)).toNat : Nat) : Int)
  rcases he with rfl | rfl
  · simp [FP.Core.signed]
  · rw [show (-52 - (s : Int) + 0).toNat = 0 by omega, show (-(-52 - (s : Int) + 0)).toNat = s + 52 by omega]
    show ((m * 2 ^ s * 2 ^ 52 * 2 ^ 0 : Nat) : Int) = _
    rw [← Int.natCast_mul, Nat.pow_add, Nat.pow_zero, Nat.mul_one, Nat.mul_assoc]
theorem DInt.ne {i : Int} {y : UInt64} (h : FP.Core.DInt i y) : FP.Core.val64 y ≠ .nan := by
  intro e
  unfold FP.Core.DInt at h
  rw [e] at h
  exact h
theorem exp_sub : ∀ j, j ≤ 31 → Int64.ofNat (1023 - j) - 1 = Int64.ofNat (1023 - (j + 1)) := by decide +kernel
theorem exp_shl : ∀ j, j ≤ 31 → Int64.ofNat (1023 - j) <<< ((nI 52).toInt64 &&& 63) = Int64.ofNat ((1023 - j) * 2 ^ 52) := by decide +kernel
theorem bits_c {D : UInt64} {c k : Nat} (hk : k ≤ 31) (h1 : 2 ^ 52 ≤ c) (h2 : c < 2 ^ 53) (hD : FP.Core.val64 D = .fin false c (-52 - (k : Int))) : D.toInt64 = Int64.ofNat ((1023 - k) * 2 ^ 52) + Int64.ofNat (c - 2 ^ 52) := by
  have e := FP.Core.of64_val64 (a := D) (by rw [hD]; intro h; cases h)
  rw [hD] at e
  have q1 : FP.Core.b64.qmin = -1074 := by decide
  have q3 : FP.Core.b64.tails = 2 ^ 52 := by decide
  have q4 : FP.Core.b64.exps = 2048 := by decide
  have e2 : FP.Core.encode FP.Core.b64 (.fin false c (-52 - (k : Int))) = (1023 - k) * 2 ^ 52 + (c - 2 ^ 52) := by
    show (if c < FP.Core.b64.tails then _ else FP.Core.assemble FP.Core.b64 false ((-52 - (k : Int) - FP.Core.b64.qmin).toNat + 1) (c - FP.Core.b64.tails)) = _
    rw [q3, if_neg (by omega)]
    unfold FP.Core.assemble
    rw [q1, q3, q4, show (-52 - (k : Int) - -1074).toNat + 1 = 1023 - k by omega]
    simp
  unfold FP.Core.of64 at e
  rw [e2] at e
  rw [← e, ← Int64.ofNat_add]
  rfl
section XBITS
variable {G : GG} {K : Nat → Option (Nat × Nat)} {R : Nat → Nat → Value} {I : Nat → Nat → Int32} {J : Nat → Nat → Int64} {z : Nat} {σ : Sg} {a : AA} {m k : Nat}
theorem x_bits {D : UInt64} (hD : Shp D) : Run G YX3_bitsOfShare [.double D] σ (Rd σ (.long D.toInt64)) := by
  rcases hD with rfl | ⟨c, k, hk, h1, h2, hD⟩
  · have hc : Op.cmpValue (FP.dcmp FP.dconst0 FP.dconst0) .g = nI 0 := by
      rw [show FP.dcmp FP.dconst0 FP.dconst0 = some .eq from FP.Core.dcmp_self (by rw [show FP.Core.val64 FP.dconst0 = _ from FP.Core.val64_dconst0]; intro h; cases h)]; rfl
    refine run_of (ls := [(0, .double FP.dconst0)]) (by decide +kernel) rfl rfl (Nat.le_of_ble_eq_true rfl) ?_
    refine aw_dload_n dX3_bitsOfShare_0 rfl ?_
    refine aw_dconst0 dX3_bitsOfShare_1 ?_
    refine aw_dcmp dX3_bitsOfShare_2 ?_
    rw [hc]
    refine aw_if_gt (tgt := 8) dX3_bitsOfShare_3 (by decide) (fun hc3 => absurd hc3 (by decide)) (fun hc3 => ?_)
    refine aw_lconst (v := 0) dX3_bitsOfShare_6 rfl ?_
    exact aw_lret dX3_bitsOfShare_7 rfl (Nat.zero_le _) (Nat.zero_le _) ⟨rfl, rfl⟩
  · have loop : ∀ (d j : Nat) (x : UInt64), k - j = d → j ≤ k → FP.Core.val64 x = .fin false c (-52 - ((k - j : Nat) : Int)) → AW G YX3_bitsOfShare (MZ G YX3_bitsOfShare (Rd σ (.long D.toInt64))) 18 [(0, .double D), (2, .double x), (4, .long (Int64.ofNat (1023 - j))), (6, .int (nI j))] [] σ 0 0 := by
      intro d
      induction d with
      | zero =>
        intro j x hd hj hx
        rw [hd] at hx
        have hjk : j = k := by omega
        subst hjk
        obtain ⟨s, -, e, g1, g2⟩ := part_x h1 h2 hx
        have g3 := part_int (by omega) g1 g2
        have hn1 : vf_n64 (FP.dsub x FP.dconst1) := n64_of (by rw [g1]; intro h; cases h)
        have hn2 := n64_of (DInt.ne g3)
        have hl : FP.d2l (FP.dmul (FP.dsub x FP.dconst1) 4841369599423283200) = Int64.ofNat (c - 2 ^ 52) := by
          refine FP.Core.d2l_int (a := Int64.ofNat (c - 2 ^ 52)) ?_
          rw [show (Int64.ofNat (c - 2 ^ 52)).toInt = ((c - 2 ^ 52 : Nat) : Int) from Int64.toInt_ofNat_of_lt (by omega)]
          exact g3
        refine aw_iload dX3_bitsOfShare_18 rfl ?_
        refine aw_sipush (v := nI 1023) dX3_bitsOfShare_20 rfl ?_
        refine aw_icmp_geN (tgt := 50) dX3_bitsOfShare_23 (by decide) (by omega) (by omega) (fun hc23 => absurd hc23 (by omega)) (fun hc23 => ?_)
        refine aw_dload_n dX3_bitsOfShare_26 rfl ?_
        refine aw_dconst1 dX3_bitsOfShare_27 ?_
        refine aw_dcmp dX3_bitsOfShare_28 ?_
        refine aw_if_ge (tgt := 50) dX3_bitsOfShare_29 (by decide) (fun hc29 => ?_) (fun hc29 => absurd (cmpV_g (cmp_ge h1 hx)) hc29)
        refine aw_dload_n dX3_bitsOfShare_50 rfl ?_
        refine aw_dconst1 dX3_bitsOfShare_51 ?_
        refine aw_dsub dX3_bitsOfShare_52 hn1 ?_
        refine aw_ldc2d dX3_bitsOfShare_53 ldX3_192 ?_
        refine aw_dmul dX3_bitsOfShare_56 hn2 ?_
        refine aw_dstore (ls' := [(6, _), (0, _), (2, _), (4, _)]) dX3_bitsOfShare_57 (by decide) rfl ?_
        refine aw_lload dX3_bitsOfShare_59 rfl ?_
        refine aw_bipush (v := nI 52) dX3_bitsOfShare_61 rfl ?_
        refine aw_lshl dX3_bitsOfShare_63 ?_
        refine aw_dload dX3_bitsOfShare_64 rfl ?_
        refine aw_d2l dX3_bitsOfShare_66 ?_
        refine aw_ladd dX3_bitsOfShare_67 ?_
        exact aw_lret dX3_bitsOfShare_68 rfl (Nat.zero_le _) (Nat.zero_le _) ⟨by rw [exp_shl j hk, hl, ← bits_c hk h1 h2 hD], rfl⟩
      | succ d ih =>
        intro j x hd hj hx
        rw [hd] at hx
        have hlt := cmp_lt h2 hx
        have g1 := dbl_x (by omega) h1 h2 hx
        have hn1 : vf_n64 (FP.dmul x 4611686018427387904) := n64_of (by rw [g1]; intro h; cases h)
        refine aw_iload dX3_bitsOfShare_18 rfl ?_
        refine aw_sipush (v := nI 1023) dX3_bitsOfShare_20 rfl ?_
        refine aw_icmp_geN (tgt := 50) dX3_bitsOfShare_23 (by decide) (by omega) (by omega) (fun hc23 => absurd hc23 (by omega)) (fun hc23 => ?_)
        refine aw_dload_n dX3_bitsOfShare_26 rfl ?_
        refine aw_dconst1 dX3_bitsOfShare_27 ?_
        refine aw_dcmp dX3_bitsOfShare_28 ?_
        refine aw_if_ge (tgt := 50) dX3_bitsOfShare_29 (by decide) (fun hc29 => absurd hc29 (by rw [hlt]; decide)) (fun hc29 => ?_)
        refine aw_dload_n dX3_bitsOfShare_32 rfl ?_
        refine aw_ldc2d dX3_bitsOfShare_33 ldX3_190 ?_
        refine aw_dmul dX3_bitsOfShare_36 hn1 ?_
        refine aw_dstore_n (ls' := [(2, _), (0, _), (4, _), (6, _)]) dX3_bitsOfShare_37 (by decide) rfl ?_
        refine aw_lload dX3_bitsOfShare_38 rfl ?_
        refine aw_lconst (v := 1) dX3_bitsOfShare_40 rfl ?_
        refine aw_lsub dX3_bitsOfShare_41 ?_
        refine aw_lstore (ls' := [(4, _), (2, _), (0, _), (6, _)]) dX3_bitsOfShare_42 (by decide) rfl ?_
        refine aw_iincN (k := 1) (ls' := [(6, _), (4, _), (2, _), (0, _)]) dX3_bitsOfShare_44 rfl rfl (by decide) rfl ?_
        refine aw_goto (tgt := 18) dX3_bitsOfShare_47 (by decide) ?_
        rw [show Int64.ofNat (1023 - j) - 1 = _ from exp_sub j (by omega)]
        exact aw_pick [3, 2, 1, 0] rfl (ih (j + 1) _ (by omega) (by omega) (by rw [show k - (j + 1) = d by omega]; exact g1))
    have hc : FP.dcmp D FP.dconst0 = some .gt := by
      show FP.Core.order (FP.Core.val64 D) (FP.Core.val64 FP.Core.dconst0) = _
      rw [hD, FP.Core.val64_dconst0]
      simp only [FP.Core.order]
      refine congrArg some (Int.compare_eq_gt.mpr ?_)
      unfold FP.Core.inUnits
      rw [Nat.zero_mul]
      show (0 : Int) < ((c * 2 ^ _ : Nat) : Int)
      have := Nat.mul_pos (show 0 < c by omega) (Nat.two_pow_pos (-52 - (k : Int) - min (-52 - (k : Int)) FP.Core.b64.qmin).toNat)
      omega
    refine run_of (ls := [(0, .double D)]) (by decide +kernel) rfl rfl (Nat.le_of_ble_eq_true rfl) ?_
    refine aw_dload_n dX3_bitsOfShare_0 rfl ?_
    refine aw_dconst0 dX3_bitsOfShare_1 ?_
    refine aw_dcmp dX3_bitsOfShare_2 ?_
    refine aw_if_gt (tgt := 8) dX3_bitsOfShare_3 (by decide) (fun hc3 => ?_) (fun hc3 => absurd (by rw [hc]; decide) hc3)
    refine aw_dload_n dX3_bitsOfShare_8 rfl ?_
    refine aw_dstore_n (ls' := [(2, _), (0, _)]) dX3_bitsOfShare_9 (by decide) rfl ?_
    refine aw_ldc2 dX3_bitsOfShare_10 ldX3_188 ?_
    refine aw_lstore (ls' := [(4, _), (2, _), (0, _)]) dX3_bitsOfShare_13 (by decide) rfl ?_
    refine aw_iconst (v := nI 0) dX3_bitsOfShare_15 rfl ?_
    refine aw_istore (ls' := [(6, _), (4, _), (2, _), (0, _)]) dX3_bitsOfShare_16 (by decide) rfl ?_
    exact aw_pick [3, 2, 1, 0] rfl (loop k 0 D (by omega) (by omega) (by rw [hD, Nat.sub_zero]))
end XBITS
