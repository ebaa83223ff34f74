/-! A SHARE AS A RATIO -/
theorem i2d_shape {g : Nat} (hg : g < 2 ^ 31) : ∃ (c : Nat) (q : Int), FP.Core.val64 (FP.i2d (nI g)) = .fin false c q ∧ c * 2 ^ q.toNat = g * 2 ^ (-q).toNat := by
  obtain ⟨c, q, h⟩ := FP.Core.l2d_shape (nI g).toInt64
  rw [← FP.Core.i2d_l2d] at h
  have hz : (decide ((nI g).toInt64.toInt < 0)) = false := by
    rw [Int32.toInt_toInt64, nI_toInt hg]; simp
  rw [hz] at h
  have w := FP.Core.i2d_int (nI g)
  unfold FP.Core.DInt at w
  rw [h] at w
  have w : FP.Core.signed false (c * 2 ^ q.toNat) = (nI g).toInt * ((2 ^ (-q).toNat : Nat) : Int) := w
  rw [nI_toInt hg] at w
  have w : ((c * 2 ^ q.toNat : Nat) : Int) = (g : Int) * ((2 ^ (-q).toNat : Nat) : Int) := w
  refine ⟨c, q, h, ?_⟩
  exact_mod_cast w
theorem share_rr {g n : Nat} (h0 : 0 < n) (hn : n < 2 ^ 31) (hg : g < 2 ^ 31) : FP.Core.val64 (FP.ddiv (FP.i2d (nI g)) (FP.i2d (nI n))) = FP.Core.roundRatio FP.Core.b64 false g n 0 := by
  obtain ⟨c, q, e1, e2⟩ := i2d_shape hg
  obtain ⟨d, r, e3, e4⟩ := i2d_shape hn
  have hd : 0 < d := by
    rcases Nat.eq_zero_or_pos d with w | w
    · rw [w, Nat.zero_mul] at e4
      have := Nat.mul_pos h0 (Nat.two_pow_pos (-r).toNat)
      omega
    · exact w
  rw [FP.Core.val64_ddiv, e1, e3]
  show (if d = 0 then _ else FP.Core.roundRatio _ _ _ _ _) = _
  rw [if_neg (by omega)]
  refine FP.Core.roundRatio_congr hd h0 ?_
  rw [Int.sub_zero, Int.zero_sub]
  have k1 : (q - r).toNat + r.toNat + (-q).toNat = (-(q - r)).toNat + q.toNat + (-r).toNat := by omega
  refine Nat.eq_of_mul_eq_mul_right (Nat.two_pow_pos (q.toNat + r.toNat + (-q).toNat + (-r).toNat)) ?_
  have a1 : c * n * 2 ^ (q - r).toNat * 2 ^ (q.toNat + r.toNat + (-q).toNat + (-r).toNat) = (c * 2 ^ q.toNat) * (n * 2 ^ (-r).toNat) * 2 ^ ((q - r).toNat + r.toNat + (-q).toNat) := by
    simp only [Nat.pow_add]; ac_rfl
  have a2 : g * d * 2 ^ (-(q - r)).toNat * 2 ^ (q.toNat + r.toNat + (-q).toNat + (-r).toNat) = (g * 2 ^ (-q).toNat) * (d * 2 ^ r.toNat) * 2 ^ ((-(q - r)).toNat + q.toNat + (-r).toNat) := by
    simp only [Nat.pow_add]; ac_rfl
  rw [a1, a2, e2, ← e4, k1]
