/-! THE REFERENCE: windows, outcomes -/
theorem sh_and : ∀ k, k < 32 → ((nI k &&& 31).toBitVec.smod 32).toNat = k := by decide
theorem ior_nI (a b : Nat) : nI a ||| nI b = nI (a ||| b) := by
  apply Int32.toBitVec_inj.mp
  show BitVec.ofNat 32 a ||| BitVec.ofNat 32 b = BitVec.ofNat 32 (a ||| b)
  rw [BitVec.ofNat_or]
theorem note_nI {b e : Nat} (hb : b < 65536) (he : e ≤ 1) : ((nI b <<< (nI 1 &&& 31)) ||| nI e) &&& 65535 = nI ((2 * b + e) % 65536) := by
  rw [pk_shlN _ 1 (by decide) (by omega), ior_nI]
  have h : b * 2 ^ 1 ||| e = 2 * b + e := by
    have := Nat.shiftLeft_add_eq_or_of_lt (a := b) (b := e) (i := 1) (by omega)
    rw [Nat.shiftLeft_eq] at this
    rw [← this]; omega
  rw [h]
  exact pk_andN (by omega) 16 (by decide)
section MODEL2
variable {G : GG} {K : Nat → Option (Nat × Nat)} {R : Nat → Nat → Value} {I : Nat → Nat → Int32} {J : Nat → Nat → Int64} {z : Nat} {σ : Sg} {a : AA} {m k : Nat}
theorem p2_16 {n : Nat} (h : n ≤ 16) : 2 ^ n ≤ 65536 := Nat.pow_le_pow_right (by decide) h
theorem bits_le (b : Nat) : ∀ n, bits b n ≤ n
  | 0 => Nat.le_refl 0
  | n + 1 => by
    have := bits_le b n
    show bits b n + b / 2 ^ n % 2 ≤ n + 1
    have := Nat.mod_lt (b / 2 ^ n) (show 0 < 2 by decide)
    omega
theorem sT_sT {T : Nat → Rw} {st : Nat} {t t' : Rw} : sT (sT T st t) st t' = sT T st t' := by
  funext s; unfold sT; split <;> rfl
end MODEL2
