/-! WHAT THE CLASS BORROWS, and its stores -/
def bcN (x : Nat) : Nat :=
  let x1 := x - ((x / 2) &&& 1431655765)
  let x2 := (x1 &&& 858993459) + ((x1 / 4) &&& 858993459)
  let x3 := (x2 + x2 / 16) &&& 252645135
  let x4 := x3 + x3 / 256
  let x5 := x4 + x4 / 65536
  x5 &&& 63
def b16 (x : Nat) : Nat := x % 2 + x / 2 % 2 + x / 4 % 2 + x / 8 % 2 + x / 16 % 2 + x / 32 % 2 + x / 64 % 2 + x / 128 % 2 + x / 256 % 2 + x / 512 % 2 + x / 1024 % 2 + x / 2048 % 2 + x / 4096 % 2 + x / 8192 % 2 + x / 16384 % 2 + x / 32768 % 2
def bcok (lo : Nat) : Nat → Bool
  | 0 => true
  | n + 1 => Nat.beq (bcN (lo + n)) (b16 (lo + n)) && bcok lo n
theorem bcok_at {lo : Nat} : ∀ {n i : Nat}, bcok lo n = true → i < n → bcN (lo + i) = b16 (lo + i)
  | 0, i, _, hi => absurd hi (Nat.not_lt_zero _)
  | n + 1, i, h, hi => by
    rw [bcok, Bool.and_eq_true] at h
    by_cases e : i = n
    · subst e; exact Nat.eq_of_beq_eq_true h.1
    · exact bcok_at h.2 (by omega)
theorem bcok_0 : bcok 0 4096 = true := by decide +kernel
theorem bcok_1 : bcok 4096 4096 = true := by decide +kernel
theorem bcok_2 : bcok 8192 4096 = true := by decide +kernel
theorem bcok_3 : bcok 12288 4096 = true := by decide +kernel
theorem bcok_4 : bcok 16384 4096 = true := by decide +kernel
theorem bcok_5 : bcok 20480 4096 = true := by decide +kernel
theorem bcok_6 : bcok 24576 4096 = true := by decide +kernel
theorem bcok_7 : bcok 28672 4096 = true := by decide +kernel
theorem bcok_8 : bcok 32768 4096 = true := by decide +kernel
theorem bcok_9 : bcok 36864 4096 = true := by decide +kernel
theorem bcok_10 : bcok 40960 4096 = true := by decide +kernel
theorem bcok_11 : bcok 45056 4096 = true := by decide +kernel
theorem bcok_12 : bcok 49152 4096 = true := by decide +kernel
theorem bcok_13 : bcok 53248 4096 = true := by decide +kernel
theorem bcok_14 : bcok 57344 4096 = true := by decide +kernel
theorem bcok_15 : bcok 61440 4096 = true := by decide +kernel
theorem bcN_16 {x : Nat} (h : x < 65536) : bcN x = b16 x := by
  have hx : x = 4096 * (x / 4096) + x % 4096 := (Nat.div_add_mod x 4096).symm
  have h1 : x % 4096 < 4096 := Nat.mod_lt _ (by decide)
  have h2 : x / 4096 < 16 := by omega
  rw [hx]
  generalize x / 4096 = c at h2 ⊢
  generalize x % 4096 = i at h1 ⊢
  rcases (show c = 0 ∨ c = 1 ∨ c = 2 ∨ c = 3 ∨ c = 4 ∨ c = 5 ∨ c = 6 ∨ c = 7 ∨ c = 8 ∨ c = 9 ∨ c = 10 ∨ c = 11 ∨ c = 12 ∨ c = 13 ∨ c = 14 ∨ c = 15 by omega) with rfl | rfl | rfl | rfl | rfl | rfl | rfl | rfl | rfl | rfl | rfl | rfl | rfl | rfl | rfl | rfl
  · exact bcok_at bcok_0 h1
  · exact bcok_at bcok_1 h1
  · exact bcok_at bcok_2 h1
  · exact bcok_at bcok_3 h1
  · exact bcok_at bcok_4 h1
  · exact bcok_at bcok_5 h1
  · exact bcok_at bcok_6 h1
  · exact bcok_at bcok_7 h1
  · exact bcok_at bcok_8 h1
  · exact bcok_at bcok_9 h1
  · exact bcok_at bcok_10 h1
  · exact bcok_at bcok_11 h1
  · exact bcok_at bcok_12 h1
  · exact bcok_at bcok_13 h1
  · exact bcok_at bcok_14 h1
  · exact bcok_at bcok_15 h1
theorem b16_bits (x : Nat) : b16 x = bits x 16 := by
  unfold b16
  simp only [bits, Nat.pow_zero, Nat.div_one, Nat.zero_add]
