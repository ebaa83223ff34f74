theorem ldJ6_265 : Cond.constant RJ6 265 (1431655765 : Int32) ∈ gT := gT_ix 295 (by decide +kernel) rfl
theorem ldJ6_266 : Cond.constant RJ6 266 (858993459 : Int32) ∈ gT := gT_ix 296 (by decide +kernel) rfl
theorem ldJ6_267 : Cond.constant RJ6 267 (252645135 : Int32) ∈ gT := gT_ix 297 (by decide +kernel) rfl
theorem ldX2_83 : Cond.constant RX2 83 (65535 : Int32) ∈ gT := gT_ix 488 (by decide +kernel) rfl
/-- in how many ticks a store is free, at most f -/
def untilN (st : Nat) : Nat → AA → Nat
  | 0, _ => 0
  | f + 1, a => if refd a st = true then untilN st f (tickA a) + 1 else 0
theorem untilN_s (st f : Nat) (a : AA) : untilN st (f + 1) a = if refd a st = true then untilN st f (tickA a) + 1 else 0 := rfl
def untilI (a : AA) (st : Nat) : Int32 := if untilN st 1000 a ≤ 999 then nI (untilN st 1000 a) else -1
theorem of_often {m k : Nat} {a : AA} {st t n : Nat} (hst : st < 4) (hI : IV m k a) (hl : L1 a) : ∀ n, ∃ m', IV m' k (oftenA st t n a) ∧ L1 (oftenA st t n a) ∧ m' ≤ m + n := by
  intro n
  induction n generalizing m a with
  | zero => exact ⟨m, hI, hl, by omega⟩
  | succ n ih =>
    unfold oftenA
    split
    · exact ⟨m, hI, hl, by omega⟩
    · next h =>
      have hroom : refd a st = true ∨ a.2.1.length < 16 := by
        rcases Nat.lt_or_ge a.2.1.length 16 with q | q
        · exact Or.inr q
        · left
          have := hI.2.1
          have h16 : a.2.1.length = 16 := by omega
          cases e : refd a st
          · exact absurd ⟨h16, e⟩ h
          · rfl
      obtain ⟨m', g1, g2, g3⟩ := ih (hI.call hst hroom |>.ticks t) (L1.ticks (n := t) hl.call)
      exact ⟨m', g1, g2, by omega⟩
section MODEL12
variable {G : GG} {K : Nat → Option (Nat × Nat)} {R : Nat → Nat → Value} {I : Nat → Nat → Int32} {J : Nat → Nat → Int64} {z : Nat} {σ : Sg} {a : AA} {hs : List AA} {m k : Nat}
def setLo (i : Nat) : Nat := if i = 1 then 2 else 1
def setHi (i : Nat) : Nat := if i = 0 then 99 else if i = 1 then 16 else if i = 2 then 16 else if i = 3 then 99 else 999
end MODEL12
