/-! THE REFERENCE: texts -/
/-- the buffer -/
def RB (I : Nat → Nat → Int32) (B : List Nat) : Prop := I 140 6 = nI B.length ∧ B.length ≤ 60 ∧ ∀ (i c : Nat), B[i]? = some c → I 144 i = nI c ∧ 33 ≤ c ∧ c ≤ 126
def dig (c : Nat) : Bool := decide (48 ≤ c ∧ c ≤ 57)
/-- one number is read -/
def rdNum (B : List Nat) (p : Nat) (r : List Nat) : Bool × Nat × List Nat :=
  if dig (B.getD p 0) = true then (if 48 < B.getD p 0 ∧ dig (B.getD (p + 1) 0) = true then (true, p + 2, r ++ [10 * (B.getD p 0 - 48) + (B.getD (p + 1) 0 - 48)]) else (true, p + 1, r ++ [B.getD p 0 - 48])) else (false, p, r)
/-- the further ones, with commas ahead -/
def rdLoop (B : List Nat) : Nat → Nat → List Nat → Bool × Nat × List Nat
  | 0, p, r => (true, p, r)
  | f + 1, p, r => if p < B.length then (if B.getD p 0 = 44 ∧ r.length < 20 then (if (rdNum B (p + 1) r).1 = true then rdLoop B f (rdNum B (p + 1) r).2.1 (rdNum B (p + 1) r).2.2 else rdNum B (p + 1) r) else (false, p, r)) else (true, p, r)
def rdAll (B : List Nat) : Bool × Nat × List Nat := if (rdNum B 0 []).1 = true then rdLoop B B.length (rdNum B 0 []).2.1 (rdNum B 0 []).2.2 else rdNum B 0 []
/-- the reading touches its own cells alone -/
def FrX (I I' : Nat → Nat → Int32) : Prop := (∀ q, q ≠ 140 → q ≠ 145 → I' q = I q) ∧ ∀ j, j ≠ 7 → j ≠ 8 → j ≠ 10 → I' 140 j = I 140 j
theorem FrX.rf {I : Nat → Nat → Int32} : FrX I I := ⟨fun _ _ _ => rfl, fun _ _ _ _ => rfl⟩
theorem FrX.tr {I I' I'' : Nat → Nat → Int32} (h : FrX I I') (h' : FrX I' I'') : FrX I I'' := ⟨fun q h1 h2 => (h'.1 q h1 h2).trans (h.1 q h1 h2), fun j h1 h2 h3 => (h'.2 j h1 h2 h3).trans (h.2 j h1 h2 h3)⟩
theorem FrX.up {I : Nat → Nat → Int32} {j : Nat} {v : Int32} (h : j = 7 ∨ j = 8 ∨ j = 10) : FrX I (up2 I 140 j v) := ⟨fun q h1 _ => FrO.up q h1, fun k h1 h2 h3 => by rw [up2_o, if_neg (by omega)]⟩
theorem RB.fr {I I' : Nat → Nat → Int32} {B : List Nat} (h : RB I B) (hF : FrX I I') : RB I' B := ⟨by rw [hF.2 6 (by decide) (by decide) (by decide)]; exact h.1, h.2.1, fun i c hi => by rw [hF.1 144 (by decide) (by decide)]; exact h.2.2 i c hi⟩
theorem getD_lt {B : List Nat} {p : Nat} (h : p < B.length) : B[p]? = some (B.getD p 0) := by rw [List.getD_eq_getElem?_getD, List.getElem?_eq_getElem h]; rfl
theorem getD_ge {B : List Nat} {p : Nat} (h : B.length ≤ p) : B.getD p 0 = 0 := by rw [List.getD_eq_getElem?_getD, List.getElem?_eq_none h]; rfl
theorem RB.le {I : Nat → Nat → Int32} {B : List Nat} (h : RB I B) (p : Nat) : B.getD p 0 ≤ 126 := by
  rcases Nat.lt_or_ge p B.length with q | q
  · exact (h.2.2 p _ (getD_lt q)).2.2
  · rw [getD_ge q]; omega
theorem rdNum_f {B : List Nat} {p : Nat} {r : List Nat} (h : dig (B.getD p 0) = false) : rdNum B p r = (false, p, r) := by
  unfold rdNum; rw [if_neg (by rw [h]; decide)]
theorem rdNum_1 {B : List Nat} {p : Nat} {r : List Nat} (h : dig (B.getD p 0) = true) (h' : ¬ (48 < B.getD p 0 ∧ dig (B.getD (p + 1) 0) = true)) : rdNum B p r = (true, p + 1, r ++ [B.getD p 0 - 48]) := by
  unfold rdNum; rw [if_pos h, if_neg h']
theorem rdNum_2 {B : List Nat} {p : Nat} {r : List Nat} (h : dig (B.getD p 0) = true) (h' : 48 < B.getD p 0 ∧ dig (B.getD (p + 1) 0) = true) : rdNum B p r = (true, p + 2, r ++ [10 * (B.getD p 0 - 48) + (B.getD (p + 1) 0 - 48)]) := by
  unfold rdNum; rw [if_pos h, if_pos h']
theorem dig_t {c : Nat} (h : dig c = true) : 48 ≤ c ∧ c ≤ 57 := by simpa [dig] using h
section MODEL11
variable {G : GG} {K : Nat → Option (Nat × Nat)} {R : Nat → Nat → Value} {I : Nat → Nat → Int32} {J : Nat → Nat → Int64} {z : Nat} {σ : Sg} {a : AA} {B : List Nat} {m k : Nat}
theorem rdNum_t {B : List Nat} {p : Nat} {r : List Nat} (h : (rdNum B p r).1 = true) : p < (rdNum B p r).2.1 ∧ (rdNum B p r).2.1 ≤ p + 2 ∧ (rdNum B p r).2.2.length = r.length + 1 := by
  unfold rdNum at h ⊢
  by_cases hd : dig (B.getD p 0) = true
  · rw [if_pos hd] at h ⊢
    split <;> simp
  · rw [if_neg hd] at h; cases h
theorem rdNum_p {B : List Nat} {p : Nat} {r : List Nat} : (rdNum B p r).2.1 ≤ p + 2 := by
  unfold rdNum
  split
  · split <;> simp
  · simp
end MODEL11
