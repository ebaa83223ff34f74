/-! THE LAW: one act -/
def lowB (x : Int32) (k : Nat) : Nat := x.toBitVec.toNat % 2 ^ k
theorem lowB_lt (x : Int32) (k : Nat) : lowB x k < 2 ^ k := Nat.mod_lt _ (Nat.two_pow_pos k)
theorem and_lowB (x : Int32) {m : Int32} (k : Nat) (hm : m.toBitVec.toNat = 2 ^ k - 1) : x &&& m = nI (lowB x k) := pk_and x k hm
abbrev shR (x : Int32) (n : Nat) : Int32 := x >>> (nI n &&& 31)
def stN (v : Int32) : Nat := if lowB (shR v 8) 1 = 0 then 0 else lowB (shR v 4) 2
theorem stN_lt (v : Int32) : stN v < 4 := by
  unfold stN
  split
  · decide
  · exact lowB_lt _ 2
def txG (w : Int32) : Nat → List Nat → List Nat
  | 0, B => B
  | k + 1, B => txG w k (((B ++ [44]) ++ [49 + loN (shR w (3 * (k + 1))) 9]) ++ [48 + loN (shR w (4 * (k + 1))) 10])
def txN (w : Int32) : List Nat := txG w (loN (shR w 4) 3) ([] ++ [48 + loN w 10])
def aDl (st : Nat) (w : Int32) (a : AA) : Option (Int32 × AA) := some (nI (a.2.2 st 0), (a.1, a.2.1, sT a.2.2 st (rowR (rdAll (txN w)).2.2 (a.2.2 st))))
def setV (i : Nat) (w : Int32) : Nat := if i = 0 then 1 + loN (shR w 3) 60 else if i = 1 then 2 + loN (shR w 3) 5 else if i = 2 then 1 + loN (shR w 3) 4 else if i = 3 then 1 + loN (shR w 3) 30 else 1 + loN (shR w 3) 200
def aSet (w : Int32) (a : AA) : Option (Int32 × AA) := some (nI (a.1 (loN w 5)), (u1 a.1 (loN w 5) (setV (loN w 5) w), a.2.1, a.2.2))
def aCl (st : Nat) (w : Int32) (a : AA) : Option (Int32 × AA) := if lowB w 2 = 0 then some (nI (a.2.2 st 2), shutA a st) else none
def psN (w : Int32) : Nat := if lowB (shR w 8) 2 = 0 then 1 + loN w 100 else 1 + loN w 9
def aPs (w : Int32) (a : AA) : Option (Int32 × AA) := some (nI (ticksN (psN w) a), ticksA (psN w) a)
def bsA (a : AA) : Option Nat → AA
  | none => a
  | some b => callA a b
def aBs (a : AA) : Option (Int32 × AA) := if a.2.1.length < 16 then some (oI (bestN a 4), bsA a (bestN a 4)) else none
def aOf (st : Nat) (w : Int32) (a : AA) : Option (Int32 × AA) := some (nI (oftenN st (loN (shR w 4) 6) (1 + loN w 10) a), oftenA st (loN (shR w 4) 6) (1 + loN w 10) a)
def aCa (st : Nat) (a : AA) : Option (Int32 × AA) := if a.2.1.length < 16 ∨ untilI a st ≠ 0 then some (nI (callN a st), callA a st) else none
def actJ (st : Nat) (w : Int32) (a : AA) : Nat → Option (Int32 × AA)
  | 0 => aDl st w a
  | 1 => aDl st w a
  | 2 => aSet w a
  | 3 => aCl st w a
  | 4 => aPs w a
  | 5 => aPs w a
  | 6 => aBs a
  | 7 => aOf st w a
  | 8 => aOf st w a
  | _ => aCa st a
/-- what an act does, if it does something -/
def actF (v w : Int32) (a : AA) : Option (Int32 × AA) := actJ (stN v) w a (lowB v 4)
def actV : Option (Int32 × AA) → Int32
  | none => -9
  | some x => x.1
def actS (a : AA) (hs : List AA) : Option (Int32 × AA) → ST
  | none => (a, hs, [])
  | some x => (x.2, pushH hs a, [])
theorem SC.fr {K : Nat → Option (Nat × Nat)} {I I' : Nat → Nat → Int32} (h : SC K I) (hF : FrC I I') : SC K I' := ⟨h.1, by rw [hF 1002 (by decide)]; exact h.2.1, h.2.2.1, by rw [hF 1003 (by decide)]; exact h.2.2.2⟩
/-! the text that it lays -/
theorem dig_1 {c : Nat} (h1 : 48 ≤ c) (h2 : c ≤ 57) : dig c = true := by simp [dig, h1, h2]
theorem rd_1 {d : Nat} (h : 48 ≤ d ∧ d ≤ 57) : (rdAll [d]).1 = true := by
  have hd := dig_1 h.1 h.2
  simp [rdAll, rdNum, rdLoop, hd, show dig 0 = false from rfl]
theorem rd_4 {d c e : Nat} (h : 48 ≤ d ∧ d ≤ 57) (hc : 49 ≤ c ∧ c ≤ 57) (he : 48 ≤ e ∧ e ≤ 57) : (rdAll [d, 44, c, e]).1 = true := by
  have hd := dig_1 h.1 h.2
  have hdc := dig_1 (show 48 ≤ c by omega) hc.2
  have hde := dig_1 he.1 he.2
  have h48 : 48 < c := by omega
  simp [rdAll, rdNum, rdLoop, hd, hdc, hde, h48, show dig 44 = false from rfl]
theorem rd_7 {d c e c' e' : Nat} (h : 48 ≤ d ∧ d ≤ 57) (hc : 49 ≤ c ∧ c ≤ 57) (he : 48 ≤ e ∧ e ≤ 57) (hc' : 49 ≤ c' ∧ c' ≤ 57) (he' : 48 ≤ e' ∧ e' ≤ 57) : (rdAll [d, 44, c, e, 44, c', e']).1 = true := by
  have hd := dig_1 h.1 h.2
  have hdc := dig_1 (show 48 ≤ c by omega) hc.2
  have hde := dig_1 he.1 he.2
  have hdc' := dig_1 (show 48 ≤ c' by omega) hc'.2
  have hde' := dig_1 he'.1 he'.2
  have h48 : 48 < c := by omega
  have h48' : 48 < c' := by omega
  simp [rdAll, rdNum, rdLoop, hd, hdc, hde, hdc', hde', h48, h48', show dig 44 = false from rfl]
theorem txN_ok (w : Int32) : (rdAll (txN w)).1 = true := by
  have h10 : ∀ x : Int32, 48 ≤ 48 + loN x 10 ∧ 48 + loN x 10 ≤ 57 := fun x => by have := loN_lt (v := x) (n := 10) (by decide); omega
  have h9 : ∀ x : Int32, 49 ≤ 49 + loN x 9 ∧ 49 + loN x 9 ≤ 57 := fun x => by have := loN_lt (v := x) (n := 9) (by decide); omega
  unfold txN
  have h3 := loN_lt (v := shR w 4) (n := 3) (by decide)
  generalize loN (shR w 4) 3 = q at h3
  rcases (show q = 0 ∨ q = 1 ∨ q = 2 by omega) with rfl | rfl | rfl
  · exact rd_1 (h10 w)
  · exact rd_4 (h10 w) (h9 _) (h10 _)
  · exact rd_7 (h10 w) (h9 _) (h10 _) (h9 _) (h10 _)
