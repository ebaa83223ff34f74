/-! WHAT A CALL OF THE FACE DOES: what is thrown, what is answered, what is then -/
/-- a state, the states kept, the buffer -/
abbrev ST : Type := AA × List AA × List Nat
abbrev RS : Type := Nat × Int32 × ST
abbrev inR (v : Int32) (l h : Nat) : Prop := nI l ≤ v ∧ v ≤ nI h
def nv (v : Int32) : Nat := v.toInt.toNat
theorem nI_nv {v : Int32} (h : nI 0 ≤ v) : v = nI (nv v) ∧ nv v < 2 ^ 31 := by
  have h0 : (0 : Int) ≤ v.toInt := by
    have := Int32.le_iff_toInt_le.mp h
    exact this
  have h1 : v.toInt < 2 ^ 31 := Int32.toInt_lt v
  have h2 : nv v < 2 ^ 31 := by unfold nv; omega
  refine ⟨?_, h2⟩
  rw [← Int32.toInt_inj, nI_toInt h2]
  unfold nv; omega
theorem inR_nat {v : Int32} {l h : Nat} (hv : inR v l h) (hh : h < 2 ^ 31) (hl : l < 2 ^ 31) : v = nI (nv v) ∧ l ≤ nv v ∧ nv v ≤ h := by
  have h1 := Int32.le_iff_toInt_le.mp hv.1
  have h2 := Int32.le_iff_toInt_le.mp hv.2
  rw [nI_toInt hl] at h1
  rw [nI_toInt hh] at h2
  have h0 : nI 0 ≤ v := by
    rw [Int32.le_iff_toInt_le]
    show (0 : Int) ≤ _
    omega
  refine ⟨(nI_nv h0).1, ?_, ?_⟩ <;> unfold nv <;> omega
def sCall (v : Int32) (s : ST) : RS := if inR v 0 3 then (if s.1.2.1.length = 16 ∧ refd s.1 (nv v) = false then (2, 0, s) else (0, nI (callN s.1 (nv v)), callA s.1 (nv v), pushH s.2.1 s.1, s.2.2)) else (1, 0, s)
def sOften (v n t : Int32) (s : ST) : RS := if inR v 0 3 then (if inR n 1 50 ∧ inR t 0 50 then (0, nI (oftenN (nv v) (nv t) (nv n) s.1), oftenA (nv v) (nv t) (nv n) s.1, pushH s.2.1 s.1, s.2.2) else (2, 0, s)) else (1, 0, s)
def sBest (s : ST) : RS := if s.1.2.1.length = 16 then (1, 0, s) else (match bestN s.1 4 with
  | none => (0, -1, s.1, pushH s.2.1 s.1, s.2.2)
  | some b => (0, nI b, callA s.1 b, pushH s.2.1 s.1, s.2.2))
def sClose (v : Int32) (s : ST) : RS := if inR v 0 3 then (0, nI (s.1.2.2 (nv v) 2), shutA s.1 (nv v), pushH s.2.1 s.1, s.2.2) else (1, 0, s)
def sSet (i v : Int32) (s : ST) : RS := if inR i 0 4 then (if inR v (setLo (nv i)) (setHi (nv i)) then (0, nI (s.1.1 (nv i)), (u1 s.1.1 (nv i) (nv v), s.1.2.1, s.1.2.2), pushH s.2.1 s.1, s.2.2) else (2, 0, s)) else (1, 0, s)
def sPass (n : Int32) (s : ST) : RS := if inR n 1 200 then (0, nI (ticksN (nv n) s.1), ticksA (nv n) s.1, pushH s.2.1 s.1, s.2.2) else (1, 0, s)
def sAppend (c : Int32) (s : ST) : RS := if inR c 33 126 then (if s.2.2.length = 60 then (2, 0, s) else (0, nI (s.2.2.length + 1), s.1, s.2.1, s.2.2 ++ [nv c])) else (1, 0, s)
def sClear (s : ST) : RS := (0, nI s.2.2.length, s.1, s.2.1, [])
def rowR (r : List Nat) (t : Rw) : Rw := fun k => if k = 0 then r.length else if k = 1 then 0 else if 12 ≤ k ∧ k < 32 then r.getD (k - 12) 0 else t k
def sDelays (v : Int32) (s : ST) : RS := if inR v 0 3 then (if (rdAll s.2.2).1 = true then (0, nI (s.1.2.2 (nv v) 0), (s.1.1, s.1.2.1, sT s.1.2.2 (nv v) (rowR (rdAll s.2.2).2.2 (s.1.2.2 (nv v)))), pushH s.2.1 s.1, []) else (2, 0, s)) else (1, 0, s)
def sUndo (s : ST) : RS := match s.2.1.getLast? with
  | none => (1, 0, s)
  | some x => (0, nI (s.2.1.length - 1), x, s.2.1.dropLast, s.2.2)
def sStore (v w : Int32) (s : ST) : RS := if inR v 0 3 then (if inR w 0 10 then (0, nI (tellN s.1 (nv v) (nv w)), s) else (2, 0, s)) else (1, 0, s)
def sDelay (v p : Int32) (s : ST) : RS := if inR v 0 3 then (if nI 0 ≤ p then (0, (if nv p < s.1.2.2 (nv v) 0 then nI (s.1.2.2 (nv v) (12 + nv p)) else -1), s) else (2, 0, s)) else (1, 0, s)
def sOnWay (p w : Int32) (s : ST) : RS := if nI 0 ≤ p ∧ inR w 0 3 then (0, (match s.1.2.1[nv p]? with
  | some c => nI (c (nv w))
  | none => -1), s) else (1, 0, s)
def sCount (w : Int32) (s : ST) : RS := if inR w 0 8 then (0, nI (cntN s.1 s.2.1.length (nv w)), s) else (1, 0, s)
def sSetting (i : Int32) (s : ST) : RS := if inR i 0 4 then (0, nI (s.1.1 (nv i)), s) else (1, 0, s)
def sFree (v : Int32) (s : ST) : RS := if inR v 0 3 then (0, untilI s.1 (nv v), s) else (1, 0, s)
def sHealthiest (s : ST) : RS := (0, oI (bestN s.1 4), s)
/-- the reference holds a state -/
def MS (I : Nat → Nat → Int32) (s : ST) : Prop := RM (I 141) s.1 ∧ RH I s.2.1 ∧ RB I s.2.2
def FrM (I I' : Nat → Nat → Int32) : Prop := ∀ q, (q < 140 ∨ 145 < q) → I' q = I q
theorem RH.fr {I I' : Nat → Nat → Int32} {hs : List AA} (h : RH I hs) (h1 : I' 143 = I 143) (h2 : I' 140 4 = I 140 4) : RH I' hs := ⟨by rw [h2]; exact h.1, h.2.1, fun i x hx => by rw [h1]; exact h.2.2 i x hx⟩
theorem RB.fr2 {I I' : Nat → Nat → Int32} {B : List Nat} (h : RB I B) (h1 : I' 144 = I 144) (h2 : I' 140 6 = I 140 6) : RB I' B := ⟨by rw [h2]; exact h.1, h.2.1, fun i x hx => by rw [h1]; exact h.2.2 i x hx⟩
theorem MS.fr {I I' : Nat → Nat → Int32} {s : ST} (h : MS I s) (h1 : ∀ q, q ≠ 140 → q ≠ 145 → q ≠ 142 → I' q = I q) (h2 : ∀ j, j = 4 ∨ j = 6 → I' 140 j = I 140 j) : MS I' s :=
  ⟨by rw [h1 141 (by decide) (by decide) (by decide)]; exact h.1, h.2.1.fr (h1 143 (by decide) (by decide) (by decide)) (h2 4 (Or.inl rfl)), h.2.2.fr2 (h1 144 (by decide) (by decide) (by decide)) (h2 6 (Or.inr rfl))⟩
theorem FrM.tr {I I' I'' : Nat → Nat → Int32} (h : FrM I I') (h' : FrM I' I'') : FrM I I'' := fun q hq => (h' q hq).trans (h q hq)
theorem FrM.o {I I' : Nat → Nat → Int32} {o : Nat} (h : FrO o I I') (h1 : 140 ≤ o) (h2 : o ≤ 145) : FrM I I' := fun q hq => h q (by omega)
theorem FrM.rf {I : Nat → Nat → Int32} : FrM I I := fun _ _ => rfl
/-- the words of the store's row are laid, one after another -/
theorem sT_id {T : Nat → Rw} {st : Nat} : sT T st (T st) = T := by
  funext s; unfold sT; split
  · next e => rw [e]
  · rfl
