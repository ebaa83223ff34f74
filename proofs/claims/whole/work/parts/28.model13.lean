/-! WHAT A CALL OF THE FACE DOES: what is thrown, what is answered, what is then -/
/-- a state, the states kept, the buffer -/
abbrev ST : Type := AA × List AA × List Nat
abbrev RS : Type := Nat × Int32 × ST
abbrev inR (v : Int32) (l h : Nat) : Prop := nI l ≤ v ∧ v ≤ nI h
def nv (v : Int32) : Nat := v.toInt.toNat
theorem nv_nI {n : Nat} (h : n < 2 ^ 31) : nv (nI n) = n := by unfold nv; rw [nI_toInt h]; rfl
theorem nI_nv {v : Int32} (h : nI 0 ≤ v) : v = nI (nv v) ∧ nv v < 2 ^ 31 := by
  have h0 : (0 : Int) ≤ v.toInt := by
    have := Int32.le_iff_toInt_le.mp h
    exact this
  have h1 : v.toInt < 2 ^ 31 := Int32.toInt_lt v
  have h2 : nv v < 2 ^ 31 := by unfold nv; omega
  refine ⟨?_, h2⟩
  rw [← Int32.toInt_inj, nI_toInt h2]
  unfold nv; omega
theorem inR_nat {v : Int32} {l h : Nat} (hv : inR v l h) (hh : h < 2 ^ 31) (hl : l < 2 ^ 31) : v = nI (nv v) ∧ l ≤ nv v ∧ nv v ≤ h := by
  have h1 := Int32.le_iff_toInt_le.mp hv.1
  have h2 := Int32.le_iff_toInt_le.mp hv.2
  rw [nI_toInt hl] at h1
  rw [nI_toInt hh] at h2
  have h0 : nI 0 ≤ v := by
    rw [Int32.le_iff_toInt_le]
    show (0 : Int) ≤ _
    omega
  refine ⟨(nI_nv h0).1, ?_, ?_⟩ <;> unfold nv <;> omega
def sCall (v : Int32) (s : ST) : RS := if inR v 0 3 then (if s.1.2.1.length = 16 ∧ refd s.1 (nv v) = false then (2, 0, s) else (0, nI (callN s.1 (nv v)), callA s.1 (nv v), pushH s.2.1 s.1, s.2.2)) else (1, 0, s)
def sOften (v n t : Int32) (s : ST) : RS := if inR v 0 3 then (if inR n 1 50 ∧ inR t 0 50 then (0, nI (oftenN (nv v) (nv t) (nv n) s.1), oftenA (nv v) (nv t) (nv n) s.1, pushH s.2.1 s.1, s.2.2) else (2, 0, s)) else (1, 0, s)
def sBest (s : ST) : RS := if s.1.2.1.length = 16 then (1, 0, s) else (match bestN s.1 4 with
  | none => (0, -1, s.1, pushH s.2.1 s.1, s.2.2)
  | some b => (0, nI b, callA s.1 b, pushH s.2.1 s.1, s.2.2))
def sClose (v : Int32) (s : ST) : RS := if inR v 0 3 then (0, nI (s.1.2.2 (nv v) 2), shutA s.1 (nv v), pushH s.2.1 s.1, s.2.2) else (1, 0, s)
def sSet (i v : Int32) (s : ST) : RS := if inR i 0 4 then (if inR v (setLo (nv i)) (setHi (nv i)) then (0, nI (s.1.1 (nv i)), (u1 s.1.1 (nv i) (nv v), s.1.2.1, s.1.2.2), pushH s.2.1 s.1, s.2.2) else (2, 0, s)) else (1, 0, s)
def sPass (n : Int32) (s : ST) : RS := if inR n 1 200 then (0, nI (ticksN (nv n) s.1), ticksA (nv n) s.1, pushH s.2.1 s.1, s.2.2) else (1, 0, s)
def sAppend (c : Int32) (s : ST) : RS := if inR c 33 126 then (if s.2.2.length = 60 then (2, 0, s) else (0, nI (s.2.2.length + 1), s.1, s.2.1, s.2.2 ++ [nv c])) else (1, 0, s)
def sClear (s : ST) : RS := (0, nI s.2.2.length, s.1, s.2.1, [])
def sError (s : ST) : RS := (0, nI (rdAll s.2.2).2.1, s)
def rowR (r : List Nat) (t : Rw) : Rw := fun k => if k = 0 then r.length else if k = 1 then 0 else if 12 ≤ k ∧ k < 32 then r.getD (k - 12) 0 else t k
def sDelays (v : Int32) (s : ST) : RS := if inR v 0 3 then (if (rdAll s.2.2).1 = true then (0, nI (s.1.2.2 (nv v) 0), (s.1.1, s.1.2.1, sT s.1.2.2 (nv v) (rowR (rdAll s.2.2).2.2 (s.1.2.2 (nv v)))), pushH s.2.1 s.1, []) else (2, 0, s)) else (1, 0, s)
def sUndo (s : ST) : RS := match s.2.1.getLast? with
  | none => (1, 0, s)
  | some x => (0, nI (s.2.1.length - 1), x, s.2.1.dropLast, s.2.2)
def sStore (v w : Int32) (s : ST) : RS := if inR v 0 3 then (if inR w 0 10 then (0, nI (tellN s.1 (nv v) (nv w)), s) else (2, 0, s)) else (1, 0, s)
def sDelay (v p : Int32) (s : ST) : RS := if inR v 0 3 then (if nI 0 ≤ p then (0, (if nv p < s.1.2.2 (nv v) 0 then nI (s.1.2.2 (nv v) (12 + nv p)) else -1), s) else (2, 0, s)) else (1, 0, s)
def sOnWay (p w : Int32) (s : ST) : RS := if nI 0 ≤ p ∧ inR w 0 3 then (0, (match s.1.2.1[nv p]? with
  | some c => nI (c (nv w))
  | none => -1), s) else (1, 0, s)
def sCount (w : Int32) (s : ST) : RS := if inR w 0 8 then (0, nI (cntN s.1 s.2.1.length (nv w)), s) else (1, 0, s)
def sSetting (i : Int32) (s : ST) : RS := if inR i 0 4 then (0, nI (s.1.1 (nv i)), s) else (1, 0, s)
def sIf (v n t w : Int32) (s : ST) : RS := if inR v 0 3 then (if inR n 1 50 ∧ inR t 0 50 ∧ inR w 0 3 then (0, wouldI s.1 (nv v) (nv n) (nv t) (nv w), s) else (2, 0, s)) else (1, 0, s)
def sFree (v : Int32) (s : ST) : RS := if inR v 0 3 then (0, untilI s.1 (nv v), s) else (1, 0, s)
def sHealthiest (s : ST) : RS := (0, oI (bestN s.1 4), s)
/-- the reference holds a state -/
def MS (I : Nat → Nat → Int32) (s : ST) : Prop := RM (I 141) s.1 ∧ RH I s.2.1 ∧ RB I s.2.2
def FrM (I I' : Nat → Nat → Int32) : Prop := ∀ q, (q < 140 ∨ 145 < q) → I' q = I q
def MP (K : Nat → Option (Nat × Nat)) (R : Nat → Nat → Value) (J : Nat → Nat → Int64) (z : Nat) (I : Nat → Nat → Int32) (x : RS) : RT → Sg → Prop :=
  Up K R J z (some (.int x.2.1)) (fun I' => MS I' x.2.2 ∧ I' 140 0 = nI x.1 ∧ FrM I I')
theorem RH.fr {I I' : Nat → Nat → Int32} {hs : List AA} (h : RH I hs) (h1 : I' 143 = I 143) (h2 : I' 140 4 = I 140 4) : RH I' hs := ⟨by rw [h2]; exact h.1, h.2.1, fun i x hx => by rw [h1]; exact h.2.2 i x hx⟩
theorem RB.fr2 {I I' : Nat → Nat → Int32} {B : List Nat} (h : RB I B) (h1 : I' 144 = I 144) (h2 : I' 140 6 = I 140 6) : RB I' B := ⟨by rw [h2]; exact h.1, h.2.1, fun i x hx => by rw [h1]; exact h.2.2 i x hx⟩
theorem MS.fr {I I' : Nat → Nat → Int32} {s : ST} (h : MS I s) (h1 : ∀ q, q ≠ 140 → q ≠ 145 → q ≠ 142 → I' q = I q) (h2 : ∀ j, j = 4 ∨ j = 6 → I' 140 j = I 140 j) : MS I' s :=
  ⟨by rw [h1 141 (by decide) (by decide) (by decide)]; exact h.1, h.2.1.fr (h1 143 (by decide) (by decide) (by decide)) (h2 4 (Or.inl rfl)), h.2.2.fr2 (h1 144 (by decide) (by decide) (by decide)) (h2 6 (Or.inr rfl))⟩
theorem MS.th {I : Nat → Nat → Int32} {s : ST} {x : Int32} (h : MS I s) : MS (up2 I 140 0 x) s := h.fr (fun q h1 _ _ => FrO.up q h1) (fun j hj => by rw [up2_o, if_neg (by omega)])
theorem FrM.th {I : Nat → Nat → Int32} {j : Nat} {x : Int32} : FrM I (up2 I 140 j x) := fun q hq => FrO.up q (by omega)
theorem FrM.tr {I I' I'' : Nat → Nat → Int32} (h : FrM I I') (h' : FrM I' I'') : FrM I I'' := fun q hq => (h' q hq).trans (h q hq)
theorem FrM.o {I I' : Nat → Nat → Int32} {o : Nat} (h : FrO o I I') (h1 : 140 ≤ o) (h2 : o ≤ 145) : FrM I I' := fun q hq => h q (by omega)
theorem FrM.rf {I : Nat → Nat → Int32} : FrM I I := fun _ _ => rfl
/-- a state is kept, and then another one is laid -/
theorem MS.sv {I I1 I2 : Nat → Nat → Int32} {a a' : AA} {hs hs' : List AA} {B : List Nat} (hS : MS I (a, hs, B)) (h1 : RH I1 hs' ∧ (∀ q, q ≠ 143 → q ≠ 140 → I1 q = (up2 I 140 0 (nI 0)) q) ∧ ∀ j, j ≠ 4 → I1 140 j = (up2 I 140 0 (nI 0)) 140 j) (h2 : RM (I2 141) a' ∧ FrO 141 I1 I2) : MS I2 (a', hs', B) ∧ I2 140 0 = nI 0 ∧ FrM I I2 := by
  refine ⟨⟨h2.1, h1.1.fr (h2.2 143 (by decide)) (by rw [h2.2 140 (by decide)]), (hS.2.2.fr2 (I' := I2) ?_ ?_)⟩, ?_, fun q hq => ?_⟩
  · rw [h2.2 144 (by decide), h1.2.1 144 (by decide) (by decide), FrO.up 144 (by decide)]
  · rw [h2.2 140 (by decide), h1.2.2 6 (by decide), up2_o, if_neg (by decide)]
  · rw [h2.2 140 (by decide), h1.2.2 0 (by decide), up2_o, if_pos rfl]
  · rw [h2.2 q (by omega), h1.2.1 q (by omega) (by omega), FrO.up q (by omega)]
/-- the words of the store's row are laid, one after another -/
theorem sT_id {T : Nat → Rw} {st : Nat} : sT T st (T st) = T := by
  funext s; unfold sT; split
  · next e => rw [e]
  · rfl
section MODEL13
variable {G : GG} {K : Nat → Option (Nat × Nat)} {R : Nat → Nat → Value} {I : Nat → Nat → Int32} {J : Nat → Nat → Int64} {z : Nat} {σ : Sg} {a : AA} {hs : List AA} {B : List Nat} {m k : Nat}
theorem in1 {v : Int32} {l h : Nat} (hv : inR v l h) : Run G YX4_in [.int v, .int (nI l), .int (nI h)] σ (Rd σ (.int (nI 1))) := by
  have := r_in (G := G) (σ := σ) v (nI l) (nI h)
  rwa [if_pos hv] at this
theorem in0 {v : Int32} {l h : Nat} (hv : ¬ inR v l h) : Run G YX4_in [.int v, .int (nI l), .int (nI h)] σ (Rd σ (.int (nI 0))) := by
  have := r_in (G := G) (σ := σ) v (nI l) (nI h)
  rwa [if_neg hv] at this
theorem isS1 {v : Int32} (hv : inR v 0 3) : Run G YX4_isStore [.int v] σ (Rd σ (.int (nI 1))) := by
  have := r_isStore (G := G) (σ := σ) v
  rwa [if_pos hv] at this
theorem isS0 {v : Int32} (hv : ¬ inR v 0 3) : Run G YX4_isStore [.int v] σ (Rd σ (.int (nI 0))) := by
  have := r_isStore (G := G) (σ := σ) v
  rwa [if_neg hv] at this
theorem isG1 {i : Nat} {v : Int32} (hi : i ≤ 4) (hv : inR v (setLo i) (setHi i)) : Run G YX4_isSetting [.int (nI i), .int v] σ (Rd σ (.int (nI 1))) := by
  have := r_isSetting (G := G) (σ := σ) hi v
  rwa [if_pos hv] at this
theorem isG0 {i : Nat} {v : Int32} (hi : i ≤ 4) (hv : ¬ inR v (setLo i) (setHi i)) : Run G YX4_isSetting [.int (nI i), .int v] σ (Rd σ (.int (nI 0))) := by
  have := r_isSetting (G := G) (σ := σ) hi v
  rwa [if_neg hv] at this
theorem r_bestv {o : Option Nat} {x : Int32} (hL : LM G K R) (hM : RM (I 141) a) (hI : IV m k a) (ho : bestN a 4 = o) (hx : oI o = x) : Run G YX4_bestStore [.ref (G.1 140)] (K, R, I, J, z) (Rd (K, R, I, J, z) (.int x)) := by
  subst ho hx; exact r_bestStore hL hM hI
theorem MS.wd {I' : Nat → Nat → Int32} (hS : MS I (a, hs, B)) (h : RM (I' 141) a ∧ FrW (up2 I 140 0 (nI 0)) I') : MS I' (a, hs, B) ∧ I' 140 0 = nI 0 ∧ FrM I I' := by
  refine ⟨⟨h.1, hS.2.1.fr (by rw [h.2 143 (by decide) (by decide), FrO.up 143 (by decide)]) (by rw [h.2 140 (by decide) (by decide), up2_o, if_neg (by decide)]), hS.2.2.fr2 (by rw [h.2 144 (by decide) (by decide), FrO.up 144 (by decide)]) (by rw [h.2 140 (by decide) (by decide), up2_o, if_neg (by decide)])⟩, by rw [h.2 140 (by decide) (by decide), up2_o, if_pos rfl], fun q hq => ?_⟩
  rw [h.2 q (by omega) (by omega), FrO.up q (by omega)]
theorem failS {I' : Nat → Nat → Int32} {s : ST} {c : Int32} (hS : MS I s) (h : I' = up2 (up2 I 140 0 (nI 0)) 140 0 c) : MS I' s ∧ I' 140 0 = c ∧ FrM I I' := by
  subst h
  exact ⟨hS.th.th, by rw [up2_o, if_pos rfl], FrM.th.tr FrM.th⟩
theorem M_call (hL : LM G K R) (hS : MS I (a, hs, B)) (hI : IV m k a) (hl1 : L1 a) (hmk : m + k ≤ 900000000) (v : Int32) : Run G YX4_call [.ref (G.1 140), .int v] (K, R, I, J, z) (MP K R J z I (sCall v (a, hs, B))) := by
  obtain ⟨hk0, hr1, hk1, hr2, hk2, hr3, hk3, hr5, hk5, hr9, hk9⟩ := hL
  have hL : LM G K R := ⟨hk0, hr1, hk1, hr2, hk2, hr3, hk3, hr5, hk5, hr9, hk9⟩
  have h16 := hI.2.1
  have hS0 := hS.th (x := nI 0)
  have hM0 : RM (up2 I 140 0 (nI 0) 141) a := hS0.1
  have hH0 : RH (up2 I 140 0 (nI 0)) hs := hS0.2.1
  have hB0 : RB (up2 I 140 0 (nI 0)) B := hS0.2.2
  have hn9 : up2 I 140 0 (nI 0) 141 9 = nI a.2.1.length := hS0.1.2.1
  have hC : ∀ c ∈ a.2.1, c 0 < 4 ∧ c 3 ≤ 1 := fun c hc => ⟨(hI.2.2.1 c hc).1, (hI.2.2.1 c hc).2.2.2.2.1⟩

  by_cases hv : inR v 0 3
  rotate_left
  · have hx : sCall v (a, hs, B) = (1, 0, (a, hs, B)) := by unfold sCall; rw [if_neg hv]
    rw [hx]
    refine run_of (ls := [(0, .ref (G.1 140)), (1, .int v)]) (by decide +kernel) rfl rfl (Nat.le_of_ble_eq_true rfl) ?_
    refine aw_aload_n dX4_call_0 rfl ?_
    refine aw_iconst (v := nI 0) dX4_call_1 rfl ?_
    refine aw_putI dX4_call_2 flX4_25 rfl (by intro r hr; cases hr; rfl) (by assumption) (by omega) rfl rfl ?_
    refine aw_iload_n dX4_call_5 rfl ?_
    refine aw_sRd dX4_call_6 cvX4_90 ⟨Nat.le_of_ble_eq_true rfl, Nat.le_of_ble_eq_true rfl⟩ (isS0 hv) rfl rfl (Nat.le_of_ble_eq_true rfl) ⟨rfl, rfl⟩ ⟨Nat.zero_le _, Nat.zero_le _⟩ ?_
    refine aw_if_neN (tgt := 18) dX4_call_9 (by decide) (by omega) (fun hc9 => absurd rfl hc9) (fun hc9 => ?_)
    refine aw_aload_n dX4_call_12 rfl ?_
    refine aw_iconst (v := nI 1) dX4_call_13 rfl ?_
    refine aw_vUp dX4_call_14 cvX4_93 ⟨Nat.le_of_ble_eq_true rfl, Nat.le_of_ble_eq_true rfl⟩ (by assumption) ⟨_, rfl, rfl⟩ (r_fails hL (nI 1)) rfl rfl (Nat.le_of_ble_eq_true rfl) ⟨rfl, rfl⟩ ⟨Nat.zero_le _, Nat.zero_le _⟩ (fun I14 hP14 => ?_)
    exact aw_iret dX4_call_17 rfl (Nat.zero_le _) (Nat.zero_le _) ⟨rfl, _, rfl, failS hS hP14⟩
  obtain ⟨hv1, -, hv3⟩ := inR_nat hv (by decide) (by decide)
  have hst : nv v < 4 := by omega
  have ht := (hI.2.2.2.2.1 _ hst).up hI.b
  have hb1 := b2_le (refd a (nv v))
  have hx : sCall v (a, hs, B) = if a.2.1.length = 16 ∧ refd a (nv v) = false then (2, 0, (a, hs, B)) else (0, nI (callN a (nv v)), callA a (nv v), pushH hs a, B) := by unfold sCall; rw [if_pos hv]
  rw [hx]
  clear hx
  obtain ⟨st, hst'⟩ : ∃ st, st = nv v := ⟨_, rfl⟩
  rw [← hst'] at hv1 hv3 hst ht hb1 ⊢
  subst hv1
  have key : (refd a st = true ∨ a.2.1.length < 16) → AW G YX4_call (MZ G YX4_call (MP K R J z I (if a.2.1.length = 16 ∧ refd a st = false then (2, 0, (a, hs, B)) else (0, nI (callN a st), callA a st, pushH hs a, B)))) 44 [(0, .ref (G.1 140)), (1, .int (nI st))] [] (K, R, up2 I 140 0 (nI 0), J, z) 0 0 := by
    intro hroom
    have hgo : ¬ (a.2.1.length = 16 ∧ refd a st = false) := fun q => by
      rcases hroom with w | w
      · rw [q.2] at w; cases w
      · omega
    rw [if_neg hgo]
    refine aw_aload_n dX4_call_44 rfl ?_
    refine aw_vUp0 dX4_call_45 cvX4_96 ⟨Nat.le_of_ble_eq_true rfl, Nat.le_of_ble_eq_true rfl⟩ (by assumption) ⟨_, rfl, rfl⟩ (r_saves hL hM0 h16 hH0) rfl rfl (Nat.le_of_ble_eq_true rfl) ⟨rfl, rfl⟩ ⟨Nat.zero_le _, Nat.zero_le _⟩ (fun I45 hP45 => ?_)
    refine aw_aload_n dX4_call_48 rfl ?_
    refine aw_iload_n dX4_call_49 rfl ?_
    refine aw_vUp dX4_call_50 cvX4_84 ⟨Nat.le_of_ble_eq_true rfl, Nat.le_of_ble_eq_true rfl⟩ (by assumption) ⟨_, rfl, rfl⟩ (r_calls (b := m + k) (a := a) hL (by rw [hP45.2.1 141 (by decide) (by decide)]; exact hS0.1) hst hI.1 h16 hroom hC ht (by omega)) rfl rfl (Nat.le_of_ble_eq_true rfl) ⟨rfl, rfl⟩ ⟨Nat.zero_le _, Nat.zero_le _⟩ (fun I50 hP50 => ?_)
    exact aw_iret dX4_call_53 rfl (Nat.zero_le _) (Nat.zero_le _) ⟨rfl, _, rfl, hS.sv hP45 hP50⟩
  refine run_of (ls := [(0, .ref (G.1 140)), (1, .int (nI st))]) (by decide +kernel) rfl rfl (Nat.le_of_ble_eq_true rfl) ?_
  refine aw_aload_n dX4_call_0 rfl ?_
  refine aw_iconst (v := nI 0) dX4_call_1 rfl ?_
  refine aw_putI dX4_call_2 flX4_25 rfl (by intro r hr; cases hr; rfl) (by assumption) (by omega) rfl rfl ?_
  refine aw_iload_n dX4_call_5 rfl ?_
  refine aw_sRd dX4_call_6 cvX4_90 ⟨Nat.le_of_ble_eq_true rfl, Nat.le_of_ble_eq_true rfl⟩ (isS1 hv) rfl rfl (Nat.le_of_ble_eq_true rfl) ⟨rfl, rfl⟩ ⟨Nat.zero_le _, Nat.zero_le _⟩ ?_
  refine aw_if_neN (tgt := 18) dX4_call_9 (by decide) (by omega) (fun hc9 => ?_) (fun hc9 => absurd hc9 (by decide))
  refine aw_aload_n dX4_call_18 rfl ?_
  refine aw_getR dX4_call_19 flX4_7 rfl (by assumption) (by assumption) ?_
  refine aw_bipush (v := nI 9) dX4_call_22 rfl ?_
  refine aw_iald dX4_call_24 (by assumption) (by omega) rfl (by omega) hn9 ?_
  refine aw_bipush (v := nI 16) dX4_call_25 rfl ?_
  refine aw_icmp_neN (tgt := 44) dX4_call_27 (by decide) (by omega) (by omega) (fun hc27 => ?_) (fun hc27 => ?_)
  · exact aw_pick [0, 1] rfl (key (by first | exact Or.inl (b2_1 hc35) | exact Or.inr (by omega)))
  · refine aw_aload_n dX4_call_30 rfl ?_
    refine aw_iload_n dX4_call_31 rfl ?_
    refine aw_vRd dX4_call_32 cvX4_70 ⟨Nat.le_of_ble_eq_true rfl, Nat.le_of_ble_eq_true rfl⟩ (by assumption) ⟨_, rfl, rfl⟩ (r_isRefused hL hM0 hst h16 hC ht) rfl rfl (Nat.le_of_ble_eq_true rfl) ⟨rfl, rfl⟩ ⟨Nat.zero_le _, Nat.zero_le _⟩ ?_
    refine aw_if_neN (tgt := 44) dX4_call_35 (by decide) (by omega) (fun hc35 => ?_) (fun hc35 => ?_)
    · exact aw_pick [0, 1] rfl (key (by first | exact Or.inl (b2_1 hc35) | exact Or.inr (by omega)))
    · refine aw_aload_n dX4_call_38 rfl ?_
      refine aw_iconst (v := nI 2) dX4_call_39 rfl ?_
      refine aw_vUp dX4_call_40 cvX4_93 ⟨Nat.le_of_ble_eq_true rfl, Nat.le_of_ble_eq_true rfl⟩ (by assumption) ⟨_, rfl, rfl⟩ (r_fails hL (nI 2)) rfl rfl (Nat.le_of_ble_eq_true rfl) ⟨rfl, rfl⟩ ⟨Nat.zero_le _, Nat.zero_le _⟩ (fun I40 hP40 => ?_)
      refine aw_iret dX4_call_43 rfl (Nat.zero_le _) (Nat.zero_le _) ?_
      rw [if_pos ⟨hc27, b2_0.mp hc35⟩]
      exact ⟨rfl, _, rfl, failS hS hP40⟩
theorem M_callOften (hL : LM G K R) (hS : MS I (a, hs, B)) (hI : IV m k a) (hl1 : L1 a) (hmk : m + k ≤ 900000000) (v : Int32) (n : Int32) (t : Int32) : Run G YX4_callOften [.ref (G.1 140), .int v, .int n, .int t] (K, R, I, J, z) (MP K R J z I (sOften v n t (a, hs, B))) := by
  obtain ⟨hk0, hr1, hk1, hr2, hk2, hr3, hk3, hr5, hk5, hr9, hk9⟩ := hL
  have hL : LM G K R := ⟨hk0, hr1, hk1, hr2, hk2, hr3, hk3, hr5, hk5, hr9, hk9⟩
  have h16 := hI.2.1
  have hS0 := hS.th (x := nI 0)
  have hM0 : RM (up2 I 140 0 (nI 0) 141) a := hS0.1
  have hH0 : RH (up2 I 140 0 (nI 0)) hs := hS0.2.1
  have hB0 : RB (up2 I 140 0 (nI 0)) B := hS0.2.2
  have hn9 : up2 I 140 0 (nI 0) 141 9 = nI a.2.1.length := hS0.1.2.1
  have hC : ∀ c ∈ a.2.1, c 0 < 4 ∧ c 3 ≤ 1 := fun c hc => ⟨(hI.2.2.1 c hc).1, (hI.2.2.1 c hc).2.2.2.2.1⟩

  by_cases hv : inR v 0 3
  rotate_left
  · have hx : sOften v n t (a, hs, B) = (1, 0, (a, hs, B)) := by unfold sOften; rw [if_neg hv]
    rw [hx]
    refine run_of (ls := [(0, .ref (G.1 140)), (1, .int v), (2, .int n), (3, .int t)]) (by decide +kernel) rfl rfl (Nat.le_of_ble_eq_true rfl) ?_
    refine aw_aload_n dX4_callOften_0 rfl ?_
    refine aw_iconst (v := nI 0) dX4_callOften_1 rfl ?_
    refine aw_putI dX4_callOften_2 flX4_25 rfl (by intro r hr; cases hr; rfl) (by assumption) (by omega) rfl rfl ?_
    refine aw_iload_n dX4_callOften_5 rfl ?_
    refine aw_sRd dX4_callOften_6 cvX4_90 ⟨Nat.le_of_ble_eq_true rfl, Nat.le_of_ble_eq_true rfl⟩ (isS0 hv) rfl rfl (Nat.le_of_ble_eq_true rfl) ⟨rfl, rfl⟩ ⟨Nat.zero_le _, Nat.zero_le _⟩ ?_
    refine aw_if_neN (tgt := 18) dX4_callOften_9 (by decide) (by omega) (fun hc9 => absurd rfl hc9) (fun hc9 => ?_)
    refine aw_aload_n dX4_callOften_12 rfl ?_
    refine aw_iconst (v := nI 1) dX4_callOften_13 rfl ?_
    refine aw_vUp dX4_callOften_14 cvX4_93 ⟨Nat.le_of_ble_eq_true rfl, Nat.le_of_ble_eq_true rfl⟩ (by assumption) ⟨_, rfl, rfl⟩ (r_fails hL (nI 1)) rfl rfl (Nat.le_of_ble_eq_true rfl) ⟨rfl, rfl⟩ ⟨Nat.zero_le _, Nat.zero_le _⟩ (fun I14 hP14 => ?_)
    exact aw_iret dX4_callOften_17 rfl (Nat.zero_le _) (Nat.zero_le _) ⟨rfl, _, rfl, failS hS hP14⟩
  obtain ⟨hv1, -, hv3⟩ := inR_nat hv (by decide) (by decide)
  have hst : nv v < 4 := by omega
  have ht := (hI.2.2.2.2.1 _ hst).up hI.b
  by_cases hnt : inR n 1 50 ∧ inR t 0 50
  · have hx : sOften v n t (a, hs, B) = (0, nI (oftenN (nv v) (nv t) (nv n) a), oftenA (nv v) (nv t) (nv n) a, pushH hs a, B) := by unfold sOften; rw [if_pos hv, if_pos hnt]
    rw [hx]
    clear hx
    obtain ⟨hn1, hn2, hn3⟩ := inR_nat hnt.1 (by decide) (by decide)
    obtain ⟨ht1, -, ht3⟩ := inR_nat hnt.2 (by decide) (by decide)
    obtain ⟨st, hst'⟩ : ∃ st, st = nv v := ⟨_, rfl⟩
    obtain ⟨nn, hnn'⟩ : ∃ st, st = nv n := ⟨_, rfl⟩
    obtain ⟨tt, htt'⟩ : ∃ st, st = nv t := ⟨_, rfl⟩
    rw [← hst'] at hv1 hv3 hst ht ⊢
    rw [← hnn'] at hn1 hn2 hn3 ⊢
    rw [← htt'] at ht1 ht3 ⊢
    subst hv1 hn1 ht1
    refine run_of (ls := [(0, .ref (G.1 140)), (1, .int (nI st)), (2, .int (nI nn)), (3, .int (nI tt))]) (by decide +kernel) rfl rfl (Nat.le_of_ble_eq_true rfl) ?_
    refine aw_aload_n dX4_callOften_0 rfl ?_
    refine aw_iconst (v := nI 0) dX4_callOften_1 rfl ?_
    refine aw_putI dX4_callOften_2 flX4_25 rfl (by intro r hr; cases hr; rfl) (by assumption) (by omega) rfl rfl ?_
    refine aw_iload_n dX4_callOften_5 rfl ?_
    refine aw_sRd dX4_callOften_6 cvX4_90 ⟨Nat.le_of_ble_eq_true rfl, Nat.le_of_ble_eq_true rfl⟩ (isS1 hv) rfl rfl (Nat.le_of_ble_eq_true rfl) ⟨rfl, rfl⟩ ⟨Nat.zero_le _, Nat.zero_le _⟩ ?_
    refine aw_if_neN (tgt := 18) dX4_callOften_9 (by decide) (by omega) (fun hc9 => ?_) (fun hc9 => absurd hc9 (by decide))
    refine aw_iload_n dX4_callOften_18 rfl ?_
    refine aw_iconst (v := nI 1) dX4_callOften_19 rfl ?_
    refine aw_bipush (v := nI 50) dX4_callOften_20 rfl ?_
    refine aw_sRd dX4_callOften_22 cvX4_33 ⟨Nat.le_of_ble_eq_true rfl, Nat.le_of_ble_eq_true rfl⟩ (in1 hnt.1) rfl rfl (Nat.le_of_ble_eq_true rfl) ⟨rfl, rfl⟩ ⟨Nat.zero_le _, Nat.zero_le _⟩ ?_
    refine aw_if_eqN (tgt := 38) dX4_callOften_25 (by decide) (by omega) (fun hc25 => absurd hc25 (by decide)) (fun hc25 => ?_)
    refine aw_iload_n dX4_callOften_28 rfl ?_
    refine aw_iconst (v := nI 0) dX4_callOften_29 rfl ?_
    refine aw_bipush (v := nI 50) dX4_callOften_30 rfl ?_
    refine aw_sRd dX4_callOften_32 cvX4_33 ⟨Nat.le_of_ble_eq_true rfl, Nat.le_of_ble_eq_true rfl⟩ (in1 hnt.2) rfl rfl (Nat.le_of_ble_eq_true rfl) ⟨rfl, rfl⟩ ⟨Nat.zero_le _, Nat.zero_le _⟩ ?_
    refine aw_if_neN (tgt := 44) dX4_callOften_35 (by decide) (by omega) (fun hc35 => ?_) (fun hc35 => absurd hc35 (by decide))
    refine aw_aload_n dX4_callOften_44 rfl ?_
    refine aw_vUp0 dX4_callOften_45 cvX4_96 ⟨Nat.le_of_ble_eq_true rfl, Nat.le_of_ble_eq_true rfl⟩ (by assumption) ⟨_, rfl, rfl⟩ (r_saves hL hM0 h16 hH0) rfl rfl (Nat.le_of_ble_eq_true rfl) ⟨rfl, rfl⟩ ⟨Nat.zero_le _, Nat.zero_le _⟩ (fun I45 hP45 => ?_)
    refine aw_aload_n dX4_callOften_48 rfl ?_
    refine aw_iload_n dX4_callOften_49 rfl ?_
    refine aw_iload_n dX4_callOften_50 rfl ?_
    refine aw_iload_n dX4_callOften_51 rfl ?_
    refine aw_vUp dX4_callOften_52 cvX4_99 ⟨Nat.le_of_ble_eq_true rfl, Nat.le_of_ble_eq_true rfl⟩ (by assumption) ⟨_, rfl, rfl⟩ (r_callsOften (a := a) (m := m) (k := k) hL hst (by omega) (by omega) (by rw [hP45.2.1 141 (by decide) (by decide)]; exact hM0) hI hl1 (by omega)) rfl rfl (Nat.le_of_ble_eq_true rfl) ⟨rfl, rfl⟩ ⟨Nat.zero_le _, Nat.zero_le _⟩ (fun I52 hP52 => ?_)
    exact aw_iret dX4_callOften_55 rfl (Nat.zero_le _) (Nat.zero_le _) ⟨rfl, _, rfl, hS.sv hP45 hP52⟩
  · have hx : sOften v n t (a, hs, B) = (2, 0, (a, hs, B)) := by unfold sOften; rw [if_pos hv, if_neg hnt]
    rw [hx]
    clear hx
    by_cases hn : inR n 1 50
    · have htt : ¬ inR t 0 50 := fun q => hnt ⟨hn, q⟩
      refine run_of (ls := [(0, .ref (G.1 140)), (1, .int v), (2, .int n), (3, .int t)]) (by decide +kernel) rfl rfl (Nat.le_of_ble_eq_true rfl) ?_
      refine aw_aload_n dX4_callOften_0 rfl ?_
      refine aw_iconst (v := nI 0) dX4_callOften_1 rfl ?_
      refine aw_putI dX4_callOften_2 flX4_25 rfl (by intro r hr; cases hr; rfl) (by assumption) (by omega) rfl rfl ?_
      refine aw_iload_n dX4_callOften_5 rfl ?_
      refine aw_sRd dX4_callOften_6 cvX4_90 ⟨Nat.le_of_ble_eq_true rfl, Nat.le_of_ble_eq_true rfl⟩ (isS1 hv) rfl rfl (Nat.le_of_ble_eq_true rfl) ⟨rfl, rfl⟩ ⟨Nat.zero_le _, Nat.zero_le _⟩ ?_
      refine aw_if_neN (tgt := 18) dX4_callOften_9 (by decide) (by omega) (fun hc9 => ?_) (fun hc9 => absurd hc9 (by decide))
      refine aw_iload_n dX4_callOften_18 rfl ?_
      refine aw_iconst (v := nI 1) dX4_callOften_19 rfl ?_
      refine aw_bipush (v := nI 50) dX4_callOften_20 rfl ?_
      refine aw_sRd dX4_callOften_22 cvX4_33 ⟨Nat.le_of_ble_eq_true rfl, Nat.le_of_ble_eq_true rfl⟩ (in1 hn) rfl rfl (Nat.le_of_ble_eq_true rfl) ⟨rfl, rfl⟩ ⟨Nat.zero_le _, Nat.zero_le _⟩ ?_
      refine aw_if_eqN (tgt := 38) dX4_callOften_25 (by decide) (by omega) (fun hc25 => absurd hc25 (by decide)) (fun hc25 => ?_)
      refine aw_iload_n dX4_callOften_28 rfl ?_
      refine aw_iconst (v := nI 0) dX4_callOften_29 rfl ?_
      refine aw_bipush (v := nI 50) dX4_callOften_30 rfl ?_
      refine aw_sRd dX4_callOften_32 cvX4_33 ⟨Nat.le_of_ble_eq_true rfl, Nat.le_of_ble_eq_true rfl⟩ (in0 htt) rfl rfl (Nat.le_of_ble_eq_true rfl) ⟨rfl, rfl⟩ ⟨Nat.zero_le _, Nat.zero_le _⟩ ?_
      refine aw_if_neN (tgt := 44) dX4_callOften_35 (by decide) (by omega) (fun hc35 => absurd rfl hc35) (fun hc35 => ?_)
      refine aw_aload_n dX4_callOften_38 rfl ?_
      refine aw_iconst (v := nI 2) dX4_callOften_39 rfl ?_
      refine aw_vUp dX4_callOften_40 cvX4_93 ⟨Nat.le_of_ble_eq_true rfl, Nat.le_of_ble_eq_true rfl⟩ (by assumption) ⟨_, rfl, rfl⟩ (r_fails hL (nI 2)) rfl rfl (Nat.le_of_ble_eq_true rfl) ⟨rfl, rfl⟩ ⟨Nat.zero_le _, Nat.zero_le _⟩ (fun I40 hP40 => ?_)
      exact aw_iret dX4_callOften_43 rfl (Nat.zero_le _) (Nat.zero_le _) ⟨rfl, _, rfl, failS hS hP40⟩
    · skip
      refine run_of (ls := [(0, .ref (G.1 140)), (1, .int v), (2, .int n), (3, .int t)]) (by decide +kernel) rfl rfl (Nat.le_of_ble_eq_true rfl) ?_
      refine aw_aload_n dX4_callOften_0 rfl ?_
      refine aw_iconst (v := nI 0) dX4_callOften_1 rfl ?_
      refine aw_putI dX4_callOften_2 flX4_25 rfl (by intro r hr; cases hr; rfl) (by assumption) (by omega) rfl rfl ?_
      refine aw_iload_n dX4_callOften_5 rfl ?_
      refine aw_sRd dX4_callOften_6 cvX4_90 ⟨Nat.le_of_ble_eq_true rfl, Nat.le_of_ble_eq_true rfl⟩ (isS1 hv) rfl rfl (Nat.le_of_ble_eq_true rfl) ⟨rfl, rfl⟩ ⟨Nat.zero_le _, Nat.zero_le _⟩ ?_
      refine aw_if_neN (tgt := 18) dX4_callOften_9 (by decide) (by omega) (fun hc9 => ?_) (fun hc9 => absurd hc9 (by decide))
      refine aw_iload_n dX4_callOften_18 rfl ?_
      refine aw_iconst (v := nI 1) dX4_callOften_19 rfl ?_
      refine aw_bipush (v := nI 50) dX4_callOften_20 rfl ?_
      refine aw_sRd dX4_callOften_22 cvX4_33 ⟨Nat.le_of_ble_eq_true rfl, Nat.le_of_ble_eq_true rfl⟩ (in0 hn) rfl rfl (Nat.le_of_ble_eq_true rfl) ⟨rfl, rfl⟩ ⟨Nat.zero_le _, Nat.zero_le _⟩ ?_
      refine aw_if_eqN (tgt := 38) dX4_callOften_25 (by decide) (by omega) (fun hc25 => ?_) (fun hc25 => absurd rfl hc25)
      refine aw_aload_n dX4_callOften_38 rfl ?_
      refine aw_iconst (v := nI 2) dX4_callOften_39 rfl ?_
      refine aw_vUp dX4_callOften_40 cvX4_93 ⟨Nat.le_of_ble_eq_true rfl, Nat.le_of_ble_eq_true rfl⟩ (by assumption) ⟨_, rfl, rfl⟩ (r_fails hL (nI 2)) rfl rfl (Nat.le_of_ble_eq_true rfl) ⟨rfl, rfl⟩ ⟨Nat.zero_le _, Nat.zero_le _⟩ (fun I40 hP40 => ?_)
      exact aw_iret dX4_callOften_43 rfl (Nat.zero_le _) (Nat.zero_le _) ⟨rfl, _, rfl, failS hS hP40⟩
theorem M_callHealthiest (hL : LM G K R) (hS : MS I (a, hs, B)) (hI : IV m k a) (hl1 : L1 a) (hmk : m + k ≤ 900000000) : Run G YX4_callHealthiest [.ref (G.1 140)] (K, R, I, J, z) (MP K R J z I (sBest  (a, hs, B))) := by
  obtain ⟨hk0, hr1, hk1, hr2, hk2, hr3, hk3, hr5, hk5, hr9, hk9⟩ := hL
  have hL : LM G K R := ⟨hk0, hr1, hk1, hr2, hk2, hr3, hk3, hr5, hk5, hr9, hk9⟩
  have h16 := hI.2.1
  have hS0 := hS.th (x := nI 0)
  have hM0 : RM (up2 I 140 0 (nI 0) 141) a := hS0.1
  have hH0 : RH (up2 I 140 0 (nI 0)) hs := hS0.2.1
  have hB0 : RB (up2 I 140 0 (nI 0)) B := hS0.2.2
  have hn9 : up2 I 140 0 (nI 0) 141 9 = nI a.2.1.length := hS0.1.2.1
  have hC : ∀ c ∈ a.2.1, c 0 < 4 ∧ c 3 ≤ 1 := fun c hc => ⟨(hI.2.2.1 c hc).1, (hI.2.2.1 c hc).2.2.2.2.1⟩

  by_cases hf : a.2.1.length = 16
  · have hx : sBest (a, hs, B) = (1, 0, (a, hs, B)) := by unfold sBest; rw [if_pos hf]
    rw [hx]
    refine run_of (ls := [(0, .ref (G.1 140))]) (by decide +kernel) rfl rfl (Nat.le_of_ble_eq_true rfl) ?_
    refine aw_aload_n dX4_callHealthiest_0 rfl ?_
    refine aw_iconst (v := nI 0) dX4_callHealthiest_1 rfl ?_
    refine aw_putI dX4_callHealthiest_2 flX4_25 rfl (by intro r hr; cases hr; rfl) (by assumption) (by omega) rfl rfl ?_
    refine aw_aload_n dX4_callHealthiest_5 rfl ?_
    refine aw_getR dX4_callHealthiest_6 flX4_7 rfl (by assumption) (by assumption) ?_
    refine aw_bipush (v := nI 9) dX4_callHealthiest_9 rfl ?_
    refine aw_iald dX4_callHealthiest_11 (by assumption) (by omega) rfl (by omega) hn9 ?_
    refine aw_bipush (v := nI 16) dX4_callHealthiest_12 rfl ?_
    refine aw_icmp_neN (tgt := 23) dX4_callHealthiest_14 (by decide) (by omega) (by omega) (fun hc14 => absurd hf hc14) (fun hc14 => ?_)
    refine aw_aload_n dX4_callHealthiest_17 rfl ?_
    refine aw_iconst (v := nI 1) dX4_callHealthiest_18 rfl ?_
    refine aw_vUp dX4_callHealthiest_19 cvX4_93 ⟨Nat.le_of_ble_eq_true rfl, Nat.le_of_ble_eq_true rfl⟩ (by assumption) ⟨_, rfl, rfl⟩ (r_fails hL (nI 1)) rfl rfl (Nat.le_of_ble_eq_true rfl) ⟨rfl, rfl⟩ ⟨Nat.zero_le _, Nat.zero_le _⟩ (fun I19 hP19 => ?_)
    exact aw_iret dX4_callHealthiest_22 rfl (Nat.zero_le _) (Nat.zero_le _) ⟨rfl, _, rfl, failS hS hP19⟩
  · have hx : sBest (a, hs, B) = (match bestN a 4 with
      | none => (0, -1, a, pushH hs a, B)
      | some b => (0, nI b, callA a b, pushH hs a, B)) := by unfold sBest; rw [if_neg hf]
    rw [hx]
    rcases hb : bestN a 4 with _ | b
    · skip
      refine run_of (ls := [(0, .ref (G.1 140))]) (by decide +kernel) rfl rfl (Nat.le_of_ble_eq_true rfl) ?_
      refine aw_aload_n dX4_callHealthiest_0 rfl ?_
      refine aw_iconst (v := nI 0) dX4_callHealthiest_1 rfl ?_
      refine aw_putI dX4_callHealthiest_2 flX4_25 rfl (by intro r hr; cases hr; rfl) (by assumption) (by omega) rfl rfl ?_
      refine aw_aload_n dX4_callHealthiest_5 rfl ?_
      refine aw_getR dX4_callHealthiest_6 flX4_7 rfl (by assumption) (by assumption) ?_
      refine aw_bipush (v := nI 9) dX4_callHealthiest_9 rfl ?_
      refine aw_iald dX4_callHealthiest_11 (by assumption) (by omega) rfl (by omega) hn9 ?_
      refine aw_bipush (v := nI 16) dX4_callHealthiest_12 rfl ?_
      refine aw_icmp_neN (tgt := 23) dX4_callHealthiest_14 (by decide) (by omega) (by omega) (fun hc14 => ?_) (fun hc14 => absurd hc14 hf)
      refine aw_aload_n dX4_callHealthiest_23 rfl ?_
      refine aw_vUp0 dX4_callHealthiest_24 cvX4_96 ⟨Nat.le_of_ble_eq_true rfl, Nat.le_of_ble_eq_true rfl⟩ (by assumption) ⟨_, rfl, rfl⟩ (r_saves hL hM0 h16 hH0) rfl rfl (Nat.le_of_ble_eq_true rfl) ⟨rfl, rfl⟩ ⟨Nat.zero_le _, Nat.zero_le _⟩ (fun I24 hP24 => ?_)
      refine aw_aload_n dX4_callHealthiest_27 rfl ?_
      refine aw_vRd dX4_callHealthiest_28 cvX4_106 ⟨Nat.le_of_ble_eq_true rfl, Nat.le_of_ble_eq_true rfl⟩ (by assumption) ⟨_, rfl, rfl⟩ (r_bestv (a := a) hL (by rw [hP24.2.1 141 (by decide) (by decide)]; exact hM0) hI hb (x := -1) rfl) rfl rfl (Nat.le_of_ble_eq_true rfl) ⟨rfl, rfl⟩ ⟨Nat.zero_le _, Nat.zero_le _⟩ ?_
      refine aw_istore_n (ls' := [(1, _), (0, _)]) dX4_callHealthiest_31 (by decide) rfl ?_
      refine aw_iload_n dX4_callHealthiest_32 rfl ?_
      refine aw_iconst (v := (-1)) dX4_callHealthiest_33 rfl ?_
      refine aw_icmp_eq (tgt := 43) dX4_callHealthiest_34 (by decide) (fun hc34 => ?_) (fun hc34 => absurd rfl hc34)
      refine aw_iload_n dX4_callHealthiest_43 rfl ?_
      exact aw_iret dX4_callHealthiest_44 rfl (Nat.zero_le _) (Nat.zero_le _) ⟨rfl, _, rfl, hS.sv hP24 ⟨(by rw [hP24.2.1 141 (by decide) (by decide)]; exact hM0), FrO.rf⟩⟩
    · have hb2 := bestN_lt hb
      have ht := (hI.2.2.2.2.1 _ hb2.1).up hI.b
      refine run_of (ls := [(0, .ref (G.1 140))]) (by decide +kernel) rfl rfl (Nat.le_of_ble_eq_true rfl) ?_
      refine aw_aload_n dX4_callHealthiest_0 rfl ?_
      refine aw_iconst (v := nI 0) dX4_callHealthiest_1 rfl ?_
      refine aw_putI dX4_callHealthiest_2 flX4_25 rfl (by intro r hr; cases hr; rfl) (by assumption) (by omega) rfl rfl ?_
      refine aw_aload_n dX4_callHealthiest_5 rfl ?_
      refine aw_getR dX4_callHealthiest_6 flX4_7 rfl (by assumption) (by assumption) ?_
      refine aw_bipush (v := nI 9) dX4_callHealthiest_9 rfl ?_
      refine aw_iald dX4_callHealthiest_11 (by assumption) (by omega) rfl (by omega) hn9 ?_
      refine aw_bipush (v := nI 16) dX4_callHealthiest_12 rfl ?_
      refine aw_icmp_neN (tgt := 23) dX4_callHealthiest_14 (by decide) (by omega) (by omega) (fun hc14 => ?_) (fun hc14 => absurd hc14 hf)
      refine aw_aload_n dX4_callHealthiest_23 rfl ?_
      refine aw_vUp0 dX4_callHealthiest_24 cvX4_96 ⟨Nat.le_of_ble_eq_true rfl, Nat.le_of_ble_eq_true rfl⟩ (by assumption) ⟨_, rfl, rfl⟩ (r_saves hL hM0 h16 hH0) rfl rfl (Nat.le_of_ble_eq_true rfl) ⟨rfl, rfl⟩ ⟨Nat.zero_le _, Nat.zero_le _⟩ (fun I24 hP24 => ?_)
      refine aw_aload_n dX4_callHealthiest_27 rfl ?_
      refine aw_vRd dX4_callHealthiest_28 cvX4_106 ⟨Nat.le_of_ble_eq_true rfl, Nat.le_of_ble_eq_true rfl⟩ (by assumption) ⟨_, rfl, rfl⟩ (r_bestv (a := a) hL (by rw [hP24.2.1 141 (by decide) (by decide)]; exact hM0) hI hb (x := nI b) rfl) rfl rfl (Nat.le_of_ble_eq_true rfl) ⟨rfl, rfl⟩ ⟨Nat.zero_le _, Nat.zero_le _⟩ ?_
      refine aw_istore_n (ls' := [(1, _), (0, _)]) dX4_callHealthiest_31 (by decide) rfl ?_
      refine aw_iload_n dX4_callHealthiest_32 rfl ?_
      refine aw_iconst (v := (-1)) dX4_callHealthiest_33 rfl ?_
      refine aw_icmp_eq (tgt := 43) dX4_callHealthiest_34 (by decide) (fun hc34 => absurd hc34 (nI_m1 (by omega))) (fun hc34 => ?_)
      refine aw_aload_n dX4_callHealthiest_37 rfl ?_
      refine aw_iload_n dX4_callHealthiest_38 rfl ?_
      refine aw_vUp dX4_callHealthiest_39 cvX4_84 ⟨Nat.le_of_ble_eq_true rfl, Nat.le_of_ble_eq_true rfl⟩ (by assumption) ⟨_, rfl, rfl⟩ (r_calls (b := m + k) (a := a) hL (by rw [hP24.2.1 141 (by decide) (by decide)]; exact hM0) hb2.1 hI.1 h16 (Or.inr (by omega)) hC ht (by omega)) rfl rfl (Nat.le_of_ble_eq_true rfl) ⟨rfl, rfl⟩ ⟨Nat.zero_le _, Nat.zero_le _⟩ (fun I39 hP39 => ?_)
      refine aw_pop dX4_callHealthiest_42 rfl ?_
      refine aw_iload_n dX4_callHealthiest_43 rfl ?_
      exact aw_iret dX4_callHealthiest_44 rfl (Nat.zero_le _) (Nat.zero_le _) ⟨rfl, _, rfl, hS.sv hP24 hP39⟩
theorem M_pass (hL : LM G K R) (hS : MS I (a, hs, B)) (hI : IV m k a) (hl1 : L1 a) (hmk : m + k ≤ 900000000) (v : Int32) : Run G YX4_pass [.ref (G.1 140), .int v] (K, R, I, J, z) (MP K R J z I (sPass v (a, hs, B))) := by
  obtain ⟨hk0, hr1, hk1, hr2, hk2, hr3, hk3, hr5, hk5, hr9, hk9⟩ := hL
  have hL : LM G K R := ⟨hk0, hr1, hk1, hr2, hk2, hr3, hk3, hr5, hk5, hr9, hk9⟩
  have h16 := hI.2.1
  have hS0 := hS.th (x := nI 0)
  have hM0 : RM (up2 I 140 0 (nI 0) 141) a := hS0.1
  have hH0 : RH (up2 I 140 0 (nI 0)) hs := hS0.2.1
  have hB0 : RB (up2 I 140 0 (nI 0)) B := hS0.2.2
  have hn9 : up2 I 140 0 (nI 0) 141 9 = nI a.2.1.length := hS0.1.2.1
  have hC : ∀ c ∈ a.2.1, c 0 < 4 ∧ c 3 ≤ 1 := fun c hc => ⟨(hI.2.2.1 c hc).1, (hI.2.2.1 c hc).2.2.2.2.1⟩

  by_cases hv : inR v 1 200
  · have hx : sPass v (a, hs, B) = (0, nI (ticksN (nv v) a), ticksA (nv v) a, pushH hs a, B) := by unfold sPass; rw [if_pos hv]
    rw [hx]
    clear hx
    obtain ⟨hv1, -, hv3⟩ := inR_nat hv (by decide) (by decide)
    obtain ⟨n, hn'⟩ : ∃ st, st = nv v := ⟨_, rfl⟩
    rw [← hn'] at hv1 hv3 ⊢
    subst hv1
    refine run_of (ls := [(0, .ref (G.1 140)), (1, .int (nI n))]) (by decide +kernel) rfl rfl (Nat.le_of_ble_eq_true rfl) ?_
    refine aw_aload_n dX4_pass_0 rfl ?_
    refine aw_iconst (v := nI 0) dX4_pass_1 rfl ?_
    refine aw_putI dX4_pass_2 flX4_25 rfl (by intro r hr; cases hr; rfl) (by assumption) (by omega) rfl rfl ?_
    refine aw_iload_n dX4_pass_5 rfl ?_
    refine aw_iconst (v := nI 1) dX4_pass_6 rfl ?_
    refine aw_sipush (v := nI 200) dX4_pass_7 rfl ?_
    refine aw_sRd dX4_pass_10 cvX4_33 ⟨Nat.le_of_ble_eq_true rfl, Nat.le_of_ble_eq_true rfl⟩ (in1 hv) rfl rfl (Nat.le_of_ble_eq_true rfl) ⟨rfl, rfl⟩ ⟨Nat.zero_le _, Nat.zero_le _⟩ ?_
    refine aw_if_neN (tgt := 22) dX4_pass_13 (by decide) (by omega) (fun hc13 => ?_) (fun hc13 => absurd hc13 (by decide))
    refine aw_aload_n dX4_pass_22 rfl ?_
    refine aw_vUp0 dX4_pass_23 cvX4_96 ⟨Nat.le_of_ble_eq_true rfl, Nat.le_of_ble_eq_true rfl⟩ (by assumption) ⟨_, rfl, rfl⟩ (r_saves hL hM0 h16 hH0) rfl rfl (Nat.le_of_ble_eq_true rfl) ⟨rfl, rfl⟩ ⟨Nat.zero_le _, Nat.zero_le _⟩ (fun I23 hP23 => ?_)
    refine aw_aload_n dX4_pass_26 rfl ?_
    refine aw_iload_n dX4_pass_27 rfl ?_
    refine aw_vUp dX4_pass_28 cvX4_87 ⟨Nat.le_of_ble_eq_true rfl, Nat.le_of_ble_eq_true rfl⟩ (by assumption) ⟨_, rfl, rfl⟩ (r_ticks (a := a) hL (by omega) (by rw [hP23.2.1 141 (by decide) (by decide)]; exact hM0) hI hl1 (by omega)) rfl rfl (Nat.le_of_ble_eq_true rfl) ⟨rfl, rfl⟩ ⟨Nat.zero_le _, Nat.zero_le _⟩ (fun I28 hP28 => ?_)
    exact aw_iret dX4_pass_31 rfl (Nat.zero_le _) (Nat.zero_le _) ⟨rfl, _, rfl, hS.sv hP23 hP28⟩
  · have hx : sPass v (a, hs, B) = (1, 0, (a, hs, B)) := by unfold sPass; rw [if_neg hv]
    rw [hx]
    refine run_of (ls := [(0, .ref (G.1 140)), (1, .int v)]) (by decide +kernel) rfl rfl (Nat.le_of_ble_eq_true rfl) ?_
    refine aw_aload_n dX4_pass_0 rfl ?_
    refine aw_iconst (v := nI 0) dX4_pass_1 rfl ?_
    refine aw_putI dX4_pass_2 flX4_25 rfl (by intro r hr; cases hr; rfl) (by assumption) (by omega) rfl rfl ?_
    refine aw_iload_n dX4_pass_5 rfl ?_
    refine aw_iconst (v := nI 1) dX4_pass_6 rfl ?_
    refine aw_sipush (v := nI 200) dX4_pass_7 rfl ?_
    refine aw_sRd dX4_pass_10 cvX4_33 ⟨Nat.le_of_ble_eq_true rfl, Nat.le_of_ble_eq_true rfl⟩ (in0 hv) rfl rfl (Nat.le_of_ble_eq_true rfl) ⟨rfl, rfl⟩ ⟨Nat.zero_le _, Nat.zero_le _⟩ ?_
    refine aw_if_neN (tgt := 22) dX4_pass_13 (by decide) (by omega) (fun hc13 => absurd rfl hc13) (fun hc13 => ?_)
    refine aw_aload_n dX4_pass_16 rfl ?_
    refine aw_iconst (v := nI 1) dX4_pass_17 rfl ?_
    refine aw_vUp dX4_pass_18 cvX4_93 ⟨Nat.le_of_ble_eq_true rfl, Nat.le_of_ble_eq_true rfl⟩ (by assumption) ⟨_, rfl, rfl⟩ (r_fails hL (nI 1)) rfl rfl (Nat.le_of_ble_eq_true rfl) ⟨rfl, rfl⟩ ⟨Nat.zero_le _, Nat.zero_le _⟩ (fun I18 hP18 => ?_)
    exact aw_iret dX4_pass_21 rfl (Nat.zero_le _) (Nat.zero_le _) ⟨rfl, _, rfl, failS hS hP18⟩
theorem M_append (hL : LM G K R) (hS : MS I (a, hs, B)) (hI : IV m k a) (hl1 : L1 a) (hmk : m + k ≤ 900000000) (v : Int32) : Run G YX4_append [.ref (G.1 140), .int v] (K, R, I, J, z) (MP K R J z I (sAppend v (a, hs, B))) := by
  obtain ⟨hk0, hr1, hk1, hr2, hk2, hr3, hk3, hr5, hk5, hr9, hk9⟩ := hL
  have hL : LM G K R := ⟨hk0, hr1, hk1, hr2, hk2, hr3, hk3, hr5, hk5, hr9, hk9⟩
  have h16 := hI.2.1
  have hS0 := hS.th (x := nI 0)
  have hM0 : RM (up2 I 140 0 (nI 0) 141) a := hS0.1
  have hH0 : RH (up2 I 140 0 (nI 0)) hs := hS0.2.1
  have hB0 : RB (up2 I 140 0 (nI 0)) B := hS0.2.2
  have hn9 : up2 I 140 0 (nI 0) 141 9 = nI a.2.1.length := hS0.1.2.1
  have hC : ∀ c ∈ a.2.1, c 0 < 4 ∧ c 3 ≤ 1 := fun c hc => ⟨(hI.2.2.1 c hc).1, (hI.2.2.1 c hc).2.2.2.2.1⟩
  have hB6 : up2 I 140 0 (nI 0) 140 6 = nI B.length := hB0.1
  have hB60 := hB0.2.1

  by_cases hv : inR v 33 126
  · by_cases hf : B.length = 60
    · have hx : sAppend v (a, hs, B) = (2, 0, (a, hs, B)) := by unfold sAppend; rw [if_pos hv, if_pos hf]
      rw [hx]
      refine run_of (ls := [(0, .ref (G.1 140)), (1, .int v)]) (by decide +kernel) rfl rfl (Nat.le_of_ble_eq_true rfl) ?_
      refine aw_aload_n dX4_append_0 rfl ?_
      refine aw_iconst (v := nI 0) dX4_append_1 rfl ?_
      refine aw_putI dX4_append_2 flX4_25 rfl (by intro r hr; cases hr; rfl) (by assumption) (by omega) rfl rfl ?_
      refine aw_iload_n dX4_append_5 rfl ?_
      refine aw_bipush (v := nI 33) dX4_append_6 rfl ?_
      refine aw_bipush (v := nI 126) dX4_append_8 rfl ?_
      refine aw_sRd dX4_append_10 cvX4_33 ⟨Nat.le_of_ble_eq_true rfl, Nat.le_of_ble_eq_true rfl⟩ (in1 hv) rfl rfl (Nat.le_of_ble_eq_true rfl) ⟨rfl, rfl⟩ ⟨Nat.zero_le _, Nat.zero_le _⟩ ?_
      refine aw_if_neN (tgt := 22) dX4_append_13 (by decide) (by omega) (fun hc13 => ?_) (fun hc13 => absurd hc13 (by decide))
      refine aw_aload_n dX4_append_22 rfl ?_
      refine aw_getI dX4_append_23 flX4_113 rfl (by assumption) hB6 ?_
      refine aw_bipush (v := nI 60) dX4_append_26 rfl ?_
      refine aw_icmp_neN (tgt := 37) dX4_append_28 (by decide) (by omega) (by omega) (fun hc28 => absurd hf hc28) (fun hc28 => ?_)
      refine aw_aload_n dX4_append_31 rfl ?_
      refine aw_iconst (v := nI 2) dX4_append_32 rfl ?_
      refine aw_vUp dX4_append_33 cvX4_93 ⟨Nat.le_of_ble_eq_true rfl, Nat.le_of_ble_eq_true rfl⟩ (by assumption) ⟨_, rfl, rfl⟩ (r_fails hL (nI 2)) rfl rfl (Nat.le_of_ble_eq_true rfl) ⟨rfl, rfl⟩ ⟨Nat.zero_le _, Nat.zero_le _⟩ (fun I33 hP33 => ?_)
      exact aw_iret dX4_append_36 rfl (Nat.zero_le _) (Nat.zero_le _) ⟨rfl, _, rfl, failS hS hP33⟩
    · have hx : sAppend v (a, hs, B) = (0, nI (B.length + 1), a, hs, B ++ [nv v]) := by unfold sAppend; rw [if_pos hv, if_neg hf]
      rw [hx]
      obtain ⟨hv1, hv2, hv3⟩ := inR_nat hv (by decide) (by decide)
      refine run_of (ls := [(0, .ref (G.1 140)), (1, .int v)]) (by decide +kernel) rfl rfl (Nat.le_of_ble_eq_true rfl) ?_
      refine aw_aload_n dX4_append_0 rfl ?_
      refine aw_iconst (v := nI 0) dX4_append_1 rfl ?_
      refine aw_putI dX4_append_2 flX4_25 rfl (by intro r hr; cases hr; rfl) (by assumption) (by omega) rfl rfl ?_
      refine aw_iload_n dX4_append_5 rfl ?_
      refine aw_bipush (v := nI 33) dX4_append_6 rfl ?_
      refine aw_bipush (v := nI 126) dX4_append_8 rfl ?_
      refine aw_sRd dX4_append_10 cvX4_33 ⟨Nat.le_of_ble_eq_true rfl, Nat.le_of_ble_eq_true rfl⟩ (in1 hv) rfl rfl (Nat.le_of_ble_eq_true rfl) ⟨rfl, rfl⟩ ⟨Nat.zero_le _, Nat.zero_le _⟩ ?_
      refine aw_if_neN (tgt := 22) dX4_append_13 (by decide) (by omega) (fun hc13 => ?_) (fun hc13 => absurd hc13 (by decide))
      refine aw_aload_n dX4_append_22 rfl ?_
      refine aw_getI dX4_append_23 flX4_113 rfl (by assumption) hB6 ?_
      refine aw_bipush (v := nI 60) dX4_append_26 rfl ?_
      refine aw_icmp_neN (tgt := 37) dX4_append_28 (by decide) (by omega) (by omega) (fun hc28 => ?_) (fun hc28 => absurd hc28 hf)
      refine aw_aload_n dX4_append_37 rfl ?_
      refine aw_getR dX4_append_38 flX4_19 rfl (by assumption) (by assumption) ?_
      refine aw_aload_n dX4_append_41 rfl ?_
      refine aw_getI dX4_append_42 flX4_113 rfl (by assumption) hB6 ?_
      refine aw_iload_n dX4_append_45 rfl ?_
      refine aw_iast dX4_append_46 (by assumption) (by omega) (by omega) rfl (by omega) ?_
      refine aw_aload_n dX4_append_47 rfl ?_
      refine aw_dup dX4_append_48 rfl ?_
      refine aw_getI dX4_append_49 flX4_113 rfl (by assumption) (show _ = nI B.length by rw [FrO.up 140 (by decide)]; exact hB6) ?_
      refine aw_iconst (v := nI 1) dX4_append_52 rfl ?_
      first | refine aw_iaddN dX4_append_53 ?_ | refine aw_iadd dX4_append_53 ?_
      refine aw_putI dX4_append_54 flX4_113 rfl (by intro r hr; cases hr; rfl) (by assumption) (by omega) rfl rfl ?_
      refine aw_aload_n dX4_append_57 rfl ?_
      refine aw_getI dX4_append_58 flX4_113 rfl (by assumption) (show _ = nI (B.length + 1) by simp [up2]) ?_
      refine aw_iret dX4_append_61 rfl (Nat.zero_le _) (Nat.zero_le _) ?_
      refine ⟨rfl, _, rfl, ⟨?_, ?_, ?_⟩, ?_, ?_⟩
      · rw [FrO.up 141 (by decide), FrO.up 141 (by decide)]; exact hM0
      · exact hH0.fr (by rw [FrO.up 143 (by decide), FrO.up 143 (by decide)]) (by rw [up2_o, if_neg (by decide), FrO.up 140 (by decide)])
      · refine ⟨by simp [up2], by simp; omega, fun i c hi => ?_⟩
        have hil := (List.getElem?_eq_some_iff.mp hi).1
        rw [List.length_append, List.length_singleton] at hil
        rw [FrO.up 144 (by decide), up2_o]
        by_cases e : i = B.length
        · subst e
          rw [List.getElem?_append_right (Nat.le_refl _), Nat.sub_self] at hi
          cases hi
          rw [if_pos rfl]
          exact ⟨hv1, hv2, hv3⟩
        · rw [List.getElem?_append_left (by omega)] at hi
          rw [if_neg e]; exact hB0.2.2 i c hi
      · rw [up2_o, if_neg (by decide), FrO.up 140 (by decide), up2_o, if_pos rfl]
      · exact FrM.th.tr ((FrM.o FrO.up (by decide) (by decide)).tr FrM.th)
  · have hx : sAppend v (a, hs, B) = (1, 0, (a, hs, B)) := by unfold sAppend; rw [if_neg hv]
    rw [hx]
    refine run_of (ls := [(0, .ref (G.1 140)), (1, .int v)]) (by decide +kernel) rfl rfl (Nat.le_of_ble_eq_true rfl) ?_
    refine aw_aload_n dX4_append_0 rfl ?_
    refine aw_iconst (v := nI 0) dX4_append_1 rfl ?_
    refine aw_putI dX4_append_2 flX4_25 rfl (by intro r hr; cases hr; rfl) (by assumption) (by omega) rfl rfl ?_
    refine aw_iload_n dX4_append_5 rfl ?_
    refine aw_bipush (v := nI 33) dX4_append_6 rfl ?_
    refine aw_bipush (v := nI 126) dX4_append_8 rfl ?_
    refine aw_sRd dX4_append_10 cvX4_33 ⟨Nat.le_of_ble_eq_true rfl, Nat.le_of_ble_eq_true rfl⟩ (in0 hv) rfl rfl (Nat.le_of_ble_eq_true rfl) ⟨rfl, rfl⟩ ⟨Nat.zero_le _, Nat.zero_le _⟩ ?_
    refine aw_if_neN (tgt := 22) dX4_append_13 (by decide) (by omega) (fun hc13 => absurd rfl hc13) (fun hc13 => ?_)
    refine aw_aload_n dX4_append_16 rfl ?_
    refine aw_iconst (v := nI 1) dX4_append_17 rfl ?_
    refine aw_vUp dX4_append_18 cvX4_93 ⟨Nat.le_of_ble_eq_true rfl, Nat.le_of_ble_eq_true rfl⟩ (by assumption) ⟨_, rfl, rfl⟩ (r_fails hL (nI 1)) rfl rfl (Nat.le_of_ble_eq_true rfl) ⟨rfl, rfl⟩ ⟨Nat.zero_le _, Nat.zero_le _⟩ (fun I18 hP18 => ?_)
    exact aw_iret dX4_append_21 rfl (Nat.zero_le _) (Nat.zero_le _) ⟨rfl, _, rfl, failS hS hP18⟩
theorem M_clearBuffer (hL : LM G K R) (hS : MS I (a, hs, B)) (hI : IV m k a) (hl1 : L1 a) (hmk : m + k ≤ 900000000) : Run G YX4_clearBuffer [.ref (G.1 140)] (K, R, I, J, z) (MP K R J z I (sClear  (a, hs, B))) := by
  obtain ⟨hk0, hr1, hk1, hr2, hk2, hr3, hk3, hr5, hk5, hr9, hk9⟩ := hL
  have hL : LM G K R := ⟨hk0, hr1, hk1, hr2, hk2, hr3, hk3, hr5, hk5, hr9, hk9⟩
  have h16 := hI.2.1
  have hS0 := hS.th (x := nI 0)
  have hM0 : RM (up2 I 140 0 (nI 0) 141) a := hS0.1
  have hH0 : RH (up2 I 140 0 (nI 0)) hs := hS0.2.1
  have hB0 : RB (up2 I 140 0 (nI 0)) B := hS0.2.2
  have hn9 : up2 I 140 0 (nI 0) 141 9 = nI a.2.1.length := hS0.1.2.1
  have hC : ∀ c ∈ a.2.1, c 0 < 4 ∧ c 3 ≤ 1 := fun c hc => ⟨(hI.2.2.1 c hc).1, (hI.2.2.1 c hc).2.2.2.2.1⟩
  have hB6 : up2 I 140 0 (nI 0) 140 6 = nI B.length := hB0.1

  refine run_of (ls := [(0, .ref (G.1 140))]) (by decide +kernel) rfl rfl (Nat.le_of_ble_eq_true rfl) ?_
  refine aw_aload_n dX4_clearBuffer_0 rfl ?_
  refine aw_iconst (v := nI 0) dX4_clearBuffer_1 rfl ?_
  refine aw_putI dX4_clearBuffer_2 flX4_25 rfl (by intro r hr; cases hr; rfl) (by assumption) (by omega) rfl rfl ?_
  refine aw_aload_n dX4_clearBuffer_5 rfl ?_
  refine aw_getI dX4_clearBuffer_6 flX4_113 rfl (by assumption) hB6 ?_
  refine aw_istore_n (ls' := [(1, _), (0, _)]) dX4_clearBuffer_9 (by decide) rfl ?_
  refine aw_aload_n dX4_clearBuffer_10 rfl ?_
  refine aw_iconst (v := nI 0) dX4_clearBuffer_11 rfl ?_
  refine aw_putI dX4_clearBuffer_12 flX4_113 rfl (by intro r hr; cases hr; rfl) (by assumption) (by omega) rfl rfl ?_
  refine aw_iload_n dX4_clearBuffer_15 rfl ?_
  refine aw_iret dX4_clearBuffer_16 rfl (Nat.zero_le _) (Nat.zero_le _) ?_
  refine ⟨rfl, _, rfl, ⟨?_, ?_, ?_⟩, ?_, FrM.th.tr FrM.th⟩
  · rw [FrO.up 141 (by decide)]; exact hM0
  · exact hH0.fr (FrO.up 143 (by decide)) (by rw [up2_o, if_neg (by decide)])
  · exact ⟨by simp [up2, sClear], Nat.zero_le _, fun i c hi => by simp [sClear] at hi⟩
  · rw [up2_o, if_neg (by decide), up2_o, if_pos rfl]; rfl
theorem M_firstError (hL : LM G K R) (hS : MS I (a, hs, B)) (hI : IV m k a) (hl1 : L1 a) (hmk : m + k ≤ 900000000) : Run G YX4_firstError [.ref (G.1 140)] (K, R, I, J, z) (MP K R J z I (sError  (a, hs, B))) := by
  obtain ⟨hk0, hr1, hk1, hr2, hk2, hr3, hk3, hr5, hk5, hr9, hk9⟩ := hL
  have hL : LM G K R := ⟨hk0, hr1, hk1, hr2, hk2, hr3, hk3, hr5, hk5, hr9, hk9⟩
  have h16 := hI.2.1
  have hS0 := hS.th (x := nI 0)
  have hM0 : RM (up2 I 140 0 (nI 0) 141) a := hS0.1
  have hH0 : RH (up2 I 140 0 (nI 0)) hs := hS0.2.1
  have hB0 : RB (up2 I 140 0 (nI 0)) B := hS0.2.2
  have hn9 : up2 I 140 0 (nI 0) 141 9 = nI a.2.1.length := hS0.1.2.1
  have hC : ∀ c ∈ a.2.1, c 0 < 4 ∧ c 3 ≤ 1 := fun c hc => ⟨(hI.2.2.1 c hc).1, (hI.2.2.1 c hc).2.2.2.2.1⟩

  refine run_of (ls := [(0, .ref (G.1 140))]) (by decide +kernel) rfl rfl (Nat.le_of_ble_eq_true rfl) ?_
  refine aw_aload_n dX4_firstError_0 rfl ?_
  refine aw_iconst (v := nI 0) dX4_firstError_1 rfl ?_
  refine aw_putI dX4_firstError_2 flX4_25 rfl (by intro r hr; cases hr; rfl) (by assumption) (by omega) rfl rfl ?_
  refine aw_aload_n dX4_firstError_5 rfl ?_
  refine aw_vUp0 dX4_firstError_6 cvX4_132 ⟨Nat.le_of_ble_eq_true rfl, Nat.le_of_ble_eq_true rfl⟩ (by assumption) ⟨_, rfl, rfl⟩ (r_readsAll hL hB0) rfl rfl (Nat.le_of_ble_eq_true rfl) ⟨rfl, rfl⟩ ⟨Nat.zero_le _, Nat.zero_le _⟩ (fun I6 hP6 => ?_)
  refine aw_aload_n dX4_firstError_9 rfl ?_
  refine aw_getI dX4_firstError_10 flX4_116 rfl (by assumption) (show _ = nI (rdAll B).2.1 from hP6.1.2.1) ?_
  refine aw_iret dX4_firstError_13 rfl (Nat.zero_le _) (Nat.zero_le _) ?_
  have hF := hP6.2
  refine ⟨rfl, _, rfl, hS0.fr (fun q h1 h2 _ => hF.1 q h1 h2) (fun j hj => hF.2 j (by omega) (by omega) (by omega)), ?_, fun q hq => ?_⟩
  · rw [hF.2 0 (by decide) (by decide) (by decide), up2_o, if_pos rfl]; rfl
  · rw [hF.1 q (by omega) (by omega), FrO.up q (by omega)]
theorem M_store (hL : LM G K R) (hS : MS I (a, hs, B)) (hI : IV m k a) (hl1 : L1 a) (hmk : m + k ≤ 900000000) (v : Int32) (w : Int32) : Run G YX4_store [.ref (G.1 140), .int v, .int w] (K, R, I, J, z) (MP K R J z I (sStore v w (a, hs, B))) := by
  obtain ⟨hk0, hr1, hk1, hr2, hk2, hr3, hk3, hr5, hk5, hr9, hk9⟩ := hL
  have hL : LM G K R := ⟨hk0, hr1, hk1, hr2, hk2, hr3, hk3, hr5, hk5, hr9, hk9⟩
  have h16 := hI.2.1
  have hS0 := hS.th (x := nI 0)
  have hM0 : RM (up2 I 140 0 (nI 0) 141) a := hS0.1
  have hH0 : RH (up2 I 140 0 (nI 0)) hs := hS0.2.1
  have hB0 : RB (up2 I 140 0 (nI 0)) B := hS0.2.2
  have hn9 : up2 I 140 0 (nI 0) 141 9 = nI a.2.1.length := hS0.1.2.1
  have hC : ∀ c ∈ a.2.1, c 0 < 4 ∧ c 3 ≤ 1 := fun c hc => ⟨(hI.2.2.1 c hc).1, (hI.2.2.1 c hc).2.2.2.2.1⟩

  by_cases hv : inR v 0 3
  rotate_left
  · have hx : sStore v w (a, hs, B) = (1, 0, (a, hs, B)) := by unfold sStore; rw [if_neg hv]
    rw [hx]
    refine run_of (ls := [(0, .ref (G.1 140)), (1, .int v), (2, .int w)]) (by decide +kernel) rfl rfl (Nat.le_of_ble_eq_true rfl) ?_
    refine aw_aload_n dX4_store_0 rfl ?_
    refine aw_iconst (v := nI 0) dX4_store_1 rfl ?_
    refine aw_putI dX4_store_2 flX4_25 rfl (by intro r hr; cases hr; rfl) (by assumption) (by omega) rfl rfl ?_
    refine aw_iload_n dX4_store_5 rfl ?_
    refine aw_sRd dX4_store_6 cvX4_90 ⟨Nat.le_of_ble_eq_true rfl, Nat.le_of_ble_eq_true rfl⟩ (isS0 hv) rfl rfl (Nat.le_of_ble_eq_true rfl) ⟨rfl, rfl⟩ ⟨Nat.zero_le _, Nat.zero_le _⟩ ?_
    refine aw_if_neN (tgt := 18) dX4_store_9 (by decide) (by omega) (fun hc9 => absurd rfl hc9) (fun hc9 => ?_)
    refine aw_aload_n dX4_store_12 rfl ?_
    refine aw_iconst (v := nI 1) dX4_store_13 rfl ?_
    refine aw_vUp dX4_store_14 cvX4_93 ⟨Nat.le_of_ble_eq_true rfl, Nat.le_of_ble_eq_true rfl⟩ (by assumption) ⟨_, rfl, rfl⟩ (r_fails hL (nI 1)) rfl rfl (Nat.le_of_ble_eq_true rfl) ⟨rfl, rfl⟩ ⟨Nat.zero_le _, Nat.zero_le _⟩ (fun I14 hP14 => ?_)
    exact aw_iret dX4_store_17 rfl (Nat.zero_le _) (Nat.zero_le _) ⟨rfl, _, rfl, failS hS hP14⟩
  obtain ⟨hv1, -, hv3⟩ := inR_nat hv (by decide) (by decide)
  have hst : nv v < 4 := by omega
  have ht := (hI.2.2.2.2.1 _ hst).up hI.b
  by_cases hw : inR w 0 10
  · have hx : sStore v w (a, hs, B) = (0, nI (tellN a (nv v) (nv w)), (a, hs, B)) := by unfold sStore; rw [if_pos hv, if_pos hw]
    rw [hx]
    clear hx
    obtain ⟨hw1, -, hw3⟩ := inR_nat hw (by decide) (by decide)
    obtain ⟨st, hst'⟩ : ∃ st, st = nv v := ⟨_, rfl⟩
    obtain ⟨ww, hww'⟩ : ∃ st, st = nv w := ⟨_, rfl⟩
    rw [← hst'] at hv1 hv3 hst ht ⊢
    rw [← hww'] at hw1 hw3 ⊢
    subst hv1 hw1
    refine run_of (ls := [(0, .ref (G.1 140)), (1, .int (nI st)), (2, .int (nI ww))]) (by decide +kernel) rfl rfl (Nat.le_of_ble_eq_true rfl) ?_
    refine aw_aload_n dX4_store_0 rfl ?_
    refine aw_iconst (v := nI 0) dX4_store_1 rfl ?_
    refine aw_putI dX4_store_2 flX4_25 rfl (by intro r hr; cases hr; rfl) (by assumption) (by omega) rfl rfl ?_
    refine aw_iload_n dX4_store_5 rfl ?_
    refine aw_sRd dX4_store_6 cvX4_90 ⟨Nat.le_of_ble_eq_true rfl, Nat.le_of_ble_eq_true rfl⟩ (isS1 hv) rfl rfl (Nat.le_of_ble_eq_true rfl) ⟨rfl, rfl⟩ ⟨Nat.zero_le _, Nat.zero_le _⟩ ?_
    refine aw_if_neN (tgt := 18) dX4_store_9 (by decide) (by omega) (fun hc9 => ?_) (fun hc9 => absurd hc9 (by decide))
    refine aw_iload_n dX4_store_18 rfl ?_
    refine aw_iconst (v := nI 0) dX4_store_19 rfl ?_
    refine aw_bipush (v := nI 10) dX4_store_20 rfl ?_
    refine aw_sRd dX4_store_22 cvX4_33 ⟨Nat.le_of_ble_eq_true rfl, Nat.le_of_ble_eq_true rfl⟩ (in1 hw) rfl rfl (Nat.le_of_ble_eq_true rfl) ⟨rfl, rfl⟩ ⟨Nat.zero_le _, Nat.zero_le _⟩ ?_
    refine aw_if_eqN (tgt := 37) dX4_store_25 (by decide) (by omega) (fun hc25 => absurd hc25 (by decide)) (fun hc25 => ?_)
    refine aw_aload_n dX4_store_28 rfl ?_
    refine aw_iload_n dX4_store_29 rfl ?_
    refine aw_iload_n dX4_store_30 rfl ?_
    refine aw_vRd dX4_store_31 cvX4_135 ⟨Nat.le_of_ble_eq_true rfl, Nat.le_of_ble_eq_true rfl⟩ (by assumption) ⟨_, rfl, rfl⟩ (r_tellsStore (a := a) hL hM0 hI hst hw3) rfl rfl (Nat.le_of_ble_eq_true rfl) ⟨rfl, rfl⟩ ⟨Nat.zero_le _, Nat.zero_le _⟩ ?_
    refine aw_goto (tgt := 42) dX4_store_34 (by decide) ?_
    exact aw_iret dX4_store_42 rfl (Nat.zero_le _) (Nat.zero_le _) ⟨rfl, _, rfl, hS0, by rw [up2_o, if_pos rfl], FrM.th⟩
  · have hx : sStore v w (a, hs, B) = (2, 0, (a, hs, B)) := by unfold sStore; rw [if_pos hv, if_neg hw]
    rw [hx]
    refine run_of (ls := [(0, .ref (G.1 140)), (1, .int v), (2, .int w)]) (by decide +kernel) rfl rfl (Nat.le_of_ble_eq_true rfl) ?_
    refine aw_aload_n dX4_store_0 rfl ?_
    refine aw_iconst (v := nI 0) dX4_store_1 rfl ?_
    refine aw_putI dX4_store_2 flX4_25 rfl (by intro r hr; cases hr; rfl) (by assumption) (by omega) rfl rfl ?_
    refine aw_iload_n dX4_store_5 rfl ?_
    refine aw_sRd dX4_store_6 cvX4_90 ⟨Nat.le_of_ble_eq_true rfl, Nat.le_of_ble_eq_true rfl⟩ (isS1 hv) rfl rfl (Nat.le_of_ble_eq_true rfl) ⟨rfl, rfl⟩ ⟨Nat.zero_le _, Nat.zero_le _⟩ ?_
    refine aw_if_neN (tgt := 18) dX4_store_9 (by decide) (by omega) (fun hc9 => ?_) (fun hc9 => absurd hc9 (by decide))
    refine aw_iload_n dX4_store_18 rfl ?_
    refine aw_iconst (v := nI 0) dX4_store_19 rfl ?_
    refine aw_bipush (v := nI 10) dX4_store_20 rfl ?_
    refine aw_sRd dX4_store_22 cvX4_33 ⟨Nat.le_of_ble_eq_true rfl, Nat.le_of_ble_eq_true rfl⟩ (in0 hw) rfl rfl (Nat.le_of_ble_eq_true rfl) ⟨rfl, rfl⟩ ⟨Nat.zero_le _, Nat.zero_le _⟩ ?_
    refine aw_if_eqN (tgt := 37) dX4_store_25 (by decide) (by omega) (fun hc25 => ?_) (fun hc25 => absurd rfl hc25)
    refine aw_aload_n dX4_store_37 rfl ?_
    refine aw_iconst (v := nI 2) dX4_store_38 rfl ?_
    refine aw_vUp dX4_store_39 cvX4_93 ⟨Nat.le_of_ble_eq_true rfl, Nat.le_of_ble_eq_true rfl⟩ (by assumption) ⟨_, rfl, rfl⟩ (r_fails hL (nI 2)) rfl rfl (Nat.le_of_ble_eq_true rfl) ⟨rfl, rfl⟩ ⟨Nat.zero_le _, Nat.zero_le _⟩ (fun I39 hP39 => ?_)
    exact aw_iret dX4_store_42 rfl (Nat.zero_le _) (Nat.zero_le _) ⟨rfl, _, rfl, failS hS hP39⟩
theorem M_delay (hL : LM G K R) (hS : MS I (a, hs, B)) (hI : IV m k a) (hl1 : L1 a) (hmk : m + k ≤ 900000000) (v : Int32) (p : Int32) : Run G YX4_delay [.ref (G.1 140), .int v, .int p] (K, R, I, J, z) (MP K R J z I (sDelay v p (a, hs, B))) := by
  obtain ⟨hk0, hr1, hk1, hr2, hk2, hr3, hk3, hr5, hk5, hr9, hk9⟩ := hL
  have hL : LM G K R := ⟨hk0, hr1, hk1, hr2, hk2, hr3, hk3, hr5, hk5, hr9, hk9⟩
  have h16 := hI.2.1
  have hS0 := hS.th (x := nI 0)
  have hM0 : RM (up2 I 140 0 (nI 0) 141) a := hS0.1
  have hH0 : RH (up2 I 140 0 (nI 0)) hs := hS0.2.1
  have hB0 : RB (up2 I 140 0 (nI 0)) B := hS0.2.2
  have hn9 : up2 I 140 0 (nI 0) 141 9 = nI a.2.1.length := hS0.1.2.1
  have hC : ∀ c ∈ a.2.1, c 0 < 4 ∧ c 3 ≤ 1 := fun c hc => ⟨(hI.2.2.1 c hc).1, (hI.2.2.1 c hc).2.2.2.2.1⟩

  by_cases hv : inR v 0 3
  rotate_left
  · have hx : sDelay v p (a, hs, B) = (1, 0, (a, hs, B)) := by unfold sDelay; rw [if_neg hv]
    rw [hx]
    refine run_of (ls := [(0, .ref (G.1 140)), (1, .int v), (2, .int p)]) (by decide +kernel) rfl rfl (Nat.le_of_ble_eq_true rfl) ?_
    refine aw_aload_n dX4_delay_0 rfl ?_
    refine aw_iconst (v := nI 0) dX4_delay_1 rfl ?_
    refine aw_putI dX4_delay_2 flX4_25 rfl (by intro r hr; cases hr; rfl) (by assumption) (by omega) rfl rfl ?_
    refine aw_iload_n dX4_delay_5 rfl ?_
    refine aw_sRd dX4_delay_6 cvX4_90 ⟨Nat.le_of_ble_eq_true rfl, Nat.le_of_ble_eq_true rfl⟩ (isS0 hv) rfl rfl (Nat.le_of_ble_eq_true rfl) ⟨rfl, rfl⟩ ⟨Nat.zero_le _, Nat.zero_le _⟩ ?_
    refine aw_if_neN (tgt := 18) dX4_delay_9 (by decide) (by omega) (fun hc9 => absurd rfl hc9) (fun hc9 => ?_)
    refine aw_aload_n dX4_delay_12 rfl ?_
    refine aw_iconst (v := nI 1) dX4_delay_13 rfl ?_
    refine aw_vUp dX4_delay_14 cvX4_93 ⟨Nat.le_of_ble_eq_true rfl, Nat.le_of_ble_eq_true rfl⟩ (by assumption) ⟨_, rfl, rfl⟩ (r_fails hL (nI 1)) rfl rfl (Nat.le_of_ble_eq_true rfl) ⟨rfl, rfl⟩ ⟨Nat.zero_le _, Nat.zero_le _⟩ (fun I14 hP14 => ?_)
    exact aw_iret dX4_delay_17 rfl (Nat.zero_le _) (Nat.zero_le _) ⟨rfl, _, rfl, failS hS hP14⟩
  obtain ⟨hv1, -, hv3⟩ := inR_nat hv (by decide) (by decide)
  have hst : nv v < 4 := by omega
  have ht := (hI.2.2.2.2.1 _ hst).up hI.b
  by_cases hw : nI 0 ≤ p
  · have hx : sDelay v p (a, hs, B) = (0, (if nv p < a.2.2 (nv v) 0 then nI (a.2.2 (nv v) (12 + nv p)) else -1), (a, hs, B)) := by unfold sDelay; rw [if_pos hv, if_pos hw]
    rw [hx]
    clear hx
    obtain ⟨hw1, hw2⟩ := nI_nv hw
    obtain ⟨st, hst'⟩ : ∃ st, st = nv v := ⟨_, rfl⟩
    obtain ⟨pp, hpp'⟩ : ∃ st, st = nv p := ⟨_, rfl⟩
    rw [← hst'] at hv1 hv3 hst ht ⊢
    rw [← hpp'] at hw1 hw2 ⊢
    subst hv1 hw1
    have h20 := ht.2.1
    refine run_of (ls := [(0, .ref (G.1 140)), (1, .int (nI st)), (2, .int (nI pp))]) (by decide +kernel) rfl rfl (Nat.le_of_ble_eq_true rfl) ?_
    refine aw_aload_n dX4_delay_0 rfl ?_
    refine aw_iconst (v := nI 0) dX4_delay_1 rfl ?_
    refine aw_putI dX4_delay_2 flX4_25 rfl (by intro r hr; cases hr; rfl) (by assumption) (by omega) rfl rfl ?_
    refine aw_iload_n dX4_delay_5 rfl ?_
    refine aw_sRd dX4_delay_6 cvX4_90 ⟨Nat.le_of_ble_eq_true rfl, Nat.le_of_ble_eq_true rfl⟩ (isS1 hv) rfl rfl (Nat.le_of_ble_eq_true rfl) ⟨rfl, rfl⟩ ⟨Nat.zero_le _, Nat.zero_le _⟩ ?_
    refine aw_if_neN (tgt := 18) dX4_delay_9 (by decide) (by omega) (fun hc9 => ?_) (fun hc9 => absurd hc9 (by decide))
    refine aw_iload_n dX4_delay_18 rfl ?_
    refine aw_if_geN (tgt := 28) dX4_delay_19 (by decide) (by omega) ?_
    refine aw_iload_n dX4_delay_28 rfl ?_
    refine aw_aload_n dX4_delay_29 rfl ?_
    refine aw_iload_n dX4_delay_30 rfl ?_
    refine aw_iconst (v := nI 0) dX4_delay_31 rfl ?_
    refine aw_vRd dX4_delay_32 cvX4_40 ⟨Nat.le_of_ble_eq_true rfl, Nat.le_of_ble_eq_true rfl⟩ (by assumption) ⟨_, rfl, rfl⟩ (r_of (a := a) hL hM0 hst (w := 0) (by decide)) rfl rfl (Nat.le_of_ble_eq_true rfl) ⟨rfl, rfl⟩ ⟨Nat.zero_le _, Nat.zero_le _⟩ ?_
    refine aw_icmp_geN (tgt := 50) dX4_delay_35 (by decide) (by omega) (by omega) (fun hc35 => ?_) (fun hc35 => ?_)
    · refine aw_iconst (v := (-1)) dX4_delay_50 rfl ?_
      exact aw_iret dX4_delay_51 rfl (Nat.zero_le _) (Nat.zero_le _) ⟨by first | rw [if_pos hc35] | rw [if_neg (by omega)], _, rfl, hS0, by rw [up2_o, if_pos rfl], FrM.th⟩
    · refine aw_aload_n dX4_delay_38 rfl ?_
      refine aw_iload_n dX4_delay_39 rfl ?_
      refine aw_bipush (v := nI 12) dX4_delay_40 rfl ?_
      refine aw_iload_n dX4_delay_42 rfl ?_
      first | refine aw_iaddN dX4_delay_43 ?_ | refine aw_iadd dX4_delay_43 ?_
      refine aw_vRd dX4_delay_44 cvX4_40 ⟨Nat.le_of_ble_eq_true rfl, Nat.le_of_ble_eq_true rfl⟩ (by assumption) ⟨_, rfl, rfl⟩ (r_of (a := a) hL hM0 hst (w := 12 + pp) (by omega)) rfl rfl (Nat.le_of_ble_eq_true rfl) ⟨rfl, rfl⟩ ⟨Nat.zero_le _, Nat.zero_le _⟩ ?_
      refine aw_goto (tgt := 51) dX4_delay_47 (by decide) ?_
      exact aw_iret dX4_delay_51 rfl (Nat.zero_le _) (Nat.zero_le _) ⟨by first | rw [if_pos hc35] | rw [if_neg (by omega)], _, rfl, hS0, by rw [up2_o, if_pos rfl], FrM.th⟩
  · have hx : sDelay v p (a, hs, B) = (2, 0, (a, hs, B)) := by unfold sDelay; rw [if_pos hv, if_neg hw]
    rw [hx]
    refine run_of (ls := [(0, .ref (G.1 140)), (1, .int v), (2, .int p)]) (by decide +kernel) rfl rfl (Nat.le_of_ble_eq_true rfl) ?_
    refine aw_aload_n dX4_delay_0 rfl ?_
    refine aw_iconst (v := nI 0) dX4_delay_1 rfl ?_
    refine aw_putI dX4_delay_2 flX4_25 rfl (by intro r hr; cases hr; rfl) (by assumption) (by omega) rfl rfl ?_
    refine aw_iload_n dX4_delay_5 rfl ?_
    refine aw_sRd dX4_delay_6 cvX4_90 ⟨Nat.le_of_ble_eq_true rfl, Nat.le_of_ble_eq_true rfl⟩ (isS1 hv) rfl rfl (Nat.le_of_ble_eq_true rfl) ⟨rfl, rfl⟩ ⟨Nat.zero_le _, Nat.zero_le _⟩ ?_
    refine aw_if_neN (tgt := 18) dX4_delay_9 (by decide) (by omega) (fun hc9 => ?_) (fun hc9 => absurd hc9 (by decide))
    refine aw_iload_n dX4_delay_18 rfl ?_
    refine aw_if_ge (tgt := 28) dX4_delay_19 (by decide) (fun hc19 => absurd hc19 hw) (fun hc19 => ?_)
    refine aw_aload_n dX4_delay_22 rfl ?_
    refine aw_iconst (v := nI 2) dX4_delay_23 rfl ?_
    refine aw_vUp dX4_delay_24 cvX4_93 ⟨Nat.le_of_ble_eq_true rfl, Nat.le_of_ble_eq_true rfl⟩ (by assumption) ⟨_, rfl, rfl⟩ (r_fails hL (nI 2)) rfl rfl (Nat.le_of_ble_eq_true rfl) ⟨rfl, rfl⟩ ⟨Nat.zero_le _, Nat.zero_le _⟩ (fun I24 hP24 => ?_)
    exact aw_iret dX4_delay_27 rfl (Nat.zero_le _) (Nat.zero_le _) ⟨rfl, _, rfl, failS hS hP24⟩
theorem M_onWay (hL : LM G K R) (hS : MS I (a, hs, B)) (hI : IV m k a) (hl1 : L1 a) (hmk : m + k ≤ 900000000) (p : Int32) (w : Int32) : Run G YX4_onWay [.ref (G.1 140), .int p, .int w] (K, R, I, J, z) (MP K R J z I (sOnWay p w (a, hs, B))) := by
  obtain ⟨hk0, hr1, hk1, hr2, hk2, hr3, hk3, hr5, hk5, hr9, hk9⟩ := hL
  have hL : LM G K R := ⟨hk0, hr1, hk1, hr2, hk2, hr3, hk3, hr5, hk5, hr9, hk9⟩
  have h16 := hI.2.1
  have hS0 := hS.th (x := nI 0)
  have hM0 : RM (up2 I 140 0 (nI 0) 141) a := hS0.1
  have hH0 : RH (up2 I 140 0 (nI 0)) hs := hS0.2.1
  have hB0 : RB (up2 I 140 0 (nI 0)) B := hS0.2.2
  have hn9 : up2 I 140 0 (nI 0) 141 9 = nI a.2.1.length := hS0.1.2.1
  have hC : ∀ c ∈ a.2.1, c 0 < 4 ∧ c 3 ≤ 1 := fun c hc => ⟨(hI.2.2.1 c hc).1, (hI.2.2.1 c hc).2.2.2.2.1⟩

  by_cases hp : nI 0 ≤ p
  · by_cases hw : inR w 0 3
    · have hx : sOnWay p w (a, hs, B) = (0, (match a.2.1[nv p]? with
        | some c => nI (c (nv w))
        | none => -1), (a, hs, B)) := by unfold sOnWay; rw [if_pos ⟨hp, hw⟩]
      rw [hx]
      clear hx
      obtain ⟨hw1, -, hw3⟩ := inR_nat hw (by decide) (by decide)
      obtain ⟨hp1, hp2⟩ := nI_nv hp
      obtain ⟨pp, hpp'⟩ : ∃ st, st = nv p := ⟨_, rfl⟩
      obtain ⟨ww, hww'⟩ : ∃ st, st = nv w := ⟨_, rfl⟩
      rw [← hpp'] at hp1 hp2 ⊢
      rw [← hww'] at hw1 hw3 ⊢
      subst hp1 hw1
      rcases hc : a.2.1[pp]? with _ | c
      · have hl := List.getElem?_eq_none_iff.mp hc
        refine run_of (ls := [(0, .ref (G.1 140)), (1, .int (nI pp)), (2, .int (nI ww))]) (by decide +kernel) rfl rfl (Nat.le_of_ble_eq_true rfl) ?_
        refine aw_aload_n dX4_onWay_0 rfl ?_
        refine aw_iconst (v := nI 0) dX4_onWay_1 rfl ?_
        refine aw_putI dX4_onWay_2 flX4_25 rfl (by intro r hr; cases hr; rfl) (by assumption) (by omega) rfl rfl ?_
        refine aw_iload_n dX4_onWay_5 rfl ?_
        refine aw_if_ltN (tgt := 18) dX4_onWay_6 (by decide) (by omega) ?_
        refine aw_iload_n dX4_onWay_9 rfl ?_
        refine aw_iconst (v := nI 0) dX4_onWay_10 rfl ?_
        refine aw_iconst (v := nI 3) dX4_onWay_11 rfl ?_
        refine aw_sRd dX4_onWay_12 cvX4_33 ⟨Nat.le_of_ble_eq_true rfl, Nat.le_of_ble_eq_true rfl⟩ (in1 hw) rfl rfl (Nat.le_of_ble_eq_true rfl) ⟨rfl, rfl⟩ ⟨Nat.zero_le _, Nat.zero_le _⟩ ?_
        refine aw_if_neN (tgt := 24) dX4_onWay_15 (by decide) (by omega) (fun hc15 => ?_) (fun hc15 => absurd hc15 (by decide))
        refine aw_iload_n dX4_onWay_24 rfl ?_
        refine aw_aload_n dX4_onWay_25 rfl ?_
        refine aw_getR dX4_onWay_26 flX4_7 rfl (by assumption) (by assumption) ?_
        refine aw_bipush (v := nI 9) dX4_onWay_29 rfl ?_
        refine aw_iald dX4_onWay_31 (by assumption) (by omega) rfl (by omega) hn9 ?_
        refine aw_icmp_geN (tgt := 44) dX4_onWay_32 (by decide) (by omega) (by omega) (fun hc32 => ?_) (fun hc32 => absurd hc32 (by omega))
        refine aw_iconst (v := (-1)) dX4_onWay_44 rfl ?_
        exact aw_iret dX4_onWay_45 rfl (Nat.zero_le _) (Nat.zero_le _) ⟨rfl, _, rfl, hS0, by rw [up2_o, if_pos rfl], FrM.th⟩
      · have hl := (List.getElem?_eq_some_iff.mp hc).1
        refine run_of (ls := [(0, .ref (G.1 140)), (1, .int (nI pp)), (2, .int (nI ww))]) (by decide +kernel) rfl rfl (Nat.le_of_ble_eq_true rfl) ?_
        refine aw_aload_n dX4_onWay_0 rfl ?_
        refine aw_iconst (v := nI 0) dX4_onWay_1 rfl ?_
        refine aw_putI dX4_onWay_2 flX4_25 rfl (by intro r hr; cases hr; rfl) (by assumption) (by omega) rfl rfl ?_
        refine aw_iload_n dX4_onWay_5 rfl ?_
        refine aw_if_ltN (tgt := 18) dX4_onWay_6 (by decide) (by omega) ?_
        refine aw_iload_n dX4_onWay_9 rfl ?_
        refine aw_iconst (v := nI 0) dX4_onWay_10 rfl ?_
        refine aw_iconst (v := nI 3) dX4_onWay_11 rfl ?_
        refine aw_sRd dX4_onWay_12 cvX4_33 ⟨Nat.le_of_ble_eq_true rfl, Nat.le_of_ble_eq_true rfl⟩ (in1 hw) rfl rfl (Nat.le_of_ble_eq_true rfl) ⟨rfl, rfl⟩ ⟨Nat.zero_le _, Nat.zero_le _⟩ ?_
        refine aw_if_neN (tgt := 24) dX4_onWay_15 (by decide) (by omega) (fun hc15 => ?_) (fun hc15 => absurd hc15 (by decide))
        refine aw_iload_n dX4_onWay_24 rfl ?_
        refine aw_aload_n dX4_onWay_25 rfl ?_
        refine aw_getR dX4_onWay_26 flX4_7 rfl (by assumption) (by assumption) ?_
        refine aw_bipush (v := nI 9) dX4_onWay_29 rfl ?_
        refine aw_iald dX4_onWay_31 (by assumption) (by omega) rfl (by omega) hn9 ?_
        refine aw_icmp_geN (tgt := 44) dX4_onWay_32 (by decide) (by omega) (by omega) (fun hc32 => absurd hc32 (by omega)) (fun hc32 => ?_)
        refine aw_aload_n dX4_onWay_35 rfl ?_
        refine aw_iload_n dX4_onWay_36 rfl ?_
        refine aw_iload_n dX4_onWay_37 rfl ?_
        refine aw_vRd dX4_onWay_38 cvX4_63 ⟨Nat.le_of_ble_eq_true rfl, Nat.le_of_ble_eq_true rfl⟩ (by assumption) ⟨_, rfl, rfl⟩ (r_callOf (a := a) hL hM0 hc h16 (w := ww) (by omega)) rfl rfl (Nat.le_of_ble_eq_true rfl) ⟨rfl, rfl⟩ ⟨Nat.zero_le _, Nat.zero_le _⟩ ?_
        refine aw_goto (tgt := 45) dX4_onWay_41 (by decide) ?_
        exact aw_iret dX4_onWay_45 rfl (Nat.zero_le _) (Nat.zero_le _) ⟨rfl, _, rfl, hS0, by rw [up2_o, if_pos rfl], FrM.th⟩
    · have hx : sOnWay p w (a, hs, B) = (1, 0, (a, hs, B)) := by unfold sOnWay; rw [if_neg (fun q => hw q.2)]
      rw [hx]
      obtain ⟨hp1, hp2⟩ := nI_nv hp
      obtain ⟨pp, hpp'⟩ : ∃ st, st = nv p := ⟨_, rfl⟩
      rw [← hpp'] at hp1 hp2
      subst hp1
      refine run_of (ls := [(0, .ref (G.1 140)), (1, .int (nI pp)), (2, .int w)]) (by decide +kernel) rfl rfl (Nat.le_of_ble_eq_true rfl) ?_
      refine aw_aload_n dX4_onWay_0 rfl ?_
      refine aw_iconst (v := nI 0) dX4_onWay_1 rfl ?_
      refine aw_putI dX4_onWay_2 flX4_25 rfl (by intro r hr; cases hr; rfl) (by assumption) (by omega) rfl rfl ?_
      refine aw_iload_n dX4_onWay_5 rfl ?_
      refine aw_if_ltN (tgt := 18) dX4_onWay_6 (by decide) (by omega) ?_
      refine aw_iload_n dX4_onWay_9 rfl ?_
      refine aw_iconst (v := nI 0) dX4_onWay_10 rfl ?_
      refine aw_iconst (v := nI 3) dX4_onWay_11 rfl ?_
      refine aw_sRd dX4_onWay_12 cvX4_33 ⟨Nat.le_of_ble_eq_true rfl, Nat.le_of_ble_eq_true rfl⟩ (in0 hw) rfl rfl (Nat.le_of_ble_eq_true rfl) ⟨rfl, rfl⟩ ⟨Nat.zero_le _, Nat.zero_le _⟩ ?_
      refine aw_if_neN (tgt := 24) dX4_onWay_15 (by decide) (by omega) (fun hc15 => absurd rfl hc15) (fun hc15 => ?_)
      refine aw_aload_n dX4_onWay_18 rfl ?_
      refine aw_iconst (v := nI 1) dX4_onWay_19 rfl ?_
      refine aw_vUp dX4_onWay_20 cvX4_93 ⟨Nat.le_of_ble_eq_true rfl, Nat.le_of_ble_eq_true rfl⟩ (by assumption) ⟨_, rfl, rfl⟩ (r_fails hL (nI 1)) rfl rfl (Nat.le_of_ble_eq_true rfl) ⟨rfl, rfl⟩ ⟨Nat.zero_le _, Nat.zero_le _⟩ (fun I20 hP20 => ?_)
      exact aw_iret dX4_onWay_23 rfl (Nat.zero_le _) (Nat.zero_le _) ⟨rfl, _, rfl, failS hS hP20⟩
  · have hx : sOnWay p w (a, hs, B) = (1, 0, (a, hs, B)) := by unfold sOnWay; rw [if_neg (fun q => hp q.1)]
    rw [hx]
    refine run_of (ls := [(0, .ref (G.1 140)), (1, .int p), (2, .int w)]) (by decide +kernel) rfl rfl (Nat.le_of_ble_eq_true rfl) ?_
    refine aw_aload_n dX4_onWay_0 rfl ?_
    refine aw_iconst (v := nI 0) dX4_onWay_1 rfl ?_
    refine aw_putI dX4_onWay_2 flX4_25 rfl (by intro r hr; cases hr; rfl) (by assumption) (by omega) rfl rfl ?_
    refine aw_iload_n dX4_onWay_5 rfl ?_
    refine aw_if_lt (tgt := 18) dX4_onWay_6 (by decide) (fun hc6 => ?_) (fun hc6 => absurd (Int32.not_lt.mp hc6) hp)
    refine aw_aload_n dX4_onWay_18 rfl ?_
    refine aw_iconst (v := nI 1) dX4_onWay_19 rfl ?_
    refine aw_vUp dX4_onWay_20 cvX4_93 ⟨Nat.le_of_ble_eq_true rfl, Nat.le_of_ble_eq_true rfl⟩ (by assumption) ⟨_, rfl, rfl⟩ (r_fails hL (nI 1)) rfl rfl (Nat.le_of_ble_eq_true rfl) ⟨rfl, rfl⟩ ⟨Nat.zero_le _, Nat.zero_le _⟩ (fun I20 hP20 => ?_)
    exact aw_iret dX4_onWay_23 rfl (Nat.zero_le _) (Nat.zero_le _) ⟨rfl, _, rfl, failS hS hP20⟩
theorem M_count (hL : LM G K R) (hS : MS I (a, hs, B)) (hI : IV m k a) (hl1 : L1 a) (hmk : m + k ≤ 900000000) (w : Int32) : Run G YX4_count [.ref (G.1 140), .int w] (K, R, I, J, z) (MP K R J z I (sCount w (a, hs, B))) := by
  obtain ⟨hk0, hr1, hk1, hr2, hk2, hr3, hk3, hr5, hk5, hr9, hk9⟩ := hL
  have hL : LM G K R := ⟨hk0, hr1, hk1, hr2, hk2, hr3, hk3, hr5, hk5, hr9, hk9⟩
  have h16 := hI.2.1
  have hS0 := hS.th (x := nI 0)
  have hM0 : RM (up2 I 140 0 (nI 0) 141) a := hS0.1
  have hH0 : RH (up2 I 140 0 (nI 0)) hs := hS0.2.1
  have hB0 : RB (up2 I 140 0 (nI 0)) B := hS0.2.2
  have hn9 : up2 I 140 0 (nI 0) 141 9 = nI a.2.1.length := hS0.1.2.1
  have hC : ∀ c ∈ a.2.1, c 0 < 4 ∧ c 3 ≤ 1 := fun c hc => ⟨(hI.2.2.1 c hc).1, (hI.2.2.1 c hc).2.2.2.2.1⟩

  by_cases hw : inR w 0 8
  · have hx : sCount w (a, hs, B) = (0, nI (cntN a hs.length (nv w)), (a, hs, B)) := by unfold sCount; rw [if_pos hw]
    rw [hx]
    clear hx
    obtain ⟨hw1, -, hw3⟩ := inR_nat hw (by decide) (by decide)
    obtain ⟨ww, hww'⟩ : ∃ st, st = nv w := ⟨_, rfl⟩
    rw [← hww'] at hw1 hw3 ⊢
    subst hw1
    refine run_of (ls := [(0, .ref (G.1 140)), (1, .int (nI ww))]) (by decide +kernel) rfl rfl (Nat.le_of_ble_eq_true rfl) ?_
    refine aw_aload_n dX4_count_0 rfl ?_
    refine aw_iconst (v := nI 0) dX4_count_1 rfl ?_
    refine aw_putI dX4_count_2 flX4_25 rfl (by intro r hr; cases hr; rfl) (by assumption) (by omega) rfl rfl ?_
    refine aw_iload_n dX4_count_5 rfl ?_
    refine aw_iconst (v := nI 0) dX4_count_6 rfl ?_
    refine aw_bipush (v := nI 8) dX4_count_7 rfl ?_
    refine aw_sRd dX4_count_9 cvX4_33 ⟨Nat.le_of_ble_eq_true rfl, Nat.le_of_ble_eq_true rfl⟩ (in1 hw) rfl rfl (Nat.le_of_ble_eq_true rfl) ⟨rfl, rfl⟩ ⟨Nat.zero_le _, Nat.zero_le _⟩ ?_
    refine aw_if_eqN (tgt := 23) dX4_count_12 (by decide) (by omega) (fun hc12 => absurd hc12 (by decide)) (fun hc12 => ?_)
    refine aw_aload_n dX4_count_15 rfl ?_
    refine aw_iload_n dX4_count_16 rfl ?_
    refine aw_vRd dX4_count_17 cvX4_141 ⟨Nat.le_of_ble_eq_true rfl, Nat.le_of_ble_eq_true rfl⟩ (by assumption) ⟨_, rfl, rfl⟩ (r_counts (a := a) hL hM0 hI (sm := hs.length) hH0.1 hw3) rfl rfl (Nat.le_of_ble_eq_true rfl) ⟨rfl, rfl⟩ ⟨Nat.zero_le _, Nat.zero_le _⟩ ?_
    refine aw_goto (tgt := 28) dX4_count_20 (by decide) ?_
    exact aw_iret dX4_count_28 rfl (Nat.zero_le _) (Nat.zero_le _) ⟨rfl, _, rfl, hS0, by rw [up2_o, if_pos rfl], FrM.th⟩
  · have hx : sCount w (a, hs, B) = (1, 0, (a, hs, B)) := by unfold sCount; rw [if_neg hw]
    rw [hx]
    refine run_of (ls := [(0, .ref (G.1 140)), (1, .int w)]) (by decide +kernel) rfl rfl (Nat.le_of_ble_eq_true rfl) ?_
    refine aw_aload_n dX4_count_0 rfl ?_
    refine aw_iconst (v := nI 0) dX4_count_1 rfl ?_
    refine aw_putI dX4_count_2 flX4_25 rfl (by intro r hr; cases hr; rfl) (by assumption) (by omega) rfl rfl ?_
    refine aw_iload_n dX4_count_5 rfl ?_
    refine aw_iconst (v := nI 0) dX4_count_6 rfl ?_
    refine aw_bipush (v := nI 8) dX4_count_7 rfl ?_
    refine aw_sRd dX4_count_9 cvX4_33 ⟨Nat.le_of_ble_eq_true rfl, Nat.le_of_ble_eq_true rfl⟩ (in0 hw) rfl rfl (Nat.le_of_ble_eq_true rfl) ⟨rfl, rfl⟩ ⟨Nat.zero_le _, Nat.zero_le _⟩ ?_
    refine aw_if_eqN (tgt := 23) dX4_count_12 (by decide) (by omega) (fun hc12 => ?_) (fun hc12 => absurd rfl hc12)
    refine aw_aload_n dX4_count_23 rfl ?_
    refine aw_iconst (v := nI 1) dX4_count_24 rfl ?_
    refine aw_vUp dX4_count_25 cvX4_93 ⟨Nat.le_of_ble_eq_true rfl, Nat.le_of_ble_eq_true rfl⟩ (by assumption) ⟨_, rfl, rfl⟩ (r_fails hL (nI 1)) rfl rfl (Nat.le_of_ble_eq_true rfl) ⟨rfl, rfl⟩ ⟨Nat.zero_le _, Nat.zero_le _⟩ (fun I25 hP25 => ?_)
    exact aw_iret dX4_count_28 rfl (Nat.zero_le _) (Nat.zero_le _) ⟨rfl, _, rfl, failS hS hP25⟩
theorem M_setting (hL : LM G K R) (hS : MS I (a, hs, B)) (hI : IV m k a) (hl1 : L1 a) (hmk : m + k ≤ 900000000) (w : Int32) : Run G YX4_setting [.ref (G.1 140), .int w] (K, R, I, J, z) (MP K R J z I (sSetting w (a, hs, B))) := by
  obtain ⟨hk0, hr1, hk1, hr2, hk2, hr3, hk3, hr5, hk5, hr9, hk9⟩ := hL
  have hL : LM G K R := ⟨hk0, hr1, hk1, hr2, hk2, hr3, hk3, hr5, hk5, hr9, hk9⟩
  have h16 := hI.2.1
  have hS0 := hS.th (x := nI 0)
  have hM0 : RM (up2 I 140 0 (nI 0) 141) a := hS0.1
  have hH0 : RH (up2 I 140 0 (nI 0)) hs := hS0.2.1
  have hB0 : RB (up2 I 140 0 (nI 0)) B := hS0.2.2
  have hn9 : up2 I 140 0 (nI 0) 141 9 = nI a.2.1.length := hS0.1.2.1
  have hC : ∀ c ∈ a.2.1, c 0 < 4 ∧ c 3 ≤ 1 := fun c hc => ⟨(hI.2.2.1 c hc).1, (hI.2.2.1 c hc).2.2.2.2.1⟩

  by_cases hw : inR w 0 4
  · have hx : sSetting w (a, hs, B) = (0, nI (a.1 (nv w)), (a, hs, B)) := by unfold sSetting; rw [if_pos hw]
    rw [hx]
    clear hx
    obtain ⟨hw1, -, hw3⟩ := inR_nat hw (by decide) (by decide)
    obtain ⟨ww, hww'⟩ : ∃ st, st = nv w := ⟨_, rfl⟩
    rw [← hww'] at hw1 hw3 ⊢
    subst hw1
    refine run_of (ls := [(0, .ref (G.1 140)), (1, .int (nI ww))]) (by decide +kernel) rfl rfl (Nat.le_of_ble_eq_true rfl) ?_
    refine aw_aload_n dX4_setting_0 rfl ?_
    refine aw_iconst (v := nI 0) dX4_setting_1 rfl ?_
    refine aw_putI dX4_setting_2 flX4_25 rfl (by intro r hr; cases hr; rfl) (by assumption) (by omega) rfl rfl ?_
    refine aw_iload_n dX4_setting_5 rfl ?_
    refine aw_iconst (v := nI 0) dX4_setting_6 rfl ?_
    refine aw_iconst (v := nI 4) dX4_setting_7 rfl ?_
    refine aw_sRd dX4_setting_8 cvX4_33 ⟨Nat.le_of_ble_eq_true rfl, Nat.le_of_ble_eq_true rfl⟩ (in1 hw) rfl rfl (Nat.le_of_ble_eq_true rfl) ⟨rfl, rfl⟩ ⟨Nat.zero_le _, Nat.zero_le _⟩ ?_
    refine aw_if_eqN (tgt := 23) dX4_setting_11 (by decide) (by omega) (fun hc11 => absurd hc11 (by decide)) (fun hc11 => ?_)
    refine aw_aload_n dX4_setting_14 rfl ?_
    refine aw_getR dX4_setting_15 flX4_7 rfl (by assumption) (by assumption) ?_
    refine aw_iload_n dX4_setting_18 rfl ?_
    refine aw_iald dX4_setting_19 (by assumption) (by omega) rfl (by omega) (show _ = nI (a.1 ww) from hM0.1 ww (by omega)) ?_
    refine aw_goto (tgt := 28) dX4_setting_20 (by decide) ?_
    exact aw_iret dX4_setting_28 rfl (Nat.zero_le _) (Nat.zero_le _) ⟨rfl, _, rfl, hS0, by rw [up2_o, if_pos rfl], FrM.th⟩
  · have hx : sSetting w (a, hs, B) = (1, 0, (a, hs, B)) := by unfold sSetting; rw [if_neg hw]
    rw [hx]
    refine run_of (ls := [(0, .ref (G.1 140)), (1, .int w)]) (by decide +kernel) rfl rfl (Nat.le_of_ble_eq_true rfl) ?_
    refine aw_aload_n dX4_setting_0 rfl ?_
    refine aw_iconst (v := nI 0) dX4_setting_1 rfl ?_
    refine aw_putI dX4_setting_2 flX4_25 rfl (by intro r hr; cases hr; rfl) (by assumption) (by omega) rfl rfl ?_
    refine aw_iload_n dX4_setting_5 rfl ?_
    refine aw_iconst (v := nI 0) dX4_setting_6 rfl ?_
    refine aw_iconst (v := nI 4) dX4_setting_7 rfl ?_
    refine aw_sRd dX4_setting_8 cvX4_33 ⟨Nat.le_of_ble_eq_true rfl, Nat.le_of_ble_eq_true rfl⟩ (in0 hw) rfl rfl (Nat.le_of_ble_eq_true rfl) ⟨rfl, rfl⟩ ⟨Nat.zero_le _, Nat.zero_le _⟩ ?_
    refine aw_if_eqN (tgt := 23) dX4_setting_11 (by decide) (by omega) (fun hc11 => ?_) (fun hc11 => absurd rfl hc11)
    refine aw_aload_n dX4_setting_23 rfl ?_
    refine aw_iconst (v := nI 1) dX4_setting_24 rfl ?_
    refine aw_vUp dX4_setting_25 cvX4_93 ⟨Nat.le_of_ble_eq_true rfl, Nat.le_of_ble_eq_true rfl⟩ (by assumption) ⟨_, rfl, rfl⟩ (r_fails hL (nI 1)) rfl rfl (Nat.le_of_ble_eq_true rfl) ⟨rfl, rfl⟩ ⟨Nat.zero_le _, Nat.zero_le _⟩ (fun I25 hP25 => ?_)
    exact aw_iret dX4_setting_28 rfl (Nat.zero_le _) (Nat.zero_le _) ⟨rfl, _, rfl, failS hS hP25⟩
theorem M_ifCalled (hL : LM G K R) (hS : MS I (a, hs, B)) (hI : IV m k a) (hl1 : L1 a) (hmk : m + k ≤ 900000000) (v : Int32) (n : Int32) (t : Int32) (w : Int32) : Run G YX4_ifCalled [.ref (G.1 140), .int v, .int n, .int t, .int w] (K, R, I, J, z) (MP K R J z I (sIf v n t w (a, hs, B))) := by
  obtain ⟨hk0, hr1, hk1, hr2, hk2, hr3, hk3, hr5, hk5, hr9, hk9⟩ := hL
  have hL : LM G K R := ⟨hk0, hr1, hk1, hr2, hk2, hr3, hk3, hr5, hk5, hr9, hk9⟩
  have h16 := hI.2.1
  have hS0 := hS.th (x := nI 0)
  have hM0 : RM (up2 I 140 0 (nI 0) 141) a := hS0.1
  have hH0 : RH (up2 I 140 0 (nI 0)) hs := hS0.2.1
  have hB0 : RB (up2 I 140 0 (nI 0)) B := hS0.2.2
  have hn9 : up2 I 140 0 (nI 0) 141 9 = nI a.2.1.length := hS0.1.2.1
  have hC : ∀ c ∈ a.2.1, c 0 < 4 ∧ c 3 ≤ 1 := fun c hc => ⟨(hI.2.2.1 c hc).1, (hI.2.2.1 c hc).2.2.2.2.1⟩

  by_cases hv : inR v 0 3
  rotate_left
  · have hx : sIf v n t w (a, hs, B) = (1, 0, (a, hs, B)) := by unfold sIf; rw [if_neg hv]
    rw [hx]
    refine run_of (ls := [(0, .ref (G.1 140)), (1, .int v), (2, .int n), (3, .int t), (4, .int w)]) (by decide +kernel) rfl rfl (Nat.le_of_ble_eq_true rfl) ?_
    refine aw_aload_n dX4_ifCalled_0 rfl ?_
    refine aw_iconst (v := nI 0) dX4_ifCalled_1 rfl ?_
    refine aw_putI dX4_ifCalled_2 flX4_25 rfl (by intro r hr; cases hr; rfl) (by assumption) (by omega) rfl rfl ?_
    refine aw_iload_n dX4_ifCalled_5 rfl ?_
    refine aw_sRd dX4_ifCalled_6 cvX4_90 ⟨Nat.le_of_ble_eq_true rfl, Nat.le_of_ble_eq_true rfl⟩ (isS0 hv) rfl rfl (Nat.le_of_ble_eq_true rfl) ⟨rfl, rfl⟩ ⟨Nat.zero_le _, Nat.zero_le _⟩ ?_
    refine aw_if_neN (tgt := 18) dX4_ifCalled_9 (by decide) (by omega) (fun hc9 => absurd rfl hc9) (fun hc9 => ?_)
    refine aw_aload_n dX4_ifCalled_12 rfl ?_
    refine aw_iconst (v := nI 1) dX4_ifCalled_13 rfl ?_
    refine aw_vUp dX4_ifCalled_14 cvX4_93 ⟨Nat.le_of_ble_eq_true rfl, Nat.le_of_ble_eq_true rfl⟩ (by assumption) ⟨_, rfl, rfl⟩ (r_fails hL (nI 1)) rfl rfl (Nat.le_of_ble_eq_true rfl) ⟨rfl, rfl⟩ ⟨Nat.zero_le _, Nat.zero_le _⟩ (fun I14 hP14 => ?_)
    exact aw_iret dX4_ifCalled_17 rfl (Nat.zero_le _) (Nat.zero_le _) ⟨rfl, _, rfl, failS hS hP14⟩
  obtain ⟨hv1, -, hv3⟩ := inR_nat hv (by decide) (by decide)
  have hst : nv v < 4 := by omega
  have ht := (hI.2.2.2.2.1 _ hst).up hI.b
  by_cases hnt : inR n 1 50 ∧ inR t 0 50 ∧ inR w 0 3
  · have hx : sIf v n t w (a, hs, B) = (0, wouldI a (nv v) (nv n) (nv t) (nv w), (a, hs, B)) := by unfold sIf; rw [if_pos hv, if_pos hnt]
    rw [hx]
    clear hx
    obtain ⟨hn1, hn2, hn3⟩ := inR_nat hnt.1 (by decide) (by decide)
    obtain ⟨ht1, -, ht3⟩ := inR_nat hnt.2.1 (by decide) (by decide)
    obtain ⟨hw1, -, hw3⟩ := inR_nat hnt.2.2 (by decide) (by decide)
    obtain ⟨st, hst'⟩ : ∃ st, st = nv v := ⟨_, rfl⟩
    obtain ⟨nn, hnn'⟩ : ∃ st, st = nv n := ⟨_, rfl⟩
    obtain ⟨tt, htt'⟩ : ∃ st, st = nv t := ⟨_, rfl⟩
    obtain ⟨ww, hww'⟩ : ∃ st, st = nv w := ⟨_, rfl⟩
    rw [← hst'] at hv1 hv3 hst ht ⊢
    rw [← hnn'] at hn1 hn2 hn3 ⊢
    rw [← htt'] at ht1 ht3 ⊢
    rw [← hww'] at hw1 hw3 ⊢
    subst hv1 hn1 ht1 hw1
    refine run_of (ls := [(0, .ref (G.1 140)), (1, .int (nI st)), (2, .int (nI nn)), (3, .int (nI tt)), (4, .int (nI ww))]) (by decide +kernel) rfl rfl (Nat.le_of_ble_eq_true rfl) ?_
    refine aw_aload_n dX4_ifCalled_0 rfl ?_
    refine aw_iconst (v := nI 0) dX4_ifCalled_1 rfl ?_
    refine aw_putI dX4_ifCalled_2 flX4_25 rfl (by intro r hr; cases hr; rfl) (by assumption) (by omega) rfl rfl ?_
    refine aw_iload_n dX4_ifCalled_5 rfl ?_
    refine aw_sRd dX4_ifCalled_6 cvX4_90 ⟨Nat.le_of_ble_eq_true rfl, Nat.le_of_ble_eq_true rfl⟩ (isS1 hv) rfl rfl (Nat.le_of_ble_eq_true rfl) ⟨rfl, rfl⟩ ⟨Nat.zero_le _, Nat.zero_le _⟩ ?_
    refine aw_if_neN (tgt := 18) dX4_ifCalled_9 (by decide) (by omega) (fun hc9 => ?_) (fun hc9 => absurd hc9 (by decide))
    refine aw_iload_n dX4_ifCalled_18 rfl ?_
    refine aw_iconst (v := nI 1) dX4_ifCalled_19 rfl ?_
    refine aw_bipush (v := nI 50) dX4_ifCalled_20 rfl ?_
    refine aw_sRd dX4_ifCalled_22 cvX4_33 ⟨Nat.le_of_ble_eq_true rfl, Nat.le_of_ble_eq_true rfl⟩ (in1 hnt.1) rfl rfl (Nat.le_of_ble_eq_true rfl) ⟨rfl, rfl⟩ ⟨Nat.zero_le _, Nat.zero_le _⟩ ?_
    refine aw_if_eqN (tgt := 60) dX4_ifCalled_25 (by decide) (by omega) (fun hc25 => absurd hc25 (by decide)) (fun hc25 => ?_)
    refine aw_iload_n dX4_ifCalled_28 rfl ?_
    refine aw_iconst (v := nI 0) dX4_ifCalled_29 rfl ?_
    refine aw_bipush (v := nI 50) dX4_ifCalled_30 rfl ?_
    refine aw_sRd dX4_ifCalled_32 cvX4_33 ⟨Nat.le_of_ble_eq_true rfl, Nat.le_of_ble_eq_true rfl⟩ (in1 hnt.2.1) rfl rfl (Nat.le_of_ble_eq_true rfl) ⟨rfl, rfl⟩ ⟨Nat.zero_le _, Nat.zero_le _⟩ ?_
    refine aw_if_eqN (tgt := 60) dX4_ifCalled_35 (by decide) (by omega) (fun hc35 => absurd hc35 (by decide)) (fun hc35 => ?_)
    refine aw_iload dX4_ifCalled_38 rfl ?_
    refine aw_iconst (v := nI 0) dX4_ifCalled_40 rfl ?_
    refine aw_iconst (v := nI 3) dX4_ifCalled_41 rfl ?_
    refine aw_sRd dX4_ifCalled_42 cvX4_33 ⟨Nat.le_of_ble_eq_true rfl, Nat.le_of_ble_eq_true rfl⟩ (in1 hnt.2.2) rfl rfl (Nat.le_of_ble_eq_true rfl) ⟨rfl, rfl⟩ ⟨Nat.zero_le _, Nat.zero_le _⟩ ?_
    refine aw_if_eqN (tgt := 60) dX4_ifCalled_45 (by decide) (by omega) (fun hc45 => absurd hc45 (by decide)) (fun hc45 => ?_)
    refine aw_aload_n dX4_ifCalled_48 rfl ?_
    refine aw_iload_n dX4_ifCalled_49 rfl ?_
    refine aw_iload_n dX4_ifCalled_50 rfl ?_
    refine aw_iload_n dX4_ifCalled_51 rfl ?_
    refine aw_iload dX4_ifCalled_52 rfl ?_
    refine aw_vUp dX4_ifCalled_54 cvX4_150 ⟨Nat.le_of_ble_eq_true rfl, Nat.le_of_ble_eq_true rfl⟩ (by assumption) ⟨_, rfl, rfl⟩ (r_would (a := a) (m := m) (k := k) hL hst (by omega) (by omega) hw3 hM0 hI hl1 (by omega)) rfl rfl (Nat.le_of_ble_eq_true rfl) ⟨rfl, rfl⟩ ⟨Nat.zero_le _, Nat.zero_le _⟩ (fun I54 hP54 => ?_)
    refine aw_goto (tgt := 65) dX4_ifCalled_57 (by decide) ?_
    exact aw_iret dX4_ifCalled_65 rfl (Nat.zero_le _) (Nat.zero_le _) ⟨rfl, _, rfl, hS.wd hP54⟩
  · have hx : sIf v n t w (a, hs, B) = (2, 0, (a, hs, B)) := by unfold sIf; rw [if_pos hv, if_neg hnt]
    rw [hx]
    clear hx
    by_cases hn : inR n 1 50
    · by_cases htt : inR t 0 50
      · have hw : ¬ inR w 0 3 := fun q => hnt ⟨hn, htt, q⟩
        refine run_of (ls := [(0, .ref (G.1 140)), (1, .int v), (2, .int n), (3, .int t), (4, .int w)]) (by decide +kernel) rfl rfl (Nat.le_of_ble_eq_true rfl) ?_
        refine aw_aload_n dX4_ifCalled_0 rfl ?_
        refine aw_iconst (v := nI 0) dX4_ifCalled_1 rfl ?_
        refine aw_putI dX4_ifCalled_2 flX4_25 rfl (by intro r hr; cases hr; rfl) (by assumption) (by omega) rfl rfl ?_
        refine aw_iload_n dX4_ifCalled_5 rfl ?_
        refine aw_sRd dX4_ifCalled_6 cvX4_90 ⟨Nat.le_of_ble_eq_true rfl, Nat.le_of_ble_eq_true rfl⟩ (isS1 hv) rfl rfl (Nat.le_of_ble_eq_true rfl) ⟨rfl, rfl⟩ ⟨Nat.zero_le _, Nat.zero_le _⟩ ?_
        refine aw_if_neN (tgt := 18) dX4_ifCalled_9 (by decide) (by omega) (fun hc9 => ?_) (fun hc9 => absurd hc9 (by decide))
        refine aw_iload_n dX4_ifCalled_18 rfl ?_
        refine aw_iconst (v := nI 1) dX4_ifCalled_19 rfl ?_
        refine aw_bipush (v := nI 50) dX4_ifCalled_20 rfl ?_
        refine aw_sRd dX4_ifCalled_22 cvX4_33 ⟨Nat.le_of_ble_eq_true rfl, Nat.le_of_ble_eq_true rfl⟩ (in1 hn) rfl rfl (Nat.le_of_ble_eq_true rfl) ⟨rfl, rfl⟩ ⟨Nat.zero_le _, Nat.zero_le _⟩ ?_
        refine aw_if_eqN (tgt := 60) dX4_ifCalled_25 (by decide) (by omega) (fun hc25 => absurd hc25 (by decide)) (fun hc25 => ?_)
        refine aw_iload_n dX4_ifCalled_28 rfl ?_
        refine aw_iconst (v := nI 0) dX4_ifCalled_29 rfl ?_
        refine aw_bipush (v := nI 50) dX4_ifCalled_30 rfl ?_
        refine aw_sRd dX4_ifCalled_32 cvX4_33 ⟨Nat.le_of_ble_eq_true rfl, Nat.le_of_ble_eq_true rfl⟩ (in1 htt) rfl rfl (Nat.le_of_ble_eq_true rfl) ⟨rfl, rfl⟩ ⟨Nat.zero_le _, Nat.zero_le _⟩ ?_
        refine aw_if_eqN (tgt := 60) dX4_ifCalled_35 (by decide) (by omega) (fun hc35 => absurd hc35 (by decide)) (fun hc35 => ?_)
        refine aw_iload dX4_ifCalled_38 rfl ?_
        refine aw_iconst (v := nI 0) dX4_ifCalled_40 rfl ?_
        refine aw_iconst (v := nI 3) dX4_ifCalled_41 rfl ?_
        refine aw_sRd dX4_ifCalled_42 cvX4_33 ⟨Nat.le_of_ble_eq_true rfl, Nat.le_of_ble_eq_true rfl⟩ (in0 hw) rfl rfl (Nat.le_of_ble_eq_true rfl) ⟨rfl, rfl⟩ ⟨Nat.zero_le _, Nat.zero_le _⟩ ?_
        refine aw_if_eqN (tgt := 60) dX4_ifCalled_45 (by decide) (by omega) (fun hc45 => ?_) (fun hc45 => absurd rfl hc45)
        refine aw_aload_n dX4_ifCalled_60 rfl ?_
        refine aw_iconst (v := nI 2) dX4_ifCalled_61 rfl ?_
        refine aw_vUp dX4_ifCalled_62 cvX4_93 ⟨Nat.le_of_ble_eq_true rfl, Nat.le_of_ble_eq_true rfl⟩ (by assumption) ⟨_, rfl, rfl⟩ (r_fails hL (nI 2)) rfl rfl (Nat.le_of_ble_eq_true rfl) ⟨rfl, rfl⟩ ⟨Nat.zero_le _, Nat.zero_le _⟩ (fun I62 hP62 => ?_)
        exact aw_iret dX4_ifCalled_65 rfl (Nat.zero_le _) (Nat.zero_le _) ⟨rfl, _, rfl, failS hS hP62⟩
      · skip
        refine run_of (ls := [(0, .ref (G.1 140)), (1, .int v), (2, .int n), (3, .int t), (4, .int w)]) (by decide +kernel) rfl rfl (Nat.le_of_ble_eq_true rfl) ?_
        refine aw_aload_n dX4_ifCalled_0 rfl ?_
        refine aw_iconst (v := nI 0) dX4_ifCalled_1 rfl ?_
        refine aw_putI dX4_ifCalled_2 flX4_25 rfl (by intro r hr; cases hr; rfl) (by assumption) (by omega) rfl rfl ?_
        refine aw_iload_n dX4_ifCalled_5 rfl ?_
        refine aw_sRd dX4_ifCalled_6 cvX4_90 ⟨Nat.le_of_ble_eq_true rfl, Nat.le_of_ble_eq_true rfl⟩ (isS1 hv) rfl rfl (Nat.le_of_ble_eq_true rfl) ⟨rfl, rfl⟩ ⟨Nat.zero_le _, Nat.zero_le _⟩ ?_
        refine aw_if_neN (tgt := 18) dX4_ifCalled_9 (by decide) (by omega) (fun hc9 => ?_) (fun hc9 => absurd hc9 (by decide))
        refine aw_iload_n dX4_ifCalled_18 rfl ?_
        refine aw_iconst (v := nI 1) dX4_ifCalled_19 rfl ?_
        refine aw_bipush (v := nI 50) dX4_ifCalled_20 rfl ?_
        refine aw_sRd dX4_ifCalled_22 cvX4_33 ⟨Nat.le_of_ble_eq_true rfl, Nat.le_of_ble_eq_true rfl⟩ (in1 hn) rfl rfl (Nat.le_of_ble_eq_true rfl) ⟨rfl, rfl⟩ ⟨Nat.zero_le _, Nat.zero_le _⟩ ?_
        refine aw_if_eqN (tgt := 60) dX4_ifCalled_25 (by decide) (by omega) (fun hc25 => absurd hc25 (by decide)) (fun hc25 => ?_)
        refine aw_iload_n dX4_ifCalled_28 rfl ?_
        refine aw_iconst (v := nI 0) dX4_ifCalled_29 rfl ?_
        refine aw_bipush (v := nI 50) dX4_ifCalled_30 rfl ?_
        refine aw_sRd dX4_ifCalled_32 cvX4_33 ⟨Nat.le_of_ble_eq_true rfl, Nat.le_of_ble_eq_true rfl⟩ (in0 htt) rfl rfl (Nat.le_of_ble_eq_true rfl) ⟨rfl, rfl⟩ ⟨Nat.zero_le _, Nat.zero_le _⟩ ?_
        refine aw_if_eqN (tgt := 60) dX4_ifCalled_35 (by decide) (by omega) (fun hc35 => ?_) (fun hc35 => absurd rfl hc35)
        refine aw_aload_n dX4_ifCalled_60 rfl ?_
        refine aw_iconst (v := nI 2) dX4_ifCalled_61 rfl ?_
        refine aw_vUp dX4_ifCalled_62 cvX4_93 ⟨Nat.le_of_ble_eq_true rfl, Nat.le_of_ble_eq_true rfl⟩ (by assumption) ⟨_, rfl, rfl⟩ (r_fails hL (nI 2)) rfl rfl (Nat.le_of_ble_eq_true rfl) ⟨rfl, rfl⟩ ⟨Nat.zero_le _, Nat.zero_le _⟩ (fun I62 hP62 => ?_)
        exact aw_iret dX4_ifCalled_65 rfl (Nat.zero_le _) (Nat.zero_le _) ⟨rfl, _, rfl, failS hS hP62⟩
    · skip
      refine run_of (ls := [(0, .ref (G.1 140)), (1, .int v), (2, .int n), (3, .int t), (4, .int w)]) (by decide +kernel) rfl rfl (Nat.le_of_ble_eq_true rfl) ?_
      refine aw_aload_n dX4_ifCalled_0 rfl ?_
      refine aw_iconst (v := nI 0) dX4_ifCalled_1 rfl ?_
      refine aw_putI dX4_ifCalled_2 flX4_25 rfl (by intro r hr; cases hr; rfl) (by assumption) (by omega) rfl rfl ?_
      refine aw_iload_n dX4_ifCalled_5 rfl ?_
      refine aw_sRd dX4_ifCalled_6 cvX4_90 ⟨Nat.le_of_ble_eq_true rfl, Nat.le_of_ble_eq_true rfl⟩ (isS1 hv) rfl rfl (Nat.le_of_ble_eq_true rfl) ⟨rfl, rfl⟩ ⟨Nat.zero_le _, Nat.zero_le _⟩ ?_
      refine aw_if_neN (tgt := 18) dX4_ifCalled_9 (by decide) (by omega) (fun hc9 => ?_) (fun hc9 => absurd hc9 (by decide))
      refine aw_iload_n dX4_ifCalled_18 rfl ?_
      refine aw_iconst (v := nI 1) dX4_ifCalled_19 rfl ?_
      refine aw_bipush (v := nI 50) dX4_ifCalled_20 rfl ?_
      refine aw_sRd dX4_ifCalled_22 cvX4_33 ⟨Nat.le_of_ble_eq_true rfl, Nat.le_of_ble_eq_true rfl⟩ (in0 hn) rfl rfl (Nat.le_of_ble_eq_true rfl) ⟨rfl, rfl⟩ ⟨Nat.zero_le _, Nat.zero_le _⟩ ?_
      refine aw_if_eqN (tgt := 60) dX4_ifCalled_25 (by decide) (by omega) (fun hc25 => ?_) (fun hc25 => absurd rfl hc25)
      refine aw_aload_n dX4_ifCalled_60 rfl ?_
      refine aw_iconst (v := nI 2) dX4_ifCalled_61 rfl ?_
      refine aw_vUp dX4_ifCalled_62 cvX4_93 ⟨Nat.le_of_ble_eq_true rfl, Nat.le_of_ble_eq_true rfl⟩ (by assumption) ⟨_, rfl, rfl⟩ (r_fails hL (nI 2)) rfl rfl (Nat.le_of_ble_eq_true rfl) ⟨rfl, rfl⟩ ⟨Nat.zero_le _, Nat.zero_le _⟩ (fun I62 hP62 => ?_)
      exact aw_iret dX4_ifCalled_65 rfl (Nat.zero_le _) (Nat.zero_le _) ⟨rfl, _, rfl, failS hS hP62⟩
theorem M_freeIn (hL : LM G K R) (hS : MS I (a, hs, B)) (hI : IV m k a) (hl1 : L1 a) (hmk : m + k ≤ 900000000) (v : Int32) : Run G YX4_freeIn [.ref (G.1 140), .int v] (K, R, I, J, z) (MP K R J z I (sFree v (a, hs, B))) := by
  obtain ⟨hk0, hr1, hk1, hr2, hk2, hr3, hk3, hr5, hk5, hr9, hk9⟩ := hL
  have hL : LM G K R := ⟨hk0, hr1, hk1, hr2, hk2, hr3, hk3, hr5, hk5, hr9, hk9⟩
  have h16 := hI.2.1
  have hS0 := hS.th (x := nI 0)
  have hM0 : RM (up2 I 140 0 (nI 0) 141) a := hS0.1
  have hH0 : RH (up2 I 140 0 (nI 0)) hs := hS0.2.1
  have hB0 : RB (up2 I 140 0 (nI 0)) B := hS0.2.2
  have hn9 : up2 I 140 0 (nI 0) 141 9 = nI a.2.1.length := hS0.1.2.1
  have hC : ∀ c ∈ a.2.1, c 0 < 4 ∧ c 3 ≤ 1 := fun c hc => ⟨(hI.2.2.1 c hc).1, (hI.2.2.1 c hc).2.2.2.2.1⟩

  by_cases hv : inR v 0 3
  rotate_left
  · have hx : sFree v (a, hs, B) = (1, 0, (a, hs, B)) := by unfold sFree; rw [if_neg hv]
    rw [hx]
    refine run_of (ls := [(0, .ref (G.1 140)), (1, .int v)]) (by decide +kernel) rfl rfl (Nat.le_of_ble_eq_true rfl) ?_
    refine aw_aload_n dX4_freeIn_0 rfl ?_
    refine aw_iconst (v := nI 0) dX4_freeIn_1 rfl ?_
    refine aw_putI dX4_freeIn_2 flX4_25 rfl (by intro r hr; cases hr; rfl) (by assumption) (by omega) rfl rfl ?_
    refine aw_iload_n dX4_freeIn_5 rfl ?_
    refine aw_sRd dX4_freeIn_6 cvX4_90 ⟨Nat.le_of_ble_eq_true rfl, Nat.le_of_ble_eq_true rfl⟩ (isS0 hv) rfl rfl (Nat.le_of_ble_eq_true rfl) ⟨rfl, rfl⟩ ⟨Nat.zero_le _, Nat.zero_le _⟩ ?_
    refine aw_if_eqN (tgt := 20) dX4_freeIn_9 (by decide) (by omega) (fun hc9 => ?_) (fun hc9 => absurd rfl hc9)
    refine aw_aload_n dX4_freeIn_20 rfl ?_
    refine aw_iconst (v := nI 1) dX4_freeIn_21 rfl ?_
    refine aw_vUp dX4_freeIn_22 cvX4_93 ⟨Nat.le_of_ble_eq_true rfl, Nat.le_of_ble_eq_true rfl⟩ (by assumption) ⟨_, rfl, rfl⟩ (r_fails hL (nI 1)) rfl rfl (Nat.le_of_ble_eq_true rfl) ⟨rfl, rfl⟩ ⟨Nat.zero_le _, Nat.zero_le _⟩ (fun I22 hP22 => ?_)
    exact aw_iret dX4_freeIn_25 rfl (Nat.zero_le _) (Nat.zero_le _) ⟨rfl, _, rfl, failS hS hP22⟩
  obtain ⟨hv1, -, hv3⟩ := inR_nat hv (by decide) (by decide)
  have hst : nv v < 4 := by omega
  have ht := (hI.2.2.2.2.1 _ hst).up hI.b
  have hx : sFree v (a, hs, B) = (0, untilI a (nv v), (a, hs, B)) := by unfold sFree; rw [if_pos hv]
  rw [hx]
  clear hx
  obtain ⟨st, hst'⟩ : ∃ st, st = nv v := ⟨_, rfl⟩
  rw [← hst'] at hv1 hv3 hst ht ⊢
  subst hv1

  refine run_of (ls := [(0, .ref (G.1 140)), (1, .int (nI st))]) (by decide +kernel) rfl rfl (Nat.le_of_ble_eq_true rfl) ?_
  refine aw_aload_n dX4_freeIn_0 rfl ?_
  refine aw_iconst (v := nI 0) dX4_freeIn_1 rfl ?_
  refine aw_putI dX4_freeIn_2 flX4_25 rfl (by intro r hr; cases hr; rfl) (by assumption) (by omega) rfl rfl ?_
  refine aw_iload_n dX4_freeIn_5 rfl ?_
  refine aw_sRd dX4_freeIn_6 cvX4_90 ⟨Nat.le_of_ble_eq_true rfl, Nat.le_of_ble_eq_true rfl⟩ (isS1 hv) rfl rfl (Nat.le_of_ble_eq_true rfl) ⟨rfl, rfl⟩ ⟨Nat.zero_le _, Nat.zero_le _⟩ ?_
  refine aw_if_eqN (tgt := 20) dX4_freeIn_9 (by decide) (by omega) (fun hc9 => absurd hc9 (by decide)) (fun hc9 => ?_)
  refine aw_aload_n dX4_freeIn_12 rfl ?_
  refine aw_iload_n dX4_freeIn_13 rfl ?_
  refine aw_vUp dX4_freeIn_14 cvX4_154 ⟨Nat.le_of_ble_eq_true rfl, Nat.le_of_ble_eq_true rfl⟩ (by assumption) ⟨_, rfl, rfl⟩ (r_untilFree (a := a) hL hst hM0 hI hl1 (by omega)) rfl rfl (Nat.le_of_ble_eq_true rfl) ⟨rfl, rfl⟩ ⟨Nat.zero_le _, Nat.zero_le _⟩ (fun I14 hP14 => ?_)
  refine aw_goto (tgt := 25) dX4_freeIn_17 (by decide) ?_
  exact aw_iret dX4_freeIn_25 rfl (Nat.zero_le _) (Nat.zero_le _) ⟨rfl, _, rfl, hS.wd hP14⟩
theorem M_healthiest (hL : LM G K R) (hS : MS I (a, hs, B)) (hI : IV m k a) (hl1 : L1 a) (hmk : m + k ≤ 900000000) : Run G YX4_healthiest [.ref (G.1 140)] (K, R, I, J, z) (MP K R J z I (sHealthiest  (a, hs, B))) := by
  obtain ⟨hk0, hr1, hk1, hr2, hk2, hr3, hk3, hr5, hk5, hr9, hk9⟩ := hL
  have hL : LM G K R := ⟨hk0, hr1, hk1, hr2, hk2, hr3, hk3, hr5, hk5, hr9, hk9⟩
  have h16 := hI.2.1
  have hS0 := hS.th (x := nI 0)
  have hM0 : RM (up2 I 140 0 (nI 0) 141) a := hS0.1
  have hH0 : RH (up2 I 140 0 (nI 0)) hs := hS0.2.1
  have hB0 : RB (up2 I 140 0 (nI 0)) B := hS0.2.2
  have hn9 : up2 I 140 0 (nI 0) 141 9 = nI a.2.1.length := hS0.1.2.1
  have hC : ∀ c ∈ a.2.1, c 0 < 4 ∧ c 3 ≤ 1 := fun c hc => ⟨(hI.2.2.1 c hc).1, (hI.2.2.1 c hc).2.2.2.2.1⟩

  refine run_of (ls := [(0, .ref (G.1 140))]) (by decide +kernel) rfl rfl (Nat.le_of_ble_eq_true rfl) ?_
  refine aw_aload_n dX4_healthiest_0 rfl ?_
  refine aw_iconst (v := nI 0) dX4_healthiest_1 rfl ?_
  refine aw_putI dX4_healthiest_2 flX4_25 rfl (by intro r hr; cases hr; rfl) (by assumption) (by omega) rfl rfl ?_
  refine aw_aload_n dX4_healthiest_5 rfl ?_
  refine aw_vRd dX4_healthiest_6 cvX4_106 ⟨Nat.le_of_ble_eq_true rfl, Nat.le_of_ble_eq_true rfl⟩ (by assumption) ⟨_, rfl, rfl⟩ (r_bestStore (a := a) hL hM0 hI) rfl rfl (Nat.le_of_ble_eq_true rfl) ⟨rfl, rfl⟩ ⟨Nat.zero_le _, Nat.zero_le _⟩ ?_
  exact aw_iret dX4_healthiest_9 rfl (Nat.zero_le _) (Nat.zero_le _) ⟨rfl, _, rfl, hS0, by rw [up2_o, if_pos rfl]; rfl, FrM.th⟩
end MODEL13
