/-! WHAT STAYS TRUE TOO: who was let through is on the way or has come out -/
def JV (a : AA) : Prop := a.2.2 0 7 + a.2.2 1 7 + a.2.2 2 7 + a.2.2 3 7 = a.2.1.length + (a.1 6 + a.1 7)
/-! THE CLASS'S FACE: looks, what would be -/
theorem outR_7 {g : Nat → Nat} {d tr since : Nat} {t : Rw} : outR g d tr since t 7 = t 7 := by
  unfold outR winR
  split
  · split <;> rfl
  · split
    · split <;> rfl
    · rfl
theorem ansG_7 : ∀ (L : List Cl) (x : (Nat → Nat) × (Nat → Rw)) (s : Nat), (ansG L x).2 s 7 = x.2 s 7
  | [], _, _ => rfl
  | c :: cs, x, s => by
    unfold ansG
    split
    · rw [ansG_7 cs _ s]
      show sT x.2 (c 0) _ s 7 = _
      by_cases e : s = c 0
      · rw [e, sT_s]; exact outR_7
      · rw [sT_n e]
    · exact ansG_7 cs x s
theorem tick_7 {a : AA} {s : Nat} : (tickA a).2.2 s 7 = a.2.2 s 7 := by
  rw [tickA_eq]
  show waitF 4 _ s 7 = _
  unfold waitF waitR
  split
  · split
    · show (ansG _ _).2 s 7 = _; exact ansG_7 _ _ _
    · exact ansG_7 _ _ _
  · exact ansG_7 _ _ _
theorem sum7 {T : Nat → Rw} {st : Nat} {t : Rw} (hst : st < 4) (v : Nat) (ht : t 7 = T st 7 + v) : sT T st t 0 7 + sT T st t 1 7 + sT T st t 2 7 + sT T st t 3 7 = T 0 7 + T 1 7 + T 2 7 + T 3 7 + v := by
  rcases (show st = 0 ∨ st = 1 ∨ st = 2 ∨ st = 3 by omega) with rfl | rfl | rfl | rfl <;> simp [sT, ht] <;> omega
def z1 (L : List Cl) : Nat := L.countP (fun c => c 1 == 0)
theorem z1_kept : ∀ L : List Cl, (keptL L).length + z1 L = L.length
  | [] => rfl
  | c :: cs => by
    have h := z1_kept cs
    unfold keptL z1 at h ⊢
    rw [List.filter_cons, List.countP_cons]
    cases (c 1 == 0) <;> simp <;> omega
theorem ansG_67 : ∀ (L : List Cl) (x : (Nat → Nat) × (Nat → Rw)), (ansG L x).1 6 + (ansG L x).1 7 = x.1 6 + x.1 7 + z1 L
  | [], _ => rfl
  | c :: cs, x => by
    unfold ansG z1
    rw [List.countP_cons]
    by_cases h : c 1 = 0
    · rw [if_pos h, ansG_67 cs]
      have := outG_67 x.1 (c 2)
      simp only [h, beq_self_eq_true, if_true]
      show outG x.1 (c 2) 6 + outG x.1 (c 2) 7 + z1 cs = x.1 6 + x.1 7 + (z1 cs + 1)
      omega
    · rw [if_neg h, ansG_67 cs]
      have e : (c 1 == 0) = false := by simpa using h
      rw [e]
      rfl
theorem JV.tick {a : AA} (h : JV a) : JV (tickA a) := by
  have e67 : (tickA a).1 6 + (tickA a).1 7 = a.1 6 + a.1 7 + z1 (a.2.1.map decC) := ansG_67 (a.2.1.map decC) (a.1, a.2.2)
  have el : (tickA a).2.1.length + z1 (a.2.1.map decC) = a.2.1.length := by
    have := z1_kept (a.2.1.map decC)
    rw [List.length_map] at this
    exact this
  unfold JV at h ⊢
  rw [tick_7, tick_7, tick_7, tick_7]
  omega
theorem JV.ticks : ∀ (n : Nat) {a : AA}, JV a → JV (ticksA n a)
  | 0, _, h => h
  | n + 1, _, h => JV.ticks n h.tick
theorem JV.call {a : AA} {st : Nat} (hst : st < 4) (h : JV a) : JV (callA a st) := by
  unfold JV at h
  cases hr : refd a st with
  | true =>
    rw [callA_r hr]
    have := sum7 (T := a.2.2) (st := st) (t := u1 (a.2.2 st) 8 (a.2.2 st 8 + 1)) hst 0 rfl
    show sT a.2.2 st _ 0 7 + sT a.2.2 st _ 1 7 + sT a.2.2 st _ 2 7 + sT a.2.2 st _ 3 7 = _
    rw [this]
    exact h
  | false =>
    by_cases hd : a.2.2 st (12 + a.2.2 st 1) = 0
    · rw [callA_0 hr hd]
      have h1 := sum7 (T := a.2.2) (st := st) (t := thruR (a.2.2 st)) hst 1 rfl
      have h2 := sum7 (T := sT a.2.2 st (thruR (a.2.2 st))) (st := st) (t := outR (u1 a.1 8 (a.1 8 + trN a st)) 0 (trN a st) (a.2.2 st 11) (sT a.2.2 st (thruR (a.2.2 st)) st)) hst 0 outR_7
      have h3 := outG_67 (u1 a.1 8 (a.1 8 + trN a st)) 0
      have e6 : u1 a.1 8 (a.1 8 + trN a st) 6 = a.1 6 := rfl
      have e7 : u1 a.1 8 (a.1 8 + trN a st) 7 = a.1 7 := rfl
      show sT (sT a.2.2 st (thruR (a.2.2 st))) st _ 0 7 + sT (sT a.2.2 st (thruR (a.2.2 st))) st _ 1 7 + sT (sT a.2.2 st (thruR (a.2.2 st))) st _ 2 7 + sT (sT a.2.2 st (thruR (a.2.2 st))) st _ 3 7 = a.2.1.length + (outG (u1 a.1 8 (a.1 8 + trN a st)) 0 6 + outG (u1 a.1 8 (a.1 8 + trN a st)) 0 7)
      rw [h2]
      omega
    · rw [callA_1 hr hd]
      have h1 := sum7 (T := a.2.2) (st := st) (t := thruR (a.2.2 st)) hst 1 rfl
      show sT a.2.2 st (thruR (a.2.2 st)) 0 7 + sT a.2.2 st (thruR (a.2.2 st)) 1 7 + sT a.2.2 st (thruR (a.2.2 st)) 2 7 + sT a.2.2 st (thruR (a.2.2 st)) 3 7 = (a.2.1 ++ [_]).length + (a.1 6 + a.1 7)
      rw [h1, List.length_append]
      show _ = a.2.1.length + 1 + _
      omega
theorem JV.often {st t : Nat} (hst : st < 4) : ∀ (n : Nat) {a : AA}, JV a → JV (oftenA st t n a)
  | 0, _, h => h
  | n + 1, a, h => by
    unfold oftenA
    split
    · exact h
    · exact JV.often hst n (JV.ticks t (h.call hst))
theorem JV.shut {a : AA} {st : Nat} (hst : st < 4) (h : JV a) : JV (shutA a st) := by
  have := sum7 (T := a.2.2) (st := st) (t := closeR (a.2.2 st)) hst 0 rfl
  unfold JV at h ⊢
  show sT a.2.2 st _ 0 7 + sT a.2.2 st _ 1 7 + sT a.2.2 st _ 2 7 + sT a.2.2 st _ 3 7 = (a.2.1.map (clrC st)).length + _
  rw [this, List.length_map]
  exact h
theorem JV.row {a : AA} {st : Nat} {r : List Nat} (hst : st < 4) (h : JV a) : JV (a.1, a.2.1, sT a.2.2 st (rowR r (a.2.2 st))) := by
  have := sum7 (T := a.2.2) (st := st) (t := rowR r (a.2.2 st)) hst 0 rfl
  unfold JV at h ⊢
  show sT a.2.2 st _ 0 7 + sT a.2.2 st _ 1 7 + sT a.2.2 st _ 2 7 + sT a.2.2 st _ 3 7 = _
  rw [this]
  exact h
theorem JV.set {a : AA} {i v : Nat} (hi : i ≤ 4) (h : JV a) : JV (u1 a.1 i v, a.2.1, a.2.2) := by
  unfold JV at h ⊢
  show _ = a.2.1.length + (u1 a.1 i v 6 + u1 a.1 i v 7)
  rw [u1_n (by omega), u1_n (by omega)]
  exact h
theorem ticksN_le : ∀ (n : Nat) (a : AA), ticksN n a ≤ a.2.1.length
  | 0, _ => Nat.zero_le _
  | n + 1, a => by
    have h := ticksN_le n (tickA a)
    have el : (tickA a).2.1.length + z1 (a.2.1.map decC) = a.2.1.length := by
      have := z1_kept (a.2.1.map decC)
      rw [List.length_map] at this
      exact this
    show tickN a + ticksN n (tickA a) ≤ _
    have : tickN a = a.2.1.length - (tickA a).2.1.length := rfl
    omega
theorem oftenN_le {st t : Nat} : ∀ (n : Nat) (a : AA), oftenN st t n a ≤ n
  | 0, _ => Nat.le_refl _
  | n + 1, a => by
    unfold oftenN
    have := oftenN_le (st := st) (t := t) n (ticksA t (callA a st))
    split
    · omega
    · split <;> omega
theorem gt9 {n : Nat} (h : n < 2 ^ 31) : ¬ nI n ≤ -9 := by
  intro q
  have := Int32.le_iff_toInt_le.mp q
  rw [nI_toInt h] at this
  have e : (-9 : Int32).toInt = -9 := by decide
  omega
/-- what an act leaves -/
theorem act_ok {m k : Nat} {v w : Int32} {a a' : AA} {g : Int32} (hG : GI1 m k a) (hJ : JV a) (h : actF v w a = some (g, a')) : GI1 (m + 50) (k + 1) a' ∧ JV a' ∧ ¬ g ≤ -9 := by
  have hs4 := stN_lt v
  have h16 : a.2.1.length ≤ 16 := hG.1.2.1
  have up : ∀ {x : AA}, GI1 m k x → GI1 (m + 50) (k + 1) x := fun h => h.mono (by omega) (by omega)
  have hR := hG.1.2.2.2.2.1 _ hs4
  have hdl : aDl (stN v) w a = some (g, a') → GI1 (m + 50) (k + 1) a' ∧ JV a' ∧ ¬ g ≤ -9 := by
    intro h
    cases h
    exact ⟨up (hG.row hs4 (rdAll_1 (txN_ok w)) (rdAll_RL _)), hJ.row hs4, gt9 (by have := hR.2.1; omega)⟩
  have hps : aPs w a = some (g, a') → GI1 (m + 50) (k + 1) a' ∧ JV a' ∧ ¬ g ≤ -9 := by
    intro h
    cases h
    exact ⟨up hG.ticks, hJ.ticks _, gt9 (by have := ticksN_le (psN w) a; omega)⟩
  have hof : aOf (stN v) w a = some (g, a') → GI1 (m + 50) (k + 1) a' ∧ JV a' ∧ ¬ g ≤ -9 := by
    intro h
    have h10 := loN_lt (v := w) (n := 10) (by decide)
    cases h
    exact ⟨(hG.often hs4).mono (by omega) (by omega), hJ.often hs4 _, gt9 (by have := oftenN_le (st := stN v) (t := loN (shR w 4) 6) (1 + loN w 10) a; omega)⟩
  have hca : aCa (stN v) a = some (g, a') → GI1 (m + 50) (k + 1) a' ∧ JV a' ∧ ¬ g ≤ -9 := by
    intro h
    unfold aCa at h
    split at h
    · next hf =>
      cases h
      refine ⟨(hG.call hs4 ?_).mono (by omega) (by omega), hJ.call hs4, gt9 (by have := callN_le a (stN v); omega)⟩
      rcases hf with hf | hf
      · exact Or.inr hf
      · cases hr : refd a (stN v)
        · exact absurd (until_0 hG hs4 hr) hf
        · exact Or.inl rfl
    · cases h
  unfold actF at h
  have hj := lowB_lt v 4
  generalize lowB v 4 = j at h hj
  match j, h with
  | 0, h => exact hdl h
  | 1, h => exact hdl h
  | 2, h =>
    have h5 := loN_lt (v := w) (n := 5) (by decide)
    obtain ⟨w1, w2, -⟩ := setV_ok (w := w) (show loN w 5 ≤ 4 by omega)
    have hlt : a.1 (loN w 5) < 2 ^ 31 := by
      obtain ⟨⟨-, q0⟩, ⟨-, q1⟩, ⟨-, q2⟩, ⟨-, q3⟩, ⟨-, q4⟩⟩ := hG.1.1
      rcases (show loN w 5 = 0 ∨ loN w 5 = 1 ∨ loN w 5 = 2 ∨ loN w 5 = 3 ∨ loN w 5 = 4 by omega) with e | e | e | e | e <;> rw [e] <;> omega
    cases h
    exact ⟨up (hG.set (by omega) w1 w2), hJ.set (by omega), gt9 hlt⟩
  | 3, h =>
    have h : aCl (stN v) w a = some (g, a') := h
    unfold aCl at h
    split at h
    · cases h
      exact ⟨(hG.shut hs4).mono (by omega) (by omega), hJ.shut hs4, gt9 (by have := hR.2.2.2.1; omega)⟩
    · cases h
  | 4, h => exact hps h
  | 5, h => exact hps h
  | 6, h =>
    have h : aBs a = some (g, a') := h
    unfold aBs at h
    split at h
    · next hf =>
      cases h
      cases hb : bestN a 4 with
      | none => exact ⟨up hG, hJ, by decide⟩
      | some b =>
        have hb4 := bestN_lt hb
        exact ⟨(hG.call hb4.1 (Or.inr hf)).mono (by omega) (by omega), hJ.call hb4.1, gt9 (by omega)⟩
    · cases h
  | 7, h => exact hof h
  | 8, h => exact hof h
  | n + 9, h => exact hca h
