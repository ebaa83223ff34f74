/-! THE REFERENCE: ticks, calls with ticks, the healthiest -/
theorem IV.mono {m m' k k' : Nat} {a : AA} (h : IV m k a) (hm : m ≤ m') (hk : k ≤ k') : IV m' k' a := by
  obtain ⟨h1, h2, h3, h4, h5, h6, h7⟩ := h
  refine ⟨h1, h2, fun c hc => ?_, h4, fun st hst => (h5 st hst).up (by omega), h6, by omega⟩
  obtain ⟨e0, e1, e2, e3, e4, e5, e6⟩ := h3 c hc
  exact ⟨e0, e1, e2, e3, e4, by omega, e6⟩
theorem IV.ticks {m k : Nat} : ∀ (n : Nat) {a : AA}, IV m k a → IV m k (ticksA n a)
  | 0, _, h => h
  | n + 1, _, h => IV.ticks n h.tick
theorem L1.ticks : ∀ (n : Nat) {a : AA}, L1 a → L1 (ticksA n a)
  | 0, _, h => h
  | n + 1, _, _ => L1.ticks n L1.tick
theorem noTr {a : AA} {st : Nat} (h2 : a.2.2 st 2 = 2) (hr : refd a st = false) : a.2.1.countP (isT st) = 0 := by
  have h : hasTr a st = false := by
    unfold refd at hr
    rw [h2] at hr
    simpa using hr
  rw [List.countP_eq_zero]
  intro c hc hcc
  have : hasTr a st = true := List.any_eq_true.mpr ⟨c, hc, hcc⟩
  rw [h] at this; cases this
theorem IV.setRow {m k v : Nat} {a : AA} {st : Nat} {t : Rw} (h : IV m k a) (hst : st < 4) (ht : RK (a.1 6 + a.1 7 + k) t) (h2 : t 2 = a.2.2 st 2) (h9 : t 9 = a.2.2 st 9) : IV m k (u1 a.1 8 v, a.2.1, sT a.2.2 st t) := by
  obtain ⟨h1, hl, h3, h4, h5, h6, h7⟩ := h
  refine ⟨h1, hl, fun c hc => ?_, h4, fun s hs => ?_, ?_, h7⟩
  · obtain ⟨e0, e1, e2, e3, e4, e5, e6⟩ := h3 c hc
    refine ⟨e0, e1, e2, e3, e4, e5, fun e => ?_⟩
    show sT a.2.2 st t (c 0) 2 = 2
    by_cases q : c 0 = st
    · rw [q, sT_s, h2, ← q]; exact e6 e
    · rw [sT_n q]; exact e6 e
  · show RK (a.1 6 + a.1 7 + k) (sT a.2.2 st t s)
    by_cases q : s = st
    · subst q; rw [sT_s]; exact ht
    · rw [sT_n q]; exact h5 s hs
  · show a.1 6 = sT a.2.2 st t 0 9 + sT a.2.2 st t 1 9 + sT a.2.2 st t 2 9 + sT a.2.2 st t 3 9
    rw [sum9 hst 0 h9]; exact h6
theorem u1_id (g : Nat → Nat) (k : Nat) : u1 g k (g k) = g := by funext j; unfold u1; split <;> simp_all
theorem IV.call {m k : Nat} {a : AA} {st : Nat} (h : IV m k a) (hst : st < 4) (hroom : refd a st = true ∨ a.2.1.length < 16) : IV (m + 1) k (callA a st) := by
  have ht := h.2.2.2.2.1 st hst
  cases hr : refd a st with
  | true =>
    rw [callA_r hr]
    have h8 : RK (a.1 6 + a.1 7 + k) (u1 (a.2.2 st) 8 (a.2.2 st 8 + 1)) := by
      obtain ⟨h0, h1, h2, h3, h4, h5, h6, h7, h8, h9, h10, h11, h12⟩ := ht
      refine ⟨h0, h1, h2, h3, h4, h5, h6, h7, h8, h9, h10, h11, fun j hj => ?_⟩
      rw [u1_n (by omega)]; exact h12 j hj
    have := (h.setRow (v := a.1 8) hst h8 rfl rfl).mono (Nat.le_succ m) (Nat.le_refl k)
    rw [u1_id] at this; exact this
  | false =>
    have hl : a.2.1.length < 16 := by
      rcases hroom with q | q
      · rw [hr] at q; cases q
      · exact q
    have h1 := h.setRow (v := a.1 8 + trN a st) hst ht.thru rfl rfl
    by_cases hd : a.2.2 st (12 + a.2.2 st 1) = 0
    · rw [callA_0 hr hd]
      refine h1.out hst (fun e => ?_)
      have h2 : a.2.2 st 2 = 2 := by
        unfold trN at e; split at e
        · assumption
        · omega
      exact ⟨by show sT a.2.2 st _ st 2 = 2; rw [sT_s]; exact h2, (show a.2.1.countP (isT st) = 0 from noTr h2 hr)⟩
    · rw [callA_1 hr hd]
      obtain ⟨g1, gl, g3, g4, g5, g6, g7⟩ := h1
      have hdl : a.2.2 st (12 + a.2.2 st 1) ≤ 99 := ht.2.2.2.2.2.2.2.2.2.2.2.2 _ (by have := ht.2.2.1; have := ht.2.1; omega)
      have h11 : a.2.2 st 11 ≤ a.1 6 + a.1 7 + k := ht.2.2.2.2.2.2.2.2.2.2.2.1
      refine ⟨g1, by show (a.2.1 ++ [_]).length ≤ 16; simp; omega, fun c hc => ?_, fun s => ?_, g5, g6, by show a.1 6 + a.1 7 + (a.2.1 ++ [_]).length ≤ m + 1; have : a.1 6 + a.1 7 + a.2.1.length ≤ m := g7; simp; omega⟩
      · rcases List.mem_append.mp hc with q | q
        · exact g3 c q
        · have hcc := List.mem_singleton.mp q
          subst hcc
          refine ⟨hst, hdl, by show 1 ≤ a.2.2 st (12 + a.2.2 st 1); omega, hdl, trN_le a st, h11, fun e => ?_⟩
          show sT a.2.2 st _ st 2 = 2
          rw [sT_s]
          show a.2.2 st 2 = 2
          have e : trN a st = 1 := e
          unfold trN at e; split at e
          · assumption
          · omega
      · show (a.2.1 ++ [_]).countP (isT s) ≤ 1
        rw [List.countP_append]
        have h4 : a.2.1.countP (isT s) ≤ 1 := g4 s
        by_cases e : isT s (mkC st (a.2.2 st (12 + a.2.2 st 1)) (trN a st) (a.2.2 st 11)) = true
        · have e' : st = s ∧ trN a st = 1 := by simpa [isT, mkC] using e
          obtain ⟨rfl, e1⟩ := e'
          have h2 : a.2.2 st 2 = 2 := by
            unfold trN at e1; split at e1
            · assumption
            · omega
          rw [noTr h2 hr]
          simp [List.countP_cons]; split <;> omega
        · rw [List.countP_cons_of_neg e]
          simpa using h4
theorem L1.out {a : AA} {st d tr since : Nat} (h : L1 a) : L1 (outA a st d tr since) := h
theorem L1.call {a : AA} {st : Nat} (h : L1 a) : L1 (callA a st) := by
  unfold callA
  split
  · exact h
  · split
    · exact h
    · next hd =>
      intro c hc
      rcases List.mem_append.mp hc with q | q
      · exact h c q
      · have hcc := List.mem_singleton.mp q
        subst hcc
        show 1 ≤ a.2.2 st (12 + a.2.2 st 1)
        omega
theorem callN_le (a : AA) (st : Nat) : callN a st ≤ 2 := by
  unfold callN; split
  · omega
  · have := trN_le a st; omega
/-- a store or none -/
def oI : Option Nat → Int32
  | none => -1
  | some b => nI b
theorem nI_m1 {n : Nat} (h : n < 100) : ¬ nI n = -1 := by
  intro q
  have := congrArg Int32.toInt q
  rw [nI_toInt (by omega)] at this
  have h1 : (-1 : Int32).toInt = -1 := rfl
  rw [h1] at this; omega
theorem bestN_lt {a : AA} : ∀ {n b : Nat}, bestN a n = some b → b < n ∧ a.2.2 b 2 = 0
  | 0, b, h => by cases h
  | n + 1, b, h => by
    unfold bestN at h
    split at h
    · next h2 =>
      split at h
      · cases h; exact ⟨by omega, h2⟩
      · next b' hb' =>
        have := bestN_lt hb'
        split at h
        · cases h; exact ⟨by omega, h2⟩
        · cases h; exact ⟨by omega, this.2⟩
    · have := bestN_lt h
      exact ⟨by omega, this.2⟩
theorem badWinR_le {g : Nat → Nat} {t : Rw} (hg : SK g) : badWinR g t ≤ 16 := by
  refine Nat.le_trans (bits_le _ _) ?_
  have := hg.2.1.2
  unfold inWinR; split <;> omega
theorem onWayN_le (a : AA) (st : Nat) : onWayN a st ≤ a.2.1.length := List.countP_le_length
