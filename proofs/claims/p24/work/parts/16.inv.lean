/-! WHAT HOLDS OF EVERY STATE -/
def RK (b : Nat) (t : Rw) : Prop :=
  1 ≤ t 0 ∧ t 0 ≤ 20 ∧ t 1 < t 0 ∧ t 2 ≤ 2 ∧ t 3 < 2 ^ t 4 ∧ t 4 ≤ 16 ∧ (t 2 = 1 ↔ 1 ≤ t 5) ∧ t 5 ≤ t 6 ∧ t 6 ≤ 999 ∧ (t 2 = 0 → t 6 = 0) ∧ (t 2 ≠ 0 → 1 ≤ t 6 ∧ t 3 = 0 ∧ t 4 = 0) ∧ t 11 ≤ b ∧ ∀ j, j < 20 → t (12 + j) ≤ 99
def SK (g : Nat → Nat) : Prop := (1 ≤ g 0 ∧ g 0 ≤ 99) ∧ (2 ≤ g 1 ∧ g 1 ≤ 16) ∧ (1 ≤ g 2 ∧ g 2 ≤ 16) ∧ (1 ≤ g 3 ∧ g 3 ≤ 99) ∧ (1 ≤ g 4 ∧ g 4 ≤ 999)
def CK (b : Nat) (T : Nat → Rw) (c : Cl) : Prop := c 0 < 4 ∧ c 1 ≤ 99 ∧ 1 ≤ c 2 ∧ c 2 ≤ 99 ∧ c 3 ≤ 1 ∧ c 4 ≤ b ∧ (c 3 = 1 → T (c 0) 2 = 2)
def isT (st : Nat) (c : Cl) : Bool := c 0 == st && c 3 == 1
/-- m: outcomes and calls on their way; k: closings by hand -/
def IV (m k : Nat) (a : AA) : Prop :=
  SK a.1 ∧ a.2.1.length ≤ 16 ∧ (∀ c ∈ a.2.1, CK (a.1 6 + a.1 7 + k) a.2.2 c) ∧ (∀ st, a.2.1.countP (isT st) ≤ 1) ∧ (∀ st, st < 4 → RK (a.1 6 + a.1 7 + k) (a.2.2 st)) ∧
  a.1 6 = a.2.2 0 9 + a.2.2 1 9 + a.2.2 2 9 + a.2.2 3 9 ∧ a.1 6 + a.1 7 + a.2.1.length ≤ m
theorem RK.up {b b' : Nat} {t : Rw} (h : RK b t) (hb : b ≤ b') : RK b' t := by
  obtain ⟨h0, h1, h2, h3, h4, h5, h6, h7, h8, h9, h10, h11, h12⟩ := h
  exact ⟨h0, h1, h2, h3, h4, h5, h6, h7, h8, h9, h10, by omega, h12⟩
theorem RK.u9 {b v : Nat} {t : Rw} (h : RK b t) : RK b (u1 t 9 v) := by
  obtain ⟨h0, h1, h2, h3, h4, h5, h6, h7, h8, h9, h10, h11, h12⟩ := h
  refine ⟨h0, h1, h2, h3, h4, h5, h6, h7, h8, h9, h10, h11, fun j hj => ?_⟩
  rw [u1_n (by omega)]; exact h12 j hj
theorem RK.cut {b n : Nat} {t : Rw} (h : RK b t) (hn : 1 ≤ n) (hn2 : n ≤ 999) : RK b (cutR n t) := by
  obtain ⟨h0, h1, h2, h3, h4, h5, h6, h7, h8, h9, h10, h11, h12⟩ := h
  refine ⟨h0, h1, h2, by simp [cutR], by simp [cutR], by simp [cutR], by simp [cutR]; omega, by simp [cutR], by simpa [cutR] using hn2, by simp [cutR], by simp [cutR]; omega, by simpa [cutR] using h11, fun j hj => ?_⟩
  have : cutR n t (12 + j) = t (12 + j) := by
    unfold cutR
    rw [if_neg (by omega), if_neg (by omega), if_neg (by omega), if_neg (by omega), if_neg (by omega), if_neg (by omega)]
  rw [this]; exact h12 j hj
theorem RK.close {b : Nat} {t : Rw} (h : RK b t) : RK (b + 1) (closeR t) := by
  obtain ⟨h0, h1, h2, h3, h4, h5, h6, h7, h8, h9, h10, h11, h12⟩ := h
  refine ⟨h0, h1, h2, by simp [closeR], by simp [closeR], by simp [closeR], by simp [closeR], by simp [closeR], by simp [closeR], by simp [closeR], by simp [closeR], by simpa [closeR] using h11, fun j hj => ?_⟩
  have : closeR t (12 + j) = t (12 + j) := by
    unfold closeR
    rw [if_neg (by omega), if_neg (by omega), if_neg (by omega), if_neg (by omega), if_neg (by omega), if_neg (by omega)]
  rw [this]; exact h12 j hj
theorem badN_le (g : Nat → Nat) (d : Nat) : badN g d ≤ 1 := by unfold badN; split <;> omega
theorem RK.note {b e : Nat} {t : Rw} (h : RK b t) (he : e ≤ 1) (h0t : t 2 = 0) : RK b (noteR e t) := by
  obtain ⟨h0, h1, h2, h3, h4, h5, h6, h7, h8, h9, h10, h11, h12⟩ := h
  refine ⟨h0, h1, h2, h3, ?_, by simp [noteR]; omega, h6, h7, h8, h9, fun q => absurd h0t q, h11, fun j hj => ?_⟩
  · show (2 * t 3 + e) % 65536 < 2 ^ (min (t 4 + 1) 16)
    rcases Nat.lt_or_ge (t 4) 16 with q | q
    · rw [Nat.min_eq_left (by omega), Nat.pow_succ]
      have := Nat.mod_le (2 * t 3 + e) 65536
      omega
    · rw [Nat.min_eq_right (by omega)]
      exact Nat.mod_lt _ (by decide)
  · have : noteR e t (12 + j) = t (12 + j) := by
      unfold noteR
      rw [if_neg (by omega), if_neg (by omega)]
    rw [this]; exact h12 j hj
theorem RK.win {b : Nat} {g : Nat → Nat} {t : Rw} (hg : SK g) (h : RK b t) : RK b (winR g t) := by
  unfold winR
  split
  · exact h.cut hg.2.2.2.1.1 (by have := hg.2.2.2.1.2; omega)
  · exact h
theorem RK.out {b d tr since : Nat} {g : Nat → Nat} {t : Rw} (hg : SK g) (h : RK b t) (htr : tr = 1 → t 2 = 2) : RK (b + 1) (outR g d tr since t) := by
  unfold outR
  have h9 := h.u9 (v := t 9 + badN g d)
  split
  · next e =>
    have h2 := htr e
    have h6 : 1 ≤ t 6 := (h.2.2.2.2.2.2.2.2.2.2.1 (by omega)).1
    split
    · exact ((h9.cut (n := min (2 * t 6) (g 4)) (by have := hg.2.2.2.2.1; omega) (by have := hg.2.2.2.2.2; omega))).up (Nat.le_succ _)
    · exact h9.close
  · split
    · next e => exact ((h9.note (badN_le g d) e.1).win hg).up (Nat.le_succ _)
    · exact h9.up (Nat.le_succ _)
theorem cutR_9 {n : Nat} {t : Rw} : cutR n t 9 = t 9 := rfl
theorem closeR_9 {t : Rw} : closeR t 9 = t 9 := rfl
theorem outR_9 {g : Nat → Nat} {d tr since : Nat} {t : Rw} : outR g d tr since t 9 = t 9 + badN g d := by
  unfold outR winR
  split
  · split <;> rfl
  · split
    · split <;> rfl
    · rfl
theorem outR_2 {g : Nat → Nat} {d tr since : Nat} {t : Rw} (h : tr ≠ 1) (h2 : t 2 ≠ 0) : outR g d tr since t 2 = t 2 := by
  unfold outR
  rw [if_neg h, if_neg (fun q => h2 q.1)]
  rfl
theorem outG_67 (g : Nat → Nat) (d : Nat) : outG g d 6 + outG g d 7 = g 6 + g 7 + 1 := by
  have := badN_le g d
  simp [outG, u1]; omega
theorem SK.out {g : Nat → Nat} {d : Nat} (h : SK g) : SK (outG g d) := h
theorem sum9 {T : Nat → Rw} {st : Nat} {t : Rw} (hst : st < 4) (v : Nat) (ht : t 9 = T st 9 + v) : sT T st t 0 9 + sT T st t 1 9 + sT T st t 2 9 + sT T st t 3 9 = T 0 9 + T 1 9 + T 2 9 + T 3 9 + v := by
  rcases (show st = 0 ∨ st = 1 ∨ st = 2 ∨ st = 3 by omega) with rfl | rfl | rfl | rfl <;> simp [sT, ht] <;> omega
/-- an outcome that comes for a store -/
theorem IV.out {m k : Nat} {a : AA} {st d tr since : Nat} (h : IV m k a) (hst : st < 4) (htr : tr = 1 → a.2.2 st 2 = 2 ∧ a.2.1.countP (isT st) = 0) : IV (m + 1) k (outA a st d tr since) := by
  obtain ⟨h1, h2, h3, h4, h5, h6, h7⟩ := h
  have h67 := outG_67 a.1 d
  refine ⟨h1.out, h2, fun c hc => ?_, h4, fun s hs => ?_, ?_, ?_⟩
  · obtain ⟨c0, c1, c2, c2', c3, c4, c5⟩ := h3 c hc
    refine ⟨c0, c1, c2, c2', c3, by show c 4 ≤ outG a.1 d 6 + outG a.1 d 7 + k; omega, fun e => ?_⟩
    show sT a.2.2 st _ (c 0) 2 = 2
    by_cases e0 : c 0 = st
    · rw [e0, sT_s]
      have h22 := c5 e
      rw [e0] at h22
      by_cases et : tr = 1
      · have h0 := (htr et).2
        rw [List.countP_eq_zero] at h0
        exact absurd (show isT st c = true by simp [isT, e0, e]) (by simpa using h0 c hc)
      · rw [outR_2 et (by omega)]; exact h22
    · rw [sT_n e0]; exact c5 e
  · show RK (outG a.1 d 6 + outG a.1 d 7 + k) (sT a.2.2 st _ s)
    rw [show outG a.1 d 6 + outG a.1 d 7 + k = a.1 6 + a.1 7 + k + 1 by omega]
    by_cases e : s = st
    · subst e; rw [sT_s]; exact RK.out h1 (h5 s hs) (fun q => (htr q).1)
    · rw [sT_n e]; exact (h5 s hs).up (Nat.le_succ _)
  · show outG a.1 d 6 = _
    have := sum9 (T := a.2.2) (st := st) (t := outR a.1 d tr since (a.2.2 st)) hst (badN a.1 d) outR_9
    show outG a.1 d 6 = sT a.2.2 st _ 0 9 + sT a.2.2 st _ 1 9 + sT a.2.2 st _ 2 9 + sT a.2.2 st _ 3 9
    rw [this, ← h6]
    simp [outG, u1]
  · show outG a.1 d 6 + outG a.1 d 7 + a.2.1.length ≤ m + 1
    omega
/-- one call fewer on its way -/
theorem IV.rem {m k : Nat} {g : Nat → Nat} {T : Nat → Rw} {L1 L2 : List Cl} {c : Cl} (h : IV (m + 1) k (g, L1 ++ c :: L2, T)) : IV m k (g, L1 ++ L2, T) := by
  obtain ⟨h1, h2, h3, h4, h5, h6, h7⟩ := h
  have hl : (L1 ++ c :: L2).length = (L1 ++ L2).length + 1 := by simp [Nat.add_assoc]
  refine ⟨h1, ?_, fun c' hc => h3 c' ?_, fun st => ?_, h5, h6, ?_⟩
  · show (L1 ++ L2).length ≤ 16
    have : (L1 ++ c :: L2).length ≤ 16 := h2
    omega
  · rcases List.mem_append.mp hc with q | q
    · exact List.mem_append_left _ q
    · exact List.mem_append_right _ (List.mem_cons_of_mem _ q)
  · have := h4 st
    simp only [List.countP_append, List.countP_cons] at this ⊢
    omega
  · show g 6 + g 7 + (L1 ++ L2).length ≤ m
    have : g 6 + g 7 + (L1 ++ c :: L2).length ≤ m + 1 := h7
    omega
/-- a call is answered -/
theorem IV.ans {m k : Nat} {g : Nat → Nat} {T : Nat → Rw} {L1 L2 : List Cl} {c : Cl} (h : IV m k (g, L1 ++ c :: L2, T)) : IV m k (outA (g, L1 ++ L2, T) (c 0) (c 2) (c 3) (c 4)) := by
  have hm : ∃ n, m = n + 1 := by
    have h7 : g 6 + g 7 + (L1 ++ c :: L2).length ≤ m := h.2.2.2.2.2.2
    have hl : (L1 ++ c :: L2).length = (L1 ++ L2).length + 1 := by simp [Nat.add_assoc]
    exact ⟨m - 1, by omega⟩
  obtain ⟨n, rfl⟩ := hm
  have hc := h.2.2.1 c (List.mem_append_right _ List.mem_cons_self)
  refine (IV.rem h).out hc.1 (fun e => ⟨hc.2.2.2.2.2.2 e, ?_⟩)
  have h4 := h.2.2.2.1 (c 0)
  have hT : isT (c 0) c = true := by simp [isT, e]
  simp only [List.countP_append, List.countP_cons, hT] at h4
  show (L1 ++ L2).countP (isT (c 0)) = 0
  rw [List.countP_append]
  simp only [if_true] at h4
  omega
