/-! WHAT STAYS TRUE FROM CALL TO CALL -/
def GI1 (m k : Nat) (a : AA) : Prop := IV m k a ∧ L1 a ∧ ISv a
def GI (m k : Nat) (s : ST) : Prop := GI1 m k s.1 ∧ ∀ x ∈ s.2.1, GI1 m k x
theorem GI1.mono {m m' k k' : Nat} {a : AA} (h : GI1 m k a) (hm : m ≤ m') (hk : k ≤ k') : GI1 m' k' a := ⟨h.1.mono hm hk, h.2.1, h.2.2⟩
theorem GI.mono {m m' k k' : Nat} {s : ST} (h : GI m k s) (hm : m ≤ m') (hk : k ≤ k') : GI m' k' s := ⟨h.1.mono hm hk, fun x hx => (h.2 x hx).mono hm hk⟩
theorem mem_push {hs : List AA} {a x : AA} (h : x ∈ pushH hs a) : x ∈ hs ∨ x = a := by
  unfold pushH at h
  rcases List.mem_append.mp h with q | q
  · split at q
    · exact Or.inl (List.mem_of_mem_tail q)
    · exact Or.inl q
  · exact Or.inr (List.mem_singleton.mp q)
theorem GI.push {m m' k k' : Nat} {a a' : AA} {hs : List AA} {B B' : List Nat} (h : GI m k (a, hs, B)) (hm : m ≤ m') (hk : k ≤ k') (h' : GI1 m' k' a') : GI m' k' (a', pushH hs a, B') :=
  ⟨h', fun x hx => by
    rcases mem_push hx with q | q
    · exact (h.2 x q).mono hm hk
    · rw [q]; exact h.1.mono hm hk⟩
theorem ISv.out {a : AA} {st d tr since : Nat} (h : ISv a) : ISv (outA a st d tr since) := by
  intro c hc
  have h1 := h c hc
  show c 4 ≤ sT a.2.2 st _ (c 0) 11
  by_cases e : c 0 = st
  · rw [e, sT_s]; rw [e] at h1; exact Nat.le_trans h1 outR_11
  · rw [sT_n e]; exact h1
theorem ISv.row {a : AA} {st : Nat} {g : Nat → Nat} {t : Rw} (h : ISv a) (ht : a.2.2 st 11 ≤ t 11) : ISv (g, a.2.1, sT a.2.2 st t) := by
  intro c hc
  have h1 := h c hc
  show c 4 ≤ sT a.2.2 st _ (c 0) 11
  by_cases e : c 0 = st
  · rw [e, sT_s]; rw [e] at h1; exact Nat.le_trans h1 ht
  · rw [sT_n e]; exact h1
theorem ISv.call {a : AA} {st : Nat} (h : ISv a) : ISv (callA a st) := by
  cases hr : refd a st with
  | true => rw [callA_r hr]; exact h.row (Nat.le_refl _)
  | false =>
    by_cases hd : a.2.2 st (12 + a.2.2 st 1) = 0
    · rw [callA_0 hr hd]
      exact ISv.out (h.row (Nat.le_refl _))
    · rw [callA_1 hr hd]
      intro c hc
      rcases List.mem_append.mp hc with q | q
      · exact (h.row (g := a.1) (t := thruR (a.2.2 st)) (Nat.le_refl _)) c q
      · rw [List.mem_singleton.mp q]
        show a.2.2 st 11 ≤ sT a.2.2 st (thruR (a.2.2 st)) st 11
        rw [sT_s]; exact Nat.le_refl _
theorem ISv.ticks : ∀ (n : Nat) {a : AA}, ISv a → ISv (ticksA n a)
  | 0, _, h => h
  | n + 1, _, h => ISv.ticks n h.tick
theorem ISv.often {st t : Nat} : ∀ (n : Nat) {a : AA}, ISv a → ISv (oftenA st t n a)
  | 0, _, h => h
  | n + 1, a, h => by
    unfold oftenA
    split
    · exact h
    · exact ISv.often n (ISv.ticks t h.call)
theorem clrC_w {st w : Nat} {c : Cl} (hw : w ≠ 3) : clrC st c w = c w := by
  unfold clrC; split
  · exact u1_n hw
  · rfl
theorem IV.shut {m k : Nat} {a : AA} {st : Nat} (h : IV m k a) (hst : st < 4) : IV m (k + 1) (shutA a st) := by
  obtain ⟨h1, h2, h3, h4, h5, h6, h7⟩ := h
  have hc3 : ∀ c : Cl, clrC st c 3 ≤ c 3 := fun c => by
    unfold clrC; split
    · rw [u1_s]; exact Nat.zero_le _
    · exact Nat.le_refl _
  refine ⟨h1, by show (a.2.1.map (clrC st)).length ≤ 16; rw [List.length_map]; exact h2, fun c hc => ?_, fun s => ?_, fun s hs => ?_, ?_, by show a.1 6 + a.1 7 + (a.2.1.map (clrC st)).length ≤ m; rw [List.length_map]; exact h7⟩
  · obtain ⟨c0, hc0, rfl⟩ := List.mem_map.mp hc
    obtain ⟨e0, e1, e2, e3, e4, e5, e6⟩ := h3 c0 hc0
    refine ⟨by rw [clrC_w (by decide)]; exact e0, by rw [clrC_w (by decide)]; exact e1, by rw [clrC_w (by decide)]; exact e2, by rw [clrC_w (by decide)]; exact e3, Nat.le_trans (hc3 c0) e4, by rw [clrC_w (by decide)]; show c0 4 ≤ a.1 6 + a.1 7 + (k + 1); omega, fun q => ?_⟩
    show sT a.2.2 st (closeR (a.2.2 st)) (clrC st c0 0) 2 = 2
    rw [clrC_w (by decide)]
    by_cases e : c0 0 = st
    · exfalso; unfold clrC at q; rw [if_pos e, u1_s] at q; omega
    · rw [sT_n e]
      have : clrC st c0 = c0 := if_neg e
      rw [this] at q; exact e6 q
  · show (a.2.1.map (clrC st)).countP (isT s) ≤ 1
    rw [List.countP_map]
    refine Nat.le_trans (List.countP_mono_left (fun c hc q => ?_)) (h4 s)
    have q1 : clrC st c 0 = s ∧ clrC st c 3 = 1 := by simpa [isT] using q
    rw [clrC_w (by decide)] at q1
    have : c 3 = 1 := by have := hc3 c; have := (h3 c hc).2.2.2.2.1; omega
    simp [isT, q1.1, this]
  · show RK (a.1 6 + a.1 7 + (k + 1)) (sT a.2.2 st _ s)
    by_cases e : s = st
    · subst e; rw [sT_s]; exact (h5 s hs).close
    · rw [sT_n e]; exact (h5 s hs).up (by omega)
  · have := sum9 (T := a.2.2) (st := st) (t := closeR (a.2.2 st)) hst 0 rfl
    show a.1 6 = sT a.2.2 st _ 0 9 + sT a.2.2 st _ 1 9 + sT a.2.2 st _ 2 9 + sT a.2.2 st _ 3 9
    rw [this]; omega
theorem GI1.shut {m k st : Nat} {a : AA} (h : GI1 m k a) (hst : st < 4) : GI1 m (k + 1) (shutA a st) :=
  ⟨h.1.shut hst, fun c hc => by
    obtain ⟨c0, hc0, rfl⟩ := List.mem_map.mp hc
    rw [clrC_w (by decide)]; exact h.2.1 c0 hc0, fun c hc => by
    obtain ⟨c0, hc0, rfl⟩ := List.mem_map.mp hc
    rw [clrC_w (by decide), clrC_w (by decide)]
    have h9 := ISv.row (g := a.1) (t := closeR (a.2.2 st)) h.2.2 (Nat.le_succ _)
    exact h9 c0 hc0⟩
theorem GI1.set {m k i v : Nat} {a : AA} (h : GI1 m k a) (hi : i ≤ 4) (h1 : setLo i ≤ v) (h2 : v ≤ setHi i) : GI1 m k (u1 a.1 i v, a.2.1, a.2.2) := by
  obtain ⟨⟨g1, g2, g3, g4, g5, g6, g7⟩, hl, hs⟩ := h
  have e6 : u1 a.1 i v 6 = a.1 6 := u1_n (by omega)
  have e7 : u1 a.1 i v 7 = a.1 7 := u1_n (by omega)
  obtain ⟨⟨q0, q0'⟩, ⟨q1, q1'⟩, ⟨q2, q2'⟩, ⟨q3, q3'⟩, ⟨q4, q4'⟩⟩ := g1
  refine ⟨⟨?_, g2, fun c hc => by show CK (u1 a.1 i v 6 + u1 a.1 i v 7 + k) a.2.2 c; rw [e6, e7]; exact g3 c hc, g4, fun s hs => by show RK (u1 a.1 i v 6 + u1 a.1 i v 7 + k) (a.2.2 s); rw [e6, e7]; exact g5 s hs, by show u1 a.1 i v 6 = _; rw [e6]; exact g6, by show u1 a.1 i v 6 + u1 a.1 i v 7 + _ ≤ m; rw [e6, e7]; exact g7⟩, hl, hs⟩
  rcases (show i = 0 ∨ i = 1 ∨ i = 2 ∨ i = 3 ∨ i = 4 by omega) with rfl | rfl | rfl | rfl | rfl <;> simp only [setLo, setHi] at h1 h2 <;> simp only [SK, u1] <;> simp at h1 h2 ⊢ <;> omega
theorem RK.rowK {b : Nat} {t : Rw} {r : List Nat} (h : RK b t) (h1 : 1 ≤ r.length) (hr : Rln r) : RK b (rowR r t) := by
  obtain ⟨h0, h1', h2, h3, h4, h5, h6, h7, h8, h9, h10, h11, h12⟩ := h
  refine ⟨h1, hr.1, h1, h3, h4, h5, h6, h7, h8, h9, h10, h11, fun j hj => ?_⟩
  have : rowR r t (12 + j) = r.getD j 0 := by
    unfold rowR
    rw [if_neg (by omega), if_neg (by omega), if_pos (by omega), Nat.add_sub_cancel_left]
  rw [this]
  rcases Nat.lt_or_ge j r.length with q | q
  · exact hr.2 _ (List.mem_of_getElem? (getD_lt q))
  · rw [getD_ge q]; omega
theorem GI1.row {m k st : Nat} {a : AA} {r : List Nat} (h : GI1 m k a) (hst : st < 4) (h1 : 1 ≤ r.length) (hr : Rln r) : GI1 m k (a.1, a.2.1, sT a.2.2 st (rowR r (a.2.2 st))) := by
  have h9 := h.1.setRow (v := a.1 8) (t := rowR r (a.2.2 st)) hst ((h.1.2.2.2.2.1 st hst).rowK h1 hr) rfl rfl
  rw [u1_id] at h9
  exact ⟨h9, h.2.1, h.2.2.row (Nat.le_refl _)⟩
theorem GI1.call {m k st : Nat} {a : AA} (h : GI1 m k a) (hst : st < 4) (hroom : refd a st = true ∨ a.2.1.length < 16) : GI1 (m + 1) k (callA a st) := ⟨h.1.call hst hroom, h.2.1.call, h.2.2.call⟩
theorem GI1.ticks {m k n : Nat} {a : AA} (h : GI1 m k a) : GI1 m k (ticksA n a) := ⟨h.1.ticks n, L1.ticks n h.2.1, h.2.2.ticks n⟩
theorem GI1.often {m k st t n : Nat} {a : AA} (h : GI1 m k a) (hst : st < 4) : GI1 (m + n) k (oftenA st t n a) := by
  obtain ⟨m', i1, i2, i3⟩ := of_often (st := st) (t := t) (n := n) hst h.1 h.2.1 n
  exact ⟨i1.mono i3 (Nat.le_refl _), i2, h.2.2.often n⟩
section KEEPS
variable {m k : Nat} {s : ST}
theorem GI.kCall {v : Int32} (h : GI m k s) : GI (m + 50) (k + 1) (sCall v s).2.2 := by
  obtain ⟨a, hs, B⟩ := s
  unfold sCall
  split
  · next hv =>
    obtain ⟨-, -, hv3⟩ := inR_nat hv (by decide) (by decide)
    split
    · exact h.mono (by omega) (by omega)
    · next hb =>
      refine h.push (by omega) (by omega) ((h.1.call (by omega) ?_).mono (by omega) (by omega))
      rcases Nat.lt_or_ge a.2.1.length 16 with w | w
      · exact Or.inr w
      · refine Or.inl ?_
        have h16 := h.1.1.2.1
        have h16 : a.2.1.length ≤ 16 := h16
        cases w2 : refd a (nv v)
        · exact absurd ⟨show a.2.1.length = 16 by omega, w2⟩ hb
        · rfl
  · exact h.mono (by omega) (by omega)
theorem GI.kOften {v n t : Int32} (h : GI m k s) : GI (m + 50) (k + 1) (sOften v n t s).2.2 := by
  obtain ⟨a, hs, B⟩ := s
  unfold sOften
  split
  · next hv =>
    obtain ⟨-, -, hv3⟩ := inR_nat hv (by decide) (by decide)
    split
    · next hn =>
      obtain ⟨-, -, hn3⟩ := inR_nat hn.1 (by decide) (by decide)
      exact h.push (by omega) (by omega) ((h.1.often (by omega)).mono (by omega) (by omega))
    · exact h.mono (by omega) (by omega)
  · exact h.mono (by omega) (by omega)
theorem GI.kBest (h : GI m k s) : GI (m + 50) (k + 1) (sBest s).2.2 := by
  obtain ⟨a, hs, B⟩ := s
  unfold sBest
  split
  · exact h.mono (by omega) (by omega)
  · next hf =>
    have h16 : a.2.1.length ≤ 16 := h.1.1.2.1
    have hf : ¬ a.2.1.length = 16 := hf
    split
    · exact h.push (by omega) (by omega) (h.1.mono (by omega) (by omega))
    · next b hb =>
      have := bestN_lt hb
      exact h.push (by omega) (by omega) ((GI1.call (a := a) h.1 this.1 (Or.inr (by omega))).mono (by omega) (by omega))
theorem GI.kClose {v : Int32} (h : GI m k s) : GI (m + 50) (k + 1) (sClose v s).2.2 := by
  obtain ⟨a, hs, B⟩ := s
  unfold sClose
  split
  · next hv =>
    obtain ⟨-, -, hv3⟩ := inR_nat hv (by decide) (by decide)
    exact h.push (by omega) (by omega) ((h.1.shut (by omega)).mono (by omega) (by omega))
  · exact h.mono (by omega) (by omega)
theorem GI.kSet {v w : Int32} (h : GI m k s) : GI (m + 50) (k + 1) (sSet v w s).2.2 := by
  obtain ⟨a, hs, B⟩ := s
  unfold sSet
  split
  · next hv =>
    obtain ⟨-, -, hv3⟩ := inR_nat hv (by decide) (by decide)
    split
    · next hw =>
      have hlo : setLo (nv v) < 2 ^ 31 := by unfold setLo; split <;> decide
      have hhi : setHi (nv v) < 2 ^ 31 := by unfold setHi; split <;> (try split) <;> (try split) <;> (try split) <;> decide
      obtain ⟨-, hw2, hw3⟩ := inR_nat hw hhi hlo
      exact h.push (by omega) (by omega) ((h.1.set (by omega) hw2 hw3).mono (by omega) (by omega))
    · exact h.mono (by omega) (by omega)
  · exact h.mono (by omega) (by omega)
theorem GI.kPass {v : Int32} (h : GI m k s) : GI (m + 50) (k + 1) (sPass v s).2.2 := by
  obtain ⟨a, hs, B⟩ := s
  unfold sPass
  split
  · exact h.push (by omega) (by omega) (h.1.ticks.mono (by omega) (by omega))
  · exact h.mono (by omega) (by omega)
theorem GI.buf {a : AA} {hs : List AA} {B B' : List Nat} (h : GI m k (a, hs, B)) : GI (m + 50) (k + 1) (a, hs, B') := ⟨h.1.mono (by omega) (by omega), fun x hx => (h.2 x hx).mono (by omega) (by omega)⟩
theorem GI.kAppend {v : Int32} (h : GI m k s) : GI (m + 50) (k + 1) (sAppend v s).2.2 := by
  obtain ⟨a, hs, B⟩ := s
  unfold sAppend
  split
  · split
    · exact h.mono (by omega) (by omega)
    · exact h.buf
  · exact h.mono (by omega) (by omega)
theorem GI.kClear (h : GI m k s) : GI (m + 50) (k + 1) (sClear s).2.2 := by
  obtain ⟨a, hs, B⟩ := s
  exact h.buf
theorem GI.kDelays {v : Int32} (h : GI m k s) : GI (m + 50) (k + 1) (sDelays v s).2.2 := by
  obtain ⟨a, hs, B⟩ := s
  unfold sDelays
  split
  · next hv =>
    obtain ⟨-, -, hv3⟩ := inR_nat hv (by decide) (by decide)
    split
    · next hk => exact h.push (by omega) (by omega) ((h.1.row (by omega) (rdAll_1 hk) (rdAll_RL B)).mono (by omega) (by omega))
    · exact h.mono (by omega) (by omega)
  · exact h.mono (by omega) (by omega)
theorem GI.kUndo (h : GI m k s) : GI (m + 50) (k + 1) (sUndo s).2.2 := by
  obtain ⟨a, hs, B⟩ := s
  rcases List.eq_nil_or_concat hs with rfl | ⟨l, x, rfl⟩
  · exact h.mono (by omega) (by omega)
  · simp only [List.concat_eq_append] at *
    have hx : sUndo (a, l ++ [x], B) = (0, nI l.length, x, l, B) := by
      unfold sUndo
      simp only [List.getLast?_append, List.getLast?_singleton, Option.some_or, List.dropLast_concat, List.length_append, List.length_singleton, Nat.add_sub_cancel]
    rw [hx]
    exact ⟨(h.2 x (List.mem_append_right _ (List.mem_singleton.mpr rfl))).mono (by omega) (by omega), fun y hy => (h.2 y (List.mem_append_left _ hy)).mono (by omega) (by omega)⟩
end KEEPS
