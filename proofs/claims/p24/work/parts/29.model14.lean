/-- at most twenty numbers, none above 99 -/
def Rln (r : List Nat) : Prop := r.length ≤ 20 ∧ ∀ v ∈ r, v ≤ 99
theorem Rln.num {B : List Nat} {p : Nat} {r : List Nat} (h : Rln r) (h2 : r.length < 20) : Rln (rdNum B p r).2.2 := by
  unfold rdNum
  split
  · next hd =>
    have hd2 := dig_t hd
    split
    · next hq =>
      have hq2 := dig_t hq.2
      refine ⟨by simp; omega, fun v hv => ?_⟩
      rcases List.mem_append.mp hv with w | w
      · exact h.2 v w
      · rw [List.mem_singleton.mp w]; omega
    · refine ⟨by simp; omega, fun v hv => ?_⟩
      rcases List.mem_append.mp hv with w | w
      · exact h.2 v w
      · rw [List.mem_singleton.mp w]; omega
  · exact h
theorem Rln.loop {B : List Nat} : ∀ (f p : Nat) (r : List Nat), Rln r → Rln (rdLoop B f p r).2.2
  | 0, _, _, h => h
  | f + 1, p, r, h => by
    unfold rdLoop
    split
    · split
      · next hq =>
        have hn := h.num (B := B) (p := p + 1) hq.2
        split
        · exact Rln.loop f _ _ hn
        · exact hn
      · exact h
    · exact h
theorem rdAll_RL (B : List Nat) : Rln (rdAll B).2.2 := by
  have h0 : Rln [] := ⟨by decide, fun v hv => by cases hv⟩
  have hn := h0.num (B := B) (p := 0) (by decide)
  unfold rdAll
  split
  · exact Rln.loop _ _ _ hn
  · exact hn
theorem rdLoop_len {B : List Nat} : ∀ (f p : Nat) (r : List Nat), r.length ≤ (rdLoop B f p r).2.2.length
  | 0, _, _ => Nat.le_refl _
  | f + 1, p, r => by
    have hn : r.length ≤ (rdNum B (p + 1) r).2.2.length := by
      unfold rdNum; split
      · split <;> simp
      · exact Nat.le_refl _
    unfold rdLoop
    split
    · split
      · split
        · exact Nat.le_trans hn (rdLoop_len f _ _)
        · exact hn
      · exact Nat.le_refl _
    · exact Nat.le_refl _
theorem rdAll_1 {B : List Nat} (h : (rdAll B).1 = true) : 1 ≤ (rdAll B).2.2.length := by
  unfold rdAll at h ⊢
  split at h
  · next hn =>
    rw [if_pos hn]
    have := (rdNum_t hn).2.2
    exact Nat.le_trans (by rw [this]; simp) (rdLoop_len _ _ _)
  · next hn => exact absurd h hn
