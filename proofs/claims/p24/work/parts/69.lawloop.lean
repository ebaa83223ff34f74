/-! THE LAW: its loop -/
theorem LX.fr {G : GG} {K K' : Nat → Option (Nat × Nat)} {R R' : Nat → Nat → Value} (h : LX G K R) (f : ∀ q, q < 140 → K' q = K q ∧ R' q = R q) : LX G K' R' := by
  obtain ⟨h1, h2, h3, h4, h5, h6, h7, ⟨h8, h9, h10⟩, h11, h12, h13⟩ := h
  refine ⟨by rw [(f 0 (by decide)).1]; exact h1, by rw [(f 0 (by decide)).2]; exact h2, by rw [(f 0 (by decide)).2]; exact h3, by rw [(f 0 (by decide)).2]; exact h4, by rw [(f 35 (by decide)).1]; exact h5, by rw [(f 35 (by decide)).2]; exact h6, by rw [(f 0 (by decide)).2]; exact h7,
    ⟨by rw [(f 36 (by decide)).1]; exact h8, by rw [(f 36 (by decide)).2]; exact h9, by rw [(f 37 (by decide)).1]; exact h10⟩, h11.fr (fun q a b => f q (by omega)), h12.fr (fun q a b => f q (by omega)), fun i hi => (h13 i hi).fr (fun q a b => f q (by omega))⟩
theorem GI_0 : GI (50 * 0) 0 (a0, [], []) := by
  have hr : RK (g0 6 + g0 7 + 0) row0 := by
    refine ⟨by decide, by decide, by decide, by decide, by decide, by decide, by decide, by decide, by decide, by decide, by decide, by decide, fun j hj => ?_⟩
    unfold row0
    split
    · decide
    · split <;> decide
  refine ⟨⟨⟨⟨by decide, by decide, by decide, by decide, by decide⟩, by decide, fun c hc => (by cases hc), fun st => (by show 0 ≤ 1; decide), fun st hst => hr, by decide, by decide⟩, fun c hc => (by cases hc), fun c hc => by cases hc⟩, fun x hx => by cases hx⟩
