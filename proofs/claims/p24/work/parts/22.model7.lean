/-! THE REFERENCE: a tick -/
/-- the first n calls have one tick less to go -/
def decF (n : Nat) (L : List Cl) : List Cl := (L.take n).map decC ++ L.drop n
theorem decF_all (L : List Cl) : decF L.length L = L.map decC := by simp [decF]
theorem decF_len (n : Nat) (L : List Cl) : (decF n L).length = L.length := by simp [decF]; omega
theorem decF_at {n : Nat} {L : List Cl} {p : Nat} {c : Cl} (h : L[p]? = some c) : (decF n L)[p]? = some (if p < n then decC c else c) := by
  have hp := (List.getElem?_eq_some_iff.mp h).1
  unfold decF
  by_cases e : p < n
  · rw [if_pos e, List.getElem?_append_left (by simp; omega), List.getElem?_map, List.getElem?_take_of_lt e, h]; rfl
  · rw [if_neg e, List.getElem?_append_right (by simp; omega)]
    simp only [List.length_map, List.length_take, List.getElem?_drop]
    rw [show n + (p - min n L.length) = p by omega]; exact h
theorem decF_at' {n : Nat} {L : List Cl} {p : Nat} {c : Cl} (h : (decF n L)[p]? = some c) : ∃ c0, L[p]? = some c0 ∧ c = if p < n then decC c0 else c0 := by
  have hp := (List.getElem?_eq_some_iff.mp h).1
  rw [decF_len] at hp
  have h1 := decF_at (n := n) (List.getElem?_eq_getElem hp)
  exact ⟨_, List.getElem?_eq_getElem hp, Option.some.inj (h.symm.trans h1)⟩
/-- the first n stores have waited -/
def waitF (n : Nat) (T : Nat → Rw) : Nat → Rw := fun s => if s < n then waitR (T s) else T s
theorem waitF_0 (T : Nat → Rw) : waitF 0 T = T := by funext s; unfold waitF; rw [if_neg (by omega)]
theorem waitF_s (n : Nat) (T : Nat → Rw) : sT (waitF n T) n (waitR (T n)) = waitF (n + 1) T := by
  funext s; unfold sT waitF
  by_cases e : s = n
  · subst e; rw [if_pos rfl, if_pos (by omega)]
  · rw [if_neg e]
    by_cases e2 : s < n
    · rw [if_pos e2, if_pos (by omega)]
    · rw [if_neg e2, if_neg (by omega)]
theorem waitF_n {n s : Nat} (T : Nat → Rw) (h : n ≤ s) : waitF n T s = T s := by unfold waitF; rw [if_neg (by omega)]
theorem keptL_nil : keptL [] = [] := rfl
theorem keptL_0 {c : Cl} {L : List Cl} (h : c 1 = 0) : keptL (c :: L) = keptL L := by simp [keptL, h]
theorem keptL_1 {c : Cl} {L : List Cl} (h : c 1 ≠ 0) : keptL (c :: L) = c :: keptL L := by simp [keptL, h]
theorem ansG_0 {c : Cl} {L : List Cl} {x : (Nat → Nat) × (Nat → Rw)} (h : c 1 = 0) : ansG (c :: L) x = ansG L (outG x.1 (c 2), sT x.2 (c 0) (outR x.1 (c 2) (c 3) (c 4) (x.2 (c 0)))) := by rw [ansG, if_pos h]
theorem ansG_1 {c : Cl} {L : List Cl} {x : (Nat → Nat) × (Nat → Rw)} (h : c 1 ≠ 0) : ansG (c :: L) x = ansG L x := by rw [ansG, if_neg h]
/-- the invariant only wants ticks to go to be small -/
theorem IV.sub {m k : Nat} {g : Nat → Nat} {T : Nat → Rw} {L L' : List Cl} (h : IV m k (g, L, T)) (hl : L'.length = L.length) (hc : ∀ (p : Nat) (c : Cl), L'[p]? = some c → ∃ c0 v, L[p]? = some c0 ∧ v ≤ 99 ∧ c = u1 c0 1 v) : IV m k (g, L', T) := by
  obtain ⟨h1, h2, h3, h4, h5, h6, h7⟩ := h
  have hmap : ∀ st, L'.countP (isT st) = L.countP (isT st) := by
    intro st
    have : L'.map (isT st) = L.map (isT st) := by
      apply List.ext_getElem?
      intro p
      rw [List.getElem?_map, List.getElem?_map]
      cases hp : L'[p]? with
      | none =>
        have : L[p]? = none := by rw [List.getElem?_eq_none_iff] at hp ⊢; omega
        rw [this]
      | some c =>
        obtain ⟨c0, v, q1, -, rfl⟩ := hc p c hp
        rw [q1]
        rfl
    rw [List.countP_eq_length_filter, List.countP_eq_length_filter]
    have e : ∀ M : List Cl, (M.filter (isT st)).length = ((M.map (isT st)).filter (fun b => b)).length := by
      intro M; rw [List.filter_map, List.length_map]; rfl
    rw [e, e, this]
  refine ⟨h1, by show L'.length ≤ 16; rw [hl]; exact h2, fun c hcm => ?_, fun st => by show L'.countP (isT st) ≤ 1; rw [hmap]; exact h4 st, h5, h6, by show g 6 + g 7 + L'.length ≤ m; rw [hl]; exact h7⟩
  obtain ⟨p, hp⟩ := List.getElem?_of_mem hcm
  obtain ⟨c0, v, q1, q2, rfl⟩ := hc p c hp
  obtain ⟨e0, e1, e2, e3, e4, e5, e6⟩ := h3 c0 (List.mem_of_getElem? q1)
  exact ⟨e0, q2, e2, e3, e4, e5, e6⟩
theorem IV.dec {m k : Nat} {g : Nat → Nat} {T : Nat → Rw} {L : List Cl} (n : Nat) (h : IV m k (g, L, T)) : IV m k (g, decF n L, T) := by
  refine h.sub (decF_len n L) (fun p c hp => ?_)
  obtain ⟨c0, q1, rfl⟩ := decF_at' hp
  have hc0 := (h.2.2.1 c0 (List.mem_of_getElem? q1)).2.1
  by_cases e : p < n
  · exact ⟨c0, c0 1 - 1, q1, by omega, if_pos e⟩
  · refine ⟨c0, c0 1, q1, hc0, ?_⟩
    rw [if_neg e]
    funext j; unfold u1; split
    · next e => rw [e]
    · rfl
theorem IV.b {m k : Nat} {a : AA} (h : IV m k a) : a.1 6 + a.1 7 + k ≤ m + k := by have := h.2.2.2.2.2.2; omega
theorem RK.wait {b : Nat} {t : Rw} (h : RK b t) : RK b (waitR t) := by
  unfold waitR
  split
  · next e =>
    obtain ⟨h0, h1, h2, h3, h4, h5, h6, h7, h8, h9, h10, h11, h12⟩ := h
    refine ⟨h0, h1, h2, ?_, h4, h5, ?_, ?_, h8, ?_, fun _ => h10 (by omega), h11, fun j hj => ?_⟩
    · show (if t 5 - 1 = 0 then 2 else 1) ≤ 2
      split <;> omega
    · show (if t 5 - 1 = 0 then 2 else 1) = 1 ↔ 1 ≤ t 5 - 1
      split <;> omega
    · show t 5 - 1 ≤ t 6
      omega
    · show (if t 5 - 1 = 0 then 2 else 1) = 0 → _
      split <;> omega
    · rw [u1_n (by omega), u1_n (by omega)]; exact h12 j hj
  · exact h
theorem waitR_9 {t : Rw} : waitR t 9 = t 9 := by unfold waitR; split <;> rfl
theorem waitR_2 {t : Rw} (h : t 2 = 2) : waitR t 2 = 2 := by unfold waitR; rw [if_neg (by omega)]; exact h
theorem IV.wait {m k v : Nat} {g : Nat → Nat} {L : List Cl} {T : Nat → Rw} (h : IV m k (g, L, T)) : IV m k (u1 g 5 v, L, waitF 4 T) := by
  obtain ⟨h1, h2, h3, h4, h5, h6, h7⟩ := h
  have hw : ∀ s, s < 4 → waitF 4 T s = waitR (T s) := fun s hs => if_pos hs
  refine ⟨h1, h2, fun c hc => ?_, h4, fun st hst => ?_, ?_, h7⟩
  · obtain ⟨e0, e1, e2, e3, e4, e5, e6⟩ := h3 c hc
    refine ⟨e0, e1, e2, e3, e4, e5, fun e => ?_⟩
    show waitF 4 T (c 0) 2 = 2
    rw [hw _ e0]; exact waitR_2 (e6 e)
  · show RK (g 6 + g 7 + k) (waitF 4 T st)
    rw [hw st hst]; exact (h5 st hst).wait
  · show g 6 = waitF 4 T 0 9 + waitF 4 T 1 9 + waitF 4 T 2 9 + waitF 4 T 3 9
    rw [hw 0 (by decide), hw 1 (by decide), hw 2 (by decide), hw 3 (by decide), waitR_9, waitR_9, waitR_9, waitR_9]; exact h6
theorem IV.ansG {m k : Nat} : ∀ (L K : List Cl) (g : Nat → Nat) (T : Nat → Rw), IV m k (g, K ++ L, T) → IV m k ((ansG L (g, T)).1, K ++ keptL L, (ansG L (g, T)).2)
  | [], K, g, T, h => h
  | c :: L, K, g, T, h => by
    by_cases e : c 1 = 0
    · rw [ansG_0 e, keptL_0 e]
      exact IV.ansG L K _ _ h.ans
    · rw [ansG_1 e, keptL_1 e]
      have := IV.ansG L (K ++ [c]) g T (by rw [List.append_assoc]; exact h)
      rw [List.append_assoc] at this; exact this
theorem tickA_eq (a : AA) : tickA a = (u1 (ansG (a.2.1.map decC) (a.1, a.2.2)).1 5 ((ansG (a.2.1.map decC) (a.1, a.2.2)).1 5 + 1), keptL (a.2.1.map decC), waitF 4 (ansG (a.2.1.map decC) (a.1, a.2.2)).2) := rfl
theorem IV.tick {m k : Nat} {a : AA} (h : IV m k a) : IV m k (tickA a) := by
  have h1 : IV m k (a.1, decF a.2.1.length a.2.1, a.2.2) := IV.dec _ h
  rw [decF_all] at h1
  have h2 := IV.ansG (a.2.1.map decC) [] a.1 a.2.2 h1
  exact h2.wait
/-- every call on its way has a tick to go -/
def L1 (a : AA) : Prop := ∀ c ∈ a.2.1, 1 ≤ c 1
theorem L1.tick {a : AA} : L1 (tickA a) := by
  intro c hc
  have hc : c ∈ keptL (a.2.1.map decC) := hc
  have := (List.mem_filter.mp hc).2
  simp at this
  omega
