/-! THE REFERENCE: a tick -/
/-- the first n calls have one tick less to go -/
def decF (n : Nat) (L : List Cl) : List Cl := (L.take n).map decC ++ L.drop n
theorem decF_0 (L : List Cl) : decF 0 L = L := by simp [decF]
theorem decF_all (L : List Cl) : decF L.length L = L.map decC := by simp [decF]
theorem decF_len (n : Nat) (L : List Cl) : (decF n L).length = L.length := by simp [decF]; omega
theorem decF_at {n : Nat} {L : List Cl} {p : Nat} {c : Cl} (h : L[p]? = some c) : (decF n L)[p]? = some (if p < n then decC c else c) := by
  have hp := (List.getElem?_eq_some_iff.mp h).1
  unfold decF
  by_cases e : p < n
  · rw [if_pos e, List.getElem?_append_left (by simp; omega), List.getElem?_map, List.getElem?_take_of_lt e, h]; rfl
  · rw [if_neg e, List.getElem?_append_right (by simp; omega)]
    simp only [List.length_map, List.length_take, List.getElem?_drop]
    rw [show n + (p - min n L.length) = p by omega]; exact h
theorem decF_at' {n : Nat} {L : List Cl} {p : Nat} {c : Cl} (h : (decF n L)[p]? = some c) : ∃ c0, L[p]? = some c0 ∧ c = if p < n then decC c0 else c0 := by
  have hp := (List.getElem?_eq_some_iff.mp h).1
  rw [decF_len] at hp
  have h1 := decF_at (n := n) (List.getElem?_eq_getElem hp)
  exact ⟨_, List.getElem?_eq_getElem hp, Option.some.inj (h.symm.trans h1)⟩
theorem RM_dec {f f' : Nat → Int32} {g : Nat → Nat} {T : Nat → Rw} {L : List Cl} {n : Nat} {c : Cl} (hM : RM f (g, decF n L, T)) (h16 : L.length ≤ 16) (hc : L[n]? = some c) (hf : ∀ j, f' j = if j = 10 + 5 * n + 1 then nI (c 1 - 1) else f j) : RM f' (g, decF (n + 1) L, T) := by
  have hn := (List.getElem?_eq_some_iff.mp hc).1
  obtain ⟨h1, h2, h3, h4⟩ := hM
  refine ⟨fun k hk => ?_, ?_, fun p c' hp w hw => ?_, fun s hs w hw => ?_⟩
  · rw [hf, if_neg (by omega)]; exact h1 k hk
  · rw [hf, if_neg (by omega), h2]; show nI (decF n L).length = nI (decF (n + 1) L).length; rw [decF_len, decF_len]
  · obtain ⟨c0, hc0, rfl⟩ := decF_at' hp
    have hpl := (List.getElem?_eq_some_iff.mp hc0).1
    have h := h3 p _ (decF_at (n := n) hc0) w hw
    rw [hf]
    by_cases e : p = n
    · subst e
      cases Option.some.inj (hc0.symm.trans hc)
      rw [show (if p < p + 1 then decC c else c) = decC c from if_pos (by omega)]
      rw [show (if p < p then decC c else c) = c from if_neg (by omega)] at h
      by_cases ew : w = 1
      · subst ew; rw [if_pos rfl]; show _ = nI (u1 c 1 _ 1); rw [u1_s]
      · rw [if_neg (by omega), h]; show _ = nI (u1 c 1 _ w); rw [u1_n ew]
    · rw [if_neg (by omega), h]
      by_cases e2 : p < n
      · rw [if_pos e2, if_pos (by omega)]
      · rw [if_neg e2, if_neg (by omega)]
  · rw [hf, if_neg (by omega)]; exact h4 s hs w hw
/-- the first n stores have waited -/
def waitF (n : Nat) (T : Nat → Rw) : Nat → Rw := fun s => if s < n then waitR (T s) else T s
theorem waitF_0 (T : Nat → Rw) : waitF 0 T = T := by funext s; unfold waitF; rw [if_neg (by omega)]
theorem waitF_s (n : Nat) (T : Nat → Rw) : sT (waitF n T) n (waitR (T n)) = waitF (n + 1) T := by
  funext s; unfold sT waitF
  by_cases e : s = n
  · subst e; rw [if_pos rfl, if_pos (by omega)]
  · rw [if_neg e]
    by_cases e2 : s < n
    · rw [if_pos e2, if_pos (by omega)]
    · rw [if_neg e2, if_neg (by omega)]
theorem waitF_n {n s : Nat} (T : Nat → Rw) (h : n ≤ s) : waitF n T s = T s := by unfold waitF; rw [if_neg (by omega)]
theorem keptL_nil : keptL [] = [] := rfl
theorem keptL_0 {c : Cl} {L : List Cl} (h : c 1 = 0) : keptL (c :: L) = keptL L := by simp [keptL, h]
theorem keptL_1 {c : Cl} {L : List Cl} (h : c 1 ≠ 0) : keptL (c :: L) = c :: keptL L := by simp [keptL, h]
theorem keptL_le (L : List Cl) : (keptL L).length ≤ L.length := List.length_filter_le _ _
theorem ansG_0 {c : Cl} {L : List Cl} {x : (Nat → Nat) × (Nat → Rw)} (h : c 1 = 0) : ansG (c :: L) x = ansG L (outG x.1 (c 2), sT x.2 (c 0) (outR x.1 (c 2) (c 3) (c 4) (x.2 (c 0)))) := by rw [ansG, if_pos h]
theorem ansG_1 {c : Cl} {L : List Cl} {x : (Nat → Nat) × (Nat → Rw)} (h : c 1 ≠ 0) : ansG (c :: L) x = ansG L x := by rw [ansG, if_neg h]
/-- the invariant only wants ticks to go to be small -/
theorem IV.sub {m k : Nat} {g : Nat → Nat} {T : Nat → Rw} {L L' : List Cl} (h : IV m k (g, L, T)) (hl : L'.length = L.length) (hc : ∀ (p : Nat) (c : Cl), L'[p]? = some c → ∃ c0 v, L[p]? = some c0 ∧ v ≤ 99 ∧ c = u1 c0 1 v) : IV m k (g, L', T) := by
  obtain ⟨h1, h2, h3, h4, h5, h6, h7⟩ := h
  have hmap : ∀ st, L'.countP (isT st) = L.countP (isT st) := by
    intro st
    have : L'.map (isT st) = L.map (isT st) := by
      apply List.ext_getElem?
      intro p
      rw [List.getElem?_map, List.getElem?_map]
      cases hp : L'[p]? with
      | none =>
        have : L[p]? = none := by rw [List.getElem?_eq_none_iff] at hp ⊢; omega
        rw [this]
      | some c =>
        obtain ⟨c0, v, q1, -, rfl⟩ := hc p c hp
        rw [q1]
        rfl
    rw [List.countP_eq_length_filter, List.countP_eq_length_filter]
    have e : ∀ M : List Cl, (M.filter (isT st)).length = ((M.map (isT st)).filter (fun b => b)).length := by
      intro M; rw [List.filter_map, List.length_map]; rfl
    rw [e, e, this]
  refine ⟨h1, by show L'.length ≤ 16; rw [hl]; exact h2, fun c hcm => ?_, fun st => by show L'.countP (isT st) ≤ 1; rw [hmap]; exact h4 st, h5, h6, by show g 6 + g 7 + L'.length ≤ m; rw [hl]; exact h7⟩
  obtain ⟨p, hp⟩ := List.getElem?_of_mem hcm
  obtain ⟨c0, v, q1, q2, rfl⟩ := hc p c hp
  obtain ⟨e0, e1, e2, e3, e4, e5, e6⟩ := h3 c0 (List.mem_of_getElem? q1)
  exact ⟨e0, q2, e2, e3, e4, e5, e6⟩
theorem IV.dec {m k : Nat} {g : Nat → Nat} {T : Nat → Rw} {L : List Cl} (n : Nat) (h : IV m k (g, L, T)) : IV m k (g, decF n L, T) := by
  refine h.sub (decF_len n L) (fun p c hp => ?_)
  obtain ⟨c0, q1, rfl⟩ := decF_at' hp
  have hc0 := (h.2.2.1 c0 (List.mem_of_getElem? q1)).2.1
  by_cases e : p < n
  · exact ⟨c0, c0 1 - 1, q1, by omega, if_pos e⟩
  · refine ⟨c0, c0 1, q1, hc0, ?_⟩
    rw [if_neg e]
    funext j; unfold u1; split
    · next e => rw [e]
    · rfl
theorem IV.b {m k : Nat} {a : AA} (h : IV m k a) : a.1 6 + a.1 7 + k ≤ m + k := by have := h.2.2.2.2.2.2; omega
theorem RK.wait {b : Nat} {t : Rw} (h : RK b t) : RK b (waitR t) := by
  unfold waitR
  split
  · next e =>
    obtain ⟨h0, h1, h2, h3, h4, h5, h6, h7, h8, h9, h10, h11, h12⟩ := h
    refine ⟨h0, h1, h2, ?_, h4, h5, ?_, ?_, h8, ?_, fun _ => h10 (by omega), h11, fun j hj => ?_⟩
    · show (if t 5 - 1 = 0 then 2 else 1) ≤ 2
      split <;> omega
    · show (if t 5 - 1 = 0 then 2 else 1) = 1 ↔ 1 ≤ t 5 - 1
      split <;> omega
    · show t 5 - 1 ≤ t 6
      omega
    · show (if t 5 - 1 = 0 then 2 else 1) = 0 → _
      split <;> omega
    · rw [u1_n (by omega), u1_n (by omega)]; exact h12 j hj
  · exact h
theorem waitR_9 {t : Rw} : waitR t 9 = t 9 := by unfold waitR; split <;> rfl
theorem waitR_2 {t : Rw} (h : t 2 = 2) : waitR t 2 = 2 := by unfold waitR; rw [if_neg (by omega)]; exact h
theorem IV.wait {m k v : Nat} {g : Nat → Nat} {L : List Cl} {T : Nat → Rw} (h : IV m k (g, L, T)) : IV m k (u1 g 5 v, L, waitF 4 T) := by
  obtain ⟨h1, h2, h3, h4, h5, h6, h7⟩ := h
  have hw : ∀ s, s < 4 → waitF 4 T s = waitR (T s) := fun s hs => if_pos hs
  refine ⟨h1, h2, fun c hc => ?_, h4, fun st hst => ?_, ?_, h7⟩
  · obtain ⟨e0, e1, e2, e3, e4, e5, e6⟩ := h3 c hc
    refine ⟨e0, e1, e2, e3, e4, e5, fun e => ?_⟩
    show waitF 4 T (c 0) 2 = 2
    rw [hw _ e0]; exact waitR_2 (e6 e)
  · show RK (g 6 + g 7 + k) (waitF 4 T st)
    rw [hw st hst]; exact (h5 st hst).wait
  · show g 6 = waitF 4 T 0 9 + waitF 4 T 1 9 + waitF 4 T 2 9 + waitF 4 T 3 9
    rw [hw 0 (by decide), hw 1 (by decide), hw 2 (by decide), hw 3 (by decide), waitR_9, waitR_9, waitR_9, waitR_9]; exact h6
theorem IV.ansG {m k : Nat} : ∀ (L K : List Cl) (g : Nat → Nat) (T : Nat → Rw), IV m k (g, K ++ L, T) → IV m k ((ansG L (g, T)).1, K ++ keptL L, (ansG L (g, T)).2)
  | [], K, g, T, h => h
  | c :: L, K, g, T, h => by
    by_cases e : c 1 = 0
    · rw [ansG_0 e, keptL_0 e]
      exact IV.ansG L K _ _ h.ans
    · rw [ansG_1 e, keptL_1 e]
      have := IV.ansG L (K ++ [c]) g T (by rw [List.append_assoc]; exact h)
      rw [List.append_assoc] at this; exact this
theorem tickA_eq (a : AA) : tickA a = (u1 (ansG (a.2.1.map decC) (a.1, a.2.2)).1 5 ((ansG (a.2.1.map decC) (a.1, a.2.2)).1 5 + 1), keptL (a.2.1.map decC), waitF 4 (ansG (a.2.1.map decC) (a.1, a.2.2)).2) := rfl
theorem IV.tick {m k : Nat} {a : AA} (h : IV m k a) : IV m k (tickA a) := by
  have h1 : IV m k (a.1, decF a.2.1.length a.2.1, a.2.2) := IV.dec _ h
  rw [decF_all] at h1
  have h2 := IV.ansG (a.2.1.map decC) [] a.1 a.2.2 h1
  exact h2.wait
/-- every call on its way has a tick to go -/
def L1 (a : AA) : Prop := ∀ c ∈ a.2.1, 1 ≤ c 1
theorem L1.tick {a : AA} : L1 (tickA a) := by
  intro c hc
  have hc : c ∈ keptL (a.2.1.map decC) := hc
  have := (List.mem_filter.mp hc).2
  simp at this
  omega
section MODEL7
variable {G : GG} {K : Nat → Option (Nat × Nat)} {R : Nat → Nat → Value} {I : Nat → Nat → Int32} {J : Nat → Nat → Int64} {z : Nat} {σ : Sg} {a : AA} {m k : Nat}
theorem tk_1 {f : Nat → Int32} {g : Nat → Nat} {L : List Cl} {T : Nat → Rw} {q v : Nat} (hv : T q 5 - 1 = 0 ∧ v = 2 ∨ T q 5 - 1 ≠ 0 ∧ v = 1) (h : T q 2 = 1) (hM : RM f (g, L, sT (sT (waitF q T) q (u1 (waitF q T q) 5 (T q 5 - 1))) q (u1 (sT (waitF q T) q (u1 (waitF q T q) 5 (T q 5 - 1)) q) 2 v))) : RM f (g, L, waitF (q + 1) T) := by
  rw [sT_sT, sT_s, waitF_n T (Nat.le_refl q)] at hM
  rw [← waitF_s, waitR, if_pos h]
  rcases hv with ⟨h1, rfl⟩ | ⟨h1, rfl⟩
  · rw [if_pos h1]; exact hM
  · rw [if_neg h1]; exact hM
theorem tk_0 {f : Nat → Int32} {g : Nat → Nat} {L : List Cl} {T : Nat → Rw} {q : Nat} (h : T q 2 ≠ 1) (hM : RM f (g, L, waitF q T)) : RM f (g, L, waitF (q + 1) T) := by
  rw [← waitF_s, waitR, if_neg h]
  have : sT (waitF q T) q (T q) = waitF q T := by
    funext s; unfold sT; split
    · next e => subst e; rw [waitF_n T (Nat.le_refl s)]
    · rfl
  rw [this]; exact hM
theorem r_tick (hL : LM G K R) (hM : RM (I 141) a) (hI : IV m k a) (hl1 : L1 a) (hmk : m + k ≤ 1000000000) : Run G YX4_tick [.ref (G.1 140)] (K, R, I, J, z) (Up K R J z (some (.int (nI (tickN a)))) (fun I' => RM (I' 141) (tickA a) ∧ FrO 141 I I')) := by
  obtain ⟨hk0, hr1, hk1, hr2, hk2, hr3, hk3, hr5, hk5, hr9, hk9⟩ := hL
  have hL : LM G K R := ⟨hk0, hr1, hk1, hr2, hk2, hr3, hk3, hr5, hk5, hr9, hk9⟩
  have h16 := hI.2.1
  have hkl := keptL_le (a.2.1.map decC)
  rw [List.length_map] at hkl
  have loop3 : ∀ (d q : Nat) (I1 : Nat → Nat → Int32) (g : Nat → Nat) (T : Nat → Rw) (L : List Cl), 4 - q = d → q ≤ 4 → L.length ≤ 16 → (∀ st, st < 4 → RK (m + k) (T st)) → RM (I1 141) (g, L, waitF q T) → FrO 141 I I1 → tickA a = (u1 g 5 (g 5 + 1), L, waitF 4 T) → AW G YX4_tick (MZ G YX4_tick (Up K R J z (some (.int (nI (tickN a)))) (fun I' => RM (I' 141) (tickA a) ∧ FrO 141 I I'))) 130 [(0, .ref (G.1 140)), (1, .int (nI (tickN a))), (3, .int (nI q))] [] (K, R, I1, J, z) 0 0 := by
    intro d
    induction d using Nat.strongRecOn with
    | _ d ih =>
    intro q I1 g T L hd hq hl16 hT hM1 hF1 hta
    refine aw_iload_n dX4_tick_130 rfl ?_
    refine aw_iconst (v := nI 4) dX4_tick_131 rfl ?_
    refine aw_icmp_geN (tgt := 185) dX4_tick_132 (by decide) (by omega) (by omega) (fun hc132 => ?_) (fun hc132 => ?_)
    · refine aw_aload_n dX4_tick_185 rfl ?_
      refine aw_getR dX4_tick_186 flX4_7 rfl (by assumption) (by assumption) ?_
      refine aw_iconst (v := nI 5) dX4_tick_189 rfl ?_
      refine aw_dup2 dX4_tick_190 rfl rfl ?_
      refine aw_iald dX4_tick_191 (by assumption) (by omega) rfl (by omega) (hM1.1 5 (by decide)) ?_
      refine aw_iconst (v := nI 1) dX4_tick_192 rfl ?_
      first | refine aw_iaddN dX4_tick_193 ?_ | refine aw_iadd dX4_tick_193 ?_
      refine aw_iast dX4_tick_194 (by assumption) (by omega) (by omega) rfl (by omega) ?_
      refine aw_iload_n dX4_tick_195 rfl ?_
      exact aw_iret dX4_tick_196 rfl (Nat.zero_le _) (Nat.zero_le _) ⟨rfl, _, rfl, by
  rw [hta]
  rw [show q = 4 by omega] at hM1
  exact RM_g hM1 (by decide) (fun j => up2_o), hF1.tr FrO.up⟩
    · have hRq := hT q (by omega)
      have hq2 : T q 2 ≤ 2 := hRq.2.2.2.1
      have hq5 : T q 5 ≤ T q 6 := hRq.2.2.2.2.2.2.2.1
      have hq6 : T q 6 ≤ 999 := hRq.2.2.2.2.2.2.2.2.1
      have hq15 := hRq.2.2.2.2.2.2.1
      refine aw_aload_n dX4_tick_135 rfl ?_
      refine aw_iload_n dX4_tick_136 rfl ?_
      refine aw_iconst (v := nI 2) dX4_tick_137 rfl ?_
      refine aw_vRd dX4_tick_138 cvX4_40 ⟨Nat.le_of_ble_eq_true rfl, Nat.le_of_ble_eq_true rfl⟩ (by assumption) ⟨_, rfl, rfl⟩ (r_ofv (w := 2) (v := T q 2) hL hM1 (by omega) (by decide) (by show waitF q T q 2 = _; rw [waitF_n T (Nat.le_refl q)])) rfl rfl (Nat.le_of_ble_eq_true rfl) ⟨rfl, rfl⟩ ⟨Nat.zero_le _, Nat.zero_le _⟩ ?_
      refine aw_iconst (v := nI 1) dX4_tick_141 rfl ?_
      refine aw_icmp_neN (tgt := 179) dX4_tick_142 (by decide) (by omega) (by omega) (fun hc142 => ?_) (fun hc142 => ?_)
      · refine aw_iincN (k := 1) (ls' := [(3, _), (0, _), (1, _)]) dX4_tick_179 rfl rfl (by decide) rfl ?_
        refine aw_goto (tgt := 130) dX4_tick_182 (by decide) ?_
        first
        | exact aw_pick [1, 2, 0] rfl (ih (4 - (q + 1)) (by omega) (q + 1) I176 g T L rfl (by omega) hl16 hT (tk_1 (by first | exact Or.inl ⟨hc168, rfl⟩ | exact Or.inr ⟨hc168, rfl⟩) hc142 hP176.1) (hF1.tr (hP156.2.tr hP176.2)) hta)
        | exact aw_pick [1, 2, 0] rfl (ih (4 - (q + 1)) (by omega) (q + 1) I1 g T L rfl (by omega) hl16 hT (tk_0 hc142 hM1) hF1 hta)
      · refine aw_aload_n dX4_tick_145 rfl ?_
        refine aw_iload_n dX4_tick_146 rfl ?_
        refine aw_iconst (v := nI 5) dX4_tick_147 rfl ?_
        refine aw_aload_n dX4_tick_148 rfl ?_
        refine aw_iload_n dX4_tick_149 rfl ?_
        refine aw_iconst (v := nI 5) dX4_tick_150 rfl ?_
        refine aw_vRd dX4_tick_151 cvX4_40 ⟨Nat.le_of_ble_eq_true rfl, Nat.le_of_ble_eq_true rfl⟩ (by assumption) ⟨_, rfl, rfl⟩ (r_ofv (w := 5) (v := T q 5) hL hM1 (by omega) (by decide) (by show waitF q T q 5 = _; rw [waitF_n T (Nat.le_refl q)])) rfl rfl (Nat.le_of_ble_eq_true rfl) ⟨rfl, rfl⟩ ⟨Nat.zero_le _, Nat.zero_le _⟩ ?_
        refine aw_iconst (v := nI 1) dX4_tick_154 rfl ?_
        first | refine aw_isubN dX4_tick_155 (by omega) ?_ | refine aw_isub dX4_tick_155 ?_
        refine aw_vUp0 dX4_tick_156 cvX4_29 ⟨Nat.le_of_ble_eq_true rfl, Nat.le_of_ble_eq_true rfl⟩ (by assumption) ⟨_, rfl, rfl⟩ (r_lay (w := 5) hL hM1 hl16 (by omega) (by decide)) rfl rfl (Nat.le_of_ble_eq_true rfl) ⟨rfl, rfl⟩ ⟨Nat.zero_le _, Nat.zero_le _⟩ (fun I156 hP156 => ?_)
        refine aw_aload_n dX4_tick_159 rfl ?_
        refine aw_iload_n dX4_tick_160 rfl ?_
        refine aw_iconst (v := nI 2) dX4_tick_161 rfl ?_
        refine aw_aload_n dX4_tick_162 rfl ?_
        refine aw_iload_n dX4_tick_163 rfl ?_
        refine aw_iconst (v := nI 5) dX4_tick_164 rfl ?_
        refine aw_vRd dX4_tick_165 cvX4_40 ⟨Nat.le_of_ble_eq_true rfl, Nat.le_of_ble_eq_true rfl⟩ (by assumption) ⟨_, rfl, rfl⟩ (r_ofv (w := 5) (v := T q 5 - 1) hL hP156.1 (by omega) (by decide) (by show sT _ q _ q 5 = _; rw [sT_s, u1_s])) rfl rfl (Nat.le_of_ble_eq_true rfl) ⟨rfl, rfl⟩ ⟨Nat.zero_le _, Nat.zero_le _⟩ ?_
        refine aw_if_neN (tgt := 175) dX4_tick_168 (by decide) (by omega) (fun hc168 => ?_) (fun hc168 => ?_)
        · refine aw_iconst (v := nI 1) dX4_tick_175 rfl ?_
          refine aw_vUp0 dX4_tick_176 cvX4_29 ⟨Nat.le_of_ble_eq_true rfl, Nat.le_of_ble_eq_true rfl⟩ (by assumption) ⟨_, rfl, rfl⟩ (r_lay (w := 2) hL hP156.1 hl16 (by omega) (by decide)) rfl rfl (Nat.le_of_ble_eq_true rfl) ⟨rfl, rfl⟩ ⟨Nat.zero_le _, Nat.zero_le _⟩ (fun I176 hP176 => ?_)
          refine aw_iincN (k := 1) (ls' := [(3, _), (0, _), (1, _)]) dX4_tick_179 rfl rfl (by decide) rfl ?_
          refine aw_goto (tgt := 130) dX4_tick_182 (by decide) ?_
          first
          | exact aw_pick [1, 2, 0] rfl (ih (4 - (q + 1)) (by omega) (q + 1) I176 g T L rfl (by omega) hl16 hT (tk_1 (by first | exact Or.inl ⟨hc168, rfl⟩ | exact Or.inr ⟨hc168, rfl⟩) hc142 hP176.1) (hF1.tr (hP156.2.tr hP176.2)) hta)
          | exact aw_pick [1, 2, 0] rfl (ih (4 - (q + 1)) (by omega) (q + 1) I1 g T L rfl (by omega) hl16 hT (tk_0 hc142 hM1) hF1 hta)
        · refine aw_iconst (v := nI 2) dX4_tick_171 rfl ?_
          refine aw_goto (tgt := 176) dX4_tick_172 (by decide) ?_
          refine aw_vUp0 dX4_tick_176 cvX4_29 ⟨Nat.le_of_ble_eq_true rfl, Nat.le_of_ble_eq_true rfl⟩ (by assumption) ⟨_, rfl, rfl⟩ (r_lay (w := 2) hL hP156.1 hl16 (by omega) (by decide)) rfl rfl (Nat.le_of_ble_eq_true rfl) ⟨rfl, rfl⟩ ⟨Nat.zero_le _, Nat.zero_le _⟩ (fun I176 hP176 => ?_)
          refine aw_iincN (k := 1) (ls' := [(3, _), (0, _), (1, _)]) dX4_tick_179 rfl rfl (by decide) rfl ?_
          refine aw_goto (tgt := 130) dX4_tick_182 (by decide) ?_
          first
          | exact aw_pick [1, 2, 0] rfl (ih (4 - (q + 1)) (by omega) (q + 1) I176 g T L rfl (by omega) hl16 hT (tk_1 (by first | exact Or.inl ⟨hc168, rfl⟩ | exact Or.inr ⟨hc168, rfl⟩) hc142 hP176.1) (hF1.tr (hP156.2.tr hP176.2)) hta)
          | exact aw_pick [1, 2, 0] rfl (ih (4 - (q + 1)) (by omega) (q + 1) I1 g T L rfl (by omega) hl16 hT (tk_0 hc142 hM1) hF1 hta)
  have loop2 : ∀ (L Kp : List Cl) (g : Nat → Nat) (T : Nat → Rw) (n : Nat) (I1 : Nat → Nat → Int32), IV m k (g, Kp ++ L, T) → RM (I1 141) (g, Kp ++ L, T) → FrO 141 I I1 → keptL (a.2.1.map decC) = Kp ++ keptL L → ansG (a.2.1.map decC) (a.1, a.2.2) = ansG L (g, T) → n + (Kp ++ L).length = a.2.1.length → AW G YX4_tick (MZ G YX4_tick (Up K R J z (some (.int (nI (tickN a)))) (fun I' => RM (I' 141) (tickA a) ∧ FrO 141 I I'))) 40 [(0, .ref (G.1 140)), (1, .int (nI n)), (2, .int (nI Kp.length))] [] (K, R, I1, J, z) 0 0 := by
    intro L
    induction L with
    | nil =>
      intro Kp g T n I1 hI1 hM1 hF1 hkp han hn
      rw [List.append_nil] at hI1 hM1 hn
      have hk16 := hI1.2.1
      simp only at hk16
      refine aw_iload_n dX4_tick_40 rfl ?_
      refine aw_aload_n dX4_tick_41 rfl ?_
      refine aw_getR dX4_tick_42 flX4_7 rfl (by assumption) (by assumption) ?_
      refine aw_bipush (v := nI 9) dX4_tick_45 rfl ?_
      refine aw_iald dX4_tick_47 (by assumption) (by omega) rfl (by omega) (show _ = nI Kp.length from hM1.2.1) ?_
      refine aw_icmp_geN (tgt := 128) dX4_tick_48 (by decide) (by omega) (by omega) (fun hc48 => ?_) (fun hc48 => absurd hc48 (by omega))
      refine aw_iconst (v := nI 0) dX4_tick_128 rfl ?_
      refine aw_istore_n (ls' := [(3, _), (0, _), (1, _), (2, _)]) dX4_tick_129 (by decide) rfl ?_
      have hn2 : n = tickN a := by
        unfold tickN; rw [hkp]; simp only [keptL_nil, List.append_nil]; omega
      rw [hn2]
      exact aw_pick [1, 2, 0] rfl (loop3 4 0 I1 g T Kp rfl (by decide) hk16 (fun st hst => (hI1.2.2.2.2.1 st hst).up hI1.b) (by rw [waitF_0]; exact hM1) hF1 (by rw [tickA_eq, han, hkp]; simp only [ansG, keptL_nil, List.append_nil]))
    | cons c L ih =>
      intro Kp g T n I1 hI1 hM1 hF1 hkp han hn
      have hk16 : (Kp ++ c :: L).length ≤ 16 := hI1.2.1
      have hlen : (Kp ++ c :: L).length = (Kp ++ L).length + 1 := by simp [Nat.add_assoc]
      have hcm := hI1.2.2.1 c (List.mem_append_right _ List.mem_cons_self)
      have hca : (Kp ++ c :: L)[Kp.length]? = some c := by simp
      have hKl : Kp.length < (Kp ++ c :: L).length := by simp
      obtain ⟨e0, e1, e2, e3, e4, e5, e6⟩ := hcm
      have hb1 := hI1.b
      simp only at e5 hb1
      have hbb : c 4 ≤ 1000000000 := by omega
      refine aw_iload_n dX4_tick_40 rfl ?_
      refine aw_aload_n dX4_tick_41 rfl ?_
      refine aw_getR dX4_tick_42 flX4_7 rfl (by assumption) (by assumption) ?_
      refine aw_bipush (v := nI 9) dX4_tick_45 rfl ?_
      refine aw_iald dX4_tick_47 (by assumption) (by omega) rfl (by omega) (show _ = nI (Kp ++ c :: L).length from hM1.2.1) ?_
      refine aw_icmp_geN (tgt := 128) dX4_tick_48 (by decide) (by omega) (by omega) (fun hc48 => absurd hc48 (by omega)) (fun hc48 => ?_)
      refine aw_aload_n dX4_tick_51 rfl ?_
      refine aw_iload_n dX4_tick_52 rfl ?_
      refine aw_iconst (v := nI 1) dX4_tick_53 rfl ?_
      refine aw_vRd dX4_tick_54 cvX4_63 ⟨Nat.le_of_ble_eq_true rfl, Nat.le_of_ble_eq_true rfl⟩ (by assumption) ⟨_, rfl, rfl⟩ (r_callOfv (w := 1) (v := c 1) hL hM1 hca hk16 (by decide) rfl) rfl rfl (Nat.le_of_ble_eq_true rfl) ⟨rfl, rfl⟩ ⟨Nat.zero_le _, Nat.zero_le _⟩ ?_
      refine aw_if_neN (tgt := 122) dX4_tick_57 (by decide) (by omega) (fun hc57 => ?_) (fun hc57 => ?_)
      · refine aw_iincN (k := 1) (ls' := [(2, _), (0, _), (1, _)]) dX4_tick_122 rfl rfl (by decide) rfl ?_
        refine aw_goto (tgt := 40) dX4_tick_125 (by decide) ?_
        first
        | exact aw_pick [1, 2, 0] rfl (ih Kp _ _ (n + 1) I113 (IV.ans hI1) hP113.1 (hF1.tr (hP102.2.tr hP113.2)) (by rw [hkp, keptL_0 hc57]) (by rw [han, ansG_0 hc57]) (by omega))
        | (have := ih (Kp ++ [c]) g T n I1 (by rw [List.append_assoc]; exact hI1) (by rw [List.append_assoc]; exact hM1) hF1 (by rw [hkp, keptL_1 hc57, List.append_assoc]; rfl) (by rw [han, ansG_1 hc57]) (by rw [List.append_assoc]; exact hn)
           rw [List.length_append] at this
           exact aw_pick [1, 2, 0] rfl this)
      · refine aw_aload_n dX4_tick_60 rfl ?_
        refine aw_iload_n dX4_tick_61 rfl ?_
        refine aw_iconst (v := nI 0) dX4_tick_62 rfl ?_
        refine aw_vRd dX4_tick_63 cvX4_63 ⟨Nat.le_of_ble_eq_true rfl, Nat.le_of_ble_eq_true rfl⟩ (by assumption) ⟨_, rfl, rfl⟩ (r_callOfv (w := 0) (v := c 0) hL hM1 hca hk16 (by decide) rfl) rfl rfl (Nat.le_of_ble_eq_true rfl) ⟨rfl, rfl⟩ ⟨Nat.zero_le _, Nat.zero_le _⟩ ?_
        refine aw_istore_n (ls' := [(3, _), (0, _), (1, _), (2, _)]) dX4_tick_66 (by decide) rfl ?_
        refine aw_aload_n dX4_tick_67 rfl ?_
        refine aw_iload_n dX4_tick_68 rfl ?_
        refine aw_iconst (v := nI 2) dX4_tick_69 rfl ?_
        refine aw_vRd dX4_tick_70 cvX4_63 ⟨Nat.le_of_ble_eq_true rfl, Nat.le_of_ble_eq_true rfl⟩ (by assumption) ⟨_, rfl, rfl⟩ (r_callOfv (w := 2) (v := c 2) hL hM1 hca hk16 (by decide) rfl) rfl rfl (Nat.le_of_ble_eq_true rfl) ⟨rfl, rfl⟩ ⟨Nat.zero_le _, Nat.zero_le _⟩ ?_
        refine aw_istore (ls' := [(4, _), (3, _), (0, _), (1, _), (2, _)]) dX4_tick_73 (by decide) rfl ?_
        refine aw_aload_n dX4_tick_75 rfl ?_
        refine aw_iload_n dX4_tick_76 rfl ?_
        refine aw_iconst (v := nI 3) dX4_tick_77 rfl ?_
        refine aw_vRd dX4_tick_78 cvX4_63 ⟨Nat.le_of_ble_eq_true rfl, Nat.le_of_ble_eq_true rfl⟩ (by assumption) ⟨_, rfl, rfl⟩ (r_callOfv (w := 3) (v := c 3) hL hM1 hca hk16 (by decide) rfl) rfl rfl (Nat.le_of_ble_eq_true rfl) ⟨rfl, rfl⟩ ⟨Nat.zero_le _, Nat.zero_le _⟩ ?_
        refine aw_iconst (v := nI 1) dX4_tick_81 rfl ?_
        refine aw_icmp_neN (tgt := 89) dX4_tick_82 (by decide) (by omega) (by omega) (fun hc82 => ?_) (fun hc82 => ?_)
        · refine aw_iconst (v := nI 0) dX4_tick_89 rfl ?_
          refine aw_top (x' := nI (c 3)) (congrArg nI (by omega)) ?_
          refine aw_istore (ls' := [(5, _), (4, _), (3, _), (0, _), (1, _), (2, _)]) dX4_tick_90 (by decide) rfl ?_
          refine aw_aload_n dX4_tick_92 rfl ?_
          refine aw_iload_n dX4_tick_93 rfl ?_
          refine aw_iconst (v := nI 4) dX4_tick_94 rfl ?_
          refine aw_vRd dX4_tick_95 cvX4_63 ⟨Nat.le_of_ble_eq_true rfl, Nat.le_of_ble_eq_true rfl⟩ (by assumption) ⟨_, rfl, rfl⟩ (r_callOfv (w := 4) (v := c 4) hL hM1 hca hk16 (by decide) rfl) rfl rfl (Nat.le_of_ble_eq_true rfl) ⟨rfl, rfl⟩ ⟨Nat.zero_le _, Nat.zero_le _⟩ ?_
          refine aw_istore (ls' := [(6, _), (5, _), (4, _), (3, _), (0, _), (1, _), (2, _)]) dX4_tick_98 (by decide) rfl ?_
          refine aw_aload_n dX4_tick_100 rfl ?_
          refine aw_iload_n dX4_tick_101 rfl ?_
          refine aw_vUp0 dX4_tick_102 cvX4_77 ⟨Nat.le_of_ble_eq_true rfl, Nat.le_of_ble_eq_true rfl⟩ (by assumption) ⟨_, rfl, rfl⟩ (r_drops hL rfl hM1 hk16) rfl rfl (Nat.le_of_ble_eq_true rfl) ⟨rfl, rfl⟩ ⟨Nat.zero_le _, Nat.zero_le _⟩ (fun I102 hP102 => ?_)
          refine aw_aload_n dX4_tick_105 rfl ?_
          refine aw_iload_n dX4_tick_106 rfl ?_
          refine aw_iload dX4_tick_107 rfl ?_
          refine aw_iload dX4_tick_109 rfl ?_
          refine aw_iload dX4_tick_111 rfl ?_
          refine aw_vUp0 dX4_tick_113 cvX4_73 ⟨Nat.le_of_ble_eq_true rfl, Nat.le_of_ble_eq_true rfl⟩ (by assumption) ⟨_, rfl, rfl⟩ (r_comesOut (a := (g, Kp ++ L, T)) (st := c 0) (d := c 2) (tr := c 3) (since := c 4) (b := m + k) hL hP102.1 (by show (Kp ++ L).length ≤ 16; omega) e0 hI1.1 ((hI1.2.2.2.2.1 _ e0).up hb1) (by omega) e4 hbb hmk) rfl rfl (Nat.le_of_ble_eq_true rfl) ⟨rfl, rfl⟩ ⟨Nat.zero_le _, Nat.zero_le _⟩ (fun I113 hP113 => ?_)
          refine aw_iincN (k := 1) (ls' := [(1, _), (6, _), (5, _), (4, _), (3, _), (0, _), (2, _)]) dX4_tick_116 rfl rfl (by decide) rfl ?_
          refine aw_goto (tgt := 40) dX4_tick_119 (by decide) ?_
          first
          | exact aw_pick [5, 0, 6] rfl (ih Kp _ _ (n + 1) I113 (IV.ans hI1) hP113.1 (hF1.tr (hP102.2.tr hP113.2)) (by rw [hkp, keptL_0 hc57]) (by rw [han, ansG_0 hc57]) (by omega))
          | (have := ih (Kp ++ [c]) g T n I1 (by rw [List.append_assoc]; exact hI1) (by rw [List.append_assoc]; exact hM1) hF1 (by rw [hkp, keptL_1 hc57, List.append_assoc]; rfl) (by rw [han, ansG_1 hc57]) (by rw [List.append_assoc]; exact hn)
             rw [List.length_append] at this
             exact aw_pick [5, 0, 6] rfl this)
        · refine aw_iconst (v := nI 1) dX4_tick_85 rfl ?_
          refine aw_goto (tgt := 90) dX4_tick_86 (by decide) ?_
          refine aw_top (x' := nI (c 3)) (congrArg nI (by omega)) ?_
          refine aw_istore (ls' := [(5, _), (4, _), (3, _), (0, _), (1, _), (2, _)]) dX4_tick_90 (by decide) rfl ?_
          refine aw_aload_n dX4_tick_92 rfl ?_
          refine aw_iload_n dX4_tick_93 rfl ?_
          refine aw_iconst (v := nI 4) dX4_tick_94 rfl ?_
          refine aw_vRd dX4_tick_95 cvX4_63 ⟨Nat.le_of_ble_eq_true rfl, Nat.le_of_ble_eq_true rfl⟩ (by assumption) ⟨_, rfl, rfl⟩ (r_callOfv (w := 4) (v := c 4) hL hM1 hca hk16 (by decide) rfl) rfl rfl (Nat.le_of_ble_eq_true rfl) ⟨rfl, rfl⟩ ⟨Nat.zero_le _, Nat.zero_le _⟩ ?_
          refine aw_istore (ls' := [(6, _), (5, _), (4, _), (3, _), (0, _), (1, _), (2, _)]) dX4_tick_98 (by decide) rfl ?_
          refine aw_aload_n dX4_tick_100 rfl ?_
          refine aw_iload_n dX4_tick_101 rfl ?_
          refine aw_vUp0 dX4_tick_102 cvX4_77 ⟨Nat.le_of_ble_eq_true rfl, Nat.le_of_ble_eq_true rfl⟩ (by assumption) ⟨_, rfl, rfl⟩ (r_drops hL rfl hM1 hk16) rfl rfl (Nat.le_of_ble_eq_true rfl) ⟨rfl, rfl⟩ ⟨Nat.zero_le _, Nat.zero_le _⟩ (fun I102 hP102 => ?_)
          refine aw_aload_n dX4_tick_105 rfl ?_
          refine aw_iload_n dX4_tick_106 rfl ?_
          refine aw_iload dX4_tick_107 rfl ?_
          refine aw_iload dX4_tick_109 rfl ?_
          refine aw_iload dX4_tick_111 rfl ?_
          refine aw_vUp0 dX4_tick_113 cvX4_73 ⟨Nat.le_of_ble_eq_true rfl, Nat.le_of_ble_eq_true rfl⟩ (by assumption) ⟨_, rfl, rfl⟩ (r_comesOut (a := (g, Kp ++ L, T)) (st := c 0) (d := c 2) (tr := c 3) (since := c 4) (b := m + k) hL hP102.1 (by show (Kp ++ L).length ≤ 16; omega) e0 hI1.1 ((hI1.2.2.2.2.1 _ e0).up hb1) (by omega) e4 hbb hmk) rfl rfl (Nat.le_of_ble_eq_true rfl) ⟨rfl, rfl⟩ ⟨Nat.zero_le _, Nat.zero_le _⟩ (fun I113 hP113 => ?_)
          refine aw_iincN (k := 1) (ls' := [(1, _), (6, _), (5, _), (4, _), (3, _), (0, _), (2, _)]) dX4_tick_116 rfl rfl (by decide) rfl ?_
          refine aw_goto (tgt := 40) dX4_tick_119 (by decide) ?_
          first
          | exact aw_pick [5, 0, 6] rfl (ih Kp _ _ (n + 1) I113 (IV.ans hI1) hP113.1 (hF1.tr (hP102.2.tr hP113.2)) (by rw [hkp, keptL_0 hc57]) (by rw [han, ansG_0 hc57]) (by omega))
          | (have := ih (Kp ++ [c]) g T n I1 (by rw [List.append_assoc]; exact hI1) (by rw [List.append_assoc]; exact hM1) hF1 (by rw [hkp, keptL_1 hc57, List.append_assoc]; rfl) (by rw [han, ansG_1 hc57]) (by rw [List.append_assoc]; exact hn)
             rw [List.length_append] at this
             exact aw_pick [5, 0, 6] rfl this)
  have loop1 : ∀ (d q : Nat) (I1 : Nat → Nat → Int32), a.2.1.length - q = d → q ≤ a.2.1.length → RM (I1 141) (a.1, decF q a.2.1, a.2.2) → FrO 141 I I1 → AW G YX4_tick (MZ G YX4_tick (Up K R J z (some (.int (nI (tickN a)))) (fun I' => RM (I' 141) (tickA a) ∧ FrO 141 I I'))) 2 [(0, .ref (G.1 140)), (1, .int (nI q))] [] (K, R, I1, J, z) 0 0 := by
    intro d
    induction d using Nat.strongRecOn with
    | _ d ih =>
    intro q I1 hd hq hM1 hF1
    refine aw_iload_n dX4_tick_2 rfl ?_
    refine aw_aload_n dX4_tick_3 rfl ?_
    refine aw_getR dX4_tick_4 flX4_7 rfl (by assumption) (by assumption) ?_
    refine aw_bipush (v := nI 9) dX4_tick_7 rfl ?_
    refine aw_iald dX4_tick_9 (by assumption) (by omega) rfl (by omega) (show _ = nI a.2.1.length by have := hM1.2.1; rw [this]; exact congrArg nI (decF_len _ _)) ?_
    refine aw_icmp_geN (tgt := 36) dX4_tick_10 (by decide) (by omega) (by omega) (fun hc10 => ?_) (fun hc10 => ?_)
    · refine aw_iconst (v := nI 0) dX4_tick_36 rfl ?_
      refine aw_istore_n (ls' := [(1, _), (0, _)]) dX4_tick_37 (by decide) rfl ?_
      refine aw_iconst (v := nI 0) dX4_tick_38 rfl ?_
      refine aw_istore_n (ls' := [(2, _), (1, _), (0, _)]) dX4_tick_39 (by decide) rfl ?_
      have hqe : q = a.2.1.length := by omega
      subst hqe
      rw [decF_all] at hM1
      have hI2 := IV.dec (g := a.1) (T := a.2.2) (L := a.2.1) a.2.1.length hI
      rw [decF_all] at hI2
      exact aw_pick [2, 1, 0] rfl (loop2 (a.2.1.map decC) [] a.1 a.2.2 0 I1 hI2 hM1 hF1 rfl rfl (by simp))
    · obtain ⟨c, hc⟩ : ∃ c, a.2.1[q]? = some c := ⟨_, List.getElem?_eq_getElem (by omega)⟩
      have hc1 := hl1 c (List.mem_of_getElem? hc)
      have hdq : (decF q a.2.1)[q]? = some c := by rw [decF_at hc, if_neg (by omega)]
      refine aw_aload_n dX4_tick_13 rfl ?_
      refine aw_getR dX4_tick_14 flX4_7 rfl (by assumption) (by assumption) ?_
      refine aw_bipush (v := nI 10) dX4_tick_17 rfl ?_
      refine aw_iconst (v := nI 5) dX4_tick_19 rfl ?_
      refine aw_iload_n dX4_tick_20 rfl ?_
      first | refine aw_imulN dX4_tick_21 ?_ | refine aw_imul dX4_tick_21 ?_
      first | refine aw_iaddN dX4_tick_22 ?_ | refine aw_iadd dX4_tick_22 ?_
      refine aw_iconst (v := nI 1) dX4_tick_23 rfl ?_
      first | refine aw_iaddN dX4_tick_24 ?_ | refine aw_iadd dX4_tick_24 ?_
      refine aw_dup2 dX4_tick_25 rfl rfl ?_
      refine aw_iald dX4_tick_26 (by assumption) (by omega) rfl (by omega) (show _ = nI (c 1) from by have := hM1.2.2.1 q c hdq 1 (by decide); exact this) ?_
      refine aw_iconst (v := nI 1) dX4_tick_27 rfl ?_
      first | refine aw_isubN dX4_tick_28 (by omega) ?_ | refine aw_isub dX4_tick_28 ?_
      refine aw_iast dX4_tick_29 (by assumption) (by omega) (by omega) rfl (by omega) ?_
      refine aw_iincN (k := 1) (ls' := [(1, _), (0, _)]) dX4_tick_30 rfl rfl (by decide) rfl ?_
      refine aw_goto (tgt := 2) dX4_tick_33 (by decide) ?_
      exact aw_pick [1, 0] rfl (ih (a.2.1.length - (q + 1)) (by omega) (q + 1) _ rfl (by omega) (RM_dec hM1 h16 hc (fun j => up2_o)) (hF1.tr FrO.up))
  refine run_of (ls := [(0, .ref (G.1 140))]) (by decide +kernel) rfl rfl (Nat.le_of_ble_eq_true rfl) ?_
  refine aw_iconst (v := nI 0) dX4_tick_0 rfl ?_
  refine aw_istore_n (ls' := [(1, _), (0, _)]) dX4_tick_1 (by decide) rfl ?_
  exact aw_pick [1, 0] rfl (loop1 a.2.1.length 0 I rfl (Nat.zero_le _) (by rw [decF_0]; exact hM) FrO.rf)
end MODEL7
