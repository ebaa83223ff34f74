/-! IN HOW MANY TICKS A STORE IS FREE -/
/-- no call was let through under a closing yet to come -/
def ISv (a : AA) : Prop := ∀ c ∈ a.2.1, c 4 ≤ a.2.2 (c 0) 11
theorem ansG_app : ∀ (L M : List Cl) (x : (Nat → Nat) × (Nat → Rw)), ansG (L ++ M) x = ansG M (ansG L x)
  | [], _, _ => rfl
  | c :: cs, M, x => by
    rw [List.cons_append, ansG, ansG]
    split
    · exact ansG_app cs M _
    · exact ansG_app cs M _
theorem outR_11 {g : Nat → Nat} {d tr since : Nat} {t : Rw} : t 11 ≤ outR g d tr since t 11 := by
  unfold outR winR
  split
  · split
    · exact Nat.le_refl _
    · exact Nat.le_succ _
  · split
    · split <;> exact Nat.le_refl _
    · exact Nat.le_refl _
theorem ansG_11 : ∀ (L : List Cl) (x : (Nat → Nat) × (Nat → Rw)) (s : Nat), x.2 s 11 ≤ (ansG L x).2 s 11
  | [], _, _ => Nat.le_refl _
  | c :: cs, x, s => by
    unfold ansG
    split
    · refine Nat.le_trans ?_ (ansG_11 cs _ s)
      show _ ≤ sT x.2 (c 0) _ s 11
      by_cases e : s = c 0
      · rw [e, sT_s]; exact outR_11
      · rw [sT_n e]; exact Nat.le_refl _
    · exact ansG_11 cs x s
theorem ansG_g : ∀ (L : List Cl) (x : (Nat → Nat) × (Nat → Rw)) (k : Nat), k ≤ 4 → (ansG L x).1 k = x.1 k
  | [], _, _, _ => rfl
  | c :: cs, x, k, hk => by
    unfold ansG
    split
    · rw [ansG_g cs _ k hk]
      show u1 (u1 x.1 6 _) 7 _ k = _
      rw [u1_n (by omega), u1_n (by omega)]
    · exact ansG_g cs x k hk
/-- calls that don't count for its breaker leave a store as it is -/
theorem ansG_row {st : Nat} : ∀ (L : List Cl) (x : (Nat → Nat) × (Nat → Rw)), (∀ c ∈ L, c 0 = st → c 3 ≠ 1 ∧ (x.2 st 2 ≠ 0 ∨ c 4 ≠ x.2 st 11)) → ∀ k, k ≠ 9 → (ansG L x).2 st k = x.2 st k
  | [], _, _, _, _ => rfl
  | c :: cs, x, h, k, hk => by
    have hc := h c List.mem_cons_self
    unfold ansG
    split
    · have key : ∀ j, j ≠ 9 → sT x.2 (c 0) (outR x.1 (c 2) (c 3) (c 4) (x.2 (c 0))) st j = x.2 st j := by
        intro j hj
        by_cases e : st = c 0
        · obtain ⟨h1, h2⟩ := hc e.symm
          rw [← e, sT_s]
          unfold outR
          rw [if_neg h1, if_neg (fun q => by rcases h2 with w | w; exact w q.1; exact w q.2.symm), u1_n hj]
        · rw [sT_n e]
      rw [ansG_row cs (outG x.1 (c 2), sT x.2 (c 0) (outR x.1 (c 2) (c 3) (c 4) (x.2 (c 0)))) (fun c' hc' h0 => ?_) k hk]
      · exact key k hk
      · have k2 := key 2 (by decide)
        have k11 := key 11 (by decide)
        simp only
        rw [k2, k11]; exact h c' (List.mem_cons_of_mem _ hc') h0
    · exact ansG_row cs x (fun c' hc' h0 => h c' (List.mem_cons_of_mem _ hc') h0) k hk
theorem trF_none {st : Nat} : ∀ {L : List Cl} {n : Nat}, (∀ c ∈ L, ¬ isT st c = true) → trF st L n = none
  | [], _, _ => rfl
  | c :: cs, n, h => by
    unfold trF
    rw [if_neg (h c List.mem_cons_self)]
    exact trF_none (fun c' hc' => h c' (List.mem_cons_of_mem _ hc'))
theorem trF_app {st : Nat} {c : Cl} {M : List Cl} (hc : isT st c = true) : ∀ {L : List Cl} {n : Nat}, (∀ c ∈ L, ¬ isT st c = true) → trF st (L ++ c :: M) n = some (n + L.length)
  | [], n, _ => by
    show trF st (c :: M) n = _
    unfold trF; rw [if_pos hc]; rfl
  | c' :: cs, n, h => by
    show trF st (c' :: (cs ++ c :: M)) n = _
    unfold trF
    rw [if_neg (h c' List.mem_cons_self), trF_app hc (fun c' hc' => h c' (List.mem_cons_of_mem _ hc'))]
    rw [List.length_cons]; congr 1; omega
theorem freeN_no {a : AA} {st : Nat} (h : ∀ c ∈ a.2.1, ¬ isT st c = true) : freeN a st = a.2.2 st 5 := by
  unfold freeN; rw [trF_none h]
theorem freeN_no' {g : Nat → Nat} {L : List Cl} {T : Nat → Rw} {st : Nat} (h : ∀ c ∈ L, ¬ isT st c = true) : freeN (g, L, T) st = T st 5 := freeN_no (a := (g, L, T)) h
theorem freeN_yes {a : AA} {st : Nat} {L M : List Cl} {c : Cl} (ha : a.2.1 = L ++ c :: M) (hc : isT st c = true) (h : ∀ c ∈ L, ¬ isT st c = true) : freeN a st = if badN a.1 (c 2) = 0 then c 1 else c 1 + (min (2 * a.2.2 st 6) (a.1 4) - 1) := by
  unfold freeN
  rw [ha, trF_app hc h, Nat.zero_add]
  simp
theorem isT_dec {st : Nat} {c : Cl} : isT st (decC c) = isT st c := rfl
theorem kept_no {st : Nat} {L : List Cl} (h : ∀ c ∈ L, ¬ isT st c = true) : ∀ c ∈ keptL (L.map decC), ¬ isT st c = true := by
  intro c hc
  have h1 := (List.mem_filter.mp hc).1
  obtain ⟨c0, h2, rfl⟩ := List.mem_map.mp h1
  rw [isT_dec]; exact h c0 h2
theorem keptL_app (L M : List Cl) : keptL (L ++ M) = keptL L ++ keptL M := List.filter_append ..
theorem ISv.tick {a : AA} (h : ISv a) : ISv (tickA a) := by
  intro c hc
  rw [tickA_eq] at hc ⊢
  have h1 := (List.mem_filter.mp hc).1
  obtain ⟨c0, h2, rfl⟩ := List.mem_map.mp h1
  have h3 := h c0 h2
  have h4 := ansG_11 (a.2.1.map decC) (a.1, a.2.2) (c0 0)
  show c0 4 ≤ waitF 4 (ansG (a.2.1.map decC) (a.1, a.2.2)).2 (c0 0) 11
  have h5 : ∀ t : Rw, waitR t 11 = t 11 := fun t => by unfold waitR; split <;> rfl
  unfold waitF
  split
  · rw [h5]; exact Nat.le_trans h3 h4
  · exact Nat.le_trans h3 h4
theorem freeN_0 {m k : Nat} {a : AA} {st : Nat} (hI : IV m k a) (hst : st < 4) (hr : refd a st = false) : freeN a st = 0 := by
  have ht := hI.2.2.2.2.1 st hst
  obtain ⟨b0, b1, b2', b3, b4, b5, b6, b7, b8, b9, b10, b11, b12⟩ := ht
  have hno : ∀ c ∈ a.2.1, ¬ isT st c = true := by
    intro c hc q
    have q2 : c 0 = st ∧ c 3 = 1 := by simpa [isT] using q
    have h2 := (hI.2.2.1 c hc).2.2.2.2.2.2 q2.2
    rw [q2.1] at h2
    have : refd a st = true := by
      have hh : hasTr a st = true := List.any_eq_true.mpr ⟨c, hc, q⟩
      simp [refd, h2, hh]
    rw [hr] at this; cases this
  rw [freeN_no hno]
  have h1 : a.2.2 st 2 ≠ 1 := fun q => by
    have : refd a st = true := by simp [refd, q]
    rw [hr] at this; cases this
  omega
theorem freeN_tick {m k : Nat} {a : AA} {st : Nat} (hI : IV m k a) (hl : L1 a) (hS : ISv a) (hst : st < 4) (hr : refd a st = true) : freeN (tickA a) st + 1 = freeN a st := by
  have ht := hI.2.2.2.2.1 st hst
  obtain ⟨b0, b1, b2', b3, b4, b5, b6, b7, b8, b9, b10, b11, b12⟩ := ht
  have hg := hI.1
  have hC3 : ∀ c ∈ a.2.1, c 0 = st → c 3 = 1 → a.2.2 st 2 = 2 := fun c hc h0 h3 => by
    have := (hI.2.2.1 c hc).2.2.2.2.2.2 h3
    rw [h0] at this; exact this
  have hw : ∀ T : Nat → Rw, waitF 4 T st = waitR (T st) := fun T => by unfold waitF; rw [if_pos hst]
  rw [tickA_eq]
  by_cases h1 : a.2.2 st 2 = 1
  · have hno : ∀ c ∈ a.2.1, ¬ isT st c = true := fun c hc q => by
      have q2 : c 0 = st ∧ c 3 = 1 := by simpa [isT] using q
      have := hC3 c hc q2.1 q2.2
      omega
    have hrow := ansG_row (st := st) (a.2.1.map decC) (a.1, a.2.2) (fun c hc h0 => by
      obtain ⟨c0, h2, rfl⟩ := List.mem_map.mp hc
      refine ⟨fun h3 => ?_, Or.inl (by show a.2.2 st 2 ≠ 0; omega)⟩
      have := hC3 c0 h2 h0 h3
      omega)
    rw [freeN_no hno, freeN_no' (L := keptL (a.2.1.map decC)) (kept_no hno)]
    show waitF 4 _ st 5 + 1 = _
    rw [hw]
    have e2 := hrow 2 (by decide)
    have e5 := hrow 5 (by decide)
    simp only at e2 e5
    unfold waitR
    rw [if_pos (by rw [e2]; exact h1), u1_n (by decide), u1_s, e5]
    omega
  · have h22 : a.2.2 st 2 = 2 ∧ hasTr a st = true := by
      have : (a.2.2 st 2 == 1 || (a.2.2 st 2 == 2 && hasTr a st)) = true := hr
      simpa [h1] using this
    obtain ⟨c, hc, hT⟩ := List.any_eq_true.mp h22.2
    have hT : isT st c = true := hT
    obtain ⟨L, M, hLM⟩ := List.append_of_mem hc
    have hcnt := hI.2.2.2.1 st
    rw [hLM, List.countP_append, List.countP_cons_of_pos hT] at hcnt
    have hL0 : L.countP (isT st) = 0 := by omega
    have hM0 : M.countP (isT st) = 0 := by omega
    rw [List.countP_eq_zero] at hL0 hM0
    have hcT : c 0 = st ∧ c 3 = 1 := by simpa [isT] using hT
    have hcl := hl c hc
    have h61 := (b10 (by omega)).1
    have hg4 := hg.2.2.2.2.1
    rw [freeN_yes hLM hT hL0, hLM, List.map_append, List.map_cons, ansG_app]
    have hnoL : ∀ c' ∈ L.map decC, c' 0 = st → c' 3 ≠ 1 := fun c' hc' h0 h3 => by
      obtain ⟨c0, h2, rfl⟩ := List.mem_map.mp hc'
      exact hL0 c0 h2 (by simp [isT]; exact ⟨h0, h3⟩)
    have hnoM : ∀ c' ∈ M.map decC, c' 0 = st → c' 3 ≠ 1 := fun c' hc' h0 h3 => by
      obtain ⟨c0, h2, rfl⟩ := List.mem_map.mp hc'
      exact hM0 c0 h2 (by simp [isT]; exact ⟨h0, h3⟩)
    obtain ⟨x, hx⟩ : ∃ x, x = ansG (L.map decC) (a.1, a.2.2) := ⟨_, rfl⟩
    have hxr : ∀ k, k ≠ 9 → x.2 st k = a.2.2 st k := fun k hk => by
      rw [hx]
      exact ansG_row (L.map decC) (a.1, a.2.2) (fun c' hc' h0 => ⟨hnoL c' hc' h0, Or.inl (by show a.2.2 st 2 ≠ 0; omega)⟩) k hk
    have hxg : ∀ k, k ≤ 4 → x.1 k = a.1 k := fun k hk => by rw [hx]; exact ansG_g _ _ k hk
    rw [← hx]
    by_cases hc1 : c 1 - 1 = 0
    · have hk0 : decC c 1 = 0 := hc1
      rw [ansG_0 hk0, keptL_app, keptL_0 hk0, ← keptL_app, ← List.map_append]
      have hno : ∀ c' ∈ L ++ M, ¬ isT st c' = true := fun c' hc' => by
        rcases List.mem_append.mp hc' with q | q
        · exact hL0 c' q
        · exact hM0 c' q
      rw [freeN_no' (L := keptL ((L ++ M).map decC)) (kept_no hno)]
      show waitF 4 _ st 5 + 1 = _
      rw [hw]
      have hd0 : decC c 0 = st := hcT.1
      have hd3 : decC c 3 = 1 := hcT.2
      have hbe : badN x.1 (c 2) = badN a.1 (c 2) := by unfold badN; rw [hxg 0 (by decide)]
      have hb1 := badN_le a.1 (c 2)
      have hout : sT x.2 (decC c 0) (outR x.1 (decC c 2) (decC c 3) (decC c 4) (x.2 (decC c 0))) st = outR x.1 (c 2) 1 (c 4) (x.2 st) := by rw [hd0, sT_s, hd3]; rfl
      by_cases hbad : badN a.1 (c 2) = 0
      · have ho : ∀ j, j ≠ 9 → outR x.1 (c 2) 1 (c 4) (x.2 st) j = closeR (a.2.2 st) j := fun j hj => by
          unfold outR
          rw [if_pos rfl, if_neg (by rw [hbe]; omega)]
          unfold closeR
          rw [u1_n (by decide), u1_n hj, hxr 11 (by decide), hxr j hj]
        have hrow := ansG_row (st := st) (M.map decC) (outG x.1 (decC c 2), sT x.2 (decC c 0) (outR x.1 (decC c 2) (decC c 3) (decC c 4) (x.2 (decC c 0)))) (fun c' hc' h0 => ⟨hnoM c' hc' h0, Or.inr (by
          obtain ⟨c0, h2, rfl⟩ := List.mem_map.mp hc'
          show c0 4 ≠ sT x.2 (decC c 0) (outR x.1 (decC c 2) (decC c 3) (decC c 4) (x.2 (decC c 0))) st 11
          rw [hout, ho 11 (by decide)]
          have h4 := hS c0 (by rw [hLM]; exact List.mem_append_right _ (List.mem_cons_of_mem _ h2))
          have h0' : c0 0 = st := h0
          rw [h0'] at h4
          show c0 4 ≠ a.2.2 st 11 + 1
          omega)⟩)
        have e2 := hrow 2 (by decide)
        have e5 := hrow 5 (by decide)
        simp only at e2 e5
        rw [hout, ho 2 (by decide)] at e2
        rw [hout, ho 5 (by decide)] at e5
        have e2 : _ = 0 := e2
        have e5 : _ = 0 := e5
        rw [if_pos hbad]
        unfold waitR
        rw [if_neg (by rw [e2]; decide), e5]
        omega
      · have ho : ∀ j, j ≠ 9 → outR x.1 (c 2) 1 (c 4) (x.2 st) j = cutR (min (2 * a.2.2 st 6) (a.1 4)) (a.2.2 st) j := fun j hj => by
          unfold outR
          rw [if_pos rfl, if_pos (by rw [hbe]; omega), hxr 6 (by decide), hxg 4 (by decide)]
          unfold cutR
          rw [u1_n (by decide), u1_n hj, hxr 10 (by decide), hxr j hj]
        have hrow := ansG_row (st := st) (M.map decC) (outG x.1 (decC c 2), sT x.2 (decC c 0) (outR x.1 (decC c 2) (decC c 3) (decC c 4) (x.2 (decC c 0)))) (fun c' hc' h0 => ⟨hnoM c' hc' h0, Or.inl (by
          show sT x.2 (decC c 0) (outR x.1 (decC c 2) (decC c 3) (decC c 4) (x.2 (decC c 0))) st 2 ≠ 0
          rw [hout, ho 2 (by decide)]
          show 1 ≠ 0
          decide)⟩)
        have e2 := hrow 2 (by decide)
        have e5 := hrow 5 (by decide)
        simp only at e2 e5
        rw [hout, ho 2 (by decide)] at e2
        rw [hout, ho 5 (by decide)] at e5
        have e2 : _ = 1 := e2
        have e5 : _ = min (2 * a.2.2 st 6) (a.1 4) := e5
        rw [if_neg hbad]
        unfold waitR
        rw [if_pos e2, u1_n (by decide), u1_s, e5]
        omega
    · have hk1 : decC c 1 ≠ 0 := hc1
      rw [ansG_1 hk1, keptL_app, keptL_1 hk1]
      have hrow := ansG_row (st := st) (M.map decC) x (fun c' hc' h0 => ⟨hnoM c' hc' h0, Or.inl (by rw [hxr 2 (by decide)]; omega)⟩)
      have hgg := fun k hk => ansG_g (M.map decC) x k hk
      rw [freeN_yes (a := (_, _, _)) (st := st) (L := keptL (L.map decC)) (c := decC c) (M := keptL (M.map decC)) rfl (by rw [isT_dec]; exact hT) (kept_no hL0)]
      have hbe : badN (u1 (ansG (M.map decC) x).1 5 ((ansG (M.map decC) x).1 5 + 1)) (decC c 2) = badN a.1 (c 2) := by
        unfold badN
        rw [u1_n (by decide), hgg 0 (by decide), hxg 0 (by decide)]; rfl
      have h6 : waitF 4 (ansG (M.map decC) x).2 st 6 = a.2.2 st 6 := by
        rw [hw]; unfold waitR
        rw [if_neg (by rw [hrow 2 (by decide), hxr 2 (by decide)]; omega), hrow 6 (by decide), hxr 6 (by decide)]
      have h4 : u1 (ansG (M.map decC) x).1 5 ((ansG (M.map decC) x).1 5 + 1) 4 = a.1 4 := by rw [u1_n (by decide), hgg 4 (by decide), hxg 4 (by decide)]
      simp only
      rw [hbe, h6, h4]
      have hd1 : decC c 1 = c 1 - 1 := rfl
      rw [hd1]
      split <;> omega
theorem untilN_free {st : Nat} (hst : st < 4) : ∀ (f : Nat) {m k : Nat} {a : AA}, IV m k a → L1 a → ISv a → untilN st f a = min f (freeN a st)
  | 0, _, _, _, _, _, _ => by rw [Nat.zero_min]; rfl
  | f + 1, m, k, a, hI, hl, hS => by
    rw [untilN_s]
    cases hr : refd a st with
    | true =>
      rw [if_pos rfl, untilN_free hst f hI.tick L1.tick hS.tick, ← freeN_tick hI hl hS hst hr]; omega
    | false =>
      rw [if_neg (by decide), freeN_0 hI hst hr]; omega
theorem free_until {m k st : Nat} {a : AA} (hst : st < 4) (hI : IV m k a) (hl : L1 a) (hS : ISv a) : (if freeN a st ≤ 999 then nI (freeN a st) else -1) = untilI a st := by
  unfold untilI
  rw [untilN_free hst 1000 hI hl hS]
  by_cases h : freeN a st ≤ 999
  · rw [if_pos h, if_pos (by omega), show min 1000 (freeN a st) = freeN a st by omega]
  · rw [if_neg h, if_neg (by omega)]
section CLASS17
variable {G : GG} {K : Nat → Option (Nat × Nat)} {R : Nat → Nat → Value} {I : Nat → Nat → Int32} {J : Nat → Nat → Int64} {z : Nat} {σ : Sg} {a : AA} {m k : Nat}
variable {B : List Nat} {hs : List AA} {e1 e2 : String}
theorem X_freeIn (hX : LX G K R) (hS : XS I (a, hs, B)) (hI : IV m k a) (hl1 : L1 a) (hmk : m + k ≤ 800000000) (v : Int32) (hIS : ISv a) : Run G YX3_freeIn [.ref (G.1 0), .int v] (K, R, I, J, z) (CP K R J z I XI XI (sFree v (a, hs, B))) := by
  obtain ⟨xk0, xr0, xr1, xr2, xk35, xrs, xr5, xD, xL1, xL18, xLs⟩ := id hX
  have hN : CSt I 1 a := hS.1
  have hH : XH I hs := hS.2.1
  have hB : RDt I B := hS.2.2
  have hk1 : K 1 = some (1, 7) := xL1.1
  have hk36 : K 36 = some (0, 2) := xD.1
  have h16 := hI.2.1
  have hn3 : I 1 3 = nI a.2.1.length := hN.2.2.1
  by_cases hv : inR v 0 3
  rotate_left
  · have hx : sFree v (a, hs, B) = (1, 0, (a, hs, B)) := by unfold sFree; rw [if_neg hv]
    rw [hx]
    refine run_of (ls := [(0, .ref (G.1 0)), (1, .int v)]) (by decide +kernel) rfl rfl (Nat.le_of_ble_eq_true rfl) ?_
    refine aw_iload_n dX3_freeIn_0 rfl ?_
    exact aw_sThr dX3_freeIn_1 cvX3_30 ⟨Nat.le_of_ble_eq_true rfl, Nat.le_of_ble_eq_true rfl⟩ rfl rfl (Nat.le_of_ble_eq_true rfl) ⟨Nat.le_of_ble_eq_true rfl, Nat.le_of_ble_eq_true rfl⟩ rfl (q_requireStore0 hv) (fun z' hz => CP.t1 hz)
  obtain ⟨hv1, -, hv3⟩ := inR_nat hv (by decide) (by decide)
  have hst : nv v < 4 := by omega
  have hsI := hI.2.2.2.2.1 _ hst
  have hx : sFree v (a, hs, B) = (0, untilI a (nv v), (a, hs, B)) := by unfold sFree; rw [if_pos hv]
  rw [hx]
  clear hx
  obtain ⟨st, hst'⟩ : ∃ st, st = nv v := ⟨_, rfl⟩
  rw [← hst'] at hv1 hv3 hst hsI ⊢
  subst hv1
  have hf := c_ticksTillFree (J := J) (z := z) (a := a) xL1 hN hI (by omega) hst
  rw [free_until hst hI hl1 hIS] at hf
  refine run_of (ls := [(0, .ref (G.1 0)), (1, .int (nI st))]) (by decide +kernel) rfl rfl (Nat.le_of_ble_eq_true rfl) ?_
  refine aw_iload_n dX3_freeIn_0 rfl ?_
  refine aw_sOk dX3_freeIn_1 cvX3_30 ⟨Nat.le_of_ble_eq_true rfl, Nat.le_of_ble_eq_true rfl⟩ rfl rfl (Nat.le_of_ble_eq_true rfl) ⟨Nat.le_of_ble_eq_true rfl, Nat.le_of_ble_eq_true rfl⟩ (q_requireStore1 hv) ?_
  refine aw_aload_n dX3_freeIn_4 rfl ?_
  refine aw_getR dX3_freeIn_5 flX3_10 rfl (by assumption) (by assumption) ?_
  refine aw_iload_n dX3_freeIn_8 rfl ?_
  refine aw_vRd dX3_freeIn_9 cvX3_159 ⟨Nat.le_of_ble_eq_true rfl, Nat.le_of_ble_eq_true rfl⟩ (by assumption) ⟨_, rfl, rfl⟩ (hf) rfl rfl (Nat.le_of_ble_eq_true rfl) ⟨rfl, rfl⟩ ⟨Nat.le_of_ble_eq_true rfl, Nat.le_of_ble_eq_true rfl⟩ ?_
  exact aw_iret dX3_freeIn_12 rfl (Nat.le_of_ble_eq_true rfl) (Nat.le_of_ble_eq_true rfl) (CP.ok ⟨hS, FrC.rf⟩)
end CLASS17
