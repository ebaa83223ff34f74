/-! THE REFERENCE: ticks, calls with ticks, the healthiest -/
theorem IV.mono {m m' k k' : Nat} {a : AA} (h : IV m k a) (hm : m ≤ m') (hk : k ≤ k') : IV m' k' a := by
  obtain ⟨h1, h2, h3, h4, h5, h6, h7⟩ := h
  refine ⟨h1, h2, fun c hc => ?_, h4, fun st hst => (h5 st hst).up (by omega), h6, by omega⟩
  obtain ⟨e0, e1, e2, e3, e4, e5, e6⟩ := h3 c hc
  exact ⟨e0, e1, e2, e3, e4, by omega, e6⟩
theorem IV.ticks {m k : Nat} : ∀ (n : Nat) {a : AA}, IV m k a → IV m k (ticksA n a)
  | 0, _, h => h
  | n + 1, _, h => IV.ticks n h.tick
theorem L1.ticks : ∀ (n : Nat) {a : AA}, L1 a → L1 (ticksA n a)
  | 0, _, h => h
  | n + 1, _, _ => L1.ticks n L1.tick
theorem noTr {a : AA} {st : Nat} (h2 : a.2.2 st 2 = 2) (hr : refd a st = false) : a.2.1.countP (isT st) = 0 := by
  have h : hasTr a st = false := by
    unfold refd at hr
    rw [h2] at hr
    simpa using hr
  rw [List.countP_eq_zero]
  intro c hc hcc
  have : hasTr a st = true := List.any_eq_true.mpr ⟨c, hc, hcc⟩
  rw [h] at this; cases this
theorem IV.setRow {m k v : Nat} {a : AA} {st : Nat} {t : Rw} (h : IV m k a) (hst : st < 4) (ht : RK (a.1 6 + a.1 7 + k) t) (h2 : t 2 = a.2.2 st 2) (h9 : t 9 = a.2.2 st 9) : IV m k (u1 a.1 8 v, a.2.1, sT a.2.2 st t) := by
  obtain ⟨h1, hl, h3, h4, h5, h6, h7⟩ := h
  refine ⟨h1, hl, fun c hc => ?_, h4, fun s hs => ?_, ?_, h7⟩
  · obtain ⟨e0, e1, e2, e3, e4, e5, e6⟩ := h3 c hc
    refine ⟨e0, e1, e2, e3, e4, e5, fun e => ?_⟩
    show sT a.2.2 st t (c 0) 2 = 2
    by_cases q : c 0 = st
    · rw [q, sT_s, h2, ← q]; exact e6 e
    · rw [sT_n q]; exact e6 e
  · show RK (a.1 6 + a.1 7 + k) (sT a.2.2 st t s)
    by_cases q : s = st
    · subst q; rw [sT_s]; exact ht
    · rw [sT_n q]; exact h5 s hs
  · show a.1 6 = sT a.2.2 st t 0 9 + sT a.2.2 st t 1 9 + sT a.2.2 st t 2 9 + sT a.2.2 st t 3 9
    rw [sum9 hst 0 h9]; exact h6
theorem u1_id (g : Nat → Nat) (k : Nat) : u1 g k (g k) = g := by funext j; unfold u1; split <;> simp_all
theorem IV.call {m k : Nat} {a : AA} {st : Nat} (h : IV m k a) (hst : st < 4) (hroom : refd a st = true ∨ a.2.1.length < 16) : IV (m + 1) k (callA a st) := by
  have ht := h.2.2.2.2.1 st hst
  cases hr : refd a st with
  | true =>
    rw [callA_r hr]
    have h8 : RK (a.1 6 + a.1 7 + k) (u1 (a.2.2 st) 8 (a.2.2 st 8 + 1)) := by
      obtain ⟨h0, h1, h2, h3, h4, h5, h6, h7, h8, h9, h10, h11, h12⟩ := ht
      refine ⟨h0, h1, h2, h3, h4, h5, h6, h7, h8, h9, h10, h11, fun j hj => ?_⟩
      rw [u1_n (by omega)]; exact h12 j hj
    have := (h.setRow (v := a.1 8) hst h8 rfl rfl).mono (Nat.le_succ m) (Nat.le_refl k)
    rw [u1_id] at this; exact this
  | false =>
    have hl : a.2.1.length < 16 := by
      rcases hroom with q | q
      · rw [hr] at q; cases q
      · exact q
    have h1 := h.setRow (v := a.1 8 + trN a st) hst ht.thru rfl rfl
    by_cases hd : a.2.2 st (12 + a.2.2 st 1) = 0
    · rw [callA_0 hr hd]
      refine h1.out hst (fun e => ?_)
      have h2 : a.2.2 st 2 = 2 := by
        unfold trN at e; split at e
        · assumption
        · omega
      exact ⟨by show sT a.2.2 st _ st 2 = 2; rw [sT_s]; exact h2, (show a.2.1.countP (isT st) = 0 from noTr h2 hr)⟩
    · rw [callA_1 hr hd]
      obtain ⟨g1, gl, g3, g4, g5, g6, g7⟩ := h1
      have hdl : a.2.2 st (12 + a.2.2 st 1) ≤ 99 := ht.2.2.2.2.2.2.2.2.2.2.2.2 _ (by have := ht.2.2.1; have := ht.2.1; omega)
      have h11 : a.2.2 st 11 ≤ a.1 6 + a.1 7 + k := ht.2.2.2.2.2.2.2.2.2.2.2.1
      refine ⟨g1, by show (a.2.1 ++ [_]).length ≤ 16; simp; omega, fun c hc => ?_, fun s => ?_, g5, g6, by show a.1 6 + a.1 7 + (a.2.1 ++ [_]).length ≤ m + 1; have : a.1 6 + a.1 7 + a.2.1.length ≤ m := g7; simp; omega⟩
      · rcases List.mem_append.mp hc with q | q
        · exact g3 c q
        · have hcc := List.mem_singleton.mp q
          subst hcc
          refine ⟨hst, hdl, by show 1 ≤ a.2.2 st (12 + a.2.2 st 1); omega, hdl, trN_le a st, h11, fun e => ?_⟩
          show sT a.2.2 st _ st 2 = 2
          rw [sT_s]
          show a.2.2 st 2 = 2
          have e : trN a st = 1 := e
          unfold trN at e; split at e
          · assumption
          · omega
      · show (a.2.1 ++ [_]).countP (isT s) ≤ 1
        rw [List.countP_append]
        have h4 : a.2.1.countP (isT s) ≤ 1 := g4 s
        by_cases e : isT s (mkC st (a.2.2 st (12 + a.2.2 st 1)) (trN a st) (a.2.2 st 11)) = true
        · have e' : st = s ∧ trN a st = 1 := by simpa [isT, mkC] using e
          obtain ⟨rfl, e1⟩ := e'
          have h2 : a.2.2 st 2 = 2 := by
            unfold trN at e1; split at e1
            · assumption
            · omega
          rw [noTr h2 hr]
          simp [List.countP_cons]; split <;> omega
        · rw [List.countP_cons_of_neg e]
          simpa using h4
theorem L1.out {a : AA} {st d tr since : Nat} (h : L1 a) : L1 (outA a st d tr since) := h
theorem L1.call {a : AA} {st : Nat} (h : L1 a) : L1 (callA a st) := by
  unfold callA
  split
  · exact h
  · split
    · exact h
    · next hd =>
      intro c hc
      rcases List.mem_append.mp hc with q | q
      · exact h c q
      · have hcc := List.mem_singleton.mp q
        subst hcc
        show 1 ≤ a.2.2 st (12 + a.2.2 st 1)
        omega
theorem callN_le (a : AA) (st : Nat) : callN a st ≤ 2 := by
  unfold callN; split
  · omega
  · have := trN_le a st; omega
theorem tickN_le (a : AA) : tickN a ≤ a.2.1.length := Nat.sub_le _ _
/-- a store or none -/
def oI : Option Nat → Int32
  | none => -1
  | some b => nI b
theorem nI_m1 {n : Nat} (h : n < 100) : ¬ nI n = -1 := by
  intro q
  have := congrArg Int32.toInt q
  rw [nI_toInt (by omega)] at this
  have h1 : (-1 : Int32).toInt = -1 := rfl
  rw [h1] at this; omega
theorem sub_pos {x y : Nat} (hx : x ≤ 100) (hy : y ≤ 100) : 0 < nI x - nI y ↔ y < x := by
  rw [Int32.lt_iff_toInt_lt, pk_sub_toInt (by omega) (by omega)]
  show (0 : Int) < _ ↔ _
  omega
theorem sub_zero' {x y : Nat} (hx : x ≤ 100) (hy : y ≤ 100) : nI x - nI y = 0 ↔ x = y := by
  rw [← Int32.toInt_inj, pk_sub_toInt (by omega) (by omega)]
  show _ = (0 : Int) ↔ _
  omega
theorem bestN_lt {a : AA} : ∀ {n b : Nat}, bestN a n = some b → b < n ∧ a.2.2 b 2 = 0
  | 0, b, h => by cases h
  | n + 1, b, h => by
    unfold bestN at h
    split at h
    · next h2 =>
      split at h
      · cases h; exact ⟨by omega, h2⟩
      · next b' hb' =>
        have := bestN_lt hb'
        split at h
        · cases h; exact ⟨by omega, h2⟩
        · cases h; exact ⟨by omega, this.2⟩
    · have := bestN_lt h
      exact ⟨by omega, this.2⟩
theorem countP_take {α : Type} {L : List α} {k : Nat} {c : α} (p : α → Bool) (h : L[k]? = some c) : (L.take (k + 1)).countP p = (L.take k).countP p + (if p c = true then 1 else 0) := by
  rw [List.take_add_one, h, List.countP_append]; simp [List.countP_cons]
theorem badWinR_le {g : Nat → Nat} {t : Rw} (hg : SK g) : badWinR g t ≤ 16 := by
  refine Nat.le_trans (bits_le _ _) ?_
  have := hg.2.1.2
  unfold inWinR; split <;> omega
theorem ow1 {x st : Nat} {c : Cl} (h : c 0 = st) : x + 1 = x + (if (c 0 == st) = true then 1 else 0) := by rw [if_pos (by simpa using h)]
theorem ow0 {x st : Nat} {c : Cl} (h : c 0 ≠ st) : x + 0 = x + (if (c 0 == st) = true then 1 else 0) := by rw [if_neg (by simpa using h)]
theorem onWayN_le (a : AA) (st : Nat) : onWayN a st ≤ a.2.1.length := List.countP_le_length
section MODEL8
variable {G : GG} {K : Nat → Option (Nat × Nat)} {R : Nat → Nat → Value} {I : Nat → Nat → Int32} {J : Nat → Nat → Int64} {z : Nat} {σ : Sg} {a : AA} {m k : Nat}
theorem r_ticks (hL : LM G K R) {n : Nat} (hn : n ≤ 1000) (hM : RM (I 141) a) (hI : IV m k a) (hl1 : L1 a) (hmk : m + k ≤ 1000000000) : Run G YX4_ticks [.ref (G.1 140), .int (nI n)] (K, R, I, J, z) (Up K R J z (some (.int (nI (ticksN n a)))) (fun I' => RM (I' 141) (ticksA n a) ∧ FrO 141 I I')) := by
  obtain ⟨hk0, hr1, hk1, hr2, hk2, hr3, hk3, hr5, hk5, hr9, hk9⟩ := hL
  have hL : LM G K R := ⟨hk0, hr1, hk1, hr2, hk2, hr3, hk3, hr5, hk5, hr9, hk9⟩
  have loop : ∀ (d q : Nat) (I1 : Nat → Nat → Int32) (b : AA) (t : Nat), n - q = d → q ≤ n → RM (I1 141) b → FrO 141 I I1 → IV m k b → L1 b → ticksA d b = ticksA n a → t + ticksN d b = ticksN n a → AW G YX4_ticks (MZ G YX4_ticks (Up K R J z (some (.int (nI (ticksN n a)))) (fun I' => RM (I' 141) (ticksA n a) ∧ FrO 141 I I'))) 4 [(0, .ref (G.1 140)), (1, .int (nI n)), (2, .int (nI t)), (3, .int (nI q))] [] (K, R, I1, J, z) 0 0 := by
    intro d
    induction d with
    | zero =>
      intro q I1 b t hd hq hM1 hF1 hI1 hl hA hN
      refine aw_iload_n dX4_ticks_4 rfl ?_
      refine aw_iload_n dX4_ticks_5 rfl ?_
      refine aw_icmp_geN (tgt := 22) dX4_ticks_6 (by decide) (by omega) (by omega) (fun hc6 => ?_) (fun hc6 => absurd hc6 (by omega))
      refine aw_iload_n dX4_ticks_22 rfl ?_
      exact aw_iret dX4_ticks_23 rfl (Nat.zero_le _) (Nat.zero_le _) ⟨by rw [← hN]; rfl, I1, rfl, by rw [← hA]; exact hM1, hF1⟩
    | succ d ih =>
      intro q I1 b t hd hq hM1 hF1 hI1 hl hA hN
      refine aw_iload_n dX4_ticks_4 rfl ?_
      refine aw_iload_n dX4_ticks_5 rfl ?_
      refine aw_icmp_geN (tgt := 22) dX4_ticks_6 (by decide) (by omega) (by omega) (fun hc6 => absurd hc6 (by omega)) (fun hc6 => ?_)
      refine aw_iload_n dX4_ticks_9 rfl ?_
      refine aw_aload_n dX4_ticks_10 rfl ?_
      refine aw_vUp dX4_ticks_11 cvX4_80 ⟨Nat.le_of_ble_eq_true rfl, Nat.le_of_ble_eq_true rfl⟩ (by assumption) ⟨_, rfl, rfl⟩ (r_tick hL hM1 hI1 hl hmk) rfl rfl (Nat.le_of_ble_eq_true rfl) ⟨rfl, rfl⟩ ⟨Nat.zero_le _, Nat.zero_le _⟩ (fun I11 hP11 => ?_)
      first | refine aw_iaddN dX4_ticks_14 ?_ | refine aw_iadd dX4_ticks_14 ?_
      refine aw_istore_n (ls' := [(2, _), (0, _), (1, _), (3, _)]) dX4_ticks_15 (by decide) rfl ?_
      refine aw_iincN (k := 1) (ls' := [(3, _), (2, _), (0, _), (1, _)]) dX4_ticks_16 rfl rfl (by decide) rfl ?_
      refine aw_goto (tgt := 4) dX4_ticks_19 (by decide) ?_
      exact aw_pick [2, 3, 1, 0] rfl (ih (q + 1) I11 (tickA b) (t + tickN b) (by omega) (by omega) hP11.1 (hF1.tr hP11.2) hI1.tick L1.tick hA (by rw [← hN]; show _ = t + (tickN b + ticksN d (tickA b)); omega))
  refine run_of (ls := [(0, .ref (G.1 140)), (1, .int (nI n))]) (by decide +kernel) rfl rfl (Nat.le_of_ble_eq_true rfl) ?_
  refine aw_iconst (v := nI 0) dX4_ticks_0 rfl ?_
  refine aw_istore_n (ls' := [(2, _), (0, _), (1, _)]) dX4_ticks_1 (by decide) rfl ?_
  refine aw_iconst (v := nI 0) dX4_ticks_2 rfl ?_
  refine aw_istore_n (ls' := [(3, _), (2, _), (0, _), (1, _)]) dX4_ticks_3 (by decide) rfl ?_
  exact aw_pick [2, 3, 1, 0] rfl (loop n 0 I a 0 rfl (Nat.zero_le _) hM FrO.rf hI hl1 rfl (Nat.zero_add _))
theorem r_callsOften (hL : LM G K R) {st t n : Nat} (hst : st < 4) (ht : t ≤ 1000) (hn : n ≤ 1000) (hM : RM (I 141) a) (hI : IV m k a) (hl1 : L1 a) (hmk : m + n + k ≤ 1000000000) : Run G YX4_callsOften [.ref (G.1 140), .int (nI st), .int (nI n), .int (nI t)] (K, R, I, J, z) (Up K R J z (some (.int (nI (oftenN st t n a)))) (fun I' => RM (I' 141) (oftenA st t n a) ∧ FrO 141 I I')) := by
  obtain ⟨hk0, hr1, hk1, hr2, hk2, hr3, hk3, hr5, hk5, hr9, hk9⟩ := hL
  have hL : LM G K R := ⟨hk0, hr1, hk1, hr2, hk2, hr3, hk3, hr5, hk5, hr9, hk9⟩
  have loop : ∀ (d q : Nat) (I1 : Nat → Nat → Int32) (b : AA) (x : Nat), n - q = d → q ≤ n → RM (I1 141) b → FrO 141 I I1 → IV (m + q) k b → L1 b → oftenA st t d b = oftenA st t n a → x + oftenN st t d b = oftenN st t n a → AW G YX4_callsOften (MZ G YX4_callsOften (Up K R J z (some (.int (nI (oftenN st t n a)))) (fun I' => RM (I' 141) (oftenA st t n a) ∧ FrO 141 I I'))) 6 [(0, .ref (G.1 140)), (1, .int (nI st)), (2, .int (nI n)), (3, .int (nI t)), (4, .int (nI x)), (5, .int (nI q))] [] (K, R, I1, J, z) 0 0 := by
    intro d
    induction d with
    | zero =>
      intro q I1 b x hd hq hM1 hF1 hI1 hl hA hN
      refine aw_iload dX4_callsOften_6 rfl ?_
      refine aw_iload_n dX4_callsOften_8 rfl ?_
      refine aw_icmp_geN (tgt := 65) dX4_callsOften_9 (by decide) (by omega) (by omega) (fun hc9 => ?_) (fun hc9 => absurd hc9 (by omega))
      refine aw_iload dX4_callsOften_65 rfl ?_
      exact aw_iret dX4_callsOften_67 rfl (Nat.zero_le _) (Nat.zero_le _) ⟨by rw [← hN]; rfl, I1, rfl, by rw [← hA]; exact hM1, hF1⟩
    | succ d ih =>
      intro q I1 b x hd hq hM1 hF1 hI1 hl hA hN
      have h16 := hI1.2.1
      have hC : ∀ c ∈ b.2.1, c 0 < 4 ∧ c 3 ≤ 1 := fun c hc => ⟨(hI1.2.2.1 c hc).1, (hI1.2.2.1 c hc).2.2.2.2.1⟩
      have htR := (hI1.2.2.2.2.1 st hst).up hI1.b
      have hb1 := b2_le (refd b st)
      have key : (refd b st = true ∨ b.2.1.length < 16) → AW G YX4_callsOften (MZ G YX4_callsOften (Up K R J z (some (.int (nI (oftenN st t n a)))) (fun I' => RM (I' 141) (oftenA st t n a) ∧ FrO 141 I I'))) 35 [(0, .ref (G.1 140)), (1, .int (nI st)), (2, .int (nI n)), (3, .int (nI t)), (4, .int (nI x)), (5, .int (nI q))] [] (K, R, I1, J, z) 0 0 := by
        intro hroom
        have hIc := hI1.call hst hroom
        have hcn := callN_le b st
        have hgo : ¬ (b.2.1.length = 16 ∧ refd b st = false) := by
          intro q2
          rcases hroom with q3 | q3
          · rw [q2.2] at q3; cases q3
          · omega
        rw [oftenA, if_neg hgo] at hA
        rw [oftenN, if_neg hgo] at hN
        refine aw_iload dX4_callsOften_35 rfl ?_
        refine aw_aload_n dX4_callsOften_37 rfl ?_
        refine aw_iload_n dX4_callsOften_38 rfl ?_
        refine aw_vUp dX4_callsOften_39 cvX4_84 ⟨Nat.le_of_ble_eq_true rfl, Nat.le_of_ble_eq_true rfl⟩ (by assumption) ⟨_, rfl, rfl⟩ (r_calls (b := m + q + k) hL hM1 hst hI1.1 h16 hroom hC htR (by omega)) rfl rfl (Nat.le_of_ble_eq_true rfl) ⟨rfl, rfl⟩ ⟨Nat.zero_le _, Nat.zero_le _⟩ (fun I39 hP39 => ?_)
        refine aw_if_leN (tgt := 49) dX4_callsOften_42 (by decide) (by omega) (fun hc42 => ?_) (fun hc42 => ?_)
        · refine aw_iconst (v := nI 0) dX4_callsOften_49 rfl ?_
          refine aw_top (x' := nI (if 0 < callN b st then 1 else 0)) (congrArg nI (by first | exact (if_pos hc42).symm | exact (if_neg (by omega)).symm)) ?_
          first | refine aw_iaddN dX4_callsOften_50 ?_ | refine aw_iadd dX4_callsOften_50 ?_
          refine aw_istore (ls' := [(4, _), (0, _), (1, _), (2, _), (3, _), (5, _)]) dX4_callsOften_51 (by decide) rfl ?_
          refine aw_aload_n dX4_callsOften_53 rfl ?_
          refine aw_iload_n dX4_callsOften_54 rfl ?_
          refine aw_vUp dX4_callsOften_55 cvX4_87 ⟨Nat.le_of_ble_eq_true rfl, Nat.le_of_ble_eq_true rfl⟩ (by assumption) ⟨_, rfl, rfl⟩ (r_ticks hL ht hP39.1 hIc hl.call (by omega)) rfl rfl (Nat.le_of_ble_eq_true rfl) ⟨rfl, rfl⟩ ⟨Nat.zero_le _, Nat.zero_le _⟩ (fun I55 hP55 => ?_)
          refine aw_pop dX4_callsOften_58 rfl ?_
          refine aw_iincN (k := 1) (ls' := [(5, _), (4, _), (0, _), (1, _), (2, _), (3, _)]) dX4_callsOften_59 rfl rfl (by decide) rfl ?_
          refine aw_goto (tgt := 6) dX4_callsOften_62 (by decide) ?_
          exact aw_pick [2, 3, 4, 5, 1, 0] rfl (ih (q + 1) I55 (ticksA t (callA b st)) (x + (if 0 < callN b st then 1 else 0)) (by omega) (by omega) hP55.1 (hF1.tr (hP39.2.tr hP55.2)) (hIc.ticks t) (hl.call.ticks t) hA (by rw [← hN]; omega))
        · refine aw_iconst (v := nI 1) dX4_callsOften_45 rfl ?_
          refine aw_goto (tgt := 50) dX4_callsOften_46 (by decide) ?_
          refine aw_top (x' := nI (if 0 < callN b st then 1 else 0)) (congrArg nI (by first | exact (if_pos hc42).symm | exact (if_neg (by omega)).symm)) ?_
          first | refine aw_iaddN dX4_callsOften_50 ?_ | refine aw_iadd dX4_callsOften_50 ?_
          refine aw_istore (ls' := [(4, _), (0, _), (1, _), (2, _), (3, _), (5, _)]) dX4_callsOften_51 (by decide) rfl ?_
          refine aw_aload_n dX4_callsOften_53 rfl ?_
          refine aw_iload_n dX4_callsOften_54 rfl ?_
          refine aw_vUp dX4_callsOften_55 cvX4_87 ⟨Nat.le_of_ble_eq_true rfl, Nat.le_of_ble_eq_true rfl⟩ (by assumption) ⟨_, rfl, rfl⟩ (r_ticks hL ht hP39.1 hIc hl.call (by omega)) rfl rfl (Nat.le_of_ble_eq_true rfl) ⟨rfl, rfl⟩ ⟨Nat.zero_le _, Nat.zero_le _⟩ (fun I55 hP55 => ?_)
          refine aw_pop dX4_callsOften_58 rfl ?_
          refine aw_iincN (k := 1) (ls' := [(5, _), (4, _), (0, _), (1, _), (2, _), (3, _)]) dX4_callsOften_59 rfl rfl (by decide) rfl ?_
          refine aw_goto (tgt := 6) dX4_callsOften_62 (by decide) ?_
          exact aw_pick [2, 3, 4, 5, 1, 0] rfl (ih (q + 1) I55 (ticksA t (callA b st)) (x + (if 0 < callN b st then 1 else 0)) (by omega) (by omega) hP55.1 (hF1.tr (hP39.2.tr hP55.2)) (hIc.ticks t) (hl.call.ticks t) hA (by rw [← hN]; omega))
      refine aw_iload dX4_callsOften_6 rfl ?_
      refine aw_iload_n dX4_callsOften_8 rfl ?_
      refine aw_icmp_geN (tgt := 65) dX4_callsOften_9 (by decide) (by omega) (by omega) (fun hc9 => absurd hc9 (by omega)) (fun hc9 => ?_)
      refine aw_aload_n dX4_callsOften_12 rfl ?_
      refine aw_getR dX4_callsOften_13 flX4_7 rfl (by assumption) (by assumption) ?_
      refine aw_bipush (v := nI 9) dX4_callsOften_16 rfl ?_
      refine aw_iald dX4_callsOften_18 (by assumption) (by omega) rfl (by omega) hM1.2.1 ?_
      refine aw_bipush (v := nI 16) dX4_callsOften_19 rfl ?_
      refine aw_icmp_neN (tgt := 35) dX4_callsOften_21 (by decide) (by omega) (by omega) (fun hc21 => ?_) (fun hc21 => ?_)
      · first
        | exact aw_pick [0, 1, 2, 3, 4, 5] rfl (key (Or.inr (by omega)))
        | exact aw_pick [0, 1, 2, 3, 4, 5] rfl (key (Or.inl (by
            cases q2 : refd b st
            · exact absurd (b2_f q2) hc29
            · rfl)))
      · refine aw_aload_n dX4_callsOften_24 rfl ?_
        refine aw_iload_n dX4_callsOften_25 rfl ?_
        refine aw_vRd dX4_callsOften_26 cvX4_70 ⟨Nat.le_of_ble_eq_true rfl, Nat.le_of_ble_eq_true rfl⟩ (by assumption) ⟨_, rfl, rfl⟩ (r_isRefused hL hM1 hst h16 hC htR) rfl rfl (Nat.le_of_ble_eq_true rfl) ⟨rfl, rfl⟩ ⟨Nat.zero_le _, Nat.zero_le _⟩ ?_
        refine aw_if_neN (tgt := 35) dX4_callsOften_29 (by decide) (by omega) (fun hc29 => ?_) (fun hc29 => ?_)
        · first
          | exact aw_pick [0, 1, 2, 3, 4, 5] rfl (key (Or.inr (by omega)))
          | exact aw_pick [0, 1, 2, 3, 4, 5] rfl (key (Or.inl (by
              cases q2 : refd b st
              · exact absurd (b2_f q2) hc29
              · rfl)))
        · refine aw_iload dX4_callsOften_32 rfl ?_
          exact aw_iret dX4_callsOften_34 rfl (Nat.zero_le _) (Nat.zero_le _) ⟨by
  rw [oftenN, if_pos ⟨hc21, b2_0.mp hc29⟩] at hN
  rw [← hN]; rfl, I1, rfl, by
  rw [oftenA, if_pos ⟨hc21, b2_0.mp hc29⟩] at hA
  rw [← hA]; exact hM1, hF1⟩
  refine run_of (ls := [(0, .ref (G.1 140)), (1, .int (nI st)), (2, .int (nI n)), (3, .int (nI t))]) (by decide +kernel) rfl rfl (Nat.le_of_ble_eq_true rfl) ?_
  refine aw_iconst (v := nI 0) dX4_callsOften_0 rfl ?_
  refine aw_istore (ls' := [(4, _), (0, _), (1, _), (2, _), (3, _)]) dX4_callsOften_1 (by decide) rfl ?_
  refine aw_iconst (v := nI 0) dX4_callsOften_3 rfl ?_
  refine aw_istore (ls' := [(5, _), (4, _), (0, _), (1, _), (2, _), (3, _)]) dX4_callsOften_4 (by decide) rfl ?_
  exact aw_pick [2, 3, 4, 5, 1, 0] rfl (loop n 0 I a 0 rfl (Nat.zero_le _) hM FrO.rf hI hl1 rfl (Nat.zero_add _))
theorem r_onWayOf (hL : LM G K R) (hM : RM (I 141) a) {st : Nat} (hst : st < 4) (h16 : a.2.1.length ≤ 16) (hC : ∀ c ∈ a.2.1, c 0 < 4 ∧ c 3 ≤ 1) : Run G YX4_onWayOf [.ref (G.1 140), .int (nI st)] (K, R, I, J, z) (Rd (K, R, I, J, z) (.int (nI (onWayN a st)))) := by
  obtain ⟨hk0, hr1, hk1, hr2, hk2, hr3, hk3, hr5, hk5, hr9, hk9⟩ := hL
  have hL : LM G K R := ⟨hk0, hr1, hk1, hr2, hk2, hr3, hk3, hr5, hk5, hr9, hk9⟩
  have loop : ∀ (d k : Nat), a.2.1.length - k = d → k ≤ a.2.1.length → AW G YX4_onWayOf (MZ G YX4_onWayOf (Rd (K, R, I, J, z) (.int (nI (onWayN a st))))) 4 [(0, .ref (G.1 140)), (1, .int (nI st)), (2, .int (nI ((a.2.1.take k).countP (fun c => c 0 == st)))), (3, .int (nI k))] [] (K, R, I, J, z) 0 0 := by
    intro d
    induction d using Nat.strongRecOn with
    | _ d ih =>
    intro k hd hkl
    refine aw_iload_n dX4_onWayOf_4 rfl ?_
    refine aw_aload_n dX4_onWayOf_5 rfl ?_
    refine aw_getR dX4_onWayOf_6 flX4_7 rfl (by assumption) (by assumption) ?_
    refine aw_bipush (v := nI 9) dX4_onWayOf_9 rfl ?_
    refine aw_iald dX4_onWayOf_11 (by assumption) (by omega) rfl (by omega) hM.2.1 ?_
    refine aw_icmp_geN (tgt := 39) dX4_onWayOf_12 (by decide) (by omega) (by omega) (fun hc12 => ?_) (fun hc12 => ?_)
    · refine aw_iload_n dX4_onWayOf_39 rfl ?_
      exact aw_iret dX4_onWayOf_40 rfl (Nat.zero_le _) (Nat.zero_le _) ⟨by rw [show k = a.2.1.length by omega, List.take_length]; rfl, rfl⟩
    · obtain ⟨c, hc⟩ : ∃ c, a.2.1[k]? = some c := ⟨_, List.getElem?_eq_getElem (by omega)⟩
      obtain ⟨hc0, hc3⟩ := hC c (List.mem_of_getElem? hc)
      refine aw_iload_n dX4_onWayOf_15 rfl ?_
      refine aw_aload_n dX4_onWayOf_16 rfl ?_
      refine aw_iload_n dX4_onWayOf_17 rfl ?_
      refine aw_iconst (v := nI 0) dX4_onWayOf_18 rfl ?_
      refine aw_vRd dX4_onWayOf_19 cvX4_63 ⟨Nat.le_of_ble_eq_true rfl, Nat.le_of_ble_eq_true rfl⟩ (by assumption) ⟨_, rfl, rfl⟩ (r_callOfv (w := 0) (v := c 0) hL hM hc h16 (by decide) rfl) rfl rfl (Nat.le_of_ble_eq_true rfl) ⟨rfl, rfl⟩ ⟨Nat.zero_le _, Nat.zero_le _⟩ ?_
      refine aw_iload_n dX4_onWayOf_22 rfl ?_
      refine aw_icmp_neN (tgt := 30) dX4_onWayOf_23 (by decide) (by omega) (by omega) (fun hc23 => ?_) (fun hc23 => ?_)
      · refine aw_iconst (v := nI 0) dX4_onWayOf_30 rfl ?_
        first | refine aw_iaddN dX4_onWayOf_31 ?_ | refine aw_iadd dX4_onWayOf_31 ?_
        refine aw_top (x' := nI ((a.2.1.take (k + 1)).countP (fun c => c 0 == st))) (congrArg nI ?_) ?_
        · rw [countP_take _ hc]
          first
          | exact ow1 hc23
          | exact ow0 hc23
        refine aw_istore_n (ls' := [(2, _), (0, _), (1, _), (3, _)]) dX4_onWayOf_32 (by decide) rfl ?_
        refine aw_iincN (k := 1) (ls' := [(3, _), (2, _), (0, _), (1, _)]) dX4_onWayOf_33 rfl rfl (by decide) rfl ?_
        refine aw_goto (tgt := 4) dX4_onWayOf_36 (by decide) ?_
        exact aw_pick [2, 3, 1, 0] rfl (ih (a.2.1.length - (k + 1)) (by omega) (k + 1) rfl (by omega))
      · refine aw_iconst (v := nI 1) dX4_onWayOf_26 rfl ?_
        refine aw_goto (tgt := 31) dX4_onWayOf_27 (by decide) ?_
        first | refine aw_iaddN dX4_onWayOf_31 ?_ | refine aw_iadd dX4_onWayOf_31 ?_
        refine aw_top (x' := nI ((a.2.1.take (k + 1)).countP (fun c => c 0 == st))) (congrArg nI ?_) ?_
        · rw [countP_take _ hc]
          first
          | exact ow1 hc23
          | exact ow0 hc23
        refine aw_istore_n (ls' := [(2, _), (0, _), (1, _), (3, _)]) dX4_onWayOf_32 (by decide) rfl ?_
        refine aw_iincN (k := 1) (ls' := [(3, _), (2, _), (0, _), (1, _)]) dX4_onWayOf_33 rfl rfl (by decide) rfl ?_
        refine aw_goto (tgt := 4) dX4_onWayOf_36 (by decide) ?_
        exact aw_pick [2, 3, 1, 0] rfl (ih (a.2.1.length - (k + 1)) (by omega) (k + 1) rfl (by omega))
  refine run_of (ls := [(0, .ref (G.1 140)), (1, .int (nI st))]) (by decide +kernel) rfl rfl (Nat.le_of_ble_eq_true rfl) ?_
  refine aw_iconst (v := nI 0) dX4_onWayOf_0 rfl ?_
  refine aw_istore_n (ls' := [(2, _), (0, _), (1, _)]) dX4_onWayOf_1 (by decide) rfl ?_
  refine aw_iconst (v := nI 0) dX4_onWayOf_2 rfl ?_
  refine aw_istore_n (ls' := [(3, _), (2, _), (0, _), (1, _)]) dX4_onWayOf_3 (by decide) rfl ?_
  exact aw_pick [2, 3, 1, 0] rfl (loop a.2.1.length 0 rfl (Nat.zero_le _))
end MODEL8
