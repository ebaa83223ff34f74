theorem ldJ6_265 : Cond.constant RJ6 265 (1431655765 : Int32) ∈ gT := gT_ix 246 (by decide +kernel) rfl
theorem ldJ6_266 : Cond.constant RJ6 266 (858993459 : Int32) ∈ gT := gT_ix 247 (by decide +kernel) rfl
theorem ldJ6_267 : Cond.constant RJ6 267 (252645135 : Int32) ∈ gT := gT_ix 248 (by decide +kernel) rfl
theorem ldX3_166 : Cond.constantLong RX3 166 (3037 : Int64) ∈ gT := gT_ix 280 (by decide +kernel) rfl
theorem ldX3_186 : Cond.constantLong RX3 186 (31 : Int64) ∈ gT := gT_ix 293 (by decide +kernel) rfl
theorem ldX2_83 : Cond.constant RX2 83 (65535 : Int32) ∈ gT := gT_ix 369 (by decide +kernel) rfl
theorem ldX3_188 : Cond.constantLong RX3 188 (1023 : Int64) ∈ gT := gT_ix 402 (by decide +kernel) rfl
theorem ldX3_190 : Cond.constantDouble RX3 190 (4611686018427387904 : UInt64) ∈ gT := gT_ix 403 (by decide +kernel) rfl
theorem ldX3_192 : Cond.constantDouble RX3 192 (4841369599423283200 : UInt64) ∈ gT := gT_ix 404 (by decide +kernel) rfl
theorem ldX4_167 : Cond.constantLong RX4 167 (3037 : Int64) ∈ gT := gT_ix 947 (by decide +kernel) rfl
theorem ldX4_161 : Cond.constantLong RX4 161 (31 : Int64) ∈ gT := gT_ix 952 (by decide +kernel) rfl
theorem ldJxe99ae_137 : Cond.constantLong RJxe99ae 137 (9221120237041090560 : Int64) ∈ gT := gT_ix 962 (by decide +kernel) rfl
/-! THE REFERENCE: what would be -/
def wouldI (a : AA) (st n t w : Nat) : Int32 := if w = 0 then nI (oftenN st t n a) else if w = 1 then nI ((oftenA st t n a).2.2 st 8) - nI (a.2.2 st 8) else if w = 2 then nI ((oftenA st t n a).1 6) - nI (a.1 6) else nI ((oftenA st t n a).2.2 st 2)
/-- in how many ticks a store is free, at most f -/
def untilN (st : Nat) : Nat → AA → Nat
  | 0, _ => 0
  | f + 1, a => if refd a st = true then untilN st f (tickA a) + 1 else 0
theorem untilN_s (st f : Nat) (a : AA) : untilN st (f + 1) a = if refd a st = true then untilN st f (tickA a) + 1 else 0 := rfl
theorem b2_1 {b : Bool} (h : b2 b ≠ 0) : b = true := by cases b
                                                        · exact absurd rfl h
                                                        · rfl
def untilI (a : AA) (st : Nat) : Int32 := if untilN st 1000 a ≤ 999 then nI (untilN st 1000 a) else -1
theorem untilN_le (st : Nat) : ∀ (f : Nat) (a : AA), untilN st f a ≤ f
  | 0, _ => Nat.le_refl _
  | f + 1, a => by
    unfold untilN; split
    · have := untilN_le st f (tickA a); omega
    · omega
/-- the state's own cells alone -/
def FrW (I I' : Nat → Nat → Int32) : Prop := ∀ q, q ≠ 141 → q ≠ 142 → I' q = I q
theorem FrW.lm {I I' : Nat → Nat → Int32} {a : AA} (h : FrW I I') (hM : RM (I' 141) a) : FrW I I' ∧ RM (I' 141) a := ⟨h, hM⟩
theorem of_often {m k : Nat} {a : AA} {st t n : Nat} (hst : st < 4) (hI : IV m k a) (hl : L1 a) : ∀ n, ∃ m', IV m' k (oftenA st t n a) ∧ L1 (oftenA st t n a) ∧ m' ≤ m + n := by
  intro n
  induction n generalizing m a with
  | zero => exact ⟨m, hI, hl, by omega⟩
  | succ n ih =>
    unfold oftenA
    split
    · exact ⟨m, hI, hl, by omega⟩
    · next h =>
      have hroom : refd a st = true ∨ a.2.1.length < 16 := by
        rcases Nat.lt_or_ge a.2.1.length 16 with q | q
        · exact Or.inr q
        · left
          have := hI.2.1
          have h16 : a.2.1.length = 16 := by omega
          cases e : refd a st
          · exact absurd ⟨h16, e⟩ h
          · rfl
      obtain ⟨m', g1, g2, g3⟩ := ih (hI.call hst hroom |>.ticks t) (L1.ticks (n := t) hl.call)
      exact ⟨m', g1, g2, by omega⟩
section MODEL12
variable {G : GG} {K : Nat → Option (Nat × Nat)} {R : Nat → Nat → Value} {I : Nat → Nat → Int32} {J : Nat → Nat → Int64} {z : Nat} {σ : Sg} {a : AA} {hs : List AA} {m k : Nat}
theorem r_would (hL : LM G K R) {st t n w : Nat} (hst : st < 4) (ht : t ≤ 1000) (hn : n ≤ 1000) (hw : w ≤ 3) (hM : RM (I 141) a) (hI : IV m k a) (hl1 : L1 a) (hmk : m + n + k ≤ 1000000000) : Run G YX4_would [.ref (G.1 140), .int (nI st), .int (nI n), .int (nI t), .int (nI w)] (K, R, I, J, z) (Up K R J z (some (.int (wouldI a st n t w))) (fun I' => RM (I' 141) a ∧ FrW I I')) := by
  obtain ⟨hk0, hr1, hk1, hr2, hk2, hr3, hk3, hr5, hk5, hr9, hk9⟩ := hL
  have hL : LM G K R := ⟨hk0, hr1, hk1, hr2, hk2, hr3, hk3, hr5, hk5, hr9, hk9⟩
  have h16 := hI.2.1
  refine run_of (ls := [(0, .ref (G.1 140)), (1, .int (nI st)), (2, .int (nI n)), (3, .int (nI t)), (4, .int (nI w))]) (by decide +kernel) rfl rfl (Nat.le_of_ble_eq_true rfl) ?_
  refine aw_aload_n dX4_would_0 rfl ?_
  refine aw_vUp0 dX4_would_1 cvX4_144 ⟨Nat.le_of_ble_eq_true rfl, Nat.le_of_ble_eq_true rfl⟩ (by assumption) ⟨_, rfl, rfl⟩ (r_putAside hL) rfl rfl (Nat.le_of_ble_eq_true rfl) ⟨rfl, rfl⟩ ⟨Nat.zero_le _, Nat.zero_le _⟩ (fun I1 hP1 => ?_)
  refine aw_aload_n dX4_would_4 rfl ?_
  refine aw_iload_n dX4_would_5 rfl ?_
  refine aw_iload_n dX4_would_6 rfl ?_
  refine aw_iload_n dX4_would_7 rfl ?_
  refine aw_vUp dX4_would_8 cvX4_99 ⟨Nat.le_of_ble_eq_true rfl, Nat.le_of_ble_eq_true rfl⟩ (by assumption) ⟨_, rfl, rfl⟩ (r_callsOften hL hst ht hn (a := a) (by rw [hP1.1 141 (by decide)]; exact hM) hI hl1 hmk) rfl rfl (Nat.le_of_ble_eq_true rfl) ⟨rfl, rfl⟩ ⟨Nat.zero_le _, Nat.zero_le _⟩ (fun I8 hP8 => ?_)
  refine aw_istore (ls' := [(5, _), (0, _), (1, _), (2, _), (3, _), (4, _)]) dX4_would_11 (by decide) rfl ?_
  refine aw_aload_n dX4_would_13 rfl ?_
  refine aw_iload_n dX4_would_14 rfl ?_
  refine aw_bipush (v := nI 8) dX4_would_15 rfl ?_
  refine aw_vRd dX4_would_17 cvX4_40 ⟨Nat.le_of_ble_eq_true rfl, Nat.le_of_ble_eq_true rfl⟩ (by assumption) ⟨_, rfl, rfl⟩ (r_of hL hP8.1 hst (w := 8) (by decide)) rfl rfl (Nat.le_of_ble_eq_true rfl) ⟨rfl, rfl⟩ ⟨Nat.zero_le _, Nat.zero_le _⟩ ?_
  refine aw_istore (ls' := [(6, _), (5, _), (0, _), (1, _), (2, _), (3, _), (4, _)]) dX4_would_20 (by decide) rfl ?_
  refine aw_aload_n dX4_would_22 rfl ?_
  refine aw_getR dX4_would_23 flX4_7 rfl (by assumption) (by assumption) ?_
  refine aw_bipush (v := nI 6) dX4_would_26 rfl ?_
  refine aw_iald dX4_would_28 (by assumption) (by omega) rfl (by omega) (show _ = nI ((oftenA st t n a).1 6) from hP8.1.1 6 (by decide)) ?_
  refine aw_istore (ls' := [(7, _), (6, _), (5, _), (0, _), (1, _), (2, _), (3, _), (4, _)]) dX4_would_29 (by decide) rfl ?_
  refine aw_aload_n dX4_would_31 rfl ?_
  refine aw_iload_n dX4_would_32 rfl ?_
  refine aw_iconst (v := nI 2) dX4_would_33 rfl ?_
  refine aw_vRd dX4_would_34 cvX4_40 ⟨Nat.le_of_ble_eq_true rfl, Nat.le_of_ble_eq_true rfl⟩ (by assumption) ⟨_, rfl, rfl⟩ (r_of hL hP8.1 hst (w := 2) (by decide)) rfl rfl (Nat.le_of_ble_eq_true rfl) ⟨rfl, rfl⟩ ⟨Nat.zero_le _, Nat.zero_le _⟩ ?_
  refine aw_istore (ls' := [(8, _), (7, _), (6, _), (5, _), (0, _), (1, _), (2, _), (3, _), (4, _)]) dX4_would_37 (by decide) rfl ?_
  refine aw_aload_n dX4_would_39 rfl ?_
  refine aw_vUp0 dX4_would_40 cvX4_147 ⟨Nat.le_of_ble_eq_true rfl, Nat.le_of_ble_eq_true rfl⟩ (by assumption) ⟨_, rfl, rfl⟩ (r_takeBack hL) rfl rfl (Nat.le_of_ble_eq_true rfl) ⟨rfl, rfl⟩ ⟨Nat.zero_le _, Nat.zero_le _⟩ (fun I40 hP40 => ?_)
  have hM40 : RM (I40 141) a := RM_congr hM h16 (fun k hk => by rw [hP40.2 k hk, hP8.2 142 (by decide), hP1.2 k hk])
  have hF40 : FrW I I40 := fun q h1 h2 => by rw [hP40.1 q h1, hP8.2 q h1, hP1.1 q h2]
  refine aw_iload dX4_would_43 rfl ?_
  refine aw_if_neN (tgt := 53) dX4_would_45 (by decide) (by omega) (fun hc45 => ?_) (fun hc45 => ?_)
  · refine aw_iload dX4_would_53 rfl ?_
    refine aw_iconst (v := nI 1) dX4_would_55 rfl ?_
    refine aw_icmp_neN (tgt := 72) dX4_would_56 (by decide) (by omega) (by omega) (fun hc56 => ?_) (fun hc56 => ?_)
    · refine aw_iload dX4_would_72 rfl ?_
      refine aw_iconst (v := nI 2) dX4_would_74 rfl ?_
      refine aw_icmp_neN (tgt := 91) dX4_would_75 (by decide) (by omega) (by omega) (fun hc75 => ?_) (fun hc75 => ?_)
      · refine aw_iload dX4_would_91 rfl ?_
        exact aw_iret dX4_would_93 rfl (Nat.zero_le _) (Nat.zero_le _) ⟨by unfold wouldI; first | (rw [if_pos hc45]) | (rw [if_neg hc45, if_pos hc56]) | (rw [if_neg hc45, if_neg hc56, if_pos hc75]) | (rw [if_neg hc45, if_neg hc56, if_neg hc75]), I40, rfl, hM40, hF40⟩
      · refine aw_iload dX4_would_78 rfl ?_
        refine aw_aload_n dX4_would_80 rfl ?_
        refine aw_getR dX4_would_81 flX4_7 rfl (by assumption) (by assumption) ?_
        refine aw_bipush (v := nI 6) dX4_would_84 rfl ?_
        refine aw_iald dX4_would_86 (by assumption) (by omega) rfl (by omega) (show _ = nI (a.1 6) from hM40.1 6 (by decide)) ?_
        refine aw_isub dX4_would_87 ?_
        refine aw_goto (tgt := 93) dX4_would_88 (by decide) ?_
        exact aw_iret dX4_would_93 rfl (Nat.zero_le _) (Nat.zero_le _) ⟨by unfold wouldI; first | (rw [if_pos hc45]) | (rw [if_neg hc45, if_pos hc56]) | (rw [if_neg hc45, if_neg hc56, if_pos hc75]) | (rw [if_neg hc45, if_neg hc56, if_neg hc75]), I40, rfl, hM40, hF40⟩
    · refine aw_iload dX4_would_59 rfl ?_
      refine aw_aload_n dX4_would_61 rfl ?_
      refine aw_iload_n dX4_would_62 rfl ?_
      refine aw_bipush (v := nI 8) dX4_would_63 rfl ?_
      refine aw_vRd dX4_would_65 cvX4_40 ⟨Nat.le_of_ble_eq_true rfl, Nat.le_of_ble_eq_true rfl⟩ (by assumption) ⟨_, rfl, rfl⟩ (r_of hL hM40 hst (w := 8) (by decide)) rfl rfl (Nat.le_of_ble_eq_true rfl) ⟨rfl, rfl⟩ ⟨Nat.zero_le _, Nat.zero_le _⟩ ?_
      refine aw_isub dX4_would_68 ?_
      refine aw_goto (tgt := 93) dX4_would_69 (by decide) ?_
      exact aw_iret dX4_would_93 rfl (Nat.zero_le _) (Nat.zero_le _) ⟨by unfold wouldI; first | (rw [if_pos hc45]) | (rw [if_neg hc45, if_pos hc56]) | (rw [if_neg hc45, if_neg hc56, if_pos hc75]) | (rw [if_neg hc45, if_neg hc56, if_neg hc75]), I40, rfl, hM40, hF40⟩
  · refine aw_iload dX4_would_48 rfl ?_
    refine aw_goto (tgt := 93) dX4_would_50 (by decide) ?_
    exact aw_iret dX4_would_93 rfl (Nat.zero_le _) (Nat.zero_le _) ⟨by unfold wouldI; first | (rw [if_pos hc45]) | (rw [if_neg hc45, if_pos hc56]) | (rw [if_neg hc45, if_neg hc56, if_pos hc75]) | (rw [if_neg hc45, if_neg hc56, if_neg hc75]), I40, rfl, hM40, hF40⟩
theorem r_untilFree (hL : LM G K R) {st : Nat} (hst : st < 4) (hM : RM (I 141) a) (hI : IV m k a) (hl1 : L1 a) (hmk : m + k ≤ 1000000000) : Run G YX4_untilFree [.ref (G.1 140), .int (nI st)] (K, R, I, J, z) (Up K R J z (some (.int (untilI a st))) (fun I' => RM (I' 141) a ∧ FrW I I')) := by
  obtain ⟨hk0, hr1, hk1, hr2, hk2, hr3, hk3, hr5, hk5, hr9, hk9⟩ := hL
  have hL : LM G K R := ⟨hk0, hr1, hk1, hr2, hk2, hr3, hk3, hr5, hk5, hr9, hk9⟩
  have h16 := hI.2.1
  obtain ⟨N, hNe⟩ : ∃ N, N = untilN st 1000 a := ⟨_, rfl⟩
  have hui : untilI a st = if N ≤ 999 then nI N else -1 := by rw [hNe]; rfl
  have hu : N ≤ 1000 := by rw [hNe]; exact untilN_le st 1000 a
  have fin : ∀ (q : Nat) (I1 : Nat → Nat → Int32), q = N → (∀ k, k < 218 → I1 142 k = I 141 k) → FrW I I1 → AW G YX4_untilFree (MZ G YX4_untilFree (Up K R J z (some (.int (untilI a st))) (fun I' => RM (I' 141) a ∧ FrW I I'))) 32 [(0, .ref (G.1 140)), (1, .int (nI st)), (2, .int (nI q))] [] (K, R, I1, J, z) 0 0 := by
    intro q I1 hq h142 hF
    refine aw_aload_n dX4_untilFree_32 rfl ?_
    refine aw_vUp0 dX4_untilFree_33 cvX4_147 ⟨Nat.le_of_ble_eq_true rfl, Nat.le_of_ble_eq_true rfl⟩ (by assumption) ⟨_, rfl, rfl⟩ (r_takeBack hL) rfl rfl (Nat.le_of_ble_eq_true rfl) ⟨rfl, rfl⟩ ⟨Nat.zero_le _, Nat.zero_le _⟩ (fun I33 hP33 => ?_)
    have hM33 : RM (I33 141) a := RM_congr hM h16 (fun k hk => by rw [hP33.2 k hk, h142 k hk])
    have hF33 : FrW I I33 := fun q h1 h2 => by rw [hP33.1 q h1, hF q h1 h2]
    refine aw_iload_n dX4_untilFree_36 rfl ?_
    refine aw_sipush (v := nI 999) dX4_untilFree_37 rfl ?_
    refine aw_icmp_leN (tgt := 47) dX4_untilFree_40 (by decide) (by omega) (by omega) (fun hc40 => ?_) (fun hc40 => ?_)
    · refine aw_iload_n dX4_untilFree_47 rfl ?_
      exact aw_iret dX4_untilFree_48 rfl (Nat.zero_le _) (Nat.zero_le _) ⟨by rw [hui, ← hq]; first | rw [if_pos hc40] | (rw [if_neg (by omega)]), I33, rfl, hM33, hF33⟩
    · refine aw_iconst (v := (-1)) dX4_untilFree_43 rfl ?_
      refine aw_goto (tgt := 48) dX4_untilFree_44 (by decide) ?_
      exact aw_iret dX4_untilFree_48 rfl (Nat.zero_le _) (Nat.zero_le _) ⟨by rw [hui, ← hq]; first | rw [if_pos hc40] | (rw [if_neg (by omega)]), I33, rfl, hM33, hF33⟩
  have loop : ∀ (d q : Nat) (I1 : Nat → Nat → Int32) (b : AA), 1000 - q = d → q ≤ 1000 → RM (I1 141) b → (∀ k, k < 218 → I1 142 k = I 141 k) → FrW I I1 → IV m k b → L1 b → q + untilN st d b = N → AW G YX4_untilFree (MZ G YX4_untilFree (Up K R J z (some (.int (untilI a st))) (fun I' => RM (I' 141) a ∧ FrW I I'))) 6 [(0, .ref (G.1 140)), (1, .int (nI st)), (2, .int (nI q))] [] (K, R, I1, J, z) 0 0 := by
    intro d
    induction d with
    | zero =>
      intro q I1 b hd hq hM1 h142 hF hI1 hl hN
      refine aw_iload_n dX4_untilFree_6 rfl ?_
      refine aw_sipush (v := nI 999) dX4_untilFree_7 rfl ?_
      refine aw_icmp_gtN (tgt := 32) dX4_untilFree_10 (by decide) (by omega) (by omega) (fun hc10 => ?_) (fun hc10 => absurd hc10 (by omega))
      exact aw_pick [0, 1, 2] rfl (fin q I1 (by rw [← hN]; rfl) h142 hF)
    | succ d ih =>
      intro q I1 b hd hq hM1 h142 hF hI1 hl hN
      have h16b := hI1.2.1
      have hC : ∀ c ∈ b.2.1, c 0 < 4 ∧ c 3 ≤ 1 := fun c hc => ⟨(hI1.2.2.1 c hc).1, (hI1.2.2.1 c hc).2.2.2.2.1⟩
      have htR := (hI1.2.2.2.2.1 st hst).up hI1.b
      have hb1 := b2_le (refd b st)
      rw [untilN_s] at hN
      refine aw_iload_n dX4_untilFree_6 rfl ?_
      refine aw_sipush (v := nI 999) dX4_untilFree_7 rfl ?_
      refine aw_icmp_gtN (tgt := 32) dX4_untilFree_10 (by decide) (by omega) (by omega) (fun hc10 => absurd hc10 (by omega)) (fun hc10 => ?_)
      refine aw_aload_n dX4_untilFree_13 rfl ?_
      refine aw_iload_n dX4_untilFree_14 rfl ?_
      refine aw_vRd dX4_untilFree_15 cvX4_70 ⟨Nat.le_of_ble_eq_true rfl, Nat.le_of_ble_eq_true rfl⟩ (by assumption) ⟨_, rfl, rfl⟩ (r_isRefused hL hM1 hst h16b hC htR) rfl rfl (Nat.le_of_ble_eq_true rfl) ⟨rfl, rfl⟩ ⟨Nat.zero_le _, Nat.zero_le _⟩ ?_
      refine aw_if_eqN (tgt := 32) dX4_untilFree_18 (by decide) (by omega) (fun hc18 => ?_) (fun hc18 => ?_)
      · have hr : refd b st = false := b2_0.mp hc18
        exact aw_pick [0, 1, 2] rfl (fin q I1 (by rw [← hN, if_neg (by rw [hr]; decide)]; rfl) h142 hF)
      · refine aw_aload_n dX4_untilFree_21 rfl ?_
        refine aw_vUp dX4_untilFree_22 cvX4_80 ⟨Nat.le_of_ble_eq_true rfl, Nat.le_of_ble_eq_true rfl⟩ (by assumption) ⟨_, rfl, rfl⟩ (r_tick hL hM1 hI1 hl hmk) rfl rfl (Nat.le_of_ble_eq_true rfl) ⟨rfl, rfl⟩ ⟨Nat.zero_le _, Nat.zero_le _⟩ (fun I22 hP22 => ?_)
        refine aw_pop dX4_untilFree_25 rfl ?_
        refine aw_iincN (k := 1) (ls' := [(2, _), (0, _), (1, _)]) dX4_untilFree_26 rfl rfl (by decide) rfl ?_
        refine aw_goto (tgt := 6) dX4_untilFree_29 (by decide) ?_
        have hr : refd b st = true := b2_1 hc18
        exact aw_pick [1, 2, 0] rfl (ih (q + 1) I22 (tickA b) (by omega) (by omega) hP22.1 (fun k hk => by rw [hP22.2 142 (by decide)]; exact h142 k hk) (fun q h1 h2 => by rw [hP22.2 q h1, hF q h1 h2]) hI1.tick L1.tick (by rw [← hN, if_pos hr]; omega))
  refine run_of (ls := [(0, .ref (G.1 140)), (1, .int (nI st))]) (by decide +kernel) rfl rfl (Nat.le_of_ble_eq_true rfl) ?_
  refine aw_aload_n dX4_untilFree_0 rfl ?_
  refine aw_vUp0 dX4_untilFree_1 cvX4_144 ⟨Nat.le_of_ble_eq_true rfl, Nat.le_of_ble_eq_true rfl⟩ (by assumption) ⟨_, rfl, rfl⟩ (r_putAside hL) rfl rfl (Nat.le_of_ble_eq_true rfl) ⟨rfl, rfl⟩ ⟨Nat.zero_le _, Nat.zero_le _⟩ (fun I1 hP1 => ?_)
  refine aw_iconst (v := nI 0) dX4_untilFree_4 rfl ?_
  refine aw_istore_n (ls' := [(2, _), (0, _), (1, _)]) dX4_untilFree_5 (by decide) rfl ?_
  exact aw_pick [1, 2, 0] rfl (loop 1000 0 I1 a rfl (by decide) (by rw [hP1.1 141 (by decide)]; exact hM) hP1.2 (fun q h1 h2 => hP1.1 q h2) hI hl1 (by rw [hNe, Nat.zero_add]))
def setLo (i : Nat) : Nat := if i = 1 then 2 else 1
def setHi (i : Nat) : Nat := if i = 0 then 99 else if i = 1 then 16 else if i = 2 then 16 else if i = 3 then 99 else 999
theorem r_isSetting {i : Nat} (hi : i ≤ 4) (v : Int32) : Run G YX4_isSetting [.int (nI i), .int v] σ (Rd σ (.int (nI (if nI (setLo i) ≤ v ∧ v ≤ nI (setHi i) then 1 else 0)))) := by
  rcases (show i = 0 ∨ i = 1 ∨ i = 2 ∨ i = 3 ∨ i = 4 by omega) with rfl | rfl | rfl | rfl | rfl
  · refine run_of (ls := [(0, .int (nI 0)), (1, .int v)]) (by decide +kernel) rfl rfl (Nat.le_of_ble_eq_true rfl) ?_
    refine aw_iload_n dX4_isSetting_0 rfl ?_
    refine aw_tableIn (tgt := 32) dX4_isSetting_1 (by decide) (by decide) rfl (by decide) ?_
    refine aw_iload_n dX4_isSetting_32 rfl ?_
    refine aw_iconst (v := nI 1) dX4_isSetting_33 rfl ?_
    refine aw_bipush (v := nI 99) dX4_isSetting_34 rfl ?_
    refine aw_sRd dX4_isSetting_36 cvX4_33 ⟨Nat.le_of_ble_eq_true rfl, Nat.le_of_ble_eq_true rfl⟩ (r_in v (nI 1) (nI 99)) rfl rfl (Nat.le_of_ble_eq_true rfl) ⟨rfl, rfl⟩ ⟨Nat.zero_le _, Nat.zero_le _⟩ ?_
    exact aw_zret dX4_isSetting_39 rfl (by split <;> rfl) (Nat.zero_le _) (Nat.zero_le _) ⟨rfl, rfl⟩
  · refine run_of (ls := [(0, .int (nI 1)), (1, .int v)]) (by decide +kernel) rfl rfl (Nat.le_of_ble_eq_true rfl) ?_
    refine aw_iload_n dX4_isSetting_0 rfl ?_
    refine aw_tableIn (tgt := 40) dX4_isSetting_1 (by decide) (by decide) rfl (by decide) ?_
    refine aw_iload_n dX4_isSetting_40 rfl ?_
    refine aw_iconst (v := nI 2) dX4_isSetting_41 rfl ?_
    refine aw_bipush (v := nI 16) dX4_isSetting_42 rfl ?_
    refine aw_sRd dX4_isSetting_44 cvX4_33 ⟨Nat.le_of_ble_eq_true rfl, Nat.le_of_ble_eq_true rfl⟩ (r_in v (nI 2) (nI 16)) rfl rfl (Nat.le_of_ble_eq_true rfl) ⟨rfl, rfl⟩ ⟨Nat.zero_le _, Nat.zero_le _⟩ ?_
    exact aw_zret dX4_isSetting_47 rfl (by split <;> rfl) (Nat.zero_le _) (Nat.zero_le _) ⟨rfl, rfl⟩
  · refine run_of (ls := [(0, .int (nI 2)), (1, .int v)]) (by decide +kernel) rfl rfl (Nat.le_of_ble_eq_true rfl) ?_
    refine aw_iload_n dX4_isSetting_0 rfl ?_
    refine aw_tableIn (tgt := 48) dX4_isSetting_1 (by decide) (by decide) rfl (by decide) ?_
    refine aw_iload_n dX4_isSetting_48 rfl ?_
    refine aw_iconst (v := nI 1) dX4_isSetting_49 rfl ?_
    refine aw_bipush (v := nI 16) dX4_isSetting_50 rfl ?_
    refine aw_sRd dX4_isSetting_52 cvX4_33 ⟨Nat.le_of_ble_eq_true rfl, Nat.le_of_ble_eq_true rfl⟩ (r_in v (nI 1) (nI 16)) rfl rfl (Nat.le_of_ble_eq_true rfl) ⟨rfl, rfl⟩ ⟨Nat.zero_le _, Nat.zero_le _⟩ ?_
    exact aw_zret dX4_isSetting_55 rfl (by split <;> rfl) (Nat.zero_le _) (Nat.zero_le _) ⟨rfl, rfl⟩
  · refine run_of (ls := [(0, .int (nI 3)), (1, .int v)]) (by decide +kernel) rfl rfl (Nat.le_of_ble_eq_true rfl) ?_
    refine aw_iload_n dX4_isSetting_0 rfl ?_
    refine aw_tableIn (tgt := 32) dX4_isSetting_1 (by decide) (by decide) rfl (by decide) ?_
    refine aw_iload_n dX4_isSetting_32 rfl ?_
    refine aw_iconst (v := nI 1) dX4_isSetting_33 rfl ?_
    refine aw_bipush (v := nI 99) dX4_isSetting_34 rfl ?_
    refine aw_sRd dX4_isSetting_36 cvX4_33 ⟨Nat.le_of_ble_eq_true rfl, Nat.le_of_ble_eq_true rfl⟩ (r_in v (nI 1) (nI 99)) rfl rfl (Nat.le_of_ble_eq_true rfl) ⟨rfl, rfl⟩ ⟨Nat.zero_le _, Nat.zero_le _⟩ ?_
    exact aw_zret dX4_isSetting_39 rfl (by split <;> rfl) (Nat.zero_le _) (Nat.zero_le _) ⟨rfl, rfl⟩
  · refine run_of (ls := [(0, .int (nI 4)), (1, .int v)]) (by decide +kernel) rfl rfl (Nat.le_of_ble_eq_true rfl) ?_
    refine aw_iload_n dX4_isSetting_0 rfl ?_
    refine aw_tableOut (tgt := 56) dX4_isSetting_1 (by decide) (by decide) ?_
    refine aw_iload_n dX4_isSetting_56 rfl ?_
    refine aw_iconst (v := nI 1) dX4_isSetting_57 rfl ?_
    refine aw_sipush (v := nI 999) dX4_isSetting_58 rfl ?_
    refine aw_sRd dX4_isSetting_61 cvX4_33 ⟨Nat.le_of_ble_eq_true rfl, Nat.le_of_ble_eq_true rfl⟩ (r_in v (nI 1) (nI 999)) rfl rfl (Nat.le_of_ble_eq_true rfl) ⟨rfl, rfl⟩ ⟨Nat.zero_le _, Nat.zero_le _⟩ ?_
    exact aw_zret dX4_isSetting_64 rfl (by split <;> rfl) (Nat.zero_le _) (Nat.zero_le _) ⟨rfl, rfl⟩
theorem r_hashes (hL : LM G K R) (v : Int64) : Run G YX4_hashes [.ref (G.1 140), .long v] (K, R, I, J, z) (fun r σ' => r = .inl none ∧ σ' = (K, R, I, upJ J 140 11 (31 * J 140 11 + v), z)) := by
  obtain ⟨hk0, hr1, hk1, hr2, hk2, hr3, hk3, hr5, hk5, hr9, hk9⟩ := hL
  refine run_of (ls := [(0, .ref (G.1 140)), (1, .long v)]) (by decide +kernel) rfl rfl (Nat.le_of_ble_eq_true rfl) ?_
  refine aw_aload_n dX4_hashes_0 rfl ?_
  refine aw_ldc2 dX4_hashes_1 ldX4_161 ?_
  refine aw_aload_n dX4_hashes_4 rfl ?_
  refine aw_getJ dX4_hashes_5 flX4_163 rfl (by assumption) rfl ?_
  refine aw_lmul dX4_hashes_8 ?_
  refine aw_lload_n dX4_hashes_9 rfl ?_
  refine aw_ladd dX4_hashes_10 ?_
  refine aw_putJ dX4_hashes_11 flX4_163 rfl (by intro r hr; cases hr; rfl) (by assumption) (by omega) rfl rfl ?_
  exact aw_vret dX4_hashes_14 rfl (Nat.zero_le _) (Nat.zero_le _) ⟨rfl, rfl⟩
end MODEL12
