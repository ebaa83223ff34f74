/-! THE CLASS: calls and ticks, one after another; a state is copied -/
section CLASS7
variable {G : GG} {K : Nat → Option (Nat × Nat)} {R : Nat → Nat → Value} {I : Nat → Nat → Int32} {J : Nat → Nat → Int64} {z : Nat} {σ : Sg} {a : AA} {m k : Nat}
variable {h b st : Nat} {g : Nat → Nat} {T : Nat → Rw} {L : List Cl}
theorem c_letPass {n : Nat} (hL : LSt G K R h) (hS : CSt I h a) (hI : IV m k a) (hl1 : L1 a) (hn : n ≤ 1000) (hmk : m + k ≤ 900000000) : Run G YX1_letPass [.ref (G.1 h), .int (nI n)] (K, R, I, J, z) (Up K R J z (some (.int (nI (ticksN n a)))) (fun I' => CSt I' h (ticksA n a) ∧ FrS h I I')) := by
  obtain ⟨hk0, hr0, hk1, hsr, hr1, hk2, hr2, hk3, hc0, hc1, hc2, hc3, hc4, hkc0, hkc1, hkc2, hkc3, hkc4, hTs, hh⟩ := id hL
  have loop : ∀ (d q : Nat) (I1 : Nat → Nat → Int32) (b : AA) (t : Nat), n - q = d → q ≤ n → CSt I1 h b → FrS h I I1 → IV m k b → L1 b → ticksA d b = ticksA n a → t + ticksN d b = ticksN n a → AW G YX1_letPass (MZ G YX1_letPass (Up K R J z (some (.int (nI (ticksN n a)))) (fun I' => CSt I' h (ticksA n a) ∧ FrS h I I'))) 4 [(0, .ref (G.1 h)), (1, .int (nI n)), (2, .int (nI t)), (3, .int (nI q))] [] (K, R, I1, J, z) 0 0 := by
    intro d
    induction d with
    | zero =>
      intro q I1 b t hd hq hM1 hF1 hI1 hl hA hN
      refine aw_iload_n dX1_letPass_4 rfl ?_
      refine aw_iload_n dX1_letPass_5 rfl ?_
      refine aw_icmp_geN (tgt := 22) dX1_letPass_6 (by decide) (by omega) (by omega) (fun hc6 => ?_) (fun hc6 => absurd hc6 (by omega))
      refine aw_iload_n dX1_letPass_22 rfl ?_
      exact aw_iret dX1_letPass_23 rfl (Nat.zero_le _) (Nat.zero_le _) ⟨by rw [← hN]; rfl, I1, rfl, by rw [← hA]; exact hM1, hF1⟩
    | succ d ih =>
      intro q I1 b t hd hq hM1 hF1 hI1 hl hA hN
      refine aw_iload_n dX1_letPass_4 rfl ?_
      refine aw_iload_n dX1_letPass_5 rfl ?_
      refine aw_icmp_geN (tgt := 22) dX1_letPass_6 (by decide) (by omega) (by omega) (fun hc6 => absurd hc6 (by omega)) (fun hc6 => ?_)
      refine aw_iload_n dX1_letPass_9 rfl ?_
      refine aw_aload_n dX1_letPass_10 rfl ?_
      refine aw_vUp dX1_letPass_11 cvX1_98 ⟨Nat.le_of_ble_eq_true rfl, Nat.le_of_ble_eq_true rfl⟩ (by assumption) ⟨_, rfl, rfl⟩ (c_tick hL hM1 hI1 hmk hl) rfl rfl (Nat.le_of_ble_eq_true rfl) ⟨rfl, rfl⟩ ⟨Nat.zero_le _, Nat.zero_le _⟩ (fun I11 hP11 => ?_)
      first | refine aw_iaddN dX1_letPass_14 ?_ | refine aw_iadd dX1_letPass_14 ?_
      refine aw_istore_n (ls' := [(2, _), (0, _), (1, _), (3, _)]) dX1_letPass_15 (by decide) rfl ?_
      refine aw_iincN (k := 1) (ls' := [(3, _), (2, _), (0, _), (1, _)]) dX1_letPass_16 rfl rfl (by decide) rfl ?_
      refine aw_goto (tgt := 4) dX1_letPass_19 (by decide) ?_
      exact aw_pick [2, 3, 1, 0] rfl (ih (q + 1) I11 (tickA b) (t + tickN b) (by omega) (by omega) hP11.1 (hF1.tr hP11.2) hI1.tick L1.tick hA (by rw [← hN]; show _ = t + (tickN b + ticksN d (tickA b)); omega))
  refine run_of (ls := [(0, .ref (G.1 h)), (1, .int (nI n))]) (by decide +kernel) rfl rfl (Nat.le_of_ble_eq_true rfl) ?_
  refine aw_iconst (v := nI 0) dX1_letPass_0 rfl ?_
  refine aw_istore_n (ls' := [(2, _), (0, _), (1, _)]) dX1_letPass_1 (by decide) rfl ?_
  refine aw_iconst (v := nI 0) dX1_letPass_2 rfl ?_
  refine aw_istore_n (ls' := [(3, _), (2, _), (0, _), (1, _)]) dX1_letPass_3 (by decide) rfl ?_
  exact aw_pick [2, 3, 1, 0] rfl (loop n 0 I a 0 rfl (Nat.zero_le _) hS FrS.rf hI hl1 rfl (Nat.zero_add _))
theorem c_ringOften {t n : Nat} (hL : LSt G K R h) (hS : CSt I h a) (hI : IV m k a) (hl1 : L1 a) (hst : st < 4) (ht : t ≤ 1000) (hn : n ≤ 1000) (hmk : m + n + k ≤ 900000000) : Run G YX1_ringOften [.ref (G.1 h), .int (nI st), .int (nI n), .int (nI t)] (K, R, I, J, z) (Up K R J z (some (.int (nI (oftenN st t n a)))) (fun I' => CSt I' h (oftenA st t n a) ∧ FrS h I I')) := by
  obtain ⟨hk0, hr0, hk1, hsr, hr1, hk2, hr2, hk3, hc0, hc1, hc2, hc3, hc4, hkc0, hkc1, hkc2, hkc3, hkc4, hTs, hh⟩ := id hL
  have loop : ∀ (d q : Nat) (I1 : Nat → Nat → Int32) (b : AA) (x : Nat), n - q = d → q ≤ n → CSt I1 h b → FrS h I I1 → IV (m + q) k b → L1 b → oftenA st t d b = oftenA st t n a → x + oftenN st t d b = oftenN st t n a → AW G YX1_ringOften (MZ G YX1_ringOften (Up K R J z (some (.int (nI (oftenN st t n a)))) (fun I' => CSt I' h (oftenA st t n a) ∧ FrS h I I'))) 6 [(0, .ref (G.1 h)), (1, .int (nI st)), (2, .int (nI n)), (3, .int (nI t)), (4, .int (nI x)), (5, .int (nI q))] [] (K, R, I1, J, z) 0 0 := by
    intro d
    induction d with
    | zero =>
      intro q I1 b x hd hq hM1 hF1 hI1 hl hA hN
      refine aw_iload dX1_ringOften_6 rfl ?_
      refine aw_iload_n dX1_ringOften_8 rfl ?_
      refine aw_icmp_geN (tgt := 57) dX1_ringOften_9 (by decide) (by omega) (by omega) (fun hc9 => ?_) (fun hc9 => absurd hc9 (by omega))
      refine aw_iload dX1_ringOften_57 rfl ?_
      exact aw_iret dX1_ringOften_59 rfl (Nat.zero_le _) (Nat.zero_le _) ⟨by rw [← hN]; rfl, I1, rfl, by rw [← hA]; exact hM1, hF1⟩
    | succ d ih =>
      intro q I1 b x hd hq hM1 hF1 hI1 hl hA hN
      have hbl := c_blocks (J := J) (z := z) hL hM1 hI1 (by omega) hst
      by_cases hgo : b.2.1.length = 16 ∧ refd b st = false
      · rw [if_pos hgo] at hbl
        rw [oftenA, if_pos hgo] at hA
        rw [oftenN, if_pos hgo] at hN
        refine aw_iload dX1_ringOften_6 rfl ?_
        refine aw_iload_n dX1_ringOften_8 rfl ?_
        refine aw_icmp_geN (tgt := 57) dX1_ringOften_9 (by decide) (by omega) (by omega) (fun hc9 => absurd hc9 (by omega)) (fun hc9 => ?_)
        refine aw_aload_n dX1_ringOften_12 rfl ?_
        refine aw_iload_n dX1_ringOften_13 rfl ?_
        refine aw_vRd dX1_ringOften_14 cvX1_91 ⟨Nat.le_of_ble_eq_true rfl, Nat.le_of_ble_eq_true rfl⟩ (by assumption) ⟨_, rfl, rfl⟩ (hbl) rfl rfl (Nat.le_of_ble_eq_true rfl) ⟨rfl, rfl⟩ ⟨Nat.zero_le _, Nat.zero_le _⟩ ?_
        refine aw_if_neN (tgt := 57) dX1_ringOften_17 (by decide) (by omega) (fun hc17 => ?_) (fun hc17 => absurd hc17 (by decide))
        refine aw_iload dX1_ringOften_57 rfl ?_
        exact aw_iret dX1_ringOften_59 rfl (Nat.zero_le _) (Nat.zero_le _) ⟨by rw [← hN]; rfl, I1, rfl, by rw [← hA]; exact hM1, hF1⟩
      · rw [if_neg hgo] at hbl
        rw [oftenA, if_neg hgo] at hA
        rw [oftenN, if_neg hgo] at hN
        have hroom : refd b st = true ∨ b.2.1.length < 16 := by
          have := hI1.2.1
          rcases Nat.lt_or_ge b.2.1.length 16 with w | w
          · exact Or.inr w
          · refine Or.inl ?_
            cases w2 : refd b st
            · exact absurd ⟨by omega, w2⟩ hgo
            · rfl
        have hIc := hI1.call hst hroom
        have hcn := callN_le b st
        have inner : ∀ (x2 : Nat), x2 = x + (if 0 < callN b st then 1 else 0) → ∀ (d2 q2 : Nat) (I2 : Nat → Nat → Int32) (c : AA), t - q2 = d2 → q2 ≤ t → CSt I2 h c → FrS h I I2 → IV (m + q + 1) k c → L1 c → ticksA d2 c = ticksA t (callA b st) → AW G YX1_ringOften (MZ G YX1_ringOften (Up K R J z (some (.int (nI (oftenN st t n a)))) (fun I' => CSt I' h (oftenA st t n a) ∧ FrS h I I'))) 34 [(0, .ref (G.1 h)), (1, .int (nI st)), (2, .int (nI n)), (3, .int (nI t)), (4, .int (nI x2)), (5, .int (nI q)), (6, .int (nI q2))] [] (K, R, I2, J, z) 0 0 := by
          intro x2 hx2 d2
          induction d2 with
          | zero =>
            intro q2 I2 c hd2 hq2 hM2 hF2 hI2 hl2 hA2
            refine aw_iload dX1_ringOften_34 rfl ?_
            refine aw_iload_n dX1_ringOften_36 rfl ?_
            refine aw_icmp_geN (tgt := 51) dX1_ringOften_37 (by decide) (by omega) (by omega) (fun hc37 => ?_) (fun hc37 => absurd hc37 (by omega))
            refine aw_iincN (k := 1) (ls' := [(5, _), (0, _), (1, _), (2, _), (3, _), (4, _), (6, _)]) dX1_ringOften_51 rfl rfl (by decide) rfl ?_
            refine aw_goto (tgt := 6) dX1_ringOften_54 (by decide) ?_
            have hA3 : c = ticksA t (callA b st) := hA2
            exact aw_pick [1, 2, 3, 4, 5, 0] rfl (ih (q + 1) I2 c x2 (by omega) (by omega) hM2 hF2 hI2 hl2 (by rw [hA3]; exact hA) (by rw [hA3, ← hN, hx2]; omega))
          | succ d2 ih2 =>
            intro q2 I2 c hd2 hq2 hM2 hF2 hI2 hl2 hA2
            refine aw_iload dX1_ringOften_34 rfl ?_
            refine aw_iload_n dX1_ringOften_36 rfl ?_
            refine aw_icmp_geN (tgt := 51) dX1_ringOften_37 (by decide) (by omega) (by omega) (fun hc37 => absurd hc37 (by omega)) (fun hc37 => ?_)
            refine aw_aload_n dX1_ringOften_40 rfl ?_
            refine aw_vUp dX1_ringOften_41 cvX1_98 ⟨Nat.le_of_ble_eq_true rfl, Nat.le_of_ble_eq_true rfl⟩ (by assumption) ⟨_, rfl, rfl⟩ (c_tick hL hM2 hI2 (by omega) hl2) rfl rfl (Nat.le_of_ble_eq_true rfl) ⟨rfl, rfl⟩ ⟨Nat.zero_le _, Nat.zero_le _⟩ (fun I41 hP41 => ?_)
            refine aw_pop dX1_ringOften_44 rfl ?_
            refine aw_iincN (k := 1) (ls' := [(6, _), (0, _), (1, _), (2, _), (3, _), (4, _), (5, _)]) dX1_ringOften_45 rfl rfl (by decide) rfl ?_
            refine aw_goto (tgt := 34) dX1_ringOften_48 (by decide) ?_
            exact aw_pick [1, 2, 3, 4, 5, 6, 0] rfl (ih2 (q2 + 1) I41 (tickA c) (by omega) (by omega) hP41.1 (hF2.tr hP41.2) hI2.tick L1.tick hA2)
        refine aw_iload dX1_ringOften_6 rfl ?_
        refine aw_iload_n dX1_ringOften_8 rfl ?_
        refine aw_icmp_geN (tgt := 57) dX1_ringOften_9 (by decide) (by omega) (by omega) (fun hc9 => absurd hc9 (by omega)) (fun hc9 => ?_)
        refine aw_aload_n dX1_ringOften_12 rfl ?_
        refine aw_iload_n dX1_ringOften_13 rfl ?_
        refine aw_vRd dX1_ringOften_14 cvX1_91 ⟨Nat.le_of_ble_eq_true rfl, Nat.le_of_ble_eq_true rfl⟩ (by assumption) ⟨_, rfl, rfl⟩ (hbl) rfl rfl (Nat.le_of_ble_eq_true rfl) ⟨rfl, rfl⟩ ⟨Nat.zero_le _, Nat.zero_le _⟩ ?_
        refine aw_if_neN (tgt := 57) dX1_ringOften_17 (by decide) (by omega) (fun hc17 => absurd rfl hc17) (fun hc17 => ?_)
        refine aw_aload_n dX1_ringOften_20 rfl ?_
        refine aw_iload_n dX1_ringOften_21 rfl ?_
        refine aw_vUp dX1_ringOften_22 cvX1_95 ⟨Nat.le_of_ble_eq_true rfl, Nat.le_of_ble_eq_true rfl⟩ (by assumption) ⟨_, rfl, rfl⟩ (c_ring hL hM1 hI1 (by omega) hst hroom) rfl rfl (Nat.le_of_ble_eq_true rfl) ⟨rfl, rfl⟩ ⟨Nat.zero_le _, Nat.zero_le _⟩ (fun I22 hP22 => ?_)
        refine aw_if_eqN (tgt := 31) dX1_ringOften_25 (by decide) (by omega) (fun hc25 => ?_) (fun hc25 => ?_)
        · refine aw_iconst (v := nI 0) dX1_ringOften_31 rfl ?_
          refine aw_istore (ls' := [(6, _), (0, _), (1, _), (2, _), (3, _), (4, _), (5, _)]) dX1_ringOften_32 (by decide) rfl ?_
          first
          | exact aw_pick [1, 2, 3, 4, 5, 6, 0] rfl (inner x (by rw [if_neg (by omega)]; rfl) t 0 I22 (callA b st) rfl (Nat.zero_le _) hP22.1 (hF1.tr hP22.2) hIc hl.call rfl)
          | exact aw_pick [1, 2, 3, 4, 5, 6, 0] rfl (inner (x + 1) (by rw [if_pos (by omega)]) t 0 I22 (callA b st) rfl (Nat.zero_le _) hP22.1 (hF1.tr hP22.2) hIc hl.call rfl)
        · refine aw_iincN (k := 1) (ls' := [(4, _), (0, _), (1, _), (2, _), (3, _), (5, _)]) dX1_ringOften_28 rfl rfl (by decide) rfl ?_
          refine aw_iconst (v := nI 0) dX1_ringOften_31 rfl ?_
          refine aw_istore (ls' := [(6, _), (4, _), (0, _), (1, _), (2, _), (3, _), (5, _)]) dX1_ringOften_32 (by decide) rfl ?_
          first
          | exact aw_pick [2, 3, 4, 5, 1, 6, 0] rfl (inner x (by rw [if_neg (by omega)]; rfl) t 0 I22 (callA b st) rfl (Nat.zero_le _) hP22.1 (hF1.tr hP22.2) hIc hl.call rfl)
          | exact aw_pick [2, 3, 4, 5, 1, 6, 0] rfl (inner (x + 1) (by rw [if_pos (by omega)]) t 0 I22 (callA b st) rfl (Nat.zero_le _) hP22.1 (hF1.tr hP22.2) hIc hl.call rfl)
  refine run_of (ls := [(0, .ref (G.1 h)), (1, .int (nI st)), (2, .int (nI n)), (3, .int (nI t))]) (by decide +kernel) rfl rfl (Nat.le_of_ble_eq_true rfl) ?_
  refine aw_iconst (v := nI 0) dX1_ringOften_0 rfl ?_
  refine aw_istore (ls' := [(4, _), (0, _), (1, _), (2, _), (3, _)]) dX1_ringOften_1 (by decide) rfl ?_
  refine aw_iconst (v := nI 0) dX1_ringOften_3 rfl ?_
  refine aw_istore (ls' := [(5, _), (4, _), (0, _), (1, _), (2, _), (3, _)]) dX1_ringOften_4 (by decide) rfl ?_
  exact aw_pick [2, 3, 4, 5, 1, 0] rfl (loop n 0 I a 0 rfl (Nat.zero_le _) hS FrS.rf hI hl1 rfl (Nat.zero_add _))
theorem lkX2_22 : Cond.methodLink RX2 22 arraycopyName ∈ gT := gT_ix 245 (by decide +kernel) rfl
theorem lkX1_30 : Cond.methodLink RX1 30 arraycopyName ∈ gT := gT_ix 100 (by decide +kernel) rfl
theorem acN : Cond.native arraycopyName ∈ gT := gT_ix 102 (by decide +kernel) rfl
theorem acS : Cond.static arraycopyName ∈ gT := gT_ix 101 (by decide +kernel) rfl
theorem acI : Cond.initialized "java/lang/System" ∈ gT := gT_ix 7 (by decide +kernel) rfl
theorem s_copyFrom {o q : Nat} {t : Rw} (hT : LT K R G o) (hT2 : LT K R G q) (hne : q + 1 < o ∨ o + 1 < q) (hS : SR (I q) (I (q + 1)) t) : Run G YX2_copyFrom [.ref (G.1 o), .ref (G.1 q)] (K, R, I, J, z) (Up K R J z none (fun I' => SR (I' o) (I' (o + 1)) t ∧ I' o 12 = I q 12 ∧ ∀ c, c ≠ o → c ≠ o + 1 → I' c = I c)) := by
  obtain ⟨hk0, hr0, hk1, ho⟩ := hT
  obtain ⟨hj0, hs0, hj1, hp⟩ := hT2
  obtain ⟨s0, s1, ⟨nx, s2, s2a, s2b⟩, s3, s4, s5, s6, s78, s9, s10, s11, s13⟩ := id hS
  have hcq : cpyI I (q + 1) (o + 1) 20 q = I q := by funext j; unfold cpyI; rw [if_neg (by omega)]
  refine run_of (ls := [(0, .ref (G.1 o)), (1, .ref (G.1 q))]) (by decide +kernel) rfl rfl (Nat.le_of_ble_eq_true rfl) ?_
  refine aw_aload_n dX2_copyFrom_0 rfl ?_
  refine aw_getR dX2_copyFrom_1 flX2_9 rfl (by assumption) (by assumption) ?_
  refine aw_iconst (v := nI 0) dX2_copyFrom_4 rfl ?_
  refine aw_aload_n dX2_copyFrom_5 rfl ?_
  refine aw_getR dX2_copyFrom_6 flX2_9 rfl (by assumption) (by assumption) ?_
  refine aw_iconst (v := nI 0) dX2_copyFrom_9 rfl ?_
  refine aw_bipush (v := nI 20) dX2_copyFrom_10 rfl ?_
  refine aw_copy (mm := 20) dX2_copyFrom_12 lkX2_22 acN acS acI hj1 hk1 (by omega) (by omega) (by omega) (by omega) (Nat.le_of_ble_eq_true rfl) (Nat.le_of_ble_eq_true rfl) ?_
  refine aw_aload_n dX2_copyFrom_15 rfl ?_
  refine aw_aload_n dX2_copyFrom_16 rfl ?_
  refine aw_getI dX2_copyFrom_17 flX2_15 rfl (by assumption) (show _ = I q 1 by rw [hcq]) ?_
  refine aw_putI dX2_copyFrom_20 flX2_15 rfl (by intro r hr; cases hr; rfl) (by assumption) (by omega) rfl rfl ?_
  refine aw_aload_n dX2_copyFrom_23 rfl ?_
  refine aw_aload_n dX2_copyFrom_24 rfl ?_
  refine aw_getI dX2_copyFrom_25 flX2_28 rfl (by assumption) (show _ = I q 2 by rw [FrO.up q (by omega), hcq]) ?_
  refine aw_putI dX2_copyFrom_28 flX2_28 rfl (by intro r hr; cases hr; rfl) (by assumption) (by omega) rfl rfl ?_
  refine aw_aload_n dX2_copyFrom_31 rfl ?_
  refine aw_aload_n dX2_copyFrom_32 rfl ?_
  refine aw_getI dX2_copyFrom_33 flX2_19 rfl (by assumption) (show _ = I q 3 by rw [FrO.up q (by omega), FrO.up q (by omega), hcq]) ?_
  refine aw_putI dX2_copyFrom_36 flX2_19 rfl (by intro r hr; cases hr; rfl) (by assumption) (by omega) rfl rfl ?_
  refine aw_aload_n dX2_copyFrom_39 rfl ?_
  refine aw_aload_n dX2_copyFrom_40 rfl ?_
  refine aw_getI dX2_copyFrom_41 flX2_31 rfl (by assumption) (show _ = I q 4 by rw [FrO.up q (by omega), FrO.up q (by omega), FrO.up q (by omega), hcq]) ?_
  refine aw_putI dX2_copyFrom_44 flX2_31 rfl (by intro r hr; cases hr; rfl) (by assumption) (by omega) rfl rfl ?_
  refine aw_aload_n dX2_copyFrom_47 rfl ?_
  refine aw_aload_n dX2_copyFrom_48 rfl ?_
  refine aw_getI dX2_copyFrom_49 flX2_34 rfl (by assumption) (show _ = I q 5 by rw [FrO.up q (by omega), FrO.up q (by omega), FrO.up q (by omega), FrO.up q (by omega), hcq]) ?_
  refine aw_putI dX2_copyFrom_52 flX2_34 rfl (by intro r hr; cases hr; rfl) (by assumption) (by omega) rfl rfl ?_
  refine aw_aload_n dX2_copyFrom_55 rfl ?_
  refine aw_aload_n dX2_copyFrom_56 rfl ?_
  refine aw_getI dX2_copyFrom_57 flX2_37 rfl (by assumption) (show _ = I q 6 by rw [FrO.up q (by omega), FrO.up q (by omega), FrO.up q (by omega), FrO.up q (by omega), FrO.up q (by omega), hcq]) ?_
  refine aw_putI dX2_copyFrom_60 flX2_37 rfl (by intro r hr; cases hr; rfl) (by assumption) (by omega) rfl rfl ?_
  refine aw_aload_n dX2_copyFrom_63 rfl ?_
  refine aw_aload_n dX2_copyFrom_64 rfl ?_
  refine aw_getI dX2_copyFrom_65 flX2_40 rfl (by assumption) (show _ = I q 7 by rw [FrO.up q (by omega), FrO.up q (by omega), FrO.up q (by omega), FrO.up q (by omega), FrO.up q (by omega), FrO.up q (by omega), hcq]) ?_
  refine aw_putI dX2_copyFrom_68 flX2_40 rfl (by intro r hr; cases hr; rfl) (by assumption) (by omega) rfl rfl ?_
  refine aw_aload_n dX2_copyFrom_71 rfl ?_
  refine aw_aload_n dX2_copyFrom_72 rfl ?_
  refine aw_getI dX2_copyFrom_73 flX2_43 rfl (by assumption) (show _ = I q 8 by rw [FrO.up q (by omega), FrO.up q (by omega), FrO.up q (by omega), FrO.up q (by omega), FrO.up q (by omega), FrO.up q (by omega), FrO.up q (by omega), hcq]) ?_
  refine aw_putI dX2_copyFrom_76 flX2_43 rfl (by intro r hr; cases hr; rfl) (by assumption) (by omega) rfl rfl ?_
  refine aw_aload_n dX2_copyFrom_79 rfl ?_
  refine aw_aload_n dX2_copyFrom_80 rfl ?_
  refine aw_getI dX2_copyFrom_81 flX2_46 rfl (by assumption) (show _ = I q 9 by rw [FrO.up q (by omega), FrO.up q (by omega), FrO.up q (by omega), FrO.up q (by omega), FrO.up q (by omega), FrO.up q (by omega), FrO.up q (by omega), FrO.up q (by omega), hcq]) ?_
  refine aw_putI dX2_copyFrom_84 flX2_46 rfl (by intro r hr; cases hr; rfl) (by assumption) (by omega) rfl rfl ?_
  refine aw_aload_n dX2_copyFrom_87 rfl ?_
  refine aw_aload_n dX2_copyFrom_88 rfl ?_
  refine aw_getI dX2_copyFrom_89 flX2_49 rfl (by assumption) (show _ = I q 10 by rw [FrO.up q (by omega), FrO.up q (by omega), FrO.up q (by omega), FrO.up q (by omega), FrO.up q (by omega), FrO.up q (by omega), FrO.up q (by omega), FrO.up q (by omega), FrO.up q (by omega), hcq]) ?_
  refine aw_putI dX2_copyFrom_92 flX2_49 rfl (by intro r hr; cases hr; rfl) (by assumption) (by omega) rfl rfl ?_
  refine aw_aload_n dX2_copyFrom_95 rfl ?_
  refine aw_aload_n dX2_copyFrom_96 rfl ?_
  refine aw_getI dX2_copyFrom_97 flX2_52 rfl (by assumption) (show _ = I q 11 by rw [FrO.up q (by omega), FrO.up q (by omega), FrO.up q (by omega), FrO.up q (by omega), FrO.up q (by omega), FrO.up q (by omega), FrO.up q (by omega), FrO.up q (by omega), FrO.up q (by omega), FrO.up q (by omega), hcq]) ?_
  refine aw_putI dX2_copyFrom_100 flX2_52 rfl (by intro r hr; cases hr; rfl) (by assumption) (by omega) rfl rfl ?_
  refine aw_aload_n dX2_copyFrom_103 rfl ?_
  refine aw_aload_n dX2_copyFrom_104 rfl ?_
  refine aw_getI dX2_copyFrom_105 flX2_55 rfl (by assumption) (show _ = I q 12 by rw [FrO.up q (by omega), FrO.up q (by omega), FrO.up q (by omega), FrO.up q (by omega), FrO.up q (by omega), FrO.up q (by omega), FrO.up q (by omega), FrO.up q (by omega), FrO.up q (by omega), FrO.up q (by omega), FrO.up q (by omega), hcq]) ?_
  refine aw_putI dX2_copyFrom_108 flX2_55 rfl (by intro r hr; cases hr; rfl) (by assumption) (by omega) rfl rfl ?_
  refine aw_aload_n dX2_copyFrom_111 rfl ?_
  refine aw_aload_n dX2_copyFrom_112 rfl ?_
  refine aw_getI dX2_copyFrom_113 flX2_58 rfl (by assumption) (show _ = I q 13 by rw [FrO.up q (by omega), FrO.up q (by omega), FrO.up q (by omega), FrO.up q (by omega), FrO.up q (by omega), FrO.up q (by omega), FrO.up q (by omega), FrO.up q (by omega), FrO.up q (by omega), FrO.up q (by omega), FrO.up q (by omega), FrO.up q (by omega), hcq]) ?_
  refine aw_putI dX2_copyFrom_116 flX2_58 rfl (by intro r hr; cases hr; rfl) (by assumption) (by omega) rfl rfl ?_
  refine aw_vret dX2_copyFrom_119 rfl (Nat.zero_le _) (Nat.zero_le _) ?_
  refine ⟨rfl, _, rfl, ⟨fun j hj => ?_, ?_, ⟨nx, ?_, s2a, s2b⟩, ?_, ?_, ?_, ?_, fun w => ⟨?_, ?_⟩, ?_, ?_, ?_, ?_⟩, ?_, fun c h1 h2 => ?_⟩
  · rw [FrO.up (o + 1) (by omega), FrO.up (o + 1) (by omega), FrO.up (o + 1) (by omega), FrO.up (o + 1) (by omega), FrO.up (o + 1) (by omega), FrO.up (o + 1) (by omega), FrO.up (o + 1) (by omega), FrO.up (o + 1) (by omega), FrO.up (o + 1) (by omega), FrO.up (o + 1) (by omega), FrO.up (o + 1) (by omega), FrO.up (o + 1) (by omega), FrO.up (o + 1) (by omega)]
    unfold cpyI; rw [if_pos ⟨rfl, hj⟩]; exact s0 j hj
  all_goals first
  | (simp only [up2_o]; simp; done)
  | (simp only [up2_o]; simp; first | exact s1 | exact s2 | exact s3 | exact s4 | exact s5 | exact s6 | exact (s78 w).1 | exact (s78 w).2 | exact s9 | exact s10 | exact s11 | exact s13)
  | (rw [FrO.up c h1, FrO.up c h1, FrO.up c h1, FrO.up c h1, FrO.up c h1, FrO.up c h1, FrO.up c h1, FrO.up c h1, FrO.up c h1, FrO.up c h1, FrO.up c h1, FrO.up c h1, FrO.up c h1]
     funext j; unfold cpyI; rw [if_neg (fun e => h2 e.1)])
end CLASS7
