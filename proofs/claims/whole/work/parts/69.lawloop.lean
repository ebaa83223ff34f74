/-! THE LAW: its loop -/
theorem LX.fr {G : GG} {K K' : Nat → Option (Nat × Nat)} {R R' : Nat → Nat → Value} (h : LX G K R) (f : ∀ q, q < 140 → K' q = K q ∧ R' q = R q) : LX G K' R' := by
  obtain ⟨h1, h2, h3, h4, h5, h6, h7, ⟨h8, h9, h10⟩, h11, h12, h13⟩ := h
  refine ⟨by rw [(f 0 (by decide)).1]; exact h1, by rw [(f 0 (by decide)).2]; exact h2, by rw [(f 0 (by decide)).2]; exact h3, by rw [(f 0 (by decide)).2]; exact h4, by rw [(f 35 (by decide)).1]; exact h5, by rw [(f 35 (by decide)).2]; exact h6, by rw [(f 0 (by decide)).2]; exact h7,
    ⟨by rw [(f 36 (by decide)).1]; exact h8, by rw [(f 36 (by decide)).2]; exact h9, by rw [(f 37 (by decide)).1]; exact h10⟩, h11.fr (fun q a b => f q (by omega)), h12.fr (fun q a b => f q (by omega)), fun i hi => (h13 i hi).fr (fun q a b => f q (by omega))⟩
theorem LM.fr {G : GG} {K K' : Nat → Option (Nat × Nat)} {R R' : Nat → Nat → Value} (h : LM G K R) (f : ∀ q, 140 ≤ q → q < 146 → K' q = K q ∧ R' q = R q) : LM G K' R' := by
  obtain ⟨h1, h2, h3, h4, h5, h6, h7, h8, h9, h10, h11⟩ := h
  have f0 := f 140 (by decide) (by decide)
  exact ⟨by rw [f0.1]; exact h1, by rw [f0.2]; exact h2, by rw [(f 141 (by decide) (by decide)).1]; exact h3, by rw [f0.2]; exact h4, by rw [(f 142 (by decide) (by decide)).1]; exact h5, by rw [f0.2]; exact h6, by rw [(f 143 (by decide) (by decide)).1]; exact h7, by rw [f0.2]; exact h8, by rw [(f 144 (by decide) (by decide)).1]; exact h9, by rw [f0.2]; exact h10, by rw [(f 145 (by decide) (by decide)).1]; exact h11⟩
theorem GI_0 : GI (50 * 0) 0 (a0, [], []) := by
  have hr : RK (g0 6 + g0 7 + 0) row0 := by
    refine ⟨by decide, by decide, by decide, by decide, by decide, by decide, by decide, by decide, by decide, by decide, by decide, by decide, fun j hj => ?_⟩
    unfold row0
    split
    · decide
    · split <;> decide
  refine ⟨⟨⟨⟨by decide, by decide, by decide, by decide, by decide⟩, by decide, fun c hc => (by cases hc), fun st => (by show 0 ≤ 1; decide), fun st hst => hr, by decide, by decide⟩, fun c hc => (by cases hc), fun c hc => by cases hc⟩, fun x hx => by cases hx⟩
section LAWL
variable {G : GG} {K : Nat → Option (Nat × Nat)} {R : Nat → Nat → Value} {I : Nat → Nat → Int32} {J : Nat → Nat → Int64} {z : Nat} {s : ST}
variable {nm : String} {tb : List (Nat × Nat × Nat × Nat)} {Z : ZT} {L t cu su : Nat} {xs : Nat → Int32}
theorem turn_iff {L i : Nat} (hL : L ≤ 2560) (hi : i ≤ 2560) : nI L - nI 5 < nI i ↔ ¬ i + 5 ≤ L := by
  rw [Int32.lt_iff_toInt_lt, pk_sub_toInt (by omega) (by decide), nI_toInt (by omega)]
  omega

theorem law_turn (hLm : L ≤ 2560) (hfin : ∀ (ls : List (Nat × Value)) (σ : Sg) (cu su : Nat), cu ≤ 601024 → su ≤ 7293034 → AW G (YLw nm tb) Z 1217 ls [.int (nI 1)] σ cu su) (ht : t ≤ 511) (nx : LH G (YLw nm tb) Z K R L xs (t + 1)) : LH G (YLw nm tb) Z K R L xs t := by
  intro I J z s cu su h0 hX hM hG hc hs
  have hK : K 1000 = some (10, L) := h0.2.2.2.1
  by_cases h5 : 5 * t + 5 ≤ L
  · refine aw_iload dL_law_23 rfl ?_
    refine aw_aload_n dL_law_25 rfl ?_
    refine aw_alen dL_law_26 (by assumption) (by omega) ?_
    refine aw_iconst (v := nI 5) dL_law_27 rfl ?_
    refine aw_isub dL_law_28 ?_
    refine aw_icmp_gt (tgt := 1216) dL_law_29 (by decide) (fun hc29 => absurd h5 ((turn_iff hLm (by omega)).mp hc29)) (fun hc29 => ?_)
    refine aw_aload_n dL_law_32 rfl ?_
    refine aw_iload dL_law_33 rfl ?_
    refine aw_iald dL_law_35 (by assumption) (by omega) rfl (by omega) rfl ?_
    refine aw_bipush (v := nI 31) dL_law_36 rfl ?_
    refine aw_iand dL_law_38 ?_
    obtain ⟨j, hj, ej⟩ := and31 (I 1000 (5 * t))
    have ej : I 1000 (5 * t) &&& nI 31 = nI j := ej
    rw [ej]
    refine aw_pick [0, 1, 2, 3, 4] (ls' := LLs G t) rfl ?_
    by_cases h21 : j < 21
    · match j, h21 with
      | 0, _ => exact aw_tableIn (tgt := 136) dL_law_39 (by decide) (by decide) rfl (by decide) (law_call h0 hX hM hG hc hs (by omega) h5 hLm nx)
      | 1, _ => exact aw_tableIn (tgt := 192) dL_law_39 (by decide) (by decide) rfl (by decide) (law_callOften h0 hX hM hG hc hs (by omega) h5 hLm nx)
      | 2, _ => exact aw_tableIn (tgt := 272) dL_law_39 (by decide) (by decide) rfl (by decide) (law_callHealthiest h0 hX hM hG hc hs (by omega) h5 hLm nx)
      | 3, _ => exact aw_tableIn (tgt := 316) dL_law_39 (by decide) (by decide) rfl (by decide) (law_close h0 hX hM hG hc hs (by omega) h5 hLm nx)
      | 4, _ => exact aw_tableIn (tgt := 372) dL_law_39 (by decide) (by decide) rfl (by decide) (law_set h0 hX hM hG hc hs (by omega) h5 hLm nx)
      | 5, _ => exact aw_tableIn (tgt := 440) dL_law_39 (by decide) (by decide) rfl (by decide) (law_pass h0 hX hM hG hc hs (by omega) h5 hLm nx)
      | 6, _ => exact aw_tableIn (tgt := 496) dL_law_39 (by decide) (by decide) rfl (by decide) (law_append h0 hX hM hG hc hs (by omega) h5 hLm nx)
      | 7, _ => exact aw_tableIn (tgt := 552) dL_law_39 (by decide) (by decide) rfl (by decide) (law_clearBuffer h0 hX hM hG hc hs (by omega) h5 hLm nx)
      | 8, _ => exact aw_tableIn (tgt := 565) dL_law_39 (by decide) (by decide) rfl (by decide) (law_firstError h0 hX hM hG hc hs (by omega) h5 hLm nx)
      | 9, _ => exact aw_tableIn (tgt := 578) dL_law_39 (by decide) (by decide) rfl (by decide) (law_delays h0 hX hM hG hc hs (by omega) h5 hLm nx)
      | 10, _ => exact aw_tableIn (tgt := 634) dL_law_39 (by decide) (by decide) rfl (by decide) (law_undo h0 hX hM hG hc hs (by omega) h5 hLm nx)
      | 11, _ => exact aw_tableIn (tgt := 678) dL_law_39 (by decide) (by decide) rfl (by decide) (law_store h0 hX hM hG hc hs (by omega) h5 hLm nx)
      | 12, _ => exact aw_tableIn (tgt := 746) dL_law_39 (by decide) (by decide) rfl (by decide) (law_delay h0 hX hM hG hc hs (by omega) h5 hLm nx)
      | 13, _ => exact aw_tableIn (tgt := 814) dL_law_39 (by decide) (by decide) rfl (by decide) (law_onWay h0 hX hM hG hc hs (by omega) h5 hLm nx)
      | 14, _ => exact aw_tableIn (tgt := 882) dL_law_39 (by decide) (by decide) rfl (by decide) (law_count h0 hX hM hG hc hs (by omega) h5 hLm nx)
      | 15, _ => exact aw_tableIn (tgt := 938) dL_law_39 (by decide) (by decide) rfl (by decide) (law_setting h0 hX hM hG hc hs (by omega) h5 hLm nx)
      | 16, _ => exact aw_tableIn (tgt := 994) dL_law_39 (by decide) (by decide) rfl (by decide) (law_ifCalled h0 hX hM hG hc hs (by omega) h5 hLm nx)
      | 17, _ => exact aw_tableIn (tgt := 1086) dL_law_39 (by decide) (by decide) rfl (by decide) (law_freeIn h0 hX hM hG hc hs (by omega) h5 hLm nx)
      | 18, _ => exact aw_tableIn (tgt := 1142) dL_law_39 (by decide) (by decide) rfl (by decide) (law_healthiest h0 hX hM hG hc hs (by omega) h5 hLm nx)
      | 19, _ => exact aw_tableIn (tgt := 1155) dL_law_39 (by decide) (by decide) rfl (by decide) (law_health h0 hX hM hG hc hs (by omega) h5 hLm nx)
      | 20, _ => exact aw_tableIn (tgt := 1196) dL_law_39 (by decide) (by decide) rfl (by decide) (law_digest h0 hX hM hG hc hs (by omega) h5 hLm nx)
      | n + 21, h => exact absurd h (by omega)
    · refine aw_tableOut (tgt := 1210) dL_law_39 (Or.inr (by rw [nI_toInt (by omega)]; omega)) (by decide) ?_
      refine aw_iincN (k := 5) (ls' := [(4, _), (0, _), (1, _), (2, _), (3, _)]) dL_law_1210 rfl rfl (Nat.le_of_ble_eq_true rfl) rfl ?_
      refine aw_goto (tgt := 23) dL_law_1213 (by decide) ?_
      have e0 := nx I J z s cu su h0 hX hM (hG.mono (by omega) (by omega)) (by omega) (by omega)
      rw [LLs_s] at e0
      exact aw_pick [1, 2, 3, 4, 0] rfl e0
  · refine aw_iload dL_law_23 rfl ?_
    refine aw_aload_n dL_law_25 rfl ?_
    refine aw_alen dL_law_26 (by assumption) (by omega) ?_
    refine aw_iconst (v := nI 5) dL_law_27 rfl ?_
    refine aw_isub dL_law_28 ?_
    refine aw_icmp_gt (tgt := 1216) dL_law_29 (by decide) (fun hc29 => ?_) (fun hc29 => absurd ((turn_iff hLm (by omega)).mpr h5) hc29)
    refine aw_iconst (v := nI 1) dL_law_1216 rfl ?_
    exact hfin _ _ _ _ (by omega) (by omega)
theorem law_loop (hLm : L ≤ 2560) (hfin : ∀ (ls : List (Nat × Value)) (σ : Sg) (cu su : Nat), cu ≤ 601024 → su ≤ 7293034 → AW G (YLw nm tb) Z 1217 ls [.int (nI 1)] σ cu su) : ∀ (d t : Nat), 512 - t = d → t ≤ 512 → LH G (YLw nm tb) Z K R L xs t := by
  intro d
  induction d with
  | zero =>
    intro t hd ht I J z s cu su h0 hX hM hG hc hs
    have hK : K 1000 = some (10, L) := h0.2.2.2.1
    have htt : t = 512 := by omega
    have h5 : ¬ 5 * t + 5 ≤ L := by omega
    refine aw_iload dL_law_23 rfl ?_
    refine aw_aload_n dL_law_25 rfl ?_
    refine aw_alen dL_law_26 (by assumption) (by omega) ?_
    refine aw_iconst (v := nI 5) dL_law_27 rfl ?_
    refine aw_isub dL_law_28 ?_
    refine aw_icmp_gt (tgt := 1216) dL_law_29 (by decide) (fun hc29 => ?_) (fun hc29 => absurd ((turn_iff hLm (by omega)).mpr h5) hc29)
    refine aw_iconst (v := nI 1) dL_law_1216 rfl ?_
    exact hfin _ _ _ _ (by omega) (by omega)
  | succ d ih =>
    intro t hd ht
    exact law_turn hLm hfin (by omega) (ih (t + 1) (by omega) (by omega))
theorem law_entry (hLm : L ≤ 2560) (hfin : ∀ (ls : List (Nat × Value)) (σ : Sg) (cu su : Nat), cu ≤ 601024 → su ≤ 7293034 → AW G (YLw nm tb) Z 1217 ls [.int (nI 1)] σ cu su) (hK : K 1000 = some (10, L)) (hxs : ∀ j, j < L → I 1000 j = xs j) (hA : K 1001 = some (10, 5)) (hA2 : ∀ i, i < 5 → I 1001 i = nI (g0 i)) (hC : SC K I) : AW G (YLw nm tb) Z 0 [(0, .ref (G.1 1000))] [] (K, R, I, J, 0) 0 0 := by
  refine aw_new (c := 3) dL_law_0 rfl (show Cond.classLink RL 8 RX3 ∈ gT from gT_ix 56 (by decide +kernel) rfl) (gT_ix 57 (by decide +kernel) rfl) (gT_ix 39 (by decide +kernel) rfl) (by decide) (Nat.le_of_ble_eq_true rfl) (Nat.le_of_ble_eq_true rfl) ?_
  refine aw_dup dL_law_3 rfl ?_
  refine aw_invI (o := 0) dL_law_4 cvL_68 ⟨Nat.le_of_ble_eq_true rfl, Nat.le_of_ble_eq_true rfl⟩ (As := []) rfl rfl (Nat.le_of_ble_eq_true rfl) ⟨Nat.le_of_ble_eq_true rfl, Nat.le_of_ble_eq_true rfl⟩ (i_obj upK_s (fun j => zr_s) (by rw [upK_n (by decide)]; exact hA) (fun i hi => by rw [zr_n (by decide)]; exact hA2 i hi)) (fun E σ' q => by cases q.1) (fun r σ' q => ?_)
  obtain ⟨K1, R1, I1, J1, z1⟩ := σ'
  obtain ⟨q1, hLX, hXS, hS1, hz1⟩ := q
  cases q1
  have hz1 : z1 = 140 := hz1
  subst hz1
  have f1 : ∀ q, 140 ≤ q → K1 q = K q ∧ I1 q = I q := fun q hq => by
    obtain ⟨w1, w2, w3, w4⟩ := hS1 q (Or.inr hq)
    exact ⟨w1.trans (upK_n (by omega)), w3.trans (zr_n (by omega))⟩
  refine aw_astore_n (ls' := [(1, _), (0, _)]) dL_law_7 (Nat.le_of_ble_eq_true rfl) rfl ?_
  refine aw_new (c := 4) dL_law_8 rfl (show Cond.classLink RL 69 RX4 ∈ gT from gT_ix 682 (by decide +kernel) rfl) (gT_ix 683 (by decide +kernel) rfl) (gT_ix 44 (by decide +kernel) rfl) (by decide) (Nat.le_of_ble_eq_true rfl) (Nat.le_of_ble_eq_true rfl) ?_
  refine aw_dup dL_law_11 rfl ?_
  refine aw_invI (o := 140) dL_law_12 cvL_71 ⟨Nat.le_of_ble_eq_true rfl, Nat.le_of_ble_eq_true rfl⟩ (As := []) rfl rfl (Nat.le_of_ble_eq_true rfl) ⟨Nat.le_of_ble_eq_true rfl, Nat.le_of_ble_eq_true rfl⟩ (i_model upK_s (fun j => zr_s)) (fun E σ' q => by cases q.1) (fun r σ' q => ?_)
  obtain ⟨K2, R2, I2, J2, z2⟩ := σ'
  obtain ⟨q1, hLM, hMS, hS2, hz2⟩ := q
  cases q1
  have hz2 : z2 = 146 := hz2
  subst hz2
  have g1 : ∀ q, q < 140 → K2 q = K1 q ∧ R2 q = R1 q ∧ I2 q = I1 q := fun q hq => by
    obtain ⟨w1, w2, w3, w4⟩ := hS2 q (Or.inl hq)
    exact ⟨w1.trans (upK_n (by omega)), w2.trans (zr_n (by omega)), w3.trans (zr_n (by omega))⟩
  have g2 : ∀ q, 146 ≤ q → K2 q = K q ∧ I2 q = I q := fun q hq => by
    obtain ⟨w1, w2, w3, w4⟩ := hS2 q (Or.inr hq)
    exact ⟨(w1.trans (upK_n (by omega))).trans (f1 q (by omega)).1, (w3.trans (zr_n (by omega))).trans (f1 q (by omega)).2⟩
  refine aw_astore_n (ls' := [(2, _), (1, _), (0, _)]) dL_law_15 (Nat.le_of_ble_eq_true rfl) rfl ?_
  refine aw_iconst (v := nI 1) dL_law_16 rfl ?_
  refine aw_newaL (N := 1) dL_law_17 (gT_ix 963 (by decide +kernel) rfl) (by decide) (by decide) (Nat.le_of_ble_eq_true rfl) (Nat.le_of_ble_eq_true rfl) ?_
  refine aw_astore_n (ls' := [(3, _), (2, _), (1, _), (0, _)]) dL_law_19 (Nat.le_of_ble_eq_true rfl) rfl ?_
  refine aw_iconst (v := nI 0) dL_law_20 rfl ?_
  refine aw_istore (ls' := [(4, _), (3, _), (2, _), (1, _), (0, _)]) dL_law_21 (Nat.le_of_ble_eq_true rfl) rfl ?_
  have e1 : ∀ q, 147 ≤ q → zr I2 146 0 q = I q := fun q hq => (zr_n (by omega)).trans (g2 q (by omega)).2
  have k1 : ∀ q, 147 ≤ q → upK K2 146 (11, 1) q = K q := fun q hq => (upK_n (by omega)).trans (g2 q (by omega)).1
  have h0 : IV0 G (upK K2 146 (11, 1)) (zr R2 146 .null) L xs (zr I2 146 0) := by
    refine ⟨hLX.fr (fun q hq => ⟨(upK_n (by omega)).trans (g1 q hq).1, (zr_n (by omega)).trans (g1 q hq).2.1⟩), hLM.fr (fun q a b => ⟨upK_n (by omega), zr_n (by omega)⟩), upK_s, by rw [k1 1000 (by decide)]; exact hK, ⟨by rw [k1 1002 (by decide)]; exact hC.1, by rw [e1 1002 (by decide)]; exact hC.2.1, by rw [k1 1003 (by decide)]; exact hC.2.2.1, by rw [e1 1003 (by decide)]; exact hC.2.2.2⟩, by rw [e1 1000 (by decide)]; exact hxs⟩
  have hX0 : XS (zr I2 146 0) (a0, [], []) := hXS.keep (fun q hq => (zr_n (by omega)).trans (g1 q hq).2.2)
  have hM0 : MS (zr I2 146 0) (a0, [], []) := hMS.keep (fun q a b => zr_n (by omega))
  exact aw_pick [4, 3, 2, 1, 0] rfl (law_loop hLm hfin 512 0 rfl (by decide) (zr I2 146 0) _ _ (a0, [], []) _ _ h0 hX0 hM0 GI_0 (Nat.le_of_ble_eq_true rfl) (Nat.le_of_ble_eq_true rfl))
end LAWL
