section CLASS16
variable {G : GG} {K : Nat → Option (Nat × Nat)} {R : Nat → Nat → Value} {I : Nat → Nat → Int32} {J : Nat → Nat → Int64} {z : Nat} {σ : Sg} {a : AA} {m k : Nat}
variable {B : List Nat} {hs : List AA} {e1 e2 : String}
theorem X_store (hX : LX G K R) (hS : XS I (a, hs, B)) (hI : IV m k a) (hl1 : L1 a) (hmk : m + k ≤ 800000000) (v : Int32) (w : Int32) : Run G YX3_store [.ref (G.1 0), .int v, .int w] (K, R, I, J, z) (CP K R J z I XI XG (sStore v w (a, hs, B))) := by
  obtain ⟨xk0, xr0, xr1, xr2, xk35, xrs, xr5, xD, xL1, xL18, xLs⟩ := id hX
  have hN : CSt I 1 a := hS.1
  have hH : XH I hs := hS.2.1
  have hB : RDt I B := hS.2.2
  have hk1 : K 1 = some (1, 7) := xL1.1
  have hk36 : K 36 = some (0, 2) := xD.1
  have h16 := hI.2.1
  have hn3 : I 1 3 = nI a.2.1.length := hN.2.2.1
  by_cases hv : inR v 0 3
  rotate_left
  · have hx : sStore v w (a, hs, B) = (1, 0, (a, hs, B)) := by unfold sStore; rw [if_neg hv]
    rw [hx]
    refine run_of (ls := [(0, .ref (G.1 0)), (1, .int v), (2, .int w)]) (by decide +kernel) rfl rfl (Nat.le_of_ble_eq_true rfl) ?_
    refine aw_iload_n dX3_store_0 rfl ?_
    exact aw_sThr dX3_store_1 cvX3_30 ⟨Nat.le_of_ble_eq_true rfl, Nat.le_of_ble_eq_true rfl⟩ rfl rfl (Nat.le_of_ble_eq_true rfl) ⟨Nat.le_of_ble_eq_true rfl, Nat.le_of_ble_eq_true rfl⟩ rfl (q_requireStore0 hv) (fun z' hz => CP.t1 hz)
  obtain ⟨hv1, -, hv3⟩ := inR_nat hv (by decide) (by decide)
  have hst : nv v < 4 := by omega
  have hsI := hI.2.2.2.2.1 _ hst
  by_cases hw : inR w 0 10
  · have hx : sStore v w (a, hs, B) = (0, nI (tellN a (nv v) (nv w)), (a, hs, B)) := by unfold sStore; rw [if_pos hv, if_pos hw]
    rw [hx]
    clear hx
    obtain ⟨hw1, -, hw3⟩ := inR_nat hw (by decide) (by decide)
    obtain ⟨st, hst'⟩ : ∃ st, st = nv v := ⟨_, rfl⟩
    obtain ⟨ww, hww'⟩ : ∃ st, st = nv w := ⟨_, rfl⟩
    rw [← hst'] at hv1 hv3 hst ⊢
    rw [← hww'] at hw1 hw3 ⊢
    subst hv1 hw1
    refine run_of (ls := [(0, .ref (G.1 0)), (1, .int (nI st)), (2, .int (nI ww))]) (by decide +kernel) rfl rfl (Nat.le_of_ble_eq_true rfl) ?_
    refine aw_iload_n dX3_store_0 rfl ?_
    refine aw_sOk dX3_store_1 cvX3_30 ⟨Nat.le_of_ble_eq_true rfl, Nat.le_of_ble_eq_true rfl⟩ rfl rfl (Nat.le_of_ble_eq_true rfl) ⟨Nat.le_of_ble_eq_true rfl, Nat.le_of_ble_eq_true rfl⟩ (q_requireStore1 hv) ?_
    refine aw_iload_n dX3_store_4 rfl ?_
    refine aw_iconst (v := nI 0) dX3_store_5 rfl ?_
    refine aw_bipush (v := nI 10) dX3_store_6 rfl ?_
    refine aw_sOk dX3_store_8 cvX3_52 ⟨Nat.le_of_ble_eq_true rfl, Nat.le_of_ble_eq_true rfl⟩ rfl rfl (Nat.le_of_ble_eq_true rfl) ⟨Nat.le_of_ble_eq_true rfl, Nat.le_of_ble_eq_true rfl⟩ (q_range1 hw) ?_
    refine aw_aload_n dX3_store_11 rfl ?_
    refine aw_getR dX3_store_12 flX3_10 rfl (by assumption) (by assumption) ?_
    refine aw_iload_n dX3_store_15 rfl ?_
    refine aw_iload_n dX3_store_16 rfl ?_
    refine aw_vRd dX3_store_17 cvX3_130 ⟨Nat.le_of_ble_eq_true rfl, Nat.le_of_ble_eq_true rfl⟩ (by assumption) ⟨_, rfl, rfl⟩ (c_numberOf (a := a) xL1 hN hI (by omega) hst hw3) rfl rfl (Nat.le_of_ble_eq_true rfl) ⟨rfl, rfl⟩ ⟨Nat.le_of_ble_eq_true rfl, Nat.le_of_ble_eq_true rfl⟩ ?_
    exact aw_iret dX3_store_20 rfl (Nat.le_of_ble_eq_true rfl) (Nat.le_of_ble_eq_true rfl) (CP.ok ⟨hS, FrC.rf⟩)
  · have hx : sStore v w (a, hs, B) = (2, 0, (a, hs, B)) := by unfold sStore; rw [if_pos hv, if_neg hw]
    rw [hx]
    refine run_of (ls := [(0, .ref (G.1 0)), (1, .int v), (2, .int w)]) (by decide +kernel) rfl rfl (Nat.le_of_ble_eq_true rfl) ?_
    refine aw_iload_n dX3_store_0 rfl ?_
    refine aw_sOk dX3_store_1 cvX3_30 ⟨Nat.le_of_ble_eq_true rfl, Nat.le_of_ble_eq_true rfl⟩ rfl rfl (Nat.le_of_ble_eq_true rfl) ⟨Nat.le_of_ble_eq_true rfl, Nat.le_of_ble_eq_true rfl⟩ (q_requireStore1 hv) ?_
    refine aw_iload_n dX3_store_4 rfl ?_
    refine aw_iconst (v := nI 0) dX3_store_5 rfl ?_
    refine aw_bipush (v := nI 10) dX3_store_6 rfl ?_
    exact aw_sThr dX3_store_8 cvX3_52 ⟨Nat.le_of_ble_eq_true rfl, Nat.le_of_ble_eq_true rfl⟩ rfl rfl (Nat.le_of_ble_eq_true rfl) ⟨Nat.le_of_ble_eq_true rfl, Nat.le_of_ble_eq_true rfl⟩ rfl (q_range0 hw) (fun z' hz => CP.t2 hz)
theorem X_delay (hX : LX G K R) (hS : XS I (a, hs, B)) (hI : IV m k a) (hl1 : L1 a) (hmk : m + k ≤ 800000000) (v : Int32) (p : Int32) : Run G YX3_delay [.ref (G.1 0), .int v, .int p] (K, R, I, J, z) (CP K R J z I XI XG (sDelay v p (a, hs, B))) := by
  obtain ⟨xk0, xr0, xr1, xr2, xk35, xrs, xr5, xD, xL1, xL18, xLs⟩ := id hX
  have hN : CSt I 1 a := hS.1
  have hH : XH I hs := hS.2.1
  have hB : RDt I B := hS.2.2
  have hk1 : K 1 = some (1, 7) := xL1.1
  have hk36 : K 36 = some (0, 2) := xD.1
  have h16 := hI.2.1
  have hn3 : I 1 3 = nI a.2.1.length := hN.2.2.1
  by_cases hv : inR v 0 3
  rotate_left
  · have hx : sDelay v p (a, hs, B) = (1, 0, (a, hs, B)) := by unfold sDelay; rw [if_neg hv]
    rw [hx]
    refine run_of (ls := [(0, .ref (G.1 0)), (1, .int v), (2, .int p)]) (by decide +kernel) rfl rfl (Nat.le_of_ble_eq_true rfl) ?_
    refine aw_iload_n dX3_delay_0 rfl ?_
    exact aw_sThr dX3_delay_1 cvX3_30 ⟨Nat.le_of_ble_eq_true rfl, Nat.le_of_ble_eq_true rfl⟩ rfl rfl (Nat.le_of_ble_eq_true rfl) ⟨Nat.le_of_ble_eq_true rfl, Nat.le_of_ble_eq_true rfl⟩ rfl (q_requireStore0 hv) (fun z' hz => CP.t1 hz)
  obtain ⟨hv1, -, hv3⟩ := inR_nat hv (by decide) (by decide)
  have hst : nv v < 4 := by omega
  have hsI := hI.2.2.2.2.1 _ hst
  have hsr := xL1.2.2.2.1
  have hr10 := xL1.2.1
  have hk2 := xL1.2.2.1
  have xk3 : K 3 = some (10, 5) := xL1.2.2.2.2.2.1
  have xr11 : R 1 1 = .ref (G.1 3) := xL1.2.2.2.2.1
  have xr12 : R 1 2 = .ref (G.1 4) := xL1.2.2.2.2.2.2.1
  have xk4 : K 4 = some (14, 5) := xL1.2.2.2.2.2.2.2.1
  by_cases hw : nI 0 ≤ p
  · have hx : sDelay v p (a, hs, B) = (0, (if nv p < a.2.2 (nv v) 0 then nI (a.2.2 (nv v) (12 + nv p)) else -1), (a, hs, B)) := by unfold sDelay; rw [if_pos hv, if_pos hw]
    rw [hx]
    clear hx
    obtain ⟨hw1, hw2⟩ := nI_nv hw
    obtain ⟨st, hst'⟩ : ∃ st, st = nv v := ⟨_, rfl⟩
    obtain ⟨pp, hpp'⟩ : ∃ st, st = nv p := ⟨_, rfl⟩
    rw [← hst'] at hv1 hv3 hst hsI ⊢
    rw [← hpp'] at hw1 hw2 ⊢
    subst hv1 hw1
    have h20 := hsI.2.1
    have hT := xL1.2.2.2.2.2.2.2.2.2.2.2.2.2.2.2.2.2.2.1 st hst
    have hKo := hT.1
    have hRo := hT.2.1
    have hKr := hT.2.2.1
    have hSR := hN.1.2.2.2.2 st hst
    refine run_of (ls := [(0, .ref (G.1 0)), (1, .int (nI st)), (2, .int (nI pp))]) (by decide +kernel) rfl rfl (Nat.le_of_ble_eq_true rfl) ?_
    refine aw_iload_n dX3_delay_0 rfl ?_
    refine aw_sOk dX3_delay_1 cvX3_30 ⟨Nat.le_of_ble_eq_true rfl, Nat.le_of_ble_eq_true rfl⟩ rfl rfl (Nat.le_of_ble_eq_true rfl) ⟨Nat.le_of_ble_eq_true rfl, Nat.le_of_ble_eq_true rfl⟩ (q_requireStore1 hv) ?_
    refine aw_iload_n dX3_delay_4 rfl ?_
    refine aw_sOk dX3_delay_5 cvX3_134 ⟨Nat.le_of_ble_eq_true rfl, Nat.le_of_ble_eq_true rfl⟩ rfl rfl (Nat.le_of_ble_eq_true rfl) ⟨Nat.le_of_ble_eq_true rfl, Nat.le_of_ble_eq_true rfl⟩ (q_nn1 hw) ?_
    refine aw_aload_n dX3_delay_8 rfl ?_
    refine aw_getR dX3_delay_9 flX3_10 rfl (by assumption) (by assumption) ?_
    refine aw_getR dX3_delay_12 flX3_107 rfl (by assumption) (by assumption) ?_
    refine aw_iload_n dX3_delay_15 rfl ?_
    refine aw_aald dX3_delay_16 (by assumption) (by omega) (by omega) rfl (by omega) (hsr st hst) ?_
    refine aw_astore_n (ls' := [(3, _), (0, _), (1, _), (2, _)]) dX3_delay_17 (by decide) rfl ?_
    refine aw_iload_n dX3_delay_18 rfl ?_
    refine aw_aload_n dX3_delay_19 rfl ?_
    refine aw_getI dX3_delay_20 flX3_137 rfl (by assumption) hSR.2.1 ?_
    refine aw_icmp_geN (tgt := 35) dX3_delay_23 (by decide) (by omega) (by omega) (fun hc23 => ?_) (fun hc23 => ?_)
    · refine aw_iconst (v := (-1)) dX3_delay_35 rfl ?_
      exact aw_iret dX3_delay_36 rfl (Nat.le_of_ble_eq_true rfl) (Nat.le_of_ble_eq_true rfl) (by first | (rw [if_pos hc23]; exact CP.ok ⟨hS, FrC.rf⟩) | (rw [if_neg (by omega)]; exact CP.ok ⟨hS, FrC.rf⟩))
    · refine aw_aload_n dX3_delay_26 rfl ?_
      refine aw_getR dX3_delay_27 flX3_140 rfl (by assumption) (by assumption) ?_
      refine aw_iload_n dX3_delay_30 rfl ?_
      refine aw_iald dX3_delay_31 (by assumption) (by omega) rfl (by omega) (hSR.1 pp (by omega)) ?_
      refine aw_goto (tgt := 36) dX3_delay_32 (by decide) ?_
      exact aw_iret dX3_delay_36 rfl (Nat.le_of_ble_eq_true rfl) (Nat.le_of_ble_eq_true rfl) (by first | (rw [if_pos hc23]; exact CP.ok ⟨hS, FrC.rf⟩) | (rw [if_neg (by omega)]; exact CP.ok ⟨hS, FrC.rf⟩))
  · have hx : sDelay v p (a, hs, B) = (2, 0, (a, hs, B)) := by unfold sDelay; rw [if_pos hv, if_neg hw]
    rw [hx]
    refine run_of (ls := [(0, .ref (G.1 0)), (1, .int v), (2, .int p)]) (by decide +kernel) rfl rfl (Nat.le_of_ble_eq_true rfl) ?_
    refine aw_iload_n dX3_delay_0 rfl ?_
    refine aw_sOk dX3_delay_1 cvX3_30 ⟨Nat.le_of_ble_eq_true rfl, Nat.le_of_ble_eq_true rfl⟩ rfl rfl (Nat.le_of_ble_eq_true rfl) ⟨Nat.le_of_ble_eq_true rfl, Nat.le_of_ble_eq_true rfl⟩ (q_requireStore1 hv) ?_
    refine aw_iload_n dX3_delay_4 rfl ?_
    exact aw_sThr dX3_delay_5 cvX3_134 ⟨Nat.le_of_ble_eq_true rfl, Nat.le_of_ble_eq_true rfl⟩ rfl rfl (Nat.le_of_ble_eq_true rfl) ⟨Nat.le_of_ble_eq_true rfl, Nat.le_of_ble_eq_true rfl⟩ rfl (q_nn0 hw) (fun z' hz => CP.t2 hz)
theorem X_onWay (hX : LX G K R) (hS : XS I (a, hs, B)) (hI : IV m k a) (hl1 : L1 a) (hmk : m + k ≤ 800000000) (p : Int32) (w : Int32) : Run G YX3_onWay [.ref (G.1 0), .int p, .int w] (K, R, I, J, z) (CP K R J z I XG XG (sOnWay p w (a, hs, B))) := by
  obtain ⟨xk0, xr0, xr1, xr2, xk35, xrs, xr5, xD, xL1, xL18, xLs⟩ := id hX
  have hN : CSt I 1 a := hS.1
  have hH : XH I hs := hS.2.1
  have hB : RDt I B := hS.2.2
  have hk1 : K 1 = some (1, 7) := xL1.1
  have hk36 : K 36 = some (0, 2) := xD.1
  have h16 := hI.2.1
  have hn3 : I 1 3 = nI a.2.1.length := hN.2.2.1
  have hsr := xL1.2.2.2.1
  have hr10 := xL1.2.1
  have hk2 := xL1.2.2.1
  have xk3 : K 3 = some (10, 5) := xL1.2.2.2.2.2.1
  have xr11 : R 1 1 = .ref (G.1 3) := xL1.2.2.2.2.1
  have xr12 : R 1 2 = .ref (G.1 4) := xL1.2.2.2.2.2.2.1
  have xk4 : K 4 = some (14, 5) := xL1.2.2.2.2.2.2.2.1
  have hcf := xL1.cf
  by_cases hp : nI 0 ≤ p
  · by_cases hw : inR w 0 3
    · have hx : sOnWay p w (a, hs, B) = (0, (match a.2.1[nv p]? with
        | some c => nI (c (nv w))
        | none => -1), (a, hs, B)) := by unfold sOnWay; exact if_pos ⟨hp, hw⟩
      rw [hx]
      clear hx
      obtain ⟨hw1, -, hw3⟩ := inR_nat hw (by decide) (by decide)
      obtain ⟨hp1, hp2⟩ := nI_nv hp
      obtain ⟨pp, hpp'⟩ : ∃ st, st = nv p := ⟨_, rfl⟩
      obtain ⟨ww, hww'⟩ : ∃ st, st = nv w := ⟨_, rfl⟩
      rw [← hpp'] at hp1 hp2 ⊢
      rw [← hww'] at hw1 hw3 ⊢
      subst hp1 hw1
      rcases hc : a.2.1[pp]? with _ | c
      · have hl := List.getElem?_eq_none_iff.mp hc
        refine run_of (ls := [(0, .ref (G.1 0)), (1, .int (nI pp)), (2, .int (nI ww))]) (by decide +kernel) rfl rfl (Nat.le_of_ble_eq_true rfl) ?_
        refine aw_iload_n dX3_onWay_0 rfl ?_
        refine aw_sOk dX3_onWay_1 cvX3_134 ⟨Nat.le_of_ble_eq_true rfl, Nat.le_of_ble_eq_true rfl⟩ rfl rfl (Nat.le_of_ble_eq_true rfl) ⟨Nat.le_of_ble_eq_true rfl, Nat.le_of_ble_eq_true rfl⟩ (q_nn1 hp) ?_
        refine aw_iload_n dX3_onWay_4 rfl ?_
        refine aw_iconst (v := nI 0) dX3_onWay_5 rfl ?_
        refine aw_iconst (v := nI 3) dX3_onWay_6 rfl ?_
        refine aw_sOk dX3_onWay_7 cvX3_52 ⟨Nat.le_of_ble_eq_true rfl, Nat.le_of_ble_eq_true rfl⟩ rfl rfl (Nat.le_of_ble_eq_true rfl) ⟨Nat.le_of_ble_eq_true rfl, Nat.le_of_ble_eq_true rfl⟩ (q_range1 hw) ?_
        refine aw_iload_n dX3_onWay_10 rfl ?_
        refine aw_aload_n dX3_onWay_11 rfl ?_
        refine aw_getR dX3_onWay_12 flX3_10 rfl (by assumption) (by assumption) ?_
        refine aw_getI dX3_onWay_15 flX3_143 rfl (by assumption) hn3 ?_
        refine aw_icmp_geN (tgt := 35) dX3_onWay_18 (by decide) (by omega) (by omega) (fun hc18 => ?_) (fun hc18 => absurd hc18 (by omega))
        refine aw_iconst (v := (-1)) dX3_onWay_35 rfl ?_
        exact aw_iret dX3_onWay_36 rfl (Nat.le_of_ble_eq_true rfl) (Nat.le_of_ble_eq_true rfl) (CP.ok ⟨hS, FrC.rf⟩)
      · have hl := (List.getElem?_eq_some_iff.mp hc).1
        obtain ⟨hcr, hck⟩ := hcf ww (by omega)
        obtain ⟨a0, a1, a2, a3, a4⟩ := hN.2.1 pp c hc
        have hval : I (1 + 4 + ww) pp = nI (c ww) := by
          rcases (show ww = 0 ∨ ww = 1 ∨ ww = 2 ∨ ww = 3 by omega) with rfl | rfl | rfl | rfl
          · exact a0
          · exact a1
          · exact a2
          · exact a3
        refine run_of (ls := [(0, .ref (G.1 0)), (1, .int (nI pp)), (2, .int (nI ww))]) (by decide +kernel) rfl rfl (Nat.le_of_ble_eq_true rfl) ?_
        refine aw_iload_n dX3_onWay_0 rfl ?_
        refine aw_sOk dX3_onWay_1 cvX3_134 ⟨Nat.le_of_ble_eq_true rfl, Nat.le_of_ble_eq_true rfl⟩ rfl rfl (Nat.le_of_ble_eq_true rfl) ⟨Nat.le_of_ble_eq_true rfl, Nat.le_of_ble_eq_true rfl⟩ (q_nn1 hp) ?_
        refine aw_iload_n dX3_onWay_4 rfl ?_
        refine aw_iconst (v := nI 0) dX3_onWay_5 rfl ?_
        refine aw_iconst (v := nI 3) dX3_onWay_6 rfl ?_
        refine aw_sOk dX3_onWay_7 cvX3_52 ⟨Nat.le_of_ble_eq_true rfl, Nat.le_of_ble_eq_true rfl⟩ rfl rfl (Nat.le_of_ble_eq_true rfl) ⟨Nat.le_of_ble_eq_true rfl, Nat.le_of_ble_eq_true rfl⟩ (q_range1 hw) ?_
        refine aw_iload_n dX3_onWay_10 rfl ?_
        refine aw_aload_n dX3_onWay_11 rfl ?_
        refine aw_getR dX3_onWay_12 flX3_10 rfl (by assumption) (by assumption) ?_
        refine aw_getI dX3_onWay_15 flX3_143 rfl (by assumption) hn3 ?_
        refine aw_icmp_geN (tgt := 35) dX3_onWay_18 (by decide) (by omega) (by omega) (fun hc18 => absurd hc18 (by omega)) (fun hc18 => ?_)
        refine aw_aload_n dX3_onWay_21 rfl ?_
        refine aw_getR dX3_onWay_22 flX3_10 rfl (by assumption) (by assumption) ?_
        refine aw_getR dX3_onWay_25 flX3_146 rfl (by assumption) (by assumption) ?_
        refine aw_iload_n dX3_onWay_28 rfl ?_
        refine aw_aald dX3_onWay_29 (by assumption) (by omega) (by omega) rfl (by omega) hcr ?_
        refine aw_iload_n dX3_onWay_30 rfl ?_
        refine aw_iald dX3_onWay_31 (by assumption) (by omega) rfl (by omega) hval ?_
        refine aw_goto (tgt := 36) dX3_onWay_32 (by decide) ?_
        exact aw_iret dX3_onWay_36 rfl (Nat.le_of_ble_eq_true rfl) (Nat.le_of_ble_eq_true rfl) (CP.ok ⟨hS, FrC.rf⟩)
    · have hx : sOnWay p w (a, hs, B) = (1, 0, (a, hs, B)) := by unfold sOnWay; rw [if_neg (fun q => hw q.2)]
      rw [hx]
      refine run_of (ls := [(0, .ref (G.1 0)), (1, .int p), (2, .int w)]) (by decide +kernel) rfl rfl (Nat.le_of_ble_eq_true rfl) ?_
      refine aw_iload_n dX3_onWay_0 rfl ?_
      refine aw_sOk dX3_onWay_1 cvX3_134 ⟨Nat.le_of_ble_eq_true rfl, Nat.le_of_ble_eq_true rfl⟩ rfl rfl (Nat.le_of_ble_eq_true rfl) ⟨Nat.le_of_ble_eq_true rfl, Nat.le_of_ble_eq_true rfl⟩ (q_nn1 hp) ?_
      refine aw_iload_n dX3_onWay_4 rfl ?_
      refine aw_iconst (v := nI 0) dX3_onWay_5 rfl ?_
      refine aw_iconst (v := nI 3) dX3_onWay_6 rfl ?_
      exact aw_sThr dX3_onWay_7 cvX3_52 ⟨Nat.le_of_ble_eq_true rfl, Nat.le_of_ble_eq_true rfl⟩ rfl rfl (Nat.le_of_ble_eq_true rfl) ⟨Nat.le_of_ble_eq_true rfl, Nat.le_of_ble_eq_true rfl⟩ rfl (q_range0 hw) (fun z' hz => CP.t1 hz)
  · have hx : sOnWay p w (a, hs, B) = (1, 0, (a, hs, B)) := by unfold sOnWay; rw [if_neg (fun q => hp q.1)]
    rw [hx]
    refine run_of (ls := [(0, .ref (G.1 0)), (1, .int p), (2, .int w)]) (by decide +kernel) rfl rfl (Nat.le_of_ble_eq_true rfl) ?_
    refine aw_iload_n dX3_onWay_0 rfl ?_
    exact aw_sThr dX3_onWay_1 cvX3_134 ⟨Nat.le_of_ble_eq_true rfl, Nat.le_of_ble_eq_true rfl⟩ rfl rfl (Nat.le_of_ble_eq_true rfl) ⟨Nat.le_of_ble_eq_true rfl, Nat.le_of_ble_eq_true rfl⟩ rfl (q_nn0 hp) (fun z' hz => CP.t1 hz)
theorem x_counted {w : Nat} (hX : LX G K R) (hS : XS I (a, hs, B)) (hI : IV m k a) (hl1 : L1 a) (hmk : m + k ≤ 800000000) (hw : w ≤ 8) : Run G YX3_counted [.ref (G.1 0), .int (nI w)] (K, R, I, J, z) (Rd (K, R, I, J, z) (.int (nI (cntN a hs.length w)))) := by
  obtain ⟨xk0, xr0, xr1, xr2, xk35, xrs, xr5, xD, xL1, xL18, xLs⟩ := id hX
  have hN : CSt I 1 a := hS.1
  have hH : XH I hs := hS.2.1
  obtain ⟨old, o1, o2, o3, o4, o5⟩ := id hH
  have hk1 : K 1 = some (1, 7) := xL1.1
  have c5 := c_sumOf (J := J) (z := z) (w := 5) xL1 hN hI (by omega) (by decide)
  have c6 := c_sumOf (J := J) (z := z) (w := 6) xL1 hN hI (by omega) (by decide)
  have c7 := c_sumOf (J := J) (z := z) (w := 7) xL1 hN hI (by omega) (by decide)
  rw [sumN_5] at c5
  rw [sumN_6] at c6
  rw [sumN_7 hI] at c7
  rcases (show w = 0 ∨ w = 1 ∨ w = 2 ∨ w = 3 ∨ w = 4 ∨ w = 5 ∨ w = 6 ∨ w = 7 ∨ w = 8 by omega) with rfl | rfl | rfl | rfl | rfl | rfl | rfl | rfl | rfl
  · refine run_of (ls := [(0, .ref (G.1 0)), (1, .int (nI 0))]) (by decide +kernel) rfl rfl (Nat.le_of_ble_eq_true rfl) ?_
    refine aw_iload_n dX3_counted_0 rfl ?_
    refine aw_tableIn (tgt := 48) dX3_counted_1 (by decide) (by decide) rfl (by decide) ?_
    refine aw_aload_n dX3_counted_48 rfl ?_
    refine aw_getR dX3_counted_49 flX3_10 rfl (by assumption) (by assumption) ?_
    refine aw_getI dX3_counted_52 flX3_194 rfl (by assumption) hN.1.2.1 ?_
    exact aw_iret dX3_counted_55 rfl (Nat.zero_le _) (Nat.zero_le _) ⟨rfl, rfl⟩
  · refine run_of (ls := [(0, .ref (G.1 0)), (1, .int (nI 1))]) (by decide +kernel) rfl rfl (Nat.le_of_ble_eq_true rfl) ?_
    refine aw_iload_n dX3_counted_0 rfl ?_
    refine aw_tableIn (tgt := 56) dX3_counted_1 (by decide) (by decide) rfl (by decide) ?_
    refine aw_aload_n dX3_counted_56 rfl ?_
    refine aw_getR dX3_counted_57 flX3_10 rfl (by assumption) (by assumption) ?_
    refine aw_getI dX3_counted_60 flX3_143 rfl (by assumption) hN.2.2.1 ?_
    exact aw_iret dX3_counted_63 rfl (Nat.zero_le _) (Nat.zero_le _) ⟨rfl, rfl⟩
  · refine run_of (ls := [(0, .ref (G.1 0)), (1, .int (nI 2))]) (by decide +kernel) rfl rfl (Nat.le_of_ble_eq_true rfl) ?_
    refine aw_iload_n dX3_counted_0 rfl ?_
    refine aw_tableIn (tgt := 64) dX3_counted_1 (by decide) (by decide) rfl (by decide) ?_
    refine aw_aload_n dX3_counted_64 rfl ?_
    refine aw_getR dX3_counted_65 flX3_10 rfl (by assumption) (by assumption) ?_
    refine aw_iconst (v := nI 5) dX3_counted_68 rfl ?_
    refine aw_vRd dX3_counted_69 cvX3_197 ⟨Nat.le_of_ble_eq_true rfl, Nat.le_of_ble_eq_true rfl⟩ (by assumption) ⟨_, rfl, rfl⟩ (c5) rfl rfl (Nat.le_of_ble_eq_true rfl) ⟨rfl, rfl⟩ ⟨Nat.zero_le _, Nat.zero_le _⟩ ?_
    exact aw_iret dX3_counted_72 rfl (Nat.zero_le _) (Nat.zero_le _) ⟨rfl, rfl⟩
  · refine run_of (ls := [(0, .ref (G.1 0)), (1, .int (nI 3))]) (by decide +kernel) rfl rfl (Nat.le_of_ble_eq_true rfl) ?_
    refine aw_iload_n dX3_counted_0 rfl ?_
    refine aw_tableIn (tgt := 73) dX3_counted_1 (by decide) (by decide) rfl (by decide) ?_
    refine aw_aload_n dX3_counted_73 rfl ?_
    refine aw_getR dX3_counted_74 flX3_10 rfl (by assumption) (by assumption) ?_
    refine aw_bipush (v := nI 6) dX3_counted_77 rfl ?_
    refine aw_vRd dX3_counted_79 cvX3_197 ⟨Nat.le_of_ble_eq_true rfl, Nat.le_of_ble_eq_true rfl⟩ (by assumption) ⟨_, rfl, rfl⟩ (c6) rfl rfl (Nat.le_of_ble_eq_true rfl) ⟨rfl, rfl⟩ ⟨Nat.zero_le _, Nat.zero_le _⟩ ?_
    exact aw_iret dX3_counted_82 rfl (Nat.zero_le _) (Nat.zero_le _) ⟨rfl, rfl⟩
  · refine run_of (ls := [(0, .ref (G.1 0)), (1, .int (nI 4))]) (by decide +kernel) rfl rfl (Nat.le_of_ble_eq_true rfl) ?_
    refine aw_iload_n dX3_counted_0 rfl ?_
    refine aw_tableIn (tgt := 83) dX3_counted_1 (by decide) (by decide) rfl (by decide) ?_
    refine aw_aload_n dX3_counted_83 rfl ?_
    refine aw_getR dX3_counted_84 flX3_10 rfl (by assumption) (by assumption) ?_
    refine aw_bipush (v := nI 7) dX3_counted_87 rfl ?_
    refine aw_vRd dX3_counted_89 cvX3_197 ⟨Nat.le_of_ble_eq_true rfl, Nat.le_of_ble_eq_true rfl⟩ (by assumption) ⟨_, rfl, rfl⟩ (c7) rfl rfl (Nat.le_of_ble_eq_true rfl) ⟨rfl, rfl⟩ ⟨Nat.zero_le _, Nat.zero_le _⟩ ?_
    exact aw_iret dX3_counted_92 rfl (Nat.zero_le _) (Nat.zero_le _) ⟨rfl, rfl⟩
  · refine run_of (ls := [(0, .ref (G.1 0)), (1, .int (nI 5))]) (by decide +kernel) rfl rfl (Nat.le_of_ble_eq_true rfl) ?_
    refine aw_iload_n dX3_counted_0 rfl ?_
    refine aw_tableIn (tgt := 93) dX3_counted_1 (by decide) (by decide) rfl (by decide) ?_
    refine aw_aload_n dX3_counted_93 rfl ?_
    refine aw_getR dX3_counted_94 flX3_10 rfl (by assumption) (by assumption) ?_
    refine aw_getI dX3_counted_97 flX3_200 rfl (by assumption) hN.1.2.2.1 ?_
    exact aw_iret dX3_counted_100 rfl (Nat.zero_le _) (Nat.zero_le _) ⟨rfl, rfl⟩
  · refine run_of (ls := [(0, .ref (G.1 0)), (1, .int (nI 6))]) (by decide +kernel) rfl rfl (Nat.le_of_ble_eq_true rfl) ?_
    refine aw_iload_n dX3_counted_0 rfl ?_
    refine aw_tableIn (tgt := 101) dX3_counted_1 (by decide) (by decide) rfl (by decide) ?_
    refine aw_aload_n dX3_counted_101 rfl ?_
    refine aw_getR dX3_counted_102 flX3_10 rfl (by assumption) (by assumption) ?_
    refine aw_vRd dX3_counted_105 cvX3_203 ⟨Nat.le_of_ble_eq_true rfl, Nat.le_of_ble_eq_true rfl⟩ (by assumption) ⟨_, rfl, rfl⟩ (c_closedBreakers xL1 hN hI (by omega)) rfl rfl (Nat.le_of_ble_eq_true rfl) ⟨rfl, rfl⟩ ⟨Nat.zero_le _, Nat.zero_le _⟩ ?_
    exact aw_iret dX3_counted_108 rfl (Nat.zero_le _) (Nat.zero_le _) ⟨rfl, rfl⟩
  · refine run_of (ls := [(0, .ref (G.1 0)), (1, .int (nI 7))]) (by decide +kernel) rfl rfl (Nat.le_of_ble_eq_true rfl) ?_
    refine aw_iload_n dX3_counted_0 rfl ?_
    refine aw_tableIn (tgt := 109) dX3_counted_1 (by decide) (by decide) rfl (by decide) ?_
    refine aw_aload_n dX3_counted_109 rfl ?_
    refine aw_getR dX3_counted_110 flX3_10 rfl (by assumption) (by assumption) ?_
    refine aw_getI dX3_counted_113 flX3_206 rfl (by assumption) hN.1.2.2.2.1 ?_
    exact aw_iret dX3_counted_116 rfl (Nat.zero_le _) (Nat.zero_le _) ⟨rfl, rfl⟩
  · refine run_of (ls := [(0, .ref (G.1 0)), (1, .int (nI 8))]) (by decide +kernel) rfl rfl (Nat.le_of_ble_eq_true rfl) ?_
    refine aw_iload_n dX3_counted_0 rfl ?_
    refine aw_tableOut (tgt := 117) dX3_counted_1 (by decide) (by decide) ?_
    refine aw_aload_n dX3_counted_117 rfl ?_
    refine aw_getI dX3_counted_118 flX3_117 rfl (by assumption) o3 ?_
    exact aw_iret dX3_counted_121 rfl (Nat.zero_le _) (Nat.zero_le _) ⟨rfl, rfl⟩
theorem X_count (hX : LX G K R) (hS : XS I (a, hs, B)) (hI : IV m k a) (hl1 : L1 a) (hmk : m + k ≤ 800000000) (w : Int32) : Run G YX3_count [.ref (G.1 0), .int w] (K, R, I, J, z) (CP K R J z I XG XG (sCount w (a, hs, B))) := by
  obtain ⟨xk0, xr0, xr1, xr2, xk35, xrs, xr5, xD, xL1, xL18, xLs⟩ := id hX
  have hN : CSt I 1 a := hS.1
  have hH : XH I hs := hS.2.1
  have hB : RDt I B := hS.2.2
  have hk1 : K 1 = some (1, 7) := xL1.1
  have hk36 : K 36 = some (0, 2) := xD.1
  have h16 := hI.2.1
  have hn3 : I 1 3 = nI a.2.1.length := hN.2.2.1
  by_cases hv : inR w 0 8
  rotate_left
  · have hx : sCount w (a, hs, B) = (1, 0, (a, hs, B)) := by unfold sCount; rw [if_neg hv]
    rw [hx]
    refine run_of (ls := [(0, .ref (G.1 0)), (1, .int w)]) (by decide +kernel) rfl rfl (Nat.le_of_ble_eq_true rfl) ?_
    refine aw_iload_n dX3_count_0 rfl ?_
    refine aw_iconst (v := nI 0) dX3_count_1 rfl ?_
    refine aw_bipush (v := nI 8) dX3_count_2 rfl ?_
    exact aw_sThr dX3_count_4 cvX3_52 ⟨Nat.le_of_ble_eq_true rfl, Nat.le_of_ble_eq_true rfl⟩ rfl rfl (Nat.le_of_ble_eq_true rfl) ⟨Nat.le_of_ble_eq_true rfl, Nat.le_of_ble_eq_true rfl⟩ rfl (q_range0 hv) (fun z' hz => CP.t1 hz)
  have hx : sCount w (a, hs, B) = (0, nI (cntN a hs.length (nv w)), (a, hs, B)) := by unfold sCount; rw [if_pos hv]
  rw [hx]
  clear hx
  obtain ⟨hw1, -, hw3⟩ := inR_nat hv (by decide) (by decide)
  obtain ⟨ww, hww'⟩ : ∃ st, st = nv w := ⟨_, rfl⟩
  rw [← hww'] at hw1 hw3 ⊢
  subst hw1
  refine run_of (ls := [(0, .ref (G.1 0)), (1, .int (nI ww))]) (by decide +kernel) rfl rfl (Nat.le_of_ble_eq_true rfl) ?_
  refine aw_iload_n dX3_count_0 rfl ?_
  refine aw_iconst (v := nI 0) dX3_count_1 rfl ?_
  refine aw_bipush (v := nI 8) dX3_count_2 rfl ?_
  refine aw_sOk dX3_count_4 cvX3_52 ⟨Nat.le_of_ble_eq_true rfl, Nat.le_of_ble_eq_true rfl⟩ rfl rfl (Nat.le_of_ble_eq_true rfl) ⟨Nat.le_of_ble_eq_true rfl, Nat.le_of_ble_eq_true rfl⟩ (q_range1 hv) ?_
  refine aw_aload_n dX3_count_7 rfl ?_
  refine aw_iload_n dX3_count_8 rfl ?_
  refine aw_vRd dX3_count_9 cvX3_150 ⟨Nat.le_of_ble_eq_true rfl, Nat.le_of_ble_eq_true rfl⟩ (by assumption) ⟨_, rfl, rfl⟩ (x_counted hX hS hI hl1 hmk hw3) rfl rfl (Nat.le_of_ble_eq_true rfl) ⟨rfl, rfl⟩ ⟨Nat.le_of_ble_eq_true rfl, Nat.le_of_ble_eq_true rfl⟩ ?_
  exact aw_iret dX3_count_12 rfl (Nat.le_of_ble_eq_true rfl) (Nat.le_of_ble_eq_true rfl) (CP.ok ⟨hS, FrC.rf⟩)
theorem X_setting (hX : LX G K R) (hS : XS I (a, hs, B)) (hI : IV m k a) (hl1 : L1 a) (hmk : m + k ≤ 800000000) (w : Int32) : Run G YX3_setting [.ref (G.1 0), .int w] (K, R, I, J, z) (CP K R J z I XI XI (sSetting w (a, hs, B))) := by
  obtain ⟨xk0, xr0, xr1, xr2, xk35, xrs, xr5, xD, xL1, xL18, xLs⟩ := id hX
  have hN : CSt I 1 a := hS.1
  have hH : XH I hs := hS.2.1
  have hB : RDt I B := hS.2.2
  have hk1 : K 1 = some (1, 7) := xL1.1
  have hk36 : K 36 = some (0, 2) := xD.1
  have h16 := hI.2.1
  have hn3 : I 1 3 = nI a.2.1.length := hN.2.2.1
  by_cases hv : inR w 0 4
  rotate_left
  · have hx : sSetting w (a, hs, B) = (1, 0, (a, hs, B)) := by unfold sSetting; rw [if_neg hv]
    rw [hx]
    refine run_of (ls := [(0, .ref (G.1 0)), (1, .int w)]) (by decide +kernel) rfl rfl (Nat.le_of_ble_eq_true rfl) ?_
    refine aw_iload_n dX3_setting_0 rfl ?_
    exact aw_sThr dX3_setting_1 cvX3_71 ⟨Nat.le_of_ble_eq_true rfl, Nat.le_of_ble_eq_true rfl⟩ rfl rfl (Nat.le_of_ble_eq_true rfl) ⟨Nat.le_of_ble_eq_true rfl, Nat.le_of_ble_eq_true rfl⟩ rfl (q_requireSetting0 hv) (fun z' hz => CP.t1 hz)
  have hsr := xL1.2.2.2.1
  have hr10 := xL1.2.1
  have hk2 := xL1.2.2.1
  have xk3 : K 3 = some (10, 5) := xL1.2.2.2.2.2.1
  have xr11 : R 1 1 = .ref (G.1 3) := xL1.2.2.2.2.1
  have xr12 : R 1 2 = .ref (G.1 4) := xL1.2.2.2.2.2.2.1
  have xk4 : K 4 = some (14, 5) := xL1.2.2.2.2.2.2.2.1
  have hx : sSetting w (a, hs, B) = (0, nI (a.1 (nv w)), (a, hs, B)) := by unfold sSetting; rw [if_pos hv]
  rw [hx]
  clear hx
  obtain ⟨hw1, -, hw3⟩ := inR_nat hv (by decide) (by decide)
  obtain ⟨ww, hww'⟩ : ∃ st, st = nv w := ⟨_, rfl⟩
  rw [← hww'] at hw1 hw3 ⊢
  subst hw1
  refine run_of (ls := [(0, .ref (G.1 0)), (1, .int (nI ww))]) (by decide +kernel) rfl rfl (Nat.le_of_ble_eq_true rfl) ?_
  refine aw_iload_n dX3_setting_0 rfl ?_
  refine aw_sOk dX3_setting_1 cvX3_71 ⟨Nat.le_of_ble_eq_true rfl, Nat.le_of_ble_eq_true rfl⟩ rfl rfl (Nat.le_of_ble_eq_true rfl) ⟨Nat.le_of_ble_eq_true rfl, Nat.le_of_ble_eq_true rfl⟩ (q_requireSetting1 hv) ?_
  refine aw_aload_n dX3_setting_4 rfl ?_
  refine aw_getR dX3_setting_5 flX3_10 rfl (by assumption) (by assumption) ?_
  refine aw_getR dX3_setting_8 flX3_81 rfl (by assumption) (by assumption) ?_
  refine aw_iload_n dX3_setting_11 rfl ?_
  refine aw_iald dX3_setting_12 (by assumption) (by omega) rfl (by omega) (hN.1.1 ww (by omega)) ?_
  exact aw_iret dX3_setting_13 rfl (Nat.le_of_ble_eq_true rfl) (Nat.le_of_ble_eq_true rfl) (CP.ok ⟨hS, FrC.rf⟩)
theorem X_healthiest (hX : LX G K R) (hS : XS I (a, hs, B)) (hI : IV m k a) (hl1 : L1 a) (hmk : m + k ≤ 800000000) : Run G YX3_healthiest [.ref (G.1 0)] (K, R, I, J, z) (CP K R J z I XT XT (sHealthiest  (a, hs, B))) := by
  obtain ⟨xk0, xr0, xr1, xr2, xk35, xrs, xr5, xD, xL1, xL18, xLs⟩ := id hX
  have hN : CSt I 1 a := hS.1
  have hH : XH I hs := hS.2.1
  have hB : RDt I B := hS.2.2
  have hk1 : K 1 = some (1, 7) := xL1.1
  have hk36 : K 36 = some (0, 2) := xD.1
  have h16 := hI.2.1
  have hn3 : I 1 3 = nI a.2.1.length := hN.2.2.1
  refine run_of (ls := [(0, .ref (G.1 0))]) (by decide +kernel) rfl rfl (Nat.le_of_ble_eq_true rfl) ?_
  refine aw_aload_n dX3_healthiest_0 rfl ?_
  refine aw_getR dX3_healthiest_1 flX3_10 rfl (by assumption) (by assumption) ?_
  refine aw_vRd dX3_healthiest_4 cvX3_64 ⟨Nat.le_of_ble_eq_true rfl, Nat.le_of_ble_eq_true rfl⟩ (by assumption) ⟨_, rfl, rfl⟩ (c_healthiestStore (a := a) xL1 hN hI (by omega)) rfl rfl (Nat.le_of_ble_eq_true rfl) ⟨rfl, rfl⟩ ⟨Nat.le_of_ble_eq_true rfl, Nat.le_of_ble_eq_true rfl⟩ ?_
  exact aw_iret dX3_healthiest_7 rfl (Nat.le_of_ble_eq_true rfl) (Nat.le_of_ble_eq_true rfl) (CP.ok ⟨hS, FrC.rf⟩)
end CLASS16
