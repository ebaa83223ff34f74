/-! THE CLASS'S FACE: looks, what would be -/
theorem outR_7 {g : Nat → Nat} {d tr since : Nat} {t : Rw} : outR g d tr since t 7 = t 7 := by
  unfold outR winR
  split
  · split <;> rfl
  · split
    · split <;> rfl
    · rfl
theorem ansG_7 : ∀ (L : List Cl) (x : (Nat → Nat) × (Nat → Rw)) (s : Nat), (ansG L x).2 s 7 = x.2 s 7
  | [], _, _ => rfl
  | c :: cs, x, s => by
    unfold ansG
    split
    · rw [ansG_7 cs _ s]
      show sT x.2 (c 0) _ s 7 = _
      by_cases e : s = c 0
      · rw [e, sT_s]; exact outR_7
      · rw [sT_n e]
    · exact ansG_7 cs x s
theorem tick_7 {a : AA} {s : Nat} : (tickA a).2.2 s 7 = a.2.2 s 7 := by
  rw [tickA_eq]
  show waitF 4 _ s 7 = _
  unfold waitF waitR
  split
  · split
    · show (ansG _ _).2 s 7 = _; exact ansG_7 _ _ _
    · exact ansG_7 _ _ _
  · exact ansG_7 _ _ _
theorem ticks_7 : ∀ (n : Nat) {a : AA} {s : Nat}, (ticksA n a).2.2 s 7 = a.2.2 s 7
  | 0, _, _ => rfl
  | n + 1, a, s => by rw [ticksA, ticks_7 n, tick_7]
theorem call_7 {a : AA} {st : Nat} : (callA a st).2.2 st 7 = a.2.2 st 7 + (if 0 < callN a st then 1 else 0) := by
  cases hr : refd a st with
  | true =>
    rw [callA_r hr, if_neg (by rw [callN_z.mpr hr]; decide)]
    show sT a.2.2 st _ st 7 = _
    rw [sT_s]; rfl
  | false =>
    have hc : 0 < callN a st := by
      have h0 : callN a st ≠ 0 := fun q => by have := callN_z.mp q; rw [hr] at this; cases this
      omega
    rw [if_pos hc]
    by_cases hd : a.2.2 st (12 + a.2.2 st 1) = 0
    · rw [callA_0 hr hd]
      show sT _ st _ st 7 = _
      rw [sT_s, outR_7]
      show sT a.2.2 st (thruR _) st 7 = _
      rw [sT_s]; rfl
    · rw [callA_1 hr hd]
      show sT a.2.2 st (thruR _) st 7 = _
      rw [sT_s]; rfl
theorem often_7 {st t : Nat} : ∀ (n : Nat) (a : AA), (oftenA st t n a).2.2 st 7 = a.2.2 st 7 + oftenN st t n a
  | 0, _ => rfl
  | n + 1, a => by
    unfold oftenA oftenN
    split
    · rfl
    · rw [often_7 n, ticks_7, call_7]; omega
section CLASS16
variable {G : GG} {K : Nat → Option (Nat × Nat)} {R : Nat → Nat → Value} {I : Nat → Nat → Int32} {J : Nat → Nat → Int64} {z : Nat} {σ : Sg} {a : AA} {m k : Nat}
variable {B : List Nat} {hs : List AA} {e1 e2 : String}
theorem X_store (hX : LX G K R) (hS : XS I (a, hs, B)) (hI : IV m k a) (hl1 : L1 a) (hmk : m + k ≤ 800000000) (v : Int32) (w : Int32) : Run G YX3_store [.ref (G.1 0), .int v, .int w] (K, R, I, J, z) (CP K R J z I XI XG (sStore v w (a, hs, B))) := by
  obtain ⟨xk0, xr0, xr1, xr2, xk35, xrs, xr5, xD, xL1, xL18, xLs⟩ := id hX
  have hN : CSt I 1 a := hS.1
  have hH : XH I hs := hS.2.1
  have hB : RDt I B := hS.2.2
  have hk1 : K 1 = some (1, 7) := xL1.1
  have hk36 : K 36 = some (0, 2) := xD.1
  have h16 := hI.2.1
  have hn3 : I 1 3 = nI a.2.1.length := hN.2.2.1

  by_cases hv : inR v 0 3
  rotate_left
  · have hx : sStore v w (a, hs, B) = (1, 0, (a, hs, B)) := by unfold sStore; rw [if_neg hv]
    rw [hx]
    refine run_of (ls := [(0, .ref (G.1 0)), (1, .int v), (2, .int w)]) (by decide +kernel) rfl rfl (Nat.le_of_ble_eq_true rfl) ?_
    refine aw_iload_n dX3_store_0 rfl ?_
    exact aw_sThr dX3_store_1 cvX3_30 ⟨Nat.le_of_ble_eq_true rfl, Nat.le_of_ble_eq_true rfl⟩ rfl rfl (Nat.le_of_ble_eq_true rfl) ⟨Nat.le_of_ble_eq_true rfl, Nat.le_of_ble_eq_true rfl⟩ rfl (q_requireStore0 hv) (fun z' hz => CP.t1 hz)
  obtain ⟨hv1, -, hv3⟩ := inR_nat hv (by decide) (by decide)
  have hst : nv v < 4 := by omega
  have hsI := hI.2.2.2.2.1 _ hst
  by_cases hw : inR w 0 10
  · have hx : sStore v w (a, hs, B) = (0, nI (tellN a (nv v) (nv w)), (a, hs, B)) := by unfold sStore; rw [if_pos hv, if_pos hw]
    rw [hx]
    clear hx
    obtain ⟨hw1, -, hw3⟩ := inR_nat hw (by decide) (by decide)
    obtain ⟨st, hst'⟩ : ∃ st, st = nv v := ⟨_, rfl⟩
    obtain ⟨ww, hww'⟩ : ∃ st, st = nv w := ⟨_, rfl⟩
    rw [← hst'] at hv1 hv3 hst ⊢
    rw [← hww'] at hw1 hw3 ⊢
    subst hv1 hw1
    refine run_of (ls := [(0, .ref (G.1 0)), (1, .int (nI st)), (2, .int (nI ww))]) (by decide +kernel) rfl rfl (Nat.le_of_ble_eq_true rfl) ?_
    refine aw_iload_n dX3_store_0 rfl ?_
    refine aw_sOk dX3_store_1 cvX3_30 ⟨Nat.le_of_ble_eq_true rfl, Nat.le_of_ble_eq_true rfl⟩ rfl rfl (Nat.le_of_ble_eq_true rfl) ⟨Nat.le_of_ble_eq_true rfl, Nat.le_of_ble_eq_true rfl⟩ (q_requireStore1 hv) ?_
    refine aw_iload_n dX3_store_4 rfl ?_
    refine aw_iconst (v := nI 0) dX3_store_5 rfl ?_
    refine aw_bipush (v := nI 10) dX3_store_6 rfl ?_
    refine aw_sOk dX3_store_8 cvX3_52 ⟨Nat.le_of_ble_eq_true rfl, Nat.le_of_ble_eq_true rfl⟩ rfl rfl (Nat.le_of_ble_eq_true rfl) ⟨Nat.le_of_ble_eq_true rfl, Nat.le_of_ble_eq_true rfl⟩ (q_range1 hw) ?_
    refine aw_aload_n dX3_store_11 rfl ?_
    refine aw_getR dX3_store_12 flX3_10 rfl (by assumption) (by assumption) ?_
    refine aw_iload_n dX3_store_15 rfl ?_
    refine aw_iload_n dX3_store_16 rfl ?_
    refine aw_vRd dX3_store_17 cvX3_130 ⟨Nat.le_of_ble_eq_true rfl, Nat.le_of_ble_eq_true rfl⟩ (by assumption) ⟨_, rfl, rfl⟩ (c_numberOf (a := a) xL1 hN hI (by omega) hst hw3) rfl rfl (Nat.le_of_ble_eq_true rfl) ⟨rfl, rfl⟩ ⟨Nat.le_of_ble_eq_true rfl, Nat.le_of_ble_eq_true rfl⟩ ?_
    exact aw_iret dX3_store_20 rfl (Nat.le_of_ble_eq_true rfl) (Nat.le_of_ble_eq_true rfl) (CP.ok ⟨hS, FrC.rf⟩)
  · have hx : sStore v w (a, hs, B) = (2, 0, (a, hs, B)) := by unfold sStore; rw [if_pos hv, if_neg hw]
    rw [hx]
    refine run_of (ls := [(0, .ref (G.1 0)), (1, .int v), (2, .int w)]) (by decide +kernel) rfl rfl (Nat.le_of_ble_eq_true rfl) ?_
    refine aw_iload_n dX3_store_0 rfl ?_
    refine aw_sOk dX3_store_1 cvX3_30 ⟨Nat.le_of_ble_eq_true rfl, Nat.le_of_ble_eq_true rfl⟩ rfl rfl (Nat.le_of_ble_eq_true rfl) ⟨Nat.le_of_ble_eq_true rfl, Nat.le_of_ble_eq_true rfl⟩ (q_requireStore1 hv) ?_
    refine aw_iload_n dX3_store_4 rfl ?_
    refine aw_iconst (v := nI 0) dX3_store_5 rfl ?_
    refine aw_bipush (v := nI 10) dX3_store_6 rfl ?_
    exact aw_sThr dX3_store_8 cvX3_52 ⟨Nat.le_of_ble_eq_true rfl, Nat.le_of_ble_eq_true rfl⟩ rfl rfl (Nat.le_of_ble_eq_true rfl) ⟨Nat.le_of_ble_eq_true rfl, Nat.le_of_ble_eq_true rfl⟩ rfl (q_range0 hw) (fun z' hz => CP.t2 hz)
theorem X_delay (hX : LX G K R) (hS : XS I (a, hs, B)) (hI : IV m k a) (hl1 : L1 a) (hmk : m + k ≤ 800000000) (v : Int32) (p : Int32) : Run G YX3_delay [.ref (G.1 0), .int v, .int p] (K, R, I, J, z) (CP K R J z I XI XG (sDelay v p (a, hs, B))) := by
  obtain ⟨xk0, xr0, xr1, xr2, xk35, xrs, xr5, xD, xL1, xL18, xLs⟩ := id hX
  have hN : CSt I 1 a := hS.1
  have hH : XH I hs := hS.2.1
  have hB : RDt I B := hS.2.2
  have hk1 : K 1 = some (1, 7) := xL1.1
  have hk36 : K 36 = some (0, 2) := xD.1
  have h16 := hI.2.1
  have hn3 : I 1 3 = nI a.2.1.length := hN.2.2.1

  by_cases hv : inR v 0 3
  rotate_left
  · have hx : sDelay v p (a, hs, B) = (1, 0, (a, hs, B)) := by unfold sDelay; rw [if_neg hv]
    rw [hx]
    refine run_of (ls := [(0, .ref (G.1 0)), (1, .int v), (2, .int p)]) (by decide +kernel) rfl rfl (Nat.le_of_ble_eq_true rfl) ?_
    refine aw_iload_n dX3_delay_0 rfl ?_
    exact aw_sThr dX3_delay_1 cvX3_30 ⟨Nat.le_of_ble_eq_true rfl, Nat.le_of_ble_eq_true rfl⟩ rfl rfl (Nat.le_of_ble_eq_true rfl) ⟨Nat.le_of_ble_eq_true rfl, Nat.le_of_ble_eq_true rfl⟩ rfl (q_requireStore0 hv) (fun z' hz => CP.t1 hz)
  obtain ⟨hv1, -, hv3⟩ := inR_nat hv (by decide) (by decide)
  have hst : nv v < 4 := by omega
  have hsI := hI.2.2.2.2.1 _ hst
  have hsr := xL1.2.2.2.1
  have hr10 := xL1.2.1
  have hk2 := xL1.2.2.1
  have xk3 : K 3 = some (10, 5) := xL1.2.2.2.2.2.1
  have xr11 : R 1 1 = .ref (G.1 3) := xL1.2.2.2.2.1
  have xr12 : R 1 2 = .ref (G.1 4) := xL1.2.2.2.2.2.2.1
  have xk4 : K 4 = some (14, 5) := xL1.2.2.2.2.2.2.2.1
  by_cases hw : nI 0 ≤ p
  · have hx : sDelay v p (a, hs, B) = (0, (if nv p < a.2.2 (nv v) 0 then nI (a.2.2 (nv v) (12 + nv p)) else -1), (a, hs, B)) := by unfold sDelay; rw [if_pos hv, if_pos hw]
    rw [hx]
    clear hx
    obtain ⟨hw1, hw2⟩ := nI_nv hw
    obtain ⟨st, hst'⟩ : ∃ st, st = nv v := ⟨_, rfl⟩
    obtain ⟨pp, hpp'⟩ : ∃ st, st = nv p := ⟨_, rfl⟩
    rw [← hst'] at hv1 hv3 hst hsI ⊢
    rw [← hpp'] at hw1 hw2 ⊢
    subst hv1 hw1
    have h20 := hsI.2.1
    have hT := xL1.2.2.2.2.2.2.2.2.2.2.2.2.2.2.2.2.2.2.1 st hst
    have hKo := hT.1
    have hRo := hT.2.1
    have hKr := hT.2.2.1
    have hSR := hN.1.2.2.2.2 st hst
    refine run_of (ls := [(0, .ref (G.1 0)), (1, .int (nI st)), (2, .int (nI pp))]) (by decide +kernel) rfl rfl (Nat.le_of_ble_eq_true rfl) ?_
    refine aw_iload_n dX3_delay_0 rfl ?_
    refine aw_sOk dX3_delay_1 cvX3_30 ⟨Nat.le_of_ble_eq_true rfl, Nat.le_of_ble_eq_true rfl⟩ rfl rfl (Nat.le_of_ble_eq_true rfl) ⟨Nat.le_of_ble_eq_true rfl, Nat.le_of_ble_eq_true rfl⟩ (q_requireStore1 hv) ?_
    refine aw_iload_n dX3_delay_4 rfl ?_
    refine aw_sOk dX3_delay_5 cvX3_134 ⟨Nat.le_of_ble_eq_true rfl, Nat.le_of_ble_eq_true rfl⟩ rfl rfl (Nat.le_of_ble_eq_true rfl) ⟨Nat.le_of_ble_eq_true rfl, Nat.le_of_ble_eq_true rfl⟩ (q_nn1 hw) ?_
    refine aw_aload_n dX3_delay_8 rfl ?_
    refine aw_getR dX3_delay_9 flX3_10 rfl (by assumption) (by assumption) ?_
    refine aw_getR dX3_delay_12 flX3_107 rfl (by assumption) (by assumption) ?_
    refine aw_iload_n dX3_delay_15 rfl ?_
    refine aw_aald dX3_delay_16 (by assumption) (by omega) (by omega) rfl (by omega) (hsr st hst) ?_
    refine aw_astore_n (ls' := [(3, _), (0, _), (1, _), (2, _)]) dX3_delay_17 (by decide) rfl ?_
    refine aw_iload_n dX3_delay_18 rfl ?_
    refine aw_aload_n dX3_delay_19 rfl ?_
    refine aw_getI dX3_delay_20 flX3_137 rfl (by assumption) hSR.2.1 ?_
    refine aw_icmp_geN (tgt := 35) dX3_delay_23 (by decide) (by omega) (by omega) (fun hc23 => ?_) (fun hc23 => ?_)
    · refine aw_iconst (v := (-1)) dX3_delay_35 rfl ?_
      exact aw_iret dX3_delay_36 rfl (Nat.le_of_ble_eq_true rfl) (Nat.le_of_ble_eq_true rfl) (by first | (rw [if_pos hc23]; exact CP.ok ⟨hS, FrC.rf⟩) | (rw [if_neg (by omega)]; exact CP.ok ⟨hS, FrC.rf⟩))
    · refine aw_aload_n dX3_delay_26 rfl ?_
      refine aw_getR dX3_delay_27 flX3_140 rfl (by assumption) (by assumption) ?_
      refine aw_iload_n dX3_delay_30 rfl ?_
      refine aw_iald dX3_delay_31 (by assumption) (by omega) rfl (by omega) (hSR.1 pp (by omega)) ?_
      refine aw_goto (tgt := 36) dX3_delay_32 (by decide) ?_
      exact aw_iret dX3_delay_36 rfl (Nat.le_of_ble_eq_true rfl) (Nat.le_of_ble_eq_true rfl) (by first | (rw [if_pos hc23]; exact CP.ok ⟨hS, FrC.rf⟩) | (rw [if_neg (by omega)]; exact CP.ok ⟨hS, FrC.rf⟩))
  · have hx : sDelay v p (a, hs, B) = (2, 0, (a, hs, B)) := by unfold sDelay; rw [if_pos hv, if_neg hw]
    rw [hx]
    refine run_of (ls := [(0, .ref (G.1 0)), (1, .int v), (2, .int p)]) (by decide +kernel) rfl rfl (Nat.le_of_ble_eq_true rfl) ?_
    refine aw_iload_n dX3_delay_0 rfl ?_
    refine aw_sOk dX3_delay_1 cvX3_30 ⟨Nat.le_of_ble_eq_true rfl, Nat.le_of_ble_eq_true rfl⟩ rfl rfl (Nat.le_of_ble_eq_true rfl) ⟨Nat.le_of_ble_eq_true rfl, Nat.le_of_ble_eq_true rfl⟩ (q_requireStore1 hv) ?_
    refine aw_iload_n dX3_delay_4 rfl ?_
    exact aw_sThr dX3_delay_5 cvX3_134 ⟨Nat.le_of_ble_eq_true rfl, Nat.le_of_ble_eq_true rfl⟩ rfl rfl (Nat.le_of_ble_eq_true rfl) ⟨Nat.le_of_ble_eq_true rfl, Nat.le_of_ble_eq_true rfl⟩ rfl (q_nn0 hw) (fun z' hz => CP.t2 hz)
theorem X_onWay (hX : LX G K R) (hS : XS I (a, hs, B)) (hI : IV m k a) (hl1 : L1 a) (hmk : m + k ≤ 800000000) (p : Int32) (w : Int32) : Run G YX3_onWay [.ref (G.1 0), .int p, .int w] (K, R, I, J, z) (CP K R J z I XG XG (sOnWay p w (a, hs, B))) := by
  obtain ⟨xk0, xr0, xr1, xr2, xk35, xrs, xr5, xD, xL1, xL18, xLs⟩ := id hX
  have hN : CSt I 1 a := hS.1
  have hH : XH I hs := hS.2.1
  have hB : RDt I B := hS.2.2
  have hk1 : K 1 = some (1, 7) := xL1.1
  have hk36 : K 36 = some (0, 2) := xD.1
  have h16 := hI.2.1
  have hn3 : I 1 3 = nI a.2.1.length := hN.2.2.1

  have hsr := xL1.2.2.2.1
  have hr10 := xL1.2.1
  have hk2 := xL1.2.2.1
  have xk3 : K 3 = some (10, 5) := xL1.2.2.2.2.2.1
  have xr11 : R 1 1 = .ref (G.1 3) := xL1.2.2.2.2.1
  have xr12 : R 1 2 = .ref (G.1 4) := xL1.2.2.2.2.2.2.1
  have xk4 : K 4 = some (14, 5) := xL1.2.2.2.2.2.2.2.1
  have hcf := xL1.cf
  by_cases hp : nI 0 ≤ p
  · by_cases hw : inR w 0 3
    · have hx : sOnWay p w (a, hs, B) = (0, (match a.2.1[nv p]? with
        | some c => nI (c (nv w))
        | none => -1), (a, hs, B)) := by unfold sOnWay; exact if_pos ⟨hp, hw⟩
      rw [hx]
      clear hx
      obtain ⟨hw1, -, hw3⟩ := inR_nat hw (by decide) (by decide)
      obtain ⟨hp1, hp2⟩ := nI_nv hp
      obtain ⟨pp, hpp'⟩ : ∃ st, st = nv p := ⟨_, rfl⟩
      obtain ⟨ww, hww'⟩ : ∃ st, st = nv w := ⟨_, rfl⟩
      rw [← hpp'] at hp1 hp2 ⊢
      rw [← hww'] at hw1 hw3 ⊢
      subst hp1 hw1
      rcases hc : a.2.1[pp]? with _ | c
      · have hl := List.getElem?_eq_none_iff.mp hc
        refine run_of (ls := [(0, .ref (G.1 0)), (1, .int (nI pp)), (2, .int (nI ww))]) (by decide +kernel) rfl rfl (Nat.le_of_ble_eq_true rfl) ?_
        refine aw_iload_n dX3_onWay_0 rfl ?_
        refine aw_sOk dX3_onWay_1 cvX3_134 ⟨Nat.le_of_ble_eq_true rfl, Nat.le_of_ble_eq_true rfl⟩ rfl rfl (Nat.le_of_ble_eq_true rfl) ⟨Nat.le_of_ble_eq_true rfl, Nat.le_of_ble_eq_true rfl⟩ (q_nn1 hp) ?_
        refine aw_iload_n dX3_onWay_4 rfl ?_
        refine aw_iconst (v := nI 0) dX3_onWay_5 rfl ?_
        refine aw_iconst (v := nI 3) dX3_onWay_6 rfl ?_
        refine aw_sOk dX3_onWay_7 cvX3_52 ⟨Nat.le_of_ble_eq_true rfl, Nat.le_of_ble_eq_true rfl⟩ rfl rfl (Nat.le_of_ble_eq_true rfl) ⟨Nat.le_of_ble_eq_true rfl, Nat.le_of_ble_eq_true rfl⟩ (q_range1 hw) ?_
        refine aw_iload_n dX3_onWay_10 rfl ?_
        refine aw_aload_n dX3_onWay_11 rfl ?_
        refine aw_getR dX3_onWay_12 flX3_10 rfl (by assumption) (by assumption) ?_
        refine aw_getI dX3_onWay_15 flX3_143 rfl (by assumption) hn3 ?_
        refine aw_icmp_geN (tgt := 35) dX3_onWay_18 (by decide) (by omega) (by omega) (fun hc18 => ?_) (fun hc18 => absurd hc18 (by omega))
        refine aw_iconst (v := (-1)) dX3_onWay_35 rfl ?_
        exact aw_iret dX3_onWay_36 rfl (Nat.le_of_ble_eq_true rfl) (Nat.le_of_ble_eq_true rfl) (CP.ok ⟨hS, FrC.rf⟩)
      · have hl := (List.getElem?_eq_some_iff.mp hc).1
        obtain ⟨hcr, hck⟩ := hcf ww (by omega)
        obtain ⟨a0, a1, a2, a3, a4⟩ := hN.2.1 pp c hc
        have hval : I (1 + 4 + ww) pp = nI (c ww) := by
          rcases (show ww = 0 ∨ ww = 1 ∨ ww = 2 ∨ ww = 3 by omega) with rfl | rfl | rfl | rfl
          · exact a0
          · exact a1
          · exact a2
          · exact a3
        refine run_of (ls := [(0, .ref (G.1 0)), (1, .int (nI pp)), (2, .int (nI ww))]) (by decide +kernel) rfl rfl (Nat.le_of_ble_eq_true rfl) ?_
        refine aw_iload_n dX3_onWay_0 rfl ?_
        refine aw_sOk dX3_onWay_1 cvX3_134 ⟨Nat.le_of_ble_eq_true rfl, Nat.le_of_ble_eq_true rfl⟩ rfl rfl (Nat.le_of_ble_eq_true rfl) ⟨Nat.le_of_ble_eq_true rfl, Nat.le_of_ble_eq_true rfl⟩ (q_nn1 hp) ?_
        refine aw_iload_n dX3_onWay_4 rfl ?_
        refine aw_iconst (v := nI 0) dX3_onWay_5 rfl ?_
        refine aw_iconst (v := nI 3) dX3_onWay_6 rfl ?_
        refine aw_sOk dX3_onWay_7 cvX3_52 ⟨Nat.le_of_ble_eq_true rfl, Nat.le_of_ble_eq_true rfl⟩ rfl rfl (Nat.le_of_ble_eq_true rfl) ⟨Nat.le_of_ble_eq_true rfl, Nat.le_of_ble_eq_true rfl⟩ (q_range1 hw) ?_
        refine aw_iload_n dX3_onWay_10 rfl ?_
        refine aw_aload_n dX3_onWay_11 rfl ?_
        refine aw_getR dX3_onWay_12 flX3_10 rfl (by assumption) (by assumption) ?_
        refine aw_getI dX3_onWay_15 flX3_143 rfl (by assumption) hn3 ?_
        refine aw_icmp_geN (tgt := 35) dX3_onWay_18 (by decide) (by omega) (by omega) (fun hc18 => absurd hc18 (by omega)) (fun hc18 => ?_)
        refine aw_aload_n dX3_onWay_21 rfl ?_
        refine aw_getR dX3_onWay_22 flX3_10 rfl (by assumption) (by assumption) ?_
        refine aw_getR dX3_onWay_25 flX3_146 rfl (by assumption) (by assumption) ?_
        refine aw_iload_n dX3_onWay_28 rfl ?_
        refine aw_aald dX3_onWay_29 (by assumption) (by omega) (by omega) rfl (by omega) hcr ?_
        refine aw_iload_n dX3_onWay_30 rfl ?_
        refine aw_iald dX3_onWay_31 (by assumption) (by omega) rfl (by omega) hval ?_
        refine aw_goto (tgt := 36) dX3_onWay_32 (by decide) ?_
        exact aw_iret dX3_onWay_36 rfl (Nat.le_of_ble_eq_true rfl) (Nat.le_of_ble_eq_true rfl) (CP.ok ⟨hS, FrC.rf⟩)
    · have hx : sOnWay p w (a, hs, B) = (1, 0, (a, hs, B)) := by unfold sOnWay; rw [if_neg (fun q => hw q.2)]
      rw [hx]
      refine run_of (ls := [(0, .ref (G.1 0)), (1, .int p), (2, .int w)]) (by decide +kernel) rfl rfl (Nat.le_of_ble_eq_true rfl) ?_
      refine aw_iload_n dX3_onWay_0 rfl ?_
      refine aw_sOk dX3_onWay_1 cvX3_134 ⟨Nat.le_of_ble_eq_true rfl, Nat.le_of_ble_eq_true rfl⟩ rfl rfl (Nat.le_of_ble_eq_true rfl) ⟨Nat.le_of_ble_eq_true rfl, Nat.le_of_ble_eq_true rfl⟩ (q_nn1 hp) ?_
      refine aw_iload_n dX3_onWay_4 rfl ?_
      refine aw_iconst (v := nI 0) dX3_onWay_5 rfl ?_
      refine aw_iconst (v := nI 3) dX3_onWay_6 rfl ?_
      exact aw_sThr dX3_onWay_7 cvX3_52 ⟨Nat.le_of_ble_eq_true rfl, Nat.le_of_ble_eq_true rfl⟩ rfl rfl (Nat.le_of_ble_eq_true rfl) ⟨Nat.le_of_ble_eq_true rfl, Nat.le_of_ble_eq_true rfl⟩ rfl (q_range0 hw) (fun z' hz => CP.t1 hz)
  · have hx : sOnWay p w (a, hs, B) = (1, 0, (a, hs, B)) := by unfold sOnWay; rw [if_neg (fun q => hp q.1)]
    rw [hx]
    refine run_of (ls := [(0, .ref (G.1 0)), (1, .int p), (2, .int w)]) (by decide +kernel) rfl rfl (Nat.le_of_ble_eq_true rfl) ?_
    refine aw_iload_n dX3_onWay_0 rfl ?_
    exact aw_sThr dX3_onWay_1 cvX3_134 ⟨Nat.le_of_ble_eq_true rfl, Nat.le_of_ble_eq_true rfl⟩ rfl rfl (Nat.le_of_ble_eq_true rfl) ⟨Nat.le_of_ble_eq_true rfl, Nat.le_of_ble_eq_true rfl⟩ rfl (q_nn0 hp) (fun z' hz => CP.t1 hz)
theorem x_counted {w : Nat} (hX : LX G K R) (hS : XS I (a, hs, B)) (hI : IV m k a) (hl1 : L1 a) (hmk : m + k ≤ 800000000) (hw : w ≤ 8) : Run G YX3_counted [.ref (G.1 0), .int (nI w)] (K, R, I, J, z) (Rd (K, R, I, J, z) (.int (nI (cntN a hs.length w)))) := by
  obtain ⟨xk0, xr0, xr1, xr2, xk35, xrs, xr5, xD, xL1, xL18, xLs⟩ := id hX
  have hN : CSt I 1 a := hS.1
  have hH : XH I hs := hS.2.1
  obtain ⟨old, o1, o2, o3, o4, o5⟩ := id hH
  have hk1 : K 1 = some (1, 7) := xL1.1
  have c5 := c_sumOf (J := J) (z := z) (w := 5) xL1 hN hI (by omega) (by decide)
  have c6 := c_sumOf (J := J) (z := z) (w := 6) xL1 hN hI (by omega) (by decide)
  have c7 := c_sumOf (J := J) (z := z) (w := 7) xL1 hN hI (by omega) (by decide)
  rw [sumN_5] at c5
  rw [sumN_6] at c6
  rw [sumN_7 hI] at c7
  rcases (show w = 0 ∨ w = 1 ∨ w = 2 ∨ w = 3 ∨ w = 4 ∨ w = 5 ∨ w = 6 ∨ w = 7 ∨ w = 8 by omega) with rfl | rfl | rfl | rfl | rfl | rfl | rfl | rfl | rfl
  · refine run_of (ls := [(0, .ref (G.1 0)), (1, .int (nI 0))]) (by decide +kernel) rfl rfl (Nat.le_of_ble_eq_true rfl) ?_
    refine aw_iload_n dX3_counted_0 rfl ?_
    refine aw_tableIn (tgt := 48) dX3_counted_1 (by decide) (by decide) rfl (by decide) ?_
    refine aw_aload_n dX3_counted_48 rfl ?_
    refine aw_getR dX3_counted_49 flX3_10 rfl (by assumption) (by assumption) ?_
    refine aw_getI dX3_counted_52 flX3_194 rfl (by assumption) hN.1.2.1 ?_
    exact aw_iret dX3_counted_55 rfl (Nat.zero_le _) (Nat.zero_le _) ⟨rfl, rfl⟩
  · refine run_of (ls := [(0, .ref (G.1 0)), (1, .int (nI 1))]) (by decide +kernel) rfl rfl (Nat.le_of_ble_eq_true rfl) ?_
    refine aw_iload_n dX3_counted_0 rfl ?_
    refine aw_tableIn (tgt := 56) dX3_counted_1 (by decide) (by decide) rfl (by decide) ?_
    refine aw_aload_n dX3_counted_56 rfl ?_
    refine aw_getR dX3_counted_57 flX3_10 rfl (by assumption) (by assumption) ?_
    refine aw_getI dX3_counted_60 flX3_143 rfl (by assumption) hN.2.2.1 ?_
    exact aw_iret dX3_counted_63 rfl (Nat.zero_le _) (Nat.zero_le _) ⟨rfl, rfl⟩
  · refine run_of (ls := [(0, .ref (G.1 0)), (1, .int (nI 2))]) (by decide +kernel) rfl rfl (Nat.le_of_ble_eq_true rfl) ?_
    refine aw_iload_n dX3_counted_0 rfl ?_
    refine aw_tableIn (tgt := 64) dX3_counted_1 (by decide) (by decide) rfl (by decide) ?_
    refine aw_aload_n dX3_counted_64 rfl ?_
    refine aw_getR dX3_counted_65 flX3_10 rfl (by assumption) (by assumption) ?_
    refine aw_iconst (v := nI 5) dX3_counted_68 rfl ?_
    refine aw_vRd dX3_counted_69 cvX3_197 ⟨Nat.le_of_ble_eq_true rfl, Nat.le_of_ble_eq_true rfl⟩ (by assumption) ⟨_, rfl, rfl⟩ (c5) rfl rfl (Nat.le_of_ble_eq_true rfl) ⟨rfl, rfl⟩ ⟨Nat.zero_le _, Nat.zero_le _⟩ ?_
    exact aw_iret dX3_counted_72 rfl (Nat.zero_le _) (Nat.zero_le _) ⟨rfl, rfl⟩
  · refine run_of (ls := [(0, .ref (G.1 0)), (1, .int (nI 3))]) (by decide +kernel) rfl rfl (Nat.le_of_ble_eq_true rfl) ?_
    refine aw_iload_n dX3_counted_0 rfl ?_
    refine aw_tableIn (tgt := 73) dX3_counted_1 (by decide) (by decide) rfl (by decide) ?_
    refine aw_aload_n dX3_counted_73 rfl ?_
    refine aw_getR dX3_counted_74 flX3_10 rfl (by assumption) (by assumption) ?_
    refine aw_bipush (v := nI 6) dX3_counted_77 rfl ?_
    refine aw_vRd dX3_counted_79 cvX3_197 ⟨Nat.le_of_ble_eq_true rfl, Nat.le_of_ble_eq_true rfl⟩ (by assumption) ⟨_, rfl, rfl⟩ (c6) rfl rfl (Nat.le_of_ble_eq_true rfl) ⟨rfl, rfl⟩ ⟨Nat.zero_le _, Nat.zero_le _⟩ ?_
    exact aw_iret dX3_counted_82 rfl (Nat.zero_le _) (Nat.zero_le _) ⟨rfl, rfl⟩
  · refine run_of (ls := [(0, .ref (G.1 0)), (1, .int (nI 4))]) (by decide +kernel) rfl rfl (Nat.le_of_ble_eq_true rfl) ?_
    refine aw_iload_n dX3_counted_0 rfl ?_
    refine aw_tableIn (tgt := 83) dX3_counted_1 (by decide) (by decide) rfl (by decide) ?_
    refine aw_aload_n dX3_counted_83 rfl ?_
    refine aw_getR dX3_counted_84 flX3_10 rfl (by assumption) (by assumption) ?_
    refine aw_bipush (v := nI 7) dX3_counted_87 rfl ?_
    refine aw_vRd dX3_counted_89 cvX3_197 ⟨Nat.le_of_ble_eq_true rfl, Nat.le_of_ble_eq_true rfl⟩ (by assumption) ⟨_, rfl, rfl⟩ (c7) rfl rfl (Nat.le_of_ble_eq_true rfl) ⟨rfl, rfl⟩ ⟨Nat.zero_le _, Nat.zero_le _⟩ ?_
    exact aw_iret dX3_counted_92 rfl (Nat.zero_le _) (Nat.zero_le _) ⟨rfl, rfl⟩
  · refine run_of (ls := [(0, .ref (G.1 0)), (1, .int (nI 5))]) (by decide +kernel) rfl rfl (Nat.le_of_ble_eq_true rfl) ?_
    refine aw_iload_n dX3_counted_0 rfl ?_
    refine aw_tableIn (tgt := 93) dX3_counted_1 (by decide) (by decide) rfl (by decide) ?_
    refine aw_aload_n dX3_counted_93 rfl ?_
    refine aw_getR dX3_counted_94 flX3_10 rfl (by assumption) (by assumption) ?_
    refine aw_getI dX3_counted_97 flX3_200 rfl (by assumption) hN.1.2.2.1 ?_
    exact aw_iret dX3_counted_100 rfl (Nat.zero_le _) (Nat.zero_le _) ⟨rfl, rfl⟩
  · refine run_of (ls := [(0, .ref (G.1 0)), (1, .int (nI 6))]) (by decide +kernel) rfl rfl (Nat.le_of_ble_eq_true rfl) ?_
    refine aw_iload_n dX3_counted_0 rfl ?_
    refine aw_tableIn (tgt := 101) dX3_counted_1 (by decide) (by decide) rfl (by decide) ?_
    refine aw_aload_n dX3_counted_101 rfl ?_
    refine aw_getR dX3_counted_102 flX3_10 rfl (by assumption) (by assumption) ?_
    refine aw_vRd dX3_counted_105 cvX3_203 ⟨Nat.le_of_ble_eq_true rfl, Nat.le_of_ble_eq_true rfl⟩ (by assumption) ⟨_, rfl, rfl⟩ (c_closedBreakers xL1 hN hI (by omega)) rfl rfl (Nat.le_of_ble_eq_true rfl) ⟨rfl, rfl⟩ ⟨Nat.zero_le _, Nat.zero_le _⟩ ?_
    exact aw_iret dX3_counted_108 rfl (Nat.zero_le _) (Nat.zero_le _) ⟨rfl, rfl⟩
  · refine run_of (ls := [(0, .ref (G.1 0)), (1, .int (nI 7))]) (by decide +kernel) rfl rfl (Nat.le_of_ble_eq_true rfl) ?_
    refine aw_iload_n dX3_counted_0 rfl ?_
    refine aw_tableIn (tgt := 109) dX3_counted_1 (by decide) (by decide) rfl (by decide) ?_
    refine aw_aload_n dX3_counted_109 rfl ?_
    refine aw_getR dX3_counted_110 flX3_10 rfl (by assumption) (by assumption) ?_
    refine aw_getI dX3_counted_113 flX3_206 rfl (by assumption) hN.1.2.2.2.1 ?_
    exact aw_iret dX3_counted_116 rfl (Nat.zero_le _) (Nat.zero_le _) ⟨rfl, rfl⟩
  · refine run_of (ls := [(0, .ref (G.1 0)), (1, .int (nI 8))]) (by decide +kernel) rfl rfl (Nat.le_of_ble_eq_true rfl) ?_
    refine aw_iload_n dX3_counted_0 rfl ?_
    refine aw_tableOut (tgt := 117) dX3_counted_1 (by decide) (by decide) ?_
    refine aw_aload_n dX3_counted_117 rfl ?_
    refine aw_getI dX3_counted_118 flX3_117 rfl (by assumption) o3 ?_
    exact aw_iret dX3_counted_121 rfl (Nat.zero_le _) (Nat.zero_le _) ⟨rfl, rfl⟩
theorem X_count (hX : LX G K R) (hS : XS I (a, hs, B)) (hI : IV m k a) (hl1 : L1 a) (hmk : m + k ≤ 800000000) (w : Int32) : Run G YX3_count [.ref (G.1 0), .int w] (K, R, I, J, z) (CP K R J z I XG XG (sCount w (a, hs, B))) := by
  obtain ⟨xk0, xr0, xr1, xr2, xk35, xrs, xr5, xD, xL1, xL18, xLs⟩ := id hX
  have hN : CSt I 1 a := hS.1
  have hH : XH I hs := hS.2.1
  have hB : RDt I B := hS.2.2
  have hk1 : K 1 = some (1, 7) := xL1.1
  have hk36 : K 36 = some (0, 2) := xD.1
  have h16 := hI.2.1
  have hn3 : I 1 3 = nI a.2.1.length := hN.2.2.1

  by_cases hv : inR w 0 8
  rotate_left
  · have hx : sCount w (a, hs, B) = (1, 0, (a, hs, B)) := by unfold sCount; rw [if_neg hv]
    rw [hx]
    refine run_of (ls := [(0, .ref (G.1 0)), (1, .int w)]) (by decide +kernel) rfl rfl (Nat.le_of_ble_eq_true rfl) ?_
    refine aw_iload_n dX3_count_0 rfl ?_
    refine aw_iconst (v := nI 0) dX3_count_1 rfl ?_
    refine aw_bipush (v := nI 8) dX3_count_2 rfl ?_
    exact aw_sThr dX3_count_4 cvX3_52 ⟨Nat.le_of_ble_eq_true rfl, Nat.le_of_ble_eq_true rfl⟩ rfl rfl (Nat.le_of_ble_eq_true rfl) ⟨Nat.le_of_ble_eq_true rfl, Nat.le_of_ble_eq_true rfl⟩ rfl (q_range0 hv) (fun z' hz => CP.t1 hz)
  have hx : sCount w (a, hs, B) = (0, nI (cntN a hs.length (nv w)), (a, hs, B)) := by unfold sCount; rw [if_pos hv]
  rw [hx]
  clear hx
  obtain ⟨hw1, -, hw3⟩ := inR_nat hv (by decide) (by decide)
  obtain ⟨ww, hww'⟩ : ∃ st, st = nv w := ⟨_, rfl⟩
  rw [← hww'] at hw1 hw3 ⊢
  subst hw1
  refine run_of (ls := [(0, .ref (G.1 0)), (1, .int (nI ww))]) (by decide +kernel) rfl rfl (Nat.le_of_ble_eq_true rfl) ?_
  refine aw_iload_n dX3_count_0 rfl ?_
  refine aw_iconst (v := nI 0) dX3_count_1 rfl ?_
  refine aw_bipush (v := nI 8) dX3_count_2 rfl ?_
  refine aw_sOk dX3_count_4 cvX3_52 ⟨Nat.le_of_ble_eq_true rfl, Nat.le_of_ble_eq_true rfl⟩ rfl rfl (Nat.le_of_ble_eq_true rfl) ⟨Nat.le_of_ble_eq_true rfl, Nat.le_of_ble_eq_true rfl⟩ (q_range1 hv) ?_
  refine aw_aload_n dX3_count_7 rfl ?_
  refine aw_iload_n dX3_count_8 rfl ?_
  refine aw_vRd dX3_count_9 cvX3_150 ⟨Nat.le_of_ble_eq_true rfl, Nat.le_of_ble_eq_true rfl⟩ (by assumption) ⟨_, rfl, rfl⟩ (x_counted hX hS hI hl1 hmk hw3) rfl rfl (Nat.le_of_ble_eq_true rfl) ⟨rfl, rfl⟩ ⟨Nat.le_of_ble_eq_true rfl, Nat.le_of_ble_eq_true rfl⟩ ?_
  exact aw_iret dX3_count_12 rfl (Nat.le_of_ble_eq_true rfl) (Nat.le_of_ble_eq_true rfl) (CP.ok ⟨hS, FrC.rf⟩)
theorem X_setting (hX : LX G K R) (hS : XS I (a, hs, B)) (hI : IV m k a) (hl1 : L1 a) (hmk : m + k ≤ 800000000) (w : Int32) : Run G YX3_setting [.ref (G.1 0), .int w] (K, R, I, J, z) (CP K R J z I XI XI (sSetting w (a, hs, B))) := by
  obtain ⟨xk0, xr0, xr1, xr2, xk35, xrs, xr5, xD, xL1, xL18, xLs⟩ := id hX
  have hN : CSt I 1 a := hS.1
  have hH : XH I hs := hS.2.1
  have hB : RDt I B := hS.2.2
  have hk1 : K 1 = some (1, 7) := xL1.1
  have hk36 : K 36 = some (0, 2) := xD.1
  have h16 := hI.2.1
  have hn3 : I 1 3 = nI a.2.1.length := hN.2.2.1

  by_cases hv : inR w 0 4
  rotate_left
  · have hx : sSetting w (a, hs, B) = (1, 0, (a, hs, B)) := by unfold sSetting; rw [if_neg hv]
    rw [hx]
    refine run_of (ls := [(0, .ref (G.1 0)), (1, .int w)]) (by decide +kernel) rfl rfl (Nat.le_of_ble_eq_true rfl) ?_
    refine aw_iload_n dX3_setting_0 rfl ?_
    exact aw_sThr dX3_setting_1 cvX3_71 ⟨Nat.le_of_ble_eq_true rfl, Nat.le_of_ble_eq_true rfl⟩ rfl rfl (Nat.le_of_ble_eq_true rfl) ⟨Nat.le_of_ble_eq_true rfl, Nat.le_of_ble_eq_true rfl⟩ rfl (q_requireSetting0 hv) (fun z' hz => CP.t1 hz)
  have hsr := xL1.2.2.2.1
  have hr10 := xL1.2.1
  have hk2 := xL1.2.2.1
  have xk3 : K 3 = some (10, 5) := xL1.2.2.2.2.2.1
  have xr11 : R 1 1 = .ref (G.1 3) := xL1.2.2.2.2.1
  have xr12 : R 1 2 = .ref (G.1 4) := xL1.2.2.2.2.2.2.1
  have xk4 : K 4 = some (14, 5) := xL1.2.2.2.2.2.2.2.1
  have hx : sSetting w (a, hs, B) = (0, nI (a.1 (nv w)), (a, hs, B)) := by unfold sSetting; rw [if_pos hv]
  rw [hx]
  clear hx
  obtain ⟨hw1, -, hw3⟩ := inR_nat hv (by decide) (by decide)
  obtain ⟨ww, hww'⟩ : ∃ st, st = nv w := ⟨_, rfl⟩
  rw [← hww'] at hw1 hw3 ⊢
  subst hw1
  refine run_of (ls := [(0, .ref (G.1 0)), (1, .int (nI ww))]) (by decide +kernel) rfl rfl (Nat.le_of_ble_eq_true rfl) ?_
  refine aw_iload_n dX3_setting_0 rfl ?_
  refine aw_sOk dX3_setting_1 cvX3_71 ⟨Nat.le_of_ble_eq_true rfl, Nat.le_of_ble_eq_true rfl⟩ rfl rfl (Nat.le_of_ble_eq_true rfl) ⟨Nat.le_of_ble_eq_true rfl, Nat.le_of_ble_eq_true rfl⟩ (q_requireSetting1 hv) ?_
  refine aw_aload_n dX3_setting_4 rfl ?_
  refine aw_getR dX3_setting_5 flX3_10 rfl (by assumption) (by assumption) ?_
  refine aw_getR dX3_setting_8 flX3_81 rfl (by assumption) (by assumption) ?_
  refine aw_iload_n dX3_setting_11 rfl ?_
  refine aw_iald dX3_setting_12 (by assumption) (by omega) rfl (by omega) (hN.1.1 ww (by omega)) ?_
  exact aw_iret dX3_setting_13 rfl (Nat.le_of_ble_eq_true rfl) (Nat.le_of_ble_eq_true rfl) (CP.ok ⟨hS, FrC.rf⟩)
theorem x_foresee {st t n : Nat} (hX : LX G K R) (hS : XS I (a, hs, B)) (hI : IV m k a) (hl1 : L1 a) (hmk : m + k ≤ 800000000) (hst : st < 4) (ht : t ≤ 50) (hn : n ≤ 50) : Run G YX3_foresee [.ref (G.1 0), .int (nI st), .int (nI n), .int (nI t)] (K, R, I, J, z) (Up K R J z none (fun I' => CSt I' 18 (oftenA st t n a) ∧ FrS 18 I I')) := by
  obtain ⟨xk0, xr0, xr1, xr2, xk35, xrs, xr5, xD, xL1, xL18, xLs⟩ := id hX
  have hN : CSt I 1 a := hS.1
  have hk1 : K 1 = some (1, 7) := xL1.1
  have hk18 : K 18 = some (1, 7) := xL18.1
  have h16 := hI.2.1
  refine run_of (ls := [(0, .ref (G.1 0)), (1, .int (nI st)), (2, .int (nI n)), (3, .int (nI t))]) (by decide +kernel) rfl rfl (Nat.le_of_ble_eq_true rfl) ?_
  refine aw_aload_n dX3_foresee_0 rfl ?_
  refine aw_getR dX3_foresee_1 flX3_16 rfl (by assumption) (by assumption) ?_
  refine aw_aload_n dX3_foresee_4 rfl ?_
  refine aw_getR dX3_foresee_5 flX3_10 rfl (by assumption) (by assumption) ?_
  refine aw_vUp0 dX3_foresee_8 cvX3_126 ⟨Nat.le_of_ble_eq_true rfl, Nat.le_of_ble_eq_true rfl⟩ (by assumption) ⟨_, rfl, rfl⟩ (c_copyFrom (a := a) xL18 xL1 (by omega) hN h16) rfl rfl (Nat.le_of_ble_eq_true rfl) ⟨rfl, rfl⟩ ⟨Nat.zero_le _, Nat.zero_le _⟩ (fun I8 hP8 => ?_)
  refine aw_aload_n dX3_foresee_11 rfl ?_
  refine aw_getR dX3_foresee_12 flX3_16 rfl (by assumption) (by assumption) ?_
  refine aw_iload_n dX3_foresee_15 rfl ?_
  refine aw_iload_n dX3_foresee_16 rfl ?_
  refine aw_iload_n dX3_foresee_17 rfl ?_
  refine aw_vUp dX3_foresee_18 cvX3_56 ⟨Nat.le_of_ble_eq_true rfl, Nat.le_of_ble_eq_true rfl⟩ (by assumption) ⟨_, rfl, rfl⟩ (c_ringOften (a := a) (m := m) (k := k) xL18 hP8.1 hI hl1 hst (by omega) (by omega) (by omega)) rfl rfl (Nat.le_of_ble_eq_true rfl) ⟨rfl, rfl⟩ ⟨Nat.zero_le _, Nat.zero_le _⟩ (fun I18 hP18 => ?_)
  refine aw_pop dX3_foresee_21 rfl ?_
  exact aw_vret dX3_foresee_22 rfl (Nat.zero_le _) (Nat.zero_le _) ⟨rfl, _, rfl, hP18.1, hP8.2.tr hP18.2⟩
theorem x_foreseen {st t n w m' : Nat} {A1 : AA} (hX : LX G K R) (hN : CSt I 1 a) (hF : CSt I 18 A1) (hA : A1 = oftenA st t n a) (hI : IV m k a) (hI2 : IV m' k A1) (hmk : m + k ≤ 800000000) (hmk2 : m' + k ≤ 900000000) (hst : st < 4) (hw : w ≤ 3) : Run G YX3_foreseen [.ref (G.1 0), .int (nI st), .int (nI w)] (K, R, I, J, z) (Rd (K, R, I, J, z) (.int (wouldI a st n t w))) := by
  obtain ⟨xk0, xr0, xr1, xr2, xk35, xrs, xr5, xD, xL1, xL18, xLs⟩ := id hX
  have hk1 : K 1 = some (1, 7) := xL1.1
  have hk18 : K 18 = some (1, 7) := xL18.1
  have hsr := xL1.2.2.2.1
  have hr10 := xL1.2.1
  have hk2 := xL1.2.2.1
  have jsr := xL18.2.2.2.1
  have jr10 := xL18.2.1
  have jk2 := xL18.2.2.1
  have hT := xL1.2.2.2.2.2.2.2.2.2.2.2.2.2.2.2.2.2.2.1 st hst
  have jT := xL18.2.2.2.2.2.2.2.2.2.2.2.2.2.2.2.2.2.2.1 st hst
  have hKo := hT.1
  have jKo := jT.1
  have hSR := hN.1.2.2.2.2 st hst
  have jSR := hF.1.2.2.2.2 st hst
  have c7 := c_sumOf (J := J) (z := z) (w := 7) xL1 hN hI (by omega) (by decide)
  have j7 := c_sumOf (J := J) (z := z) (w := 7) xL18 hF hI2 (by omega) (by decide)
  rw [sumN_7 hI] at c7
  rw [sumN_7 hI2] at j7
  have h77 : A1.2.2 st 7 = a.2.2 st 7 + oftenN st t n a := by rw [hA]; exact often_7 n a
  rcases (show w = 0 ∨ w = 1 ∨ w = 2 ∨ w = 3 by omega) with rfl | rfl | rfl | rfl
  · refine run_of (ls := [(0, .ref (G.1 0)), (1, .int (nI st)), (2, .int (nI 0))]) (by decide +kernel) rfl rfl (Nat.le_of_ble_eq_true rfl) ?_
    refine aw_aload_n dX3_foreseen_0 rfl ?_
    refine aw_getR dX3_foreseen_1 flX3_10 rfl (by assumption) (by assumption) ?_
    refine aw_getR dX3_foreseen_4 flX3_107 rfl (by assumption) (by assumption) ?_
    refine aw_iload_n dX3_foreseen_7 rfl ?_
    refine aw_aald dX3_foreseen_8 (by assumption) (by omega) (by omega) rfl (by omega) (hsr st hst) ?_
    refine aw_astore_n (ls' := [(3, _), (0, _), (1, _), (2, _)]) dX3_foreseen_9 (by decide) rfl ?_
    refine aw_aload_n dX3_foreseen_10 rfl ?_
    refine aw_getR dX3_foreseen_11 flX3_16 rfl (by assumption) (by assumption) ?_
    refine aw_getR dX3_foreseen_14 flX3_107 rfl (by assumption) (by assumption) ?_
    refine aw_iload_n dX3_foreseen_17 rfl ?_
    refine aw_aald dX3_foreseen_18 (by assumption) (by omega) (by omega) rfl (by omega) (jsr st hst) ?_
    refine aw_astore (ls' := [(4, _), (3, _), (0, _), (1, _), (2, _)]) dX3_foreseen_19 (by decide) rfl ?_
    refine aw_iload_n dX3_foreseen_21 rfl ?_
    refine aw_tableIn (tgt := 48) dX3_foreseen_22 (by decide) (by decide) rfl (by decide) ?_
    refine aw_aload dX3_foreseen_48 rfl ?_
    refine aw_getI dX3_foreseen_50 flX3_209 rfl (by assumption) jSR.2.2.2.2.2.2.2.2.1 ?_
    refine aw_aload_n dX3_foreseen_53 rfl ?_
    refine aw_getI dX3_foreseen_54 flX3_209 rfl (by assumption) hSR.2.2.2.2.2.2.2.2.1 ?_
    refine aw_isub dX3_foreseen_57 ?_
    exact aw_iret dX3_foreseen_58 rfl (Nat.zero_le _) (Nat.zero_le _) ⟨by unfold wouldI; rw [if_pos rfl, pk_sub (by omega), h77, Nat.add_sub_cancel_left], rfl⟩
  · refine run_of (ls := [(0, .ref (G.1 0)), (1, .int (nI st)), (2, .int (nI 1))]) (by decide +kernel) rfl rfl (Nat.le_of_ble_eq_true rfl) ?_
    refine aw_aload_n dX3_foreseen_0 rfl ?_
    refine aw_getR dX3_foreseen_1 flX3_10 rfl (by assumption) (by assumption) ?_
    refine aw_getR dX3_foreseen_4 flX3_107 rfl (by assumption) (by assumption) ?_
    refine aw_iload_n dX3_foreseen_7 rfl ?_
    refine aw_aald dX3_foreseen_8 (by assumption) (by omega) (by omega) rfl (by omega) (hsr st hst) ?_
    refine aw_astore_n (ls' := [(3, _), (0, _), (1, _), (2, _)]) dX3_foreseen_9 (by decide) rfl ?_
    refine aw_aload_n dX3_foreseen_10 rfl ?_
    refine aw_getR dX3_foreseen_11 flX3_16 rfl (by assumption) (by assumption) ?_
    refine aw_getR dX3_foreseen_14 flX3_107 rfl (by assumption) (by assumption) ?_
    refine aw_iload_n dX3_foreseen_17 rfl ?_
    refine aw_aald dX3_foreseen_18 (by assumption) (by omega) (by omega) rfl (by omega) (jsr st hst) ?_
    refine aw_astore (ls' := [(4, _), (3, _), (0, _), (1, _), (2, _)]) dX3_foreseen_19 (by decide) rfl ?_
    refine aw_iload_n dX3_foreseen_21 rfl ?_
    refine aw_tableIn (tgt := 59) dX3_foreseen_22 (by decide) (by decide) rfl (by decide) ?_
    refine aw_aload dX3_foreseen_59 rfl ?_
    refine aw_getI dX3_foreseen_61 flX3_212 rfl (by assumption) jSR.2.2.2.2.2.2.2.2.2.1 ?_
    refine aw_aload_n dX3_foreseen_64 rfl ?_
    refine aw_getI dX3_foreseen_65 flX3_212 rfl (by assumption) hSR.2.2.2.2.2.2.2.2.2.1 ?_
    refine aw_isub dX3_foreseen_68 ?_
    exact aw_iret dX3_foreseen_69 rfl (Nat.zero_le _) (Nat.zero_le _) ⟨by unfold wouldI; rw [if_neg (by decide), if_pos rfl, hA], rfl⟩
  · refine run_of (ls := [(0, .ref (G.1 0)), (1, .int (nI st)), (2, .int (nI 2))]) (by decide +kernel) rfl rfl (Nat.le_of_ble_eq_true rfl) ?_
    refine aw_aload_n dX3_foreseen_0 rfl ?_
    refine aw_getR dX3_foreseen_1 flX3_10 rfl (by assumption) (by assumption) ?_
    refine aw_getR dX3_foreseen_4 flX3_107 rfl (by assumption) (by assumption) ?_
    refine aw_iload_n dX3_foreseen_7 rfl ?_
    refine aw_aald dX3_foreseen_8 (by assumption) (by omega) (by omega) rfl (by omega) (hsr st hst) ?_
    refine aw_astore_n (ls' := [(3, _), (0, _), (1, _), (2, _)]) dX3_foreseen_9 (by decide) rfl ?_
    refine aw_aload_n dX3_foreseen_10 rfl ?_
    refine aw_getR dX3_foreseen_11 flX3_16 rfl (by assumption) (by assumption) ?_
    refine aw_getR dX3_foreseen_14 flX3_107 rfl (by assumption) (by assumption) ?_
    refine aw_iload_n dX3_foreseen_17 rfl ?_
    refine aw_aald dX3_foreseen_18 (by assumption) (by omega) (by omega) rfl (by omega) (jsr st hst) ?_
    refine aw_astore (ls' := [(4, _), (3, _), (0, _), (1, _), (2, _)]) dX3_foreseen_19 (by decide) rfl ?_
    refine aw_iload_n dX3_foreseen_21 rfl ?_
    refine aw_tableIn (tgt := 70) dX3_foreseen_22 (by decide) (by decide) rfl (by decide) ?_
    refine aw_aload_n dX3_foreseen_70 rfl ?_
    refine aw_getR dX3_foreseen_71 flX3_16 rfl (by assumption) (by assumption) ?_
    refine aw_bipush (v := nI 7) dX3_foreseen_74 rfl ?_
    refine aw_vRd dX3_foreseen_76 cvX3_197 ⟨Nat.le_of_ble_eq_true rfl, Nat.le_of_ble_eq_true rfl⟩ (by assumption) ⟨_, rfl, rfl⟩ (j7) rfl rfl (Nat.le_of_ble_eq_true rfl) ⟨rfl, rfl⟩ ⟨Nat.zero_le _, Nat.zero_le _⟩ ?_
    refine aw_aload_n dX3_foreseen_79 rfl ?_
    refine aw_getR dX3_foreseen_80 flX3_10 rfl (by assumption) (by assumption) ?_
    refine aw_bipush (v := nI 7) dX3_foreseen_83 rfl ?_
    refine aw_vRd dX3_foreseen_85 cvX3_197 ⟨Nat.le_of_ble_eq_true rfl, Nat.le_of_ble_eq_true rfl⟩ (by assumption) ⟨_, rfl, rfl⟩ (c7) rfl rfl (Nat.le_of_ble_eq_true rfl) ⟨rfl, rfl⟩ ⟨Nat.zero_le _, Nat.zero_le _⟩ ?_
    refine aw_isub dX3_foreseen_88 ?_
    exact aw_iret dX3_foreseen_89 rfl (Nat.zero_le _) (Nat.zero_le _) ⟨by unfold wouldI; rw [if_neg (by decide), if_neg (by decide), if_pos rfl, hA], rfl⟩
  · refine run_of (ls := [(0, .ref (G.1 0)), (1, .int (nI st)), (2, .int (nI 3))]) (by decide +kernel) rfl rfl (Nat.le_of_ble_eq_true rfl) ?_
    refine aw_aload_n dX3_foreseen_0 rfl ?_
    refine aw_getR dX3_foreseen_1 flX3_10 rfl (by assumption) (by assumption) ?_
    refine aw_getR dX3_foreseen_4 flX3_107 rfl (by assumption) (by assumption) ?_
    refine aw_iload_n dX3_foreseen_7 rfl ?_
    refine aw_aald dX3_foreseen_8 (by assumption) (by omega) (by omega) rfl (by omega) (hsr st hst) ?_
    refine aw_astore_n (ls' := [(3, _), (0, _), (1, _), (2, _)]) dX3_foreseen_9 (by decide) rfl ?_
    refine aw_aload_n dX3_foreseen_10 rfl ?_
    refine aw_getR dX3_foreseen_11 flX3_16 rfl (by assumption) (by assumption) ?_
    refine aw_getR dX3_foreseen_14 flX3_107 rfl (by assumption) (by assumption) ?_
    refine aw_iload_n dX3_foreseen_17 rfl ?_
    refine aw_aald dX3_foreseen_18 (by assumption) (by omega) (by omega) rfl (by omega) (jsr st hst) ?_
    refine aw_astore (ls' := [(4, _), (3, _), (0, _), (1, _), (2, _)]) dX3_foreseen_19 (by decide) rfl ?_
    refine aw_iload_n dX3_foreseen_21 rfl ?_
    refine aw_tableOut (tgt := 90) dX3_foreseen_22 (by decide) (by decide) ?_
    refine aw_aload dX3_foreseen_90 rfl ?_
    refine aw_getI dX3_foreseen_92 flX3_215 rfl (by assumption) jSR.2.2.2.1 ?_
    exact aw_iret dX3_foreseen_95 rfl (Nat.zero_le _) (Nat.zero_le _) ⟨by unfold wouldI; rw [if_neg (by decide), if_neg (by decide), if_neg (by decide), hA], rfl⟩
theorem X_ifCalled (hX : LX G K R) (hS : XS I (a, hs, B)) (hI : IV m k a) (hl1 : L1 a) (hmk : m + k ≤ 800000000) (v : Int32) (n : Int32) (t : Int32) (w : Int32) : Run G YX3_ifCalled [.ref (G.1 0), .int v, .int n, .int t, .int w] (K, R, I, J, z) (CP K R J z I XI XG (sIf v n t w (a, hs, B))) := by
  obtain ⟨xk0, xr0, xr1, xr2, xk35, xrs, xr5, xD, xL1, xL18, xLs⟩ := id hX
  have hN : CSt I 1 a := hS.1
  have hH : XH I hs := hS.2.1
  have hB : RDt I B := hS.2.2
  have hk1 : K 1 = some (1, 7) := xL1.1
  have hk36 : K 36 = some (0, 2) := xD.1
  have h16 := hI.2.1
  have hn3 : I 1 3 = nI a.2.1.length := hN.2.2.1

  by_cases hv : inR v 0 3
  rotate_left
  · have hx : sIf v n t w (a, hs, B) = (1, 0, (a, hs, B)) := by unfold sIf; rw [if_neg hv]
    rw [hx]
    refine run_of (ls := [(0, .ref (G.1 0)), (1, .int v), (2, .int n), (3, .int t), (4, .int w)]) (by decide +kernel) rfl rfl (Nat.le_of_ble_eq_true rfl) ?_
    refine aw_iload_n dX3_ifCalled_0 rfl ?_
    exact aw_sThr dX3_ifCalled_1 cvX3_30 ⟨Nat.le_of_ble_eq_true rfl, Nat.le_of_ble_eq_true rfl⟩ rfl rfl (Nat.le_of_ble_eq_true rfl) ⟨Nat.le_of_ble_eq_true rfl, Nat.le_of_ble_eq_true rfl⟩ rfl (q_requireStore0 hv) (fun z' hz => CP.t1 hz)
  obtain ⟨hv1, -, hv3⟩ := inR_nat hv (by decide) (by decide)
  have hst : nv v < 4 := by omega
  have hsI := hI.2.2.2.2.1 _ hst
  by_cases hnt : inR n 1 50 ∧ inR t 0 50 ∧ inR w 0 3
  · have hx : sIf v n t w (a, hs, B) = (0, wouldI a (nv v) (nv n) (nv t) (nv w), (a, hs, B)) := by unfold sIf; rw [if_pos hv, if_pos hnt]
    rw [hx]
    clear hx
    obtain ⟨hn1, hn2, hn3'⟩ := inR_nat hnt.1 (by decide) (by decide)
    obtain ⟨ht1, -, ht3⟩ := inR_nat hnt.2.1 (by decide) (by decide)
    obtain ⟨hw1, -, hw3⟩ := inR_nat hnt.2.2 (by decide) (by decide)
    obtain ⟨st, hst'⟩ : ∃ st, st = nv v := ⟨_, rfl⟩
    obtain ⟨nn, hnn'⟩ : ∃ st, st = nv n := ⟨_, rfl⟩
    obtain ⟨tt, htt'⟩ : ∃ st, st = nv t := ⟨_, rfl⟩
    obtain ⟨ww, hww'⟩ : ∃ st, st = nv w := ⟨_, rfl⟩
    rw [← hst'] at hv1 hv3 hst ⊢
    rw [← hnn'] at hn1 hn2 hn3' ⊢
    rw [← htt'] at ht1 ht3 ⊢
    rw [← hww'] at hw1 hw3 ⊢
    subst hv1 hn1 ht1 hw1
    obtain ⟨m', i1, i2, i3⟩ := of_often (st := st) (t := tt) (n := nn) hst hI hl1 nn
    refine run_of (ls := [(0, .ref (G.1 0)), (1, .int (nI st)), (2, .int (nI nn)), (3, .int (nI tt)), (4, .int (nI ww))]) (by decide +kernel) rfl rfl (Nat.le_of_ble_eq_true rfl) ?_
    refine aw_iload_n dX3_ifCalled_0 rfl ?_
    refine aw_sOk dX3_ifCalled_1 cvX3_30 ⟨Nat.le_of_ble_eq_true rfl, Nat.le_of_ble_eq_true rfl⟩ rfl rfl (Nat.le_of_ble_eq_true rfl) ⟨Nat.le_of_ble_eq_true rfl, Nat.le_of_ble_eq_true rfl⟩ (q_requireStore1 hv) ?_
    refine aw_iload_n dX3_ifCalled_4 rfl ?_
    refine aw_iconst (v := nI 1) dX3_ifCalled_5 rfl ?_
    refine aw_bipush (v := nI 50) dX3_ifCalled_6 rfl ?_
    refine aw_sOk dX3_ifCalled_8 cvX3_52 ⟨Nat.le_of_ble_eq_true rfl, Nat.le_of_ble_eq_true rfl⟩ rfl rfl (Nat.le_of_ble_eq_true rfl) ⟨Nat.le_of_ble_eq_true rfl, Nat.le_of_ble_eq_true rfl⟩ (q_range1 hnt.1) ?_
    refine aw_iload_n dX3_ifCalled_11 rfl ?_
    refine aw_iconst (v := nI 0) dX3_ifCalled_12 rfl ?_
    refine aw_bipush (v := nI 50) dX3_ifCalled_13 rfl ?_
    refine aw_sOk dX3_ifCalled_15 cvX3_52 ⟨Nat.le_of_ble_eq_true rfl, Nat.le_of_ble_eq_true rfl⟩ rfl rfl (Nat.le_of_ble_eq_true rfl) ⟨Nat.le_of_ble_eq_true rfl, Nat.le_of_ble_eq_true rfl⟩ (q_range1 hnt.2.1) ?_
    refine aw_iload dX3_ifCalled_18 rfl ?_
    refine aw_iconst (v := nI 0) dX3_ifCalled_20 rfl ?_
    refine aw_iconst (v := nI 3) dX3_ifCalled_21 rfl ?_
    refine aw_sOk dX3_ifCalled_22 cvX3_52 ⟨Nat.le_of_ble_eq_true rfl, Nat.le_of_ble_eq_true rfl⟩ rfl rfl (Nat.le_of_ble_eq_true rfl) ⟨Nat.le_of_ble_eq_true rfl, Nat.le_of_ble_eq_true rfl⟩ (q_range1 hnt.2.2) ?_
    refine aw_aload_n dX3_ifCalled_25 rfl ?_
    refine aw_iload_n dX3_ifCalled_26 rfl ?_
    refine aw_iload_n dX3_ifCalled_27 rfl ?_
    refine aw_iload_n dX3_ifCalled_28 rfl ?_
    refine aw_vUp0 dX3_ifCalled_29 cvX3_153 ⟨Nat.le_of_ble_eq_true rfl, Nat.le_of_ble_eq_true rfl⟩ (by assumption) ⟨_, rfl, rfl⟩ (x_foresee hX hS hI hl1 hmk hst ht3 hn3') rfl rfl (Nat.le_of_ble_eq_true rfl) ⟨rfl, rfl⟩ ⟨Nat.le_of_ble_eq_true rfl, Nat.le_of_ble_eq_true rfl⟩ (fun I29 hP29 => ?_)
    have hN29 : CSt I29 1 a := hN.fr (fun q h1 h2 => hP29.2 q (by omega))
    refine aw_aload_n dX3_ifCalled_32 rfl ?_
    refine aw_iload_n dX3_ifCalled_33 rfl ?_
    refine aw_iload dX3_ifCalled_34 rfl ?_
    refine aw_vRd dX3_ifCalled_36 cvX3_156 ⟨Nat.le_of_ble_eq_true rfl, Nat.le_of_ble_eq_true rfl⟩ (by assumption) ⟨_, rfl, rfl⟩ (x_foreseen (a := a) (st := st) (t := tt) (n := nn) (m := m) hX hN29 hP29.1 rfl hI i1 hmk (by omega) hst hw3) rfl rfl (Nat.le_of_ble_eq_true rfl) ⟨rfl, rfl⟩ ⟨Nat.le_of_ble_eq_true rfl, Nat.le_of_ble_eq_true rfl⟩ ?_
    refine aw_iret dX3_ifCalled_39 rfl (Nat.le_of_ble_eq_true rfl) (Nat.le_of_ble_eq_true rfl) ?_
    refine CP.ok ⟨⟨hN29, hH.fr (hP29.2 0 (by omega)) (fun q h1 h2 => hP29.2 q (by omega)), hB.fr (hP29.2 36 (by omega)) (hP29.2 37 (by omega))⟩, fun q hq => hP29.2 q (by omega)⟩
  · have hx : sIf v n t w (a, hs, B) = (2, 0, (a, hs, B)) := by unfold sIf; rw [if_pos hv, if_neg hnt]
    rw [hx]
    clear hx
    by_cases hn : inR n 1 50
    · by_cases htt : inR t 0 50
      · have hw : ¬ inR w 0 3 := fun q => hnt ⟨hn, htt, q⟩
        refine run_of (ls := [(0, .ref (G.1 0)), (1, .int v), (2, .int n), (3, .int t), (4, .int w)]) (by decide +kernel) rfl rfl (Nat.le_of_ble_eq_true rfl) ?_
        refine aw_iload_n dX3_ifCalled_0 rfl ?_
        refine aw_sOk dX3_ifCalled_1 cvX3_30 ⟨Nat.le_of_ble_eq_true rfl, Nat.le_of_ble_eq_true rfl⟩ rfl rfl (Nat.le_of_ble_eq_true rfl) ⟨Nat.le_of_ble_eq_true rfl, Nat.le_of_ble_eq_true rfl⟩ (q_requireStore1 hv) ?_
        refine aw_iload_n dX3_ifCalled_4 rfl ?_
        refine aw_iconst (v := nI 1) dX3_ifCalled_5 rfl ?_
        refine aw_bipush (v := nI 50) dX3_ifCalled_6 rfl ?_
        refine aw_sOk dX3_ifCalled_8 cvX3_52 ⟨Nat.le_of_ble_eq_true rfl, Nat.le_of_ble_eq_true rfl⟩ rfl rfl (Nat.le_of_ble_eq_true rfl) ⟨Nat.le_of_ble_eq_true rfl, Nat.le_of_ble_eq_true rfl⟩ (q_range1 hn) ?_
        refine aw_iload_n dX3_ifCalled_11 rfl ?_
        refine aw_iconst (v := nI 0) dX3_ifCalled_12 rfl ?_
        refine aw_bipush (v := nI 50) dX3_ifCalled_13 rfl ?_
        refine aw_sOk dX3_ifCalled_15 cvX3_52 ⟨Nat.le_of_ble_eq_true rfl, Nat.le_of_ble_eq_true rfl⟩ rfl rfl (Nat.le_of_ble_eq_true rfl) ⟨Nat.le_of_ble_eq_true rfl, Nat.le_of_ble_eq_true rfl⟩ (q_range1 htt) ?_
        refine aw_iload dX3_ifCalled_18 rfl ?_
        refine aw_iconst (v := nI 0) dX3_ifCalled_20 rfl ?_
        refine aw_iconst (v := nI 3) dX3_ifCalled_21 rfl ?_
        exact aw_sThr dX3_ifCalled_22 cvX3_52 ⟨Nat.le_of_ble_eq_true rfl, Nat.le_of_ble_eq_true rfl⟩ rfl rfl (Nat.le_of_ble_eq_true rfl) ⟨Nat.le_of_ble_eq_true rfl, Nat.le_of_ble_eq_true rfl⟩ rfl (q_range0 hw) (fun z' hz => CP.t2 hz)
      · skip
        refine run_of (ls := [(0, .ref (G.1 0)), (1, .int v), (2, .int n), (3, .int t), (4, .int w)]) (by decide +kernel) rfl rfl (Nat.le_of_ble_eq_true rfl) ?_
        refine aw_iload_n dX3_ifCalled_0 rfl ?_
        refine aw_sOk dX3_ifCalled_1 cvX3_30 ⟨Nat.le_of_ble_eq_true rfl, Nat.le_of_ble_eq_true rfl⟩ rfl rfl (Nat.le_of_ble_eq_true rfl) ⟨Nat.le_of_ble_eq_true rfl, Nat.le_of_ble_eq_true rfl⟩ (q_requireStore1 hv) ?_
        refine aw_iload_n dX3_ifCalled_4 rfl ?_
        refine aw_iconst (v := nI 1) dX3_ifCalled_5 rfl ?_
        refine aw_bipush (v := nI 50) dX3_ifCalled_6 rfl ?_
        refine aw_sOk dX3_ifCalled_8 cvX3_52 ⟨Nat.le_of_ble_eq_true rfl, Nat.le_of_ble_eq_true rfl⟩ rfl rfl (Nat.le_of_ble_eq_true rfl) ⟨Nat.le_of_ble_eq_true rfl, Nat.le_of_ble_eq_true rfl⟩ (q_range1 hn) ?_
        refine aw_iload_n dX3_ifCalled_11 rfl ?_
        refine aw_iconst (v := nI 0) dX3_ifCalled_12 rfl ?_
        refine aw_bipush (v := nI 50) dX3_ifCalled_13 rfl ?_
        exact aw_sThr dX3_ifCalled_15 cvX3_52 ⟨Nat.le_of_ble_eq_true rfl, Nat.le_of_ble_eq_true rfl⟩ rfl rfl (Nat.le_of_ble_eq_true rfl) ⟨Nat.le_of_ble_eq_true rfl, Nat.le_of_ble_eq_true rfl⟩ rfl (q_range0 htt) (fun z' hz => CP.t2 hz)
    · skip
      refine run_of (ls := [(0, .ref (G.1 0)), (1, .int v), (2, .int n), (3, .int t), (4, .int w)]) (by decide +kernel) rfl rfl (Nat.le_of_ble_eq_true rfl) ?_
      refine aw_iload_n dX3_ifCalled_0 rfl ?_
      refine aw_sOk dX3_ifCalled_1 cvX3_30 ⟨Nat.le_of_ble_eq_true rfl, Nat.le_of_ble_eq_true rfl⟩ rfl rfl (Nat.le_of_ble_eq_true rfl) ⟨Nat.le_of_ble_eq_true rfl, Nat.le_of_ble_eq_true rfl⟩ (q_requireStore1 hv) ?_
      refine aw_iload_n dX3_ifCalled_4 rfl ?_
      refine aw_iconst (v := nI 1) dX3_ifCalled_5 rfl ?_
      refine aw_bipush (v := nI 50) dX3_ifCalled_6 rfl ?_
      exact aw_sThr dX3_ifCalled_8 cvX3_52 ⟨Nat.le_of_ble_eq_true rfl, Nat.le_of_ble_eq_true rfl⟩ rfl rfl (Nat.le_of_ble_eq_true rfl) ⟨Nat.le_of_ble_eq_true rfl, Nat.le_of_ble_eq_true rfl⟩ rfl (q_range0 hn) (fun z' hz => CP.t2 hz)
theorem X_healthiest (hX : LX G K R) (hS : XS I (a, hs, B)) (hI : IV m k a) (hl1 : L1 a) (hmk : m + k ≤ 800000000) : Run G YX3_healthiest [.ref (G.1 0)] (K, R, I, J, z) (CP K R J z I XT XT (sHealthiest  (a, hs, B))) := by
  obtain ⟨xk0, xr0, xr1, xr2, xk35, xrs, xr5, xD, xL1, xL18, xLs⟩ := id hX
  have hN : CSt I 1 a := hS.1
  have hH : XH I hs := hS.2.1
  have hB : RDt I B := hS.2.2
  have hk1 : K 1 = some (1, 7) := xL1.1
  have hk36 : K 36 = some (0, 2) := xD.1
  have h16 := hI.2.1
  have hn3 : I 1 3 = nI a.2.1.length := hN.2.2.1

  refine run_of (ls := [(0, .ref (G.1 0))]) (by decide +kernel) rfl rfl (Nat.le_of_ble_eq_true rfl) ?_
  refine aw_aload_n dX3_healthiest_0 rfl ?_
  refine aw_getR dX3_healthiest_1 flX3_10 rfl (by assumption) (by assumption) ?_
  refine aw_vRd dX3_healthiest_4 cvX3_64 ⟨Nat.le_of_ble_eq_true rfl, Nat.le_of_ble_eq_true rfl⟩ (by assumption) ⟨_, rfl, rfl⟩ (c_healthiestStore (a := a) xL1 hN hI (by omega)) rfl rfl (Nat.le_of_ble_eq_true rfl) ⟨rfl, rfl⟩ ⟨Nat.le_of_ble_eq_true rfl, Nat.le_of_ble_eq_true rfl⟩ ?_
  exact aw_iret dX3_healthiest_7 rfl (Nat.le_of_ble_eq_true rfl) (Nat.le_of_ble_eq_true rfl) (CP.ok ⟨hS, FrC.rf⟩)
end CLASS16
