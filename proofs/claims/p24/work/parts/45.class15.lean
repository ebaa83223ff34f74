/-! THE CLASS'S FACE: texts, looks -/
section CLASS15
variable {G : GG} {K : Nat → Option (Nat × Nat)} {R : Nat → Nat → Value} {I : Nat → Nat → Int32} {J : Nat → Nat → Int64} {z : Nat} {σ : Sg} {a : AA} {m k : Nat}
variable {B : List Nat} {hs : List AA} {e1 e2 : String}
theorem X_append (hX : LX G K R) (hS : XS I (a, hs, B)) (hI : IV m k a) (hl1 : L1 a) (hmk : m + k ≤ 800000000) (v : Int32) : Run G YX3_append [.ref (G.1 0), .int v] (K, R, I, J, z) (CP K R J z I XG XT (sAppend v (a, hs, B))) := by
  obtain ⟨xk0, xr0, xr1, xr2, xk35, xrs, xr5, xD, xL1, xL18, xLs⟩ := id hX
  have hN : CSt I 1 a := hS.1
  have hH : XH I hs := hS.2.1
  have hB : RDt I B := hS.2.2
  have hk1 : K 1 = some (1, 7) := xL1.1
  have hk36 : K 36 = some (0, 2) := xD.1
  have h16 := hI.2.1
  have hn3 : I 1 3 = nI a.2.1.length := hN.2.2.1
  by_cases hv : inR v 33 126
  rotate_left
  · have hx : sAppend v (a, hs, B) = (1, 0, (a, hs, B)) := by unfold sAppend; rw [if_neg hv]
    rw [hx]
    refine run_of (ls := [(0, .ref (G.1 0)), (1, .int v)]) (by decide +kernel) rfl rfl (Nat.le_of_ble_eq_true rfl) ?_
    refine aw_iload_n dX3_append_0 rfl ?_
    refine aw_bipush (v := nI 33) dX3_append_1 rfl ?_
    refine aw_bipush (v := nI 126) dX3_append_3 rfl ?_
    exact aw_sThr dX3_append_5 cvX3_52 ⟨Nat.le_of_ble_eq_true rfl, Nat.le_of_ble_eq_true rfl⟩ rfl rfl (Nat.le_of_ble_eq_true rfl) ⟨Nat.le_of_ble_eq_true rfl, Nat.le_of_ble_eq_true rfl⟩ rfl (q_range0 hv) (fun z' hz => CP.t1 hz)
  have hfu := d_isFull (J := J) (z := z) xD hB
  have h60 := hB.2.1
  by_cases hf : B.length = 60
  · have hx : sAppend v (a, hs, B) = (2, 0, (a, hs, B)) := by unfold sAppend; rw [if_pos hv, if_pos hf]
    rw [hx]
    rw [if_pos hf] at hfu
    refine run_of (ls := [(0, .ref (G.1 0)), (1, .int v)]) (by decide +kernel) rfl rfl (Nat.le_of_ble_eq_true rfl) ?_
    refine aw_iload_n dX3_append_0 rfl ?_
    refine aw_bipush (v := nI 33) dX3_append_1 rfl ?_
    refine aw_bipush (v := nI 126) dX3_append_3 rfl ?_
    refine aw_sOk dX3_append_5 cvX3_52 ⟨Nat.le_of_ble_eq_true rfl, Nat.le_of_ble_eq_true rfl⟩ rfl rfl (Nat.le_of_ble_eq_true rfl) ⟨Nat.le_of_ble_eq_true rfl, Nat.le_of_ble_eq_true rfl⟩ (q_range1 hv) ?_
    refine aw_aload_n dX3_append_8 rfl ?_
    refine aw_getR dX3_append_9 flX3_26 rfl (by assumption) (by assumption) ?_
    refine aw_vRd dX3_append_12 cvX3_87 ⟨Nat.le_of_ble_eq_true rfl, Nat.le_of_ble_eq_true rfl⟩ (by assumption) ⟨_, rfl, rfl⟩ (hfu) rfl rfl (Nat.le_of_ble_eq_true rfl) ⟨rfl, rfl⟩ ⟨Nat.le_of_ble_eq_true rfl, Nat.le_of_ble_eq_true rfl⟩ ?_
    refine aw_if_eqN (tgt := 28) dX3_append_15 (by decide) (by omega) (fun hc15 => absurd hc15 (by decide)) (fun hc15 => ?_)
    exact aw_throw (cls := XT) (text := "the buffer has 60 characters") dX3_append_18 dX3_append_21 dX3_append_22 dX3_append_24 dX3_append_27 rfl rfl (by decide +kernel) (gT_ix 169 (by decide +kernel) rfl) (gT_ix 15 (by decide +kernel) rfl) (by decide) atXT_3 (Nat.le_of_ble_eq_true rfl) (Nat.le_of_ble_eq_true rfl) (Nat.le_of_ble_eq_true rfl) (Nat.le_of_ble_eq_true rfl) atXT_h (fun z' hz => CP.t2 hz)
  have hx : sAppend v (a, hs, B) = (0, nI (B.length + 1), a, hs, B ++ [nv v]) := by unfold sAppend; rw [if_pos hv, if_neg hf]
  rw [hx]
  rw [if_neg hf] at hfu
  obtain ⟨hv1, hv2, hv3⟩ := inR_nat hv (by decide) (by decide)
  have ha := fun I1 (h : RDt I1 B) => d_add (J := J) (z := z) (G := G) (K := K) (R := R) (I := I1) xD h hv2 hv3 (by omega)
  rw [← hv1] at ha
  refine run_of (ls := [(0, .ref (G.1 0)), (1, .int v)]) (by decide +kernel) rfl rfl (Nat.le_of_ble_eq_true rfl) ?_
  refine aw_iload_n dX3_append_0 rfl ?_
  refine aw_bipush (v := nI 33) dX3_append_1 rfl ?_
  refine aw_bipush (v := nI 126) dX3_append_3 rfl ?_
  refine aw_sOk dX3_append_5 cvX3_52 ⟨Nat.le_of_ble_eq_true rfl, Nat.le_of_ble_eq_true rfl⟩ rfl rfl (Nat.le_of_ble_eq_true rfl) ⟨Nat.le_of_ble_eq_true rfl, Nat.le_of_ble_eq_true rfl⟩ (q_range1 hv) ?_
  refine aw_aload_n dX3_append_8 rfl ?_
  refine aw_getR dX3_append_9 flX3_26 rfl (by assumption) (by assumption) ?_
  refine aw_vRd dX3_append_12 cvX3_87 ⟨Nat.le_of_ble_eq_true rfl, Nat.le_of_ble_eq_true rfl⟩ (by assumption) ⟨_, rfl, rfl⟩ (hfu) rfl rfl (Nat.le_of_ble_eq_true rfl) ⟨rfl, rfl⟩ ⟨Nat.le_of_ble_eq_true rfl, Nat.le_of_ble_eq_true rfl⟩ ?_
  refine aw_if_eqN (tgt := 28) dX3_append_15 (by decide) (by omega) (fun hc15 => ?_) (fun hc15 => absurd rfl hc15)
  refine aw_aload_n dX3_append_28 rfl ?_
  refine aw_getR dX3_append_29 flX3_26 rfl (by assumption) (by assumption) ?_
  refine aw_iload_n dX3_append_32 rfl ?_
  refine aw_vUp dX3_append_33 cvX3_90 ⟨Nat.le_of_ble_eq_true rfl, Nat.le_of_ble_eq_true rfl⟩ (by assumption) ⟨_, rfl, rfl⟩ (ha I hB) rfl rfl (Nat.le_of_ble_eq_true rfl) ⟨rfl, rfl⟩ ⟨Nat.le_of_ble_eq_true rfl, Nat.le_of_ble_eq_true rfl⟩ (fun I33 hP33 => ?_)
  refine aw_iret dX3_append_36 rfl (Nat.le_of_ble_eq_true rfl) (Nat.le_of_ble_eq_true rfl) ?_
  refine CP.ok ⟨⟨hN.fr (fun q h1 h2 => hP33.2 q (by omega) (by omega)), hH.fr (hP33.2 0 (by decide) (by decide)) (fun q h1 h2 => hP33.2 q (by omega) (by omega)), ?_⟩, fun q hq => hP33.2 q (by omega) (by omega)⟩
  exact hP33.1
theorem X_clearBuffer (hX : LX G K R) (hS : XS I (a, hs, B)) (hI : IV m k a) (hl1 : L1 a) (hmk : m + k ≤ 800000000) : Run G YX3_clearBuffer [.ref (G.1 0)] (K, R, I, J, z) (CP K R J z I XT XT (sClear  (a, hs, B))) := by
  obtain ⟨xk0, xr0, xr1, xr2, xk35, xrs, xr5, xD, xL1, xL18, xLs⟩ := id hX
  have hN : CSt I 1 a := hS.1
  have hH : XH I hs := hS.2.1
  have hB : RDt I B := hS.2.2
  have hk1 : K 1 = some (1, 7) := xL1.1
  have hk36 : K 36 = some (0, 2) := xD.1
  have h16 := hI.2.1
  have hn3 : I 1 3 = nI a.2.1.length := hN.2.2.1
  refine run_of (ls := [(0, .ref (G.1 0))]) (by decide +kernel) rfl rfl (Nat.le_of_ble_eq_true rfl) ?_
  refine aw_aload_n dX3_clearBuffer_0 rfl ?_
  refine aw_getR dX3_clearBuffer_1 flX3_26 rfl (by assumption) (by assumption) ?_
  refine aw_vUp dX3_clearBuffer_4 cvX3_93 ⟨Nat.le_of_ble_eq_true rfl, Nat.le_of_ble_eq_true rfl⟩ (by assumption) ⟨_, rfl, rfl⟩ (d_empty xD hB) rfl rfl (Nat.le_of_ble_eq_true rfl) ⟨rfl, rfl⟩ ⟨Nat.le_of_ble_eq_true rfl, Nat.le_of_ble_eq_true rfl⟩ (fun I4 hP4 => ?_)
  refine aw_iret dX3_clearBuffer_7 rfl (Nat.le_of_ble_eq_true rfl) (Nat.le_of_ble_eq_true rfl) ?_
  refine CP.ok ⟨⟨hN.fr (fun q h1 h2 => hP4.2 q (by omega)), hH.fr (hP4.2 0 (by decide)) (fun q h1 h2 => hP4.2 q (by omega)), ?_⟩, fun q hq => hP4.2 q (by omega)⟩
  exact hP4.1
theorem X_delays (hX : LX G K R) (hS : XS I (a, hs, B)) (hI : IV m k a) (hl1 : L1 a) (hmk : m + k ≤ 800000000) (v : Int32) : Run G YX3_delays [.ref (G.1 0), .int v] (K, R, I, J, z) (CP K R J z I XI XG (sDelays v (a, hs, B))) := by
  obtain ⟨xk0, xr0, xr1, xr2, xk35, xrs, xr5, xD, xL1, xL18, xLs⟩ := id hX
  have hN : CSt I 1 a := hS.1
  have hH : XH I hs := hS.2.1
  have hB : RDt I B := hS.2.2
  have hk1 : K 1 = some (1, 7) := xL1.1
  have hk36 : K 36 = some (0, 2) := xD.1
  have h16 := hI.2.1
  have hn3 : I 1 3 = nI a.2.1.length := hN.2.2.1
  by_cases hv : inR v 0 3
  rotate_left
  · have hx : sDelays v (a, hs, B) = (1, 0, (a, hs, B)) := by unfold sDelays; rw [if_neg hv]
    rw [hx]
    refine run_of (ls := [(0, .ref (G.1 0)), (1, .int v)]) (by decide +kernel) rfl rfl (Nat.le_of_ble_eq_true rfl) ?_
    refine aw_iload_n dX3_delays_0 rfl ?_
    exact aw_sThr dX3_delays_1 cvX3_30 ⟨Nat.le_of_ble_eq_true rfl, Nat.le_of_ble_eq_true rfl⟩ rfl rfl (Nat.le_of_ble_eq_true rfl) ⟨Nat.le_of_ble_eq_true rfl, Nat.le_of_ble_eq_true rfl⟩ rfl (q_requireStore0 hv) (fun z' hz => CP.t1 hz)
  obtain ⟨hv1, -, hv3⟩ := inR_nat hv (by decide) (by decide)
  have hst : nv v < 4 := by omega
  have hsI := hI.2.2.2.2.1 _ hst
  have hic := d_isComplete (J := J) (z := z) xD hB
  by_cases hk : (rdAll B).1 = true
  rotate_left
  · have hx : sDelays v (a, hs, B) = (2, 0, (a, hs, B)) := by unfold sDelays; rw [if_pos hv, if_neg hk]
    rw [hx]
    have hkf : (rdAll B).1 = false := by simpa using hk
    rw [b2_f hkf] at hic
    refine run_of (ls := [(0, .ref (G.1 0)), (1, .int v)]) (by decide +kernel) rfl rfl (Nat.le_of_ble_eq_true rfl) ?_
    refine aw_iload_n dX3_delays_0 rfl ?_
    refine aw_sOk dX3_delays_1 cvX3_30 ⟨Nat.le_of_ble_eq_true rfl, Nat.le_of_ble_eq_true rfl⟩ rfl rfl (Nat.le_of_ble_eq_true rfl) ⟨Nat.le_of_ble_eq_true rfl, Nat.le_of_ble_eq_true rfl⟩ (q_requireStore1 hv) ?_
    refine aw_aload_n dX3_delays_4 rfl ?_
    refine aw_getR dX3_delays_5 flX3_26 rfl (by assumption) (by assumption) ?_
    refine aw_vRd dX3_delays_8 cvX3_99 ⟨Nat.le_of_ble_eq_true rfl, Nat.le_of_ble_eq_true rfl⟩ (by assumption) ⟨_, rfl, rfl⟩ (hic) rfl rfl (Nat.le_of_ble_eq_true rfl) ⟨rfl, rfl⟩ ⟨Nat.le_of_ble_eq_true rfl, Nat.le_of_ble_eq_true rfl⟩ ?_
    refine aw_if_neN (tgt := 24) dX3_delays_11 (by decide) (by omega) (fun hc11 => absurd rfl hc11) (fun hc11 => ?_)
    exact aw_throw (cls := XG) (text := "the buffer is not complete delays as a text") dX3_delays_14 dX3_delays_17 dX3_delays_18 dX3_delays_20 dX3_delays_23 rfl rfl (by decide +kernel) (gT_ix 253 (by decide +kernel) rfl) (gT_ix 12 (by decide +kernel) rfl) (by decide) atXG_3 (Nat.le_of_ble_eq_true rfl) (Nat.le_of_ble_eq_true rfl) (Nat.le_of_ble_eq_true rfl) (Nat.le_of_ble_eq_true rfl) atXG_h (fun z' hz => CP.t2 hz)
  have hx : sDelays v (a, hs, B) = (0, nI (a.2.2 (nv v) 0), (a.1, a.2.1, sT a.2.2 (nv v) (rowR (rdAll B).2.2 (a.2.2 (nv v)))), pushH hs a, []) := by unfold sDelays; rw [if_pos hv, if_pos hk]
  rw [hx]
  clear hx
  rw [b2_t hk] at hic
  obtain ⟨st, hst'⟩ : ∃ st, st = nv v := ⟨_, rfl⟩
  rw [← hst'] at hv1 hv3 hst hsI ⊢
  subst hv1
  have hT := xL1.2.2.2.2.2.2.2.2.2.2.2.2.2.2.2.2.2.2.1 st hst
  have hsr := xL1.2.2.2.1
  have hr0 := xL1.2.1
  have hk2 := xL1.2.2.1
  have hKo := hT.1
  refine run_of (ls := [(0, .ref (G.1 0)), (1, .int (nI st))]) (by decide +kernel) rfl rfl (Nat.le_of_ble_eq_true rfl) ?_
  refine aw_iload_n dX3_delays_0 rfl ?_
  refine aw_sOk dX3_delays_1 cvX3_30 ⟨Nat.le_of_ble_eq_true rfl, Nat.le_of_ble_eq_true rfl⟩ rfl rfl (Nat.le_of_ble_eq_true rfl) ⟨Nat.le_of_ble_eq_true rfl, Nat.le_of_ble_eq_true rfl⟩ (q_requireStore1 hv) ?_
  refine aw_aload_n dX3_delays_4 rfl ?_
  refine aw_getR dX3_delays_5 flX3_26 rfl (by assumption) (by assumption) ?_
  refine aw_vRd dX3_delays_8 cvX3_99 ⟨Nat.le_of_ble_eq_true rfl, Nat.le_of_ble_eq_true rfl⟩ (by assumption) ⟨_, rfl, rfl⟩ (hic) rfl rfl (Nat.le_of_ble_eq_true rfl) ⟨rfl, rfl⟩ ⟨Nat.le_of_ble_eq_true rfl, Nat.le_of_ble_eq_true rfl⟩ ?_
  refine aw_if_neN (tgt := 24) dX3_delays_11 (by decide) (by omega) (fun hc11 => ?_) (fun hc11 => absurd hc11 (by decide))
  refine aw_aload_n dX3_delays_24 rfl ?_
  refine aw_vUp0 dX3_delays_25 cvX3_45 ⟨Nat.le_of_ble_eq_true rfl, Nat.le_of_ble_eq_true rfl⟩ (by assumption) ⟨_, rfl, rfl⟩ (x_save hX hS h16) rfl rfl (Nat.le_of_ble_eq_true rfl) ⟨rfl, rfl⟩ ⟨Nat.le_of_ble_eq_true rfl, Nat.le_of_ble_eq_true rfl⟩ (fun I25 hP25 => ?_)
  refine aw_aload_n dX3_delays_28 rfl ?_
  refine aw_getR dX3_delays_29 flX3_10 rfl (by assumption) (by assumption) ?_
  refine aw_getR dX3_delays_32 flX3_107 rfl (by assumption) (by assumption) ?_
  refine aw_iload_n dX3_delays_35 rfl ?_
  refine aw_aald dX3_delays_36 (by assumption) (by omega) (by omega) rfl (by omega) (hsr st hst) ?_
  refine aw_aload_n dX3_delays_37 rfl ?_
  refine aw_getR dX3_delays_38 flX3_26 rfl (by assumption) (by assumption) ?_
  refine aw_vUp dX3_delays_41 cvX3_111 ⟨Nat.le_of_ble_eq_true rfl, Nat.le_of_ble_eq_true rfl⟩ (by assumption) ⟨_, rfl, rfl⟩ (s_takeRow hT (hP25.1.1.1.2.2.2.2 st hst) (by omega) xD hP25.1.2.2 hk) rfl rfl (Nat.le_of_ble_eq_true rfl) ⟨rfl, rfl⟩ ⟨Nat.le_of_ble_eq_true rfl, Nat.le_of_ble_eq_true rfl⟩ (fun I41 hP41 => ?_)
  have hB41 : RDt I41 B := RDt.fr hP25.1.2.2 (hP41.2.2 36 (by omega) (by omega)) (hP41.2.2 37 (by omega) (by omega))
  refine aw_istore_n (ls' := [(2, _), (0, _), (1, _)]) dX3_delays_44 (by decide) rfl ?_
  refine aw_aload_n dX3_delays_45 rfl ?_
  refine aw_getR dX3_delays_46 flX3_26 rfl (by assumption) (by assumption) ?_
  refine aw_vUp dX3_delays_49 cvX3_93 ⟨Nat.le_of_ble_eq_true rfl, Nat.le_of_ble_eq_true rfl⟩ (by assumption) ⟨_, rfl, rfl⟩ (d_empty xD hB41) rfl rfl (Nat.le_of_ble_eq_true rfl) ⟨rfl, rfl⟩ ⟨Nat.le_of_ble_eq_true rfl, Nat.le_of_ble_eq_true rfl⟩ (fun I49 hP49 => ?_)
  refine aw_pop dX3_delays_52 rfl ?_
  refine aw_iload_n dX3_delays_53 rfl ?_
  refine aw_iret dX3_delays_54 rfl (Nat.le_of_ble_eq_true rfl) (Nat.le_of_ble_eq_true rfl) ?_
  have hN25 : CSt I25 1 a := hP25.1.1
  have hH25 : XH I25 (pushH hs a) := hP25.1.2.1
  have hf : ∀ q, q ≠ 36 → q ≠ 1 + 9 + 2 * st → q ≠ 1 + 9 + 2 * st + 1 → I49 q = I25 q := fun q h1 h2 h3 => by rw [hP49.2 q h1, hP41.2.2 q h2 h3]
  obtain ⟨⟨g1, g2, g3, g4, g5⟩, gA, gn, gW⟩ := hN25
  refine CP.ok ⟨⟨⟨⟨fun i hi => ?_, ?_, ?_, ?_, fun s hs => ?_⟩, gA.fr (fun q h1 h2 => hf q (by omega) (by omega) (by omega)), ?_, gW.fr (fun s hs => ?_)⟩, hH25.fr (hf 0 (by omega) (by omega) (by omega)) (fun q h1 h2 => hf q (by omega) (by omega) (by omega)), hP49.1⟩, hP25.2.tr (fun q hq => hf q (by omega) (by omega) (by omega))⟩
  · rw [hf _ (by omega) (by omega) (by omega)]; exact g1 i hi
  · rw [hf _ (by omega) (by omega) (by omega)]; exact g2
  · rw [hf _ (by omega) (by omega) (by omega)]; exact g3
  · rw [hf _ (by omega) (by omega) (by omega)]; exact g4
  · show SR _ _ (sT a.2.2 st _ s)
    by_cases e : s = st
    · subst e
      rw [sT_s, hP49.2 _ (by omega), hP49.2 _ (by omega)]; exact hP41.1
    · rw [sT_n e, hf _ (by omega) (by omega) (by omega), hf _ (by omega) (by omega) (by omega)]; exact g5 s hs
  · rw [hf _ (by omega) (by omega) (by omega)]; exact gn
  · by_cases e : s = st
    · subst e; rw [hP49.2 _ (by omega)]; exact hP41.2.1
    · rw [hf _ (by omega) (by omega) (by omega)]
theorem X_undo (hX : LX G K R) (hS : XS I (a, hs, B)) (hI : IV m k a) (hl1 : L1 a) (hmk : m + k ≤ 800000000) : Run G YX3_undo [.ref (G.1 0)] (K, R, I, J, z) (CP K R J z I XT XT (sUndo  (a, hs, B))) := by
  obtain ⟨xk0, xr0, xr1, xr2, xk35, xrs, xr5, xD, xL1, xL18, xLs⟩ := id hX
  have hN : CSt I 1 a := hS.1
  have hH : XH I hs := hS.2.1
  have hB : RDt I B := hS.2.2
  have hk1 : K 1 = some (1, 7) := xL1.1
  have hk36 : K 36 = some (0, 2) := xD.1
  have h16 := hI.2.1
  have hn3 : I 1 3 = nI a.2.1.length := hN.2.2.1
  obtain ⟨old, o1, o2, o3, o4, o5⟩ := id hH
  rcases List.eq_nil_or_concat hs with rfl | ⟨l, x, rfl⟩
  · have hx : sUndo (a, [], B) = (1, 0, (a, [], B)) := rfl
    rw [hx]
    have h4 : I 0 4 = nI 0 := o3
    refine run_of (ls := [(0, .ref (G.1 0))]) (by decide +kernel) rfl rfl (Nat.le_of_ble_eq_true rfl) ?_
    refine aw_aload_n dX3_undo_0 rfl ?_
    refine aw_getI dX3_undo_1 flX3_117 rfl (by assumption) h4 ?_
    refine aw_if_gtN (tgt := 17) dX3_undo_4 (by decide) (by omega) (fun hc4 => absurd hc4 (by decide)) (fun hc4 => ?_)
    exact aw_throw (cls := XT) (text := "there is no saved state") dX3_undo_7 dX3_undo_10 dX3_undo_11 dX3_undo_13 dX3_undo_16 rfl rfl (by decide +kernel) (gT_ix 169 (by decide +kernel) rfl) (gT_ix 15 (by decide +kernel) rfl) (by decide) atXT_3 (Nat.le_of_ble_eq_true rfl) (Nat.le_of_ble_eq_true rfl) (Nat.le_of_ble_eq_true rfl) (Nat.le_of_ble_eq_true rfl) atXT_h (fun z' hz => CP.t1 hz)
  · simp only [List.concat_eq_append] at *
    have hx : sUndo (a, l ++ [x], B) = (0, nI l.length, x, l, B) := by
      unfold sUndo
      simp only [List.getLast?_append, List.getLast?_singleton, Option.some_or, List.dropLast_concat, List.length_append, List.length_singleton, Nat.add_sub_cancel]
    rw [hx]
    clear hx
    simp only [List.length_append, List.length_singleton] at o3 o4
    have hm : (old + l.length) % 6 < 6 := Nat.mod_lt _ (by decide)
    have hLm := xLs _ hm
    obtain ⟨c1, c2⟩ := o5 l.length x (by simp)
    refine run_of (ls := [(0, .ref (G.1 0))]) (by decide +kernel) rfl rfl (Nat.le_of_ble_eq_true rfl) ?_
    refine aw_aload_n dX3_undo_0 rfl ?_
    refine aw_getI dX3_undo_1 flX3_117 rfl (by assumption) o3 ?_
    refine aw_if_gtN (tgt := 17) dX3_undo_4 (by decide) (by omega) (fun hc4 => ?_) (fun hc4 => absurd hc4 (by omega))
    refine aw_aload_n dX3_undo_17 rfl ?_
    refine aw_dup dX3_undo_18 rfl ?_
    refine aw_getI dX3_undo_19 flX3_117 rfl (by assumption) o3 ?_
    refine aw_iconst (v := nI 1) dX3_undo_22 rfl ?_
    first | refine aw_isubN dX3_undo_23 (by omega) ?_ | refine aw_isub dX3_undo_23 ?_
    rw [Nat.add_sub_cancel]
    refine aw_putI dX3_undo_24 flX3_117 rfl (by intro r hr; cases hr; rfl) (by assumption) (by omega) rfl rfl ?_
    refine aw_aload_n dX3_undo_27 rfl ?_
    refine aw_getR dX3_undo_28 flX3_10 rfl (by assumption) (by assumption) ?_
    refine aw_aload_n dX3_undo_31 rfl ?_
    refine aw_getR dX3_undo_32 flX3_19 rfl (by assumption) (by assumption) ?_
    refine aw_aload_n dX3_undo_35 rfl ?_
    refine aw_getI dX3_undo_36 flX3_123 rfl (by assumption) (show _ = nI old by rw [up2_o, if_neg (by decide)]; exact o2) ?_
    refine aw_aload_n dX3_undo_39 rfl ?_
    refine aw_getI dX3_undo_40 flX3_117 rfl (by assumption) (show _ = nI l.length by rw [up2_o, if_pos rfl]) ?_
    first | refine aw_iaddN dX3_undo_43 ?_ | refine aw_iadd dX3_undo_43 ?_
    refine aw_bipush (v := nI 6) dX3_undo_44 rfl ?_
    refine aw_iremN dX3_undo_46 (by omega) (by omega) (by omega) ?_
    refine aw_aald dX3_undo_47 (by assumption) (by omega) (by omega) rfl (by omega) (xrs _ hm) ?_
    refine aw_vUp0 dX3_undo_48 cvX3_126 ⟨Nat.le_of_ble_eq_true rfl, Nat.le_of_ble_eq_true rfl⟩ (by assumption) ⟨_, rfl, rfl⟩ (c_copyFrom (a := x) xL1 hLm (by omega) (c1.fr (fun q h1 h2 => FrO.up q (by omega))) c2) rfl rfl (Nat.le_of_ble_eq_true rfl) ⟨rfl, rfl⟩ ⟨Nat.le_of_ble_eq_true rfl, Nat.le_of_ble_eq_true rfl⟩ (fun I48 hP48 => ?_)
    refine aw_aload_n dX3_undo_51 rfl ?_
    refine aw_getI dX3_undo_52 flX3_117 rfl (by assumption) (show _ = nI l.length by rw [hP48.2 0 (by omega), up2_o, if_pos rfl]) ?_
    refine aw_iret dX3_undo_55 rfl (Nat.le_of_ble_eq_true rfl) (Nat.le_of_ble_eq_true rfl) ?_
    refine CP.ok ⟨⟨hP48.1, ⟨old, o1, ?_, ?_, by show l.length ≤ 6; omega, fun i y hy => ?_⟩, hB.fr ?_ ?_⟩, fun q hq => ?_⟩
    · rw [hP48.2 0 (by omega), up2_o, if_neg (by decide)]; exact o2
    · rw [hP48.2 0 (by omega), up2_o, if_pos rfl]
    · obtain ⟨y1, y2⟩ := o5 i y (by rw [List.getElem?_append_left (List.getElem?_eq_some_iff.mp hy).1]; exact hy)
      exact ⟨y1.fr (fun q h1 h2 => by rw [hP48.2 q (by omega), FrO.up q (by omega)]), y2⟩
    · rw [hP48.2 36 (by omega), FrO.up 36 (by decide)]
    · rw [hP48.2 37 (by omega), FrO.up 37 (by decide)]
    · rw [hP48.2 q (by omega), FrO.up q (by omega)]
theorem ldX3_74 : Cond.fieldLink RX3 74 RX3 (stF 1002) "[I" ∈ gT := gT_ix 423 (by decide +kernel) rfl
theorem ldX3_78 : Cond.fieldLink RX3 78 RX3 (stF 1003) "[I" ∈ gT := gT_ix 425 (by decide +kernel) rfl
theorem X_set (hX : LX G K R) (hS : XS I (a, hs, B)) (hI : IV m k a) (hl1 : L1 a) (hmk : m + k ≤ 800000000) (v : Int32) (w : Int32) (hC : SC K I) : Run G YX3_set [.ref (G.1 0), .int v, .int w] (K, R, I, J, z) (CP K R J z I XI XG (sSet v w (a, hs, B))) := by
  obtain ⟨xk0, xr0, xr1, xr2, xk35, xrs, xr5, xD, xL1, xL18, xLs⟩ := id hX
  have hN : CSt I 1 a := hS.1
  have hH : XH I hs := hS.2.1
  have hB : RDt I B := hS.2.2
  have hk1 : K 1 = some (1, 7) := xL1.1
  have hk36 : K 36 = some (0, 2) := xD.1
  have h16 := hI.2.1
  have hn3 : I 1 3 = nI a.2.1.length := hN.2.2.1
  by_cases hv : inR v 0 4
  rotate_left
  · have hx : sSet v w (a, hs, B) = (1, 0, (a, hs, B)) := by unfold sSet; rw [if_neg hv]
    rw [hx]
    refine run_of (ls := [(0, .ref (G.1 0)), (1, .int v), (2, .int w)]) (by decide +kernel) rfl rfl (Nat.le_of_ble_eq_true rfl) ?_
    refine aw_iload_n dX3_set_0 rfl ?_
    exact aw_sThr dX3_set_1 cvX3_71 ⟨Nat.le_of_ble_eq_true rfl, Nat.le_of_ble_eq_true rfl⟩ rfl rfl (Nat.le_of_ble_eq_true rfl) ⟨Nat.le_of_ble_eq_true rfl, Nat.le_of_ble_eq_true rfl⟩ rfl (q_requireSetting0 hv) (fun z' hz => CP.t1 hz)
  obtain ⟨hv1, -, hv3⟩ := inR_nat hv (by decide) (by decide)
  obtain ⟨s1, s2, s3, s4⟩ := hC
  have xk2 : K 3 = some (10, 5) := xL1.2.2.2.2.2.1
  have xr2' : R 1 1 = .ref (G.1 3) := xL1.2.2.2.2.1
  by_cases hw : inR w (setLo (nv v)) (setHi (nv v))
  · have hx : sSet v w (a, hs, B) = (0, nI (a.1 (nv v)), (u1 a.1 (nv v) (nv w), a.2.1, a.2.2), pushH hs a, B) := by unfold sSet; rw [if_pos hv, if_pos hw]
    rw [hx]
    clear hx
    have hw0 : nI 0 ≤ w := Int32.le_trans ((nI_leI (by decide) (by unfold setLo; split <;> decide)).mpr (Nat.zero_le _)) hw.1
    obtain ⟨hw1, hw2⟩ := nI_nv hw0
    obtain ⟨st, hst'⟩ : ∃ st, st = nv v := ⟨_, rfl⟩
    obtain ⟨ww, hww'⟩ : ∃ st, st = nv w := ⟨_, rfl⟩
    rw [← hst'] at hv1 hv3 hw ⊢
    rw [← hww'] at hw1 hw2 ⊢
    subst hv1 hw1
    refine run_of (ls := [(0, .ref (G.1 0)), (1, .int (nI st)), (2, .int (nI ww))]) (by decide +kernel) rfl rfl (Nat.le_of_ble_eq_true rfl) ?_
    refine aw_iload_n dX3_set_0 rfl ?_
    refine aw_sOk dX3_set_1 cvX3_71 ⟨Nat.le_of_ble_eq_true rfl, Nat.le_of_ble_eq_true rfl⟩ rfl rfl (Nat.le_of_ble_eq_true rfl) ⟨Nat.le_of_ble_eq_true rfl, Nat.le_of_ble_eq_true rfl⟩ (q_requireSetting1 hv) ?_
    refine aw_iload_n dX3_set_4 rfl ?_
    refine aw_gets (a := 1002) dX3_set_5 (Or.inr (Or.inl rfl)) ldX3_74 ?_
    refine aw_iload_n dX3_set_8 rfl ?_
    refine aw_iald dX3_set_9 (by assumption) (by omega) rfl (by omega) (s2 st (by omega)) ?_
    refine aw_gets (a := 1003) dX3_set_10 (Or.inr (Or.inr rfl)) ldX3_78 ?_
    refine aw_iload_n dX3_set_13 rfl ?_
    refine aw_iald dX3_set_14 (by assumption) (by omega) rfl (by omega) (s4 st (by omega)) ?_
    refine aw_sOk dX3_set_15 cvX3_52 ⟨Nat.le_of_ble_eq_true rfl, Nat.le_of_ble_eq_true rfl⟩ rfl rfl (Nat.le_of_ble_eq_true rfl) ⟨Nat.le_of_ble_eq_true rfl, Nat.le_of_ble_eq_true rfl⟩ (q_range1 hw) ?_
    refine aw_aload_n dX3_set_18 rfl ?_
    refine aw_vUp0 dX3_set_19 cvX3_45 ⟨Nat.le_of_ble_eq_true rfl, Nat.le_of_ble_eq_true rfl⟩ (by assumption) ⟨_, rfl, rfl⟩ (x_save hX hS h16) rfl rfl (Nat.le_of_ble_eq_true rfl) ⟨rfl, rfl⟩ ⟨Nat.le_of_ble_eq_true rfl, Nat.le_of_ble_eq_true rfl⟩ (fun I19 hP19 => ?_)
    refine aw_aload_n dX3_set_22 rfl ?_
    refine aw_getR dX3_set_23 flX3_10 rfl (by assumption) (by assumption) ?_
    refine aw_getR dX3_set_26 flX3_81 rfl (by assumption) (by assumption) ?_
    refine aw_iload_n dX3_set_29 rfl ?_
    refine aw_iald dX3_set_30 (by assumption) (by omega) rfl (by omega) (show _ = nI (a.1 st) from hP19.1.1.1.1 st (by omega)) ?_
    refine aw_istore_n (ls' := [(3, _), (0, _), (1, _), (2, _)]) dX3_set_31 (by decide) rfl ?_
    refine aw_aload_n dX3_set_32 rfl ?_
    refine aw_getR dX3_set_33 flX3_10 rfl (by assumption) (by assumption) ?_
    refine aw_getR dX3_set_36 flX3_81 rfl (by assumption) (by assumption) ?_
    refine aw_iload_n dX3_set_39 rfl ?_
    refine aw_iload_n dX3_set_40 rfl ?_
    refine aw_iast dX3_set_41 (by assumption) (by omega) (by omega) rfl (by omega) ?_
    refine aw_iload_n dX3_set_42 rfl ?_
    refine aw_iret dX3_set_43 rfl (Nat.le_of_ble_eq_true rfl) (Nat.le_of_ble_eq_true rfl) ?_
    have hN19 : CSt I19 1 a := hP19.1.1
    obtain ⟨⟨g1, g2, g3, g4, g5⟩, gA, gn, gW⟩ := hN19
    have hxs : XS I19 (a, pushH hs a, B) := hP19.1
    have h9 := hxs.now (I' := up2 I19 3 st (nI ww)) (a' := (u1 a.1 st ww, a.2.1, a.2.2)) ⟨⟨fun i hi => ?_, ?_, ?_, ?_, fun s hs => ?_⟩, gA.fr (fun q h1 h2 => FrO.up q (by omega)), ?_, gW.fr (fun s hs => by rw [FrO.up _ (by omega)])⟩ (fun q hq => FrO.up q (by omega))
    · exact CP.ok ⟨h9.1, hP19.2.tr h9.2⟩
    · show up2 I19 3 st (nI ww) 3 i = nI (u1 a.1 st ww i)
      rw [up2_o]; unfold u1
      by_cases e : i = st
      · rw [if_pos e, if_pos e]
      · rw [if_neg e, if_neg e]; exact g1 i hi
    · show _ = nI (u1 a.1 st ww 5)
      rw [FrO.up 1 (by decide), u1_n (by omega)]; exact g2
    · show _ = nI (u1 a.1 st ww 7)
      rw [FrO.up 1 (by decide), u1_n (by omega)]; exact g3
    · show _ = nI (u1 a.1 st ww 8)
      rw [FrO.up 1 (by decide), u1_n (by omega)]; exact g4
    · rw [FrO.up _ (by omega), FrO.up _ (by omega)]; exact g5 s hs
    · rw [FrO.up 1 (by decide)]; exact gn
  · have hx : sSet v w (a, hs, B) = (2, 0, (a, hs, B)) := by unfold sSet; rw [if_pos hv, if_neg hw]
    rw [hx]
    obtain ⟨st, hst'⟩ : ∃ st, st = nv v := ⟨_, rfl⟩
    rw [← hst'] at hv1 hv3 hw
    subst hv1
    refine run_of (ls := [(0, .ref (G.1 0)), (1, .int (nI st)), (2, .int w)]) (by decide +kernel) rfl rfl (Nat.le_of_ble_eq_true rfl) ?_
    refine aw_iload_n dX3_set_0 rfl ?_
    refine aw_sOk dX3_set_1 cvX3_71 ⟨Nat.le_of_ble_eq_true rfl, Nat.le_of_ble_eq_true rfl⟩ rfl rfl (Nat.le_of_ble_eq_true rfl) ⟨Nat.le_of_ble_eq_true rfl, Nat.le_of_ble_eq_true rfl⟩ (q_requireSetting1 hv) ?_
    refine aw_iload_n dX3_set_4 rfl ?_
    refine aw_gets (a := 1002) dX3_set_5 (Or.inr (Or.inl rfl)) ldX3_74 ?_
    refine aw_iload_n dX3_set_8 rfl ?_
    refine aw_iald dX3_set_9 (by assumption) (by omega) rfl (by omega) (s2 st (by omega)) ?_
    refine aw_gets (a := 1003) dX3_set_10 (Or.inr (Or.inr rfl)) ldX3_78 ?_
    refine aw_iload_n dX3_set_13 rfl ?_
    refine aw_iald dX3_set_14 (by assumption) (by omega) rfl (by omega) (s4 st (by omega)) ?_
    exact aw_sThr dX3_set_15 cvX3_52 ⟨Nat.le_of_ble_eq_true rfl, Nat.le_of_ble_eq_true rfl⟩ rfl rfl (Nat.le_of_ble_eq_true rfl) ⟨Nat.le_of_ble_eq_true rfl, Nat.le_of_ble_eq_true rfl⟩ rfl (q_range0 hw) (fun z' hz => CP.t2 hz)
end CLASS15
