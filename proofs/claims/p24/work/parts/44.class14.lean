/-! THE CLASS'S FACE -/
def CP (K : Nat → Option (Nat × Nat)) (R : Nat → Nat → Value) (J : Nat → Nat → Int64) (z : Nat) (I : Nat → Nat → Int32) (e1 e2 : String) (x : RS) : RT → Sg → Prop := fun r σ' =>
  (x.1 = 0 ∧ r = .inl (some (.int x.2.1)) ∧ ∃ I', σ' = (K, R, I', J, z) ∧ XS I' x.2.2 ∧ FrC I I') ∨ (x.1 = 1 ∧ r = .inr e1 ∧ ∃ z', z ≤ z' ∧ σ' = (K, R, I, J, z')) ∨ (x.1 = 2 ∧ r = .inr e2 ∧ ∃ z', z ≤ z' ∧ σ' = (K, R, I, J, z'))
/-- the bounds of the settings, in two arrays of the class -/
def SC (K : Nat → Option (Nat × Nat)) (I : Nat → Nat → Int32) : Prop := K 1002 = some (10, 5) ∧ (∀ i, i < 5 → I 1002 i = nI (setLo i)) ∧ K 1003 = some (10, 5) ∧ ∀ i, i < 5 → I 1003 i = nI (setHi i)
section CLASS14
variable {G : GG} {K : Nat → Option (Nat × Nat)} {R : Nat → Nat → Value} {I : Nat → Nat → Int32} {J : Nat → Nat → Int64} {z : Nat} {σ : Sg} {a : AA} {m k : Nat}
variable {B : List Nat} {hs : List AA} {e1 e2 : String}
theorem CP.ok {I' : Nat → Nat → Int32} {v : Int32} {s : ST} (h : XS I' s ∧ FrC I I') : CP K R J z I e1 e2 (0, v, s) (.inl (some (.int v))) (K, R, I', J, z) := Or.inl ⟨rfl, rfl, I', rfl, h⟩
theorem CP.t1 {z' : Nat} {v : Int32} {s : ST} (h : z ≤ z') : CP K R J z I e1 e2 (1, v, s) (.inr e1) (K, R, I, J, z') := Or.inr (Or.inl ⟨rfl, rfl, z', h, rfl⟩)
theorem CP.t2 {z' : Nat} {v : Int32} {s : ST} (h : z ≤ z') : CP K R J z I e1 e2 (2, v, s) (.inr e2) (K, R, I, J, z') := Or.inr (Or.inr ⟨rfl, rfl, z', h, rfl⟩)
theorem X_call (hX : LX G K R) (hS : XS I (a, hs, B)) (hI : IV m k a) (hl1 : L1 a) (hmk : m + k ≤ 800000000) (v : Int32) : Run G YX3_call [.ref (G.1 0), .int v] (K, R, I, J, z) (CP K R J z I XI XT (sCall v (a, hs, B))) := by
  obtain ⟨xk0, xr0, xr1, xr2, xk35, xrs, xr5, xD, xL1, xL18, xLs⟩ := id hX
  have hN : CSt I 1 a := hS.1
  have hH : XH I hs := hS.2.1
  have hB : RDt I B := hS.2.2
  have hk1 : K 1 = some (1, 7) := xL1.1
  have hk36 : K 36 = some (0, 2) := xD.1
  have h16 := hI.2.1
  have hn3 : I 1 3 = nI a.2.1.length := hN.2.2.1
  by_cases hv : inR v 0 3
  rotate_left
  · have hx : sCall v (a, hs, B) = (1, 0, (a, hs, B)) := by unfold sCall; rw [if_neg hv]
    rw [hx]
    refine run_of (ls := [(0, .ref (G.1 0)), (1, .int v)]) (by decide +kernel) rfl rfl (Nat.le_of_ble_eq_true rfl) ?_
    refine aw_iload_n dX3_call_0 rfl ?_
    exact aw_sThr dX3_call_1 cvX3_30 ⟨Nat.le_of_ble_eq_true rfl, Nat.le_of_ble_eq_true rfl⟩ rfl rfl (Nat.le_of_ble_eq_true rfl) ⟨Nat.le_of_ble_eq_true rfl, Nat.le_of_ble_eq_true rfl⟩ rfl (q_requireStore0 hv) (fun z' hz => CP.t1 hz)
  obtain ⟨hv1, -, hv3⟩ := inR_nat hv (by decide) (by decide)
  have hst : nv v < 4 := by omega
  have hsI := hI.2.2.2.2.1 _ hst
  by_cases hb : a.2.1.length = 16 ∧ refd a (nv v) = false
  · have hx : sCall v (a, hs, B) = (2, 0, (a, hs, B)) := by unfold sCall; rw [if_pos hv, if_pos hb]
    rw [hx]
    clear hx
    have hbl := c_blocks (J := J) (z := z) xL1 hN hI (by omega) hst
    rw [if_pos hb, ← hv1] at hbl
    refine run_of (ls := [(0, .ref (G.1 0)), (1, .int v)]) (by decide +kernel) rfl rfl (Nat.le_of_ble_eq_true rfl) ?_
    refine aw_iload_n dX3_call_0 rfl ?_
    refine aw_sOk dX3_call_1 cvX3_30 ⟨Nat.le_of_ble_eq_true rfl, Nat.le_of_ble_eq_true rfl⟩ rfl rfl (Nat.le_of_ble_eq_true rfl) ⟨Nat.le_of_ble_eq_true rfl, Nat.le_of_ble_eq_true rfl⟩ (q_requireStore1 hv) ?_
    refine aw_aload_n dX3_call_4 rfl ?_
    refine aw_getR dX3_call_5 flX3_10 rfl (by assumption) (by assumption) ?_
    refine aw_iload_n dX3_call_8 rfl ?_
    refine aw_vRd dX3_call_9 cvX3_34 ⟨Nat.le_of_ble_eq_true rfl, Nat.le_of_ble_eq_true rfl⟩ (by assumption) ⟨_, rfl, rfl⟩ (hbl) rfl rfl (Nat.le_of_ble_eq_true rfl) ⟨rfl, rfl⟩ ⟨Nat.le_of_ble_eq_true rfl, Nat.le_of_ble_eq_true rfl⟩ ?_
    refine aw_if_eqN (tgt := 25) dX3_call_12 (by decide) (by omega) (fun hc12 => absurd hc12 (by decide)) (fun hc12 => ?_)
    exact aw_throw (cls := XT) (text := "16 calls are on their way") dX3_call_15 dX3_call_18 dX3_call_19 dX3_call_21 dX3_call_24 rfl rfl (by decide +kernel) (gT_ix 169 (by decide +kernel) rfl) (gT_ix 15 (by decide +kernel) rfl) (by decide) atXT_3 (Nat.le_of_ble_eq_true rfl) (Nat.le_of_ble_eq_true rfl) (Nat.le_of_ble_eq_true rfl) (Nat.le_of_ble_eq_true rfl) atXT_h (fun z' hz => CP.t2 hz)
  have hx : sCall v (a, hs, B) = (0, nI (callN a (nv v)), callA a (nv v), pushH hs a, B) := by unfold sCall; rw [if_pos hv, if_neg hb]
  rw [hx]
  clear hx
  obtain ⟨st, hst'⟩ : ∃ st, st = nv v := ⟨_, rfl⟩
  rw [← hst'] at hv1 hv3 hst hsI hb ⊢
  subst hv1
  have hbl := c_blocks (J := J) (z := z) xL1 hN hI (by omega) hst
  rw [if_neg hb] at hbl
  have hroom : refd a st = true ∨ a.2.1.length < 16 := by
    rcases Nat.lt_or_ge a.2.1.length 16 with w | w
    · exact Or.inr w
    · refine Or.inl ?_
      cases w2 : refd a st
      · exact absurd ⟨by omega, w2⟩ hb
      · rfl
  refine run_of (ls := [(0, .ref (G.1 0)), (1, .int (nI st))]) (by decide +kernel) rfl rfl (Nat.le_of_ble_eq_true rfl) ?_
  refine aw_iload_n dX3_call_0 rfl ?_
  refine aw_sOk dX3_call_1 cvX3_30 ⟨Nat.le_of_ble_eq_true rfl, Nat.le_of_ble_eq_true rfl⟩ rfl rfl (Nat.le_of_ble_eq_true rfl) ⟨Nat.le_of_ble_eq_true rfl, Nat.le_of_ble_eq_true rfl⟩ (q_requireStore1 hv) ?_
  refine aw_aload_n dX3_call_4 rfl ?_
  refine aw_getR dX3_call_5 flX3_10 rfl (by assumption) (by assumption) ?_
  refine aw_iload_n dX3_call_8 rfl ?_
  refine aw_vRd dX3_call_9 cvX3_34 ⟨Nat.le_of_ble_eq_true rfl, Nat.le_of_ble_eq_true rfl⟩ (by assumption) ⟨_, rfl, rfl⟩ (hbl) rfl rfl (Nat.le_of_ble_eq_true rfl) ⟨rfl, rfl⟩ ⟨Nat.le_of_ble_eq_true rfl, Nat.le_of_ble_eq_true rfl⟩ ?_
  refine aw_if_eqN (tgt := 25) dX3_call_12 (by decide) (by omega) (fun hc12 => ?_) (fun hc12 => absurd rfl hc12)
  refine aw_aload_n dX3_call_25 rfl ?_
  refine aw_vUp0 dX3_call_26 cvX3_45 ⟨Nat.le_of_ble_eq_true rfl, Nat.le_of_ble_eq_true rfl⟩ (by assumption) ⟨_, rfl, rfl⟩ (x_save hX hS h16) rfl rfl (Nat.le_of_ble_eq_true rfl) ⟨rfl, rfl⟩ ⟨Nat.le_of_ble_eq_true rfl, Nat.le_of_ble_eq_true rfl⟩ (fun I26 hP26 => ?_)
  refine aw_aload_n dX3_call_29 rfl ?_
  refine aw_getR dX3_call_30 flX3_10 rfl (by assumption) (by assumption) ?_
  refine aw_iload_n dX3_call_33 rfl ?_
  refine aw_vUp dX3_call_34 cvX3_48 ⟨Nat.le_of_ble_eq_true rfl, Nat.le_of_ble_eq_true rfl⟩ (by assumption) ⟨_, rfl, rfl⟩ (c_ring (a := a) xL1 hP26.1.1 hI (by omega) hst hroom) rfl rfl (Nat.le_of_ble_eq_true rfl) ⟨rfl, rfl⟩ ⟨Nat.le_of_ble_eq_true rfl, Nat.le_of_ble_eq_true rfl⟩ (fun I34 hP34 => ?_)
  exact aw_iret dX3_call_37 rfl (Nat.le_of_ble_eq_true rfl) (Nat.le_of_ble_eq_true rfl) (by obtain ⟨w1, w2⟩ := hP26.1.now hP34.1 hP34.2; exact CP.ok ⟨w1, hP26.2.tr w2⟩)
theorem X_callOften (hX : LX G K R) (hS : XS I (a, hs, B)) (hI : IV m k a) (hl1 : L1 a) (hmk : m + k ≤ 800000000) (v : Int32) (n : Int32) (t : Int32) : Run G YX3_callOften [.ref (G.1 0), .int v, .int n, .int t] (K, R, I, J, z) (CP K R J z I XI XG (sOften v n t (a, hs, B))) := by
  obtain ⟨xk0, xr0, xr1, xr2, xk35, xrs, xr5, xD, xL1, xL18, xLs⟩ := id hX
  have hN : CSt I 1 a := hS.1
  have hH : XH I hs := hS.2.1
  have hB : RDt I B := hS.2.2
  have hk1 : K 1 = some (1, 7) := xL1.1
  have hk36 : K 36 = some (0, 2) := xD.1
  have h16 := hI.2.1
  have hn3 : I 1 3 = nI a.2.1.length := hN.2.2.1
  by_cases hv : inR v 0 3
  rotate_left
  · have hx : sOften v n t (a, hs, B) = (1, 0, (a, hs, B)) := by unfold sOften; rw [if_neg hv]
    rw [hx]
    refine run_of (ls := [(0, .ref (G.1 0)), (1, .int v), (2, .int n), (3, .int t)]) (by decide +kernel) rfl rfl (Nat.le_of_ble_eq_true rfl) ?_
    refine aw_iload_n dX3_callOften_0 rfl ?_
    exact aw_sThr dX3_callOften_1 cvX3_30 ⟨Nat.le_of_ble_eq_true rfl, Nat.le_of_ble_eq_true rfl⟩ rfl rfl (Nat.le_of_ble_eq_true rfl) ⟨Nat.le_of_ble_eq_true rfl, Nat.le_of_ble_eq_true rfl⟩ rfl (q_requireStore0 hv) (fun z' hz => CP.t1 hz)
  obtain ⟨hv1, -, hv3⟩ := inR_nat hv (by decide) (by decide)
  have hst : nv v < 4 := by omega
  have hsI := hI.2.2.2.2.1 _ hst
  by_cases hnt : inR n 1 50 ∧ inR t 0 50
  · have hx : sOften v n t (a, hs, B) = (0, nI (oftenN (nv v) (nv t) (nv n) a), oftenA (nv v) (nv t) (nv n) a, pushH hs a, B) := by unfold sOften; rw [if_pos hv, if_pos hnt]
    rw [hx]
    clear hx
    obtain ⟨hn1, hn2, hn3'⟩ := inR_nat hnt.1 (by decide) (by decide)
    obtain ⟨ht1, -, ht3⟩ := inR_nat hnt.2 (by decide) (by decide)
    obtain ⟨st, hst'⟩ : ∃ st, st = nv v := ⟨_, rfl⟩
    obtain ⟨nn, hnn'⟩ : ∃ st, st = nv n := ⟨_, rfl⟩
    obtain ⟨tt, htt'⟩ : ∃ st, st = nv t := ⟨_, rfl⟩
    rw [← hst'] at hv1 hv3 hst ⊢
    rw [← hnn'] at hn1 hn2 hn3' ⊢
    rw [← htt'] at ht1 ht3 ⊢
    subst hv1 hn1 ht1
    refine run_of (ls := [(0, .ref (G.1 0)), (1, .int (nI st)), (2, .int (nI nn)), (3, .int (nI tt))]) (by decide +kernel) rfl rfl (Nat.le_of_ble_eq_true rfl) ?_
    refine aw_iload_n dX3_callOften_0 rfl ?_
    refine aw_sOk dX3_callOften_1 cvX3_30 ⟨Nat.le_of_ble_eq_true rfl, Nat.le_of_ble_eq_true rfl⟩ rfl rfl (Nat.le_of_ble_eq_true rfl) ⟨Nat.le_of_ble_eq_true rfl, Nat.le_of_ble_eq_true rfl⟩ (q_requireStore1 hv) ?_
    refine aw_iload_n dX3_callOften_4 rfl ?_
    refine aw_iconst (v := nI 1) dX3_callOften_5 rfl ?_
    refine aw_bipush (v := nI 50) dX3_callOften_6 rfl ?_
    refine aw_sOk dX3_callOften_8 cvX3_52 ⟨Nat.le_of_ble_eq_true rfl, Nat.le_of_ble_eq_true rfl⟩ rfl rfl (Nat.le_of_ble_eq_true rfl) ⟨Nat.le_of_ble_eq_true rfl, Nat.le_of_ble_eq_true rfl⟩ (q_range1 hnt.1) ?_
    refine aw_iload_n dX3_callOften_11 rfl ?_
    refine aw_iconst (v := nI 0) dX3_callOften_12 rfl ?_
    refine aw_bipush (v := nI 50) dX3_callOften_13 rfl ?_
    refine aw_sOk dX3_callOften_15 cvX3_52 ⟨Nat.le_of_ble_eq_true rfl, Nat.le_of_ble_eq_true rfl⟩ rfl rfl (Nat.le_of_ble_eq_true rfl) ⟨Nat.le_of_ble_eq_true rfl, Nat.le_of_ble_eq_true rfl⟩ (q_range1 hnt.2) ?_
    refine aw_aload_n dX3_callOften_18 rfl ?_
    refine aw_vUp0 dX3_callOften_19 cvX3_45 ⟨Nat.le_of_ble_eq_true rfl, Nat.le_of_ble_eq_true rfl⟩ (by assumption) ⟨_, rfl, rfl⟩ (x_save hX hS h16) rfl rfl (Nat.le_of_ble_eq_true rfl) ⟨rfl, rfl⟩ ⟨Nat.le_of_ble_eq_true rfl, Nat.le_of_ble_eq_true rfl⟩ (fun I19 hP19 => ?_)
    refine aw_aload_n dX3_callOften_22 rfl ?_
    refine aw_getR dX3_callOften_23 flX3_10 rfl (by assumption) (by assumption) ?_
    refine aw_iload_n dX3_callOften_26 rfl ?_
    refine aw_iload_n dX3_callOften_27 rfl ?_
    refine aw_iload_n dX3_callOften_28 rfl ?_
    refine aw_vUp dX3_callOften_29 cvX3_56 ⟨Nat.le_of_ble_eq_true rfl, Nat.le_of_ble_eq_true rfl⟩ (by assumption) ⟨_, rfl, rfl⟩ (c_ringOften (a := a) (m := m) (k := k) xL1 hP19.1.1 hI hl1 hst (by omega) (by omega) (by omega)) rfl rfl (Nat.le_of_ble_eq_true rfl) ⟨rfl, rfl⟩ ⟨Nat.le_of_ble_eq_true rfl, Nat.le_of_ble_eq_true rfl⟩ (fun I29 hP29 => ?_)
    exact aw_iret dX3_callOften_32 rfl (Nat.le_of_ble_eq_true rfl) (Nat.le_of_ble_eq_true rfl) (by obtain ⟨w1, w2⟩ := hP19.1.now hP29.1 hP29.2; exact CP.ok ⟨w1, hP19.2.tr w2⟩)
  · have hx : sOften v n t (a, hs, B) = (2, 0, (a, hs, B)) := by unfold sOften; rw [if_pos hv, if_neg hnt]
    rw [hx]
    clear hx
    by_cases hn : inR n 1 50
    · have htt : ¬ inR t 0 50 := fun q => hnt ⟨hn, q⟩
      refine run_of (ls := [(0, .ref (G.1 0)), (1, .int v), (2, .int n), (3, .int t)]) (by decide +kernel) rfl rfl (Nat.le_of_ble_eq_true rfl) ?_
      refine aw_iload_n dX3_callOften_0 rfl ?_
      refine aw_sOk dX3_callOften_1 cvX3_30 ⟨Nat.le_of_ble_eq_true rfl, Nat.le_of_ble_eq_true rfl⟩ rfl rfl (Nat.le_of_ble_eq_true rfl) ⟨Nat.le_of_ble_eq_true rfl, Nat.le_of_ble_eq_true rfl⟩ (q_requireStore1 hv) ?_
      refine aw_iload_n dX3_callOften_4 rfl ?_
      refine aw_iconst (v := nI 1) dX3_callOften_5 rfl ?_
      refine aw_bipush (v := nI 50) dX3_callOften_6 rfl ?_
      refine aw_sOk dX3_callOften_8 cvX3_52 ⟨Nat.le_of_ble_eq_true rfl, Nat.le_of_ble_eq_true rfl⟩ rfl rfl (Nat.le_of_ble_eq_true rfl) ⟨Nat.le_of_ble_eq_true rfl, Nat.le_of_ble_eq_true rfl⟩ (q_range1 hn) ?_
      refine aw_iload_n dX3_callOften_11 rfl ?_
      refine aw_iconst (v := nI 0) dX3_callOften_12 rfl ?_
      refine aw_bipush (v := nI 50) dX3_callOften_13 rfl ?_
      exact aw_sThr dX3_callOften_15 cvX3_52 ⟨Nat.le_of_ble_eq_true rfl, Nat.le_of_ble_eq_true rfl⟩ rfl rfl (Nat.le_of_ble_eq_true rfl) ⟨Nat.le_of_ble_eq_true rfl, Nat.le_of_ble_eq_true rfl⟩ rfl (q_range0 htt) (fun z' hz => CP.t2 hz)
    · skip
      refine run_of (ls := [(0, .ref (G.1 0)), (1, .int v), (2, .int n), (3, .int t)]) (by decide +kernel) rfl rfl (Nat.le_of_ble_eq_true rfl) ?_
      refine aw_iload_n dX3_callOften_0 rfl ?_
      refine aw_sOk dX3_callOften_1 cvX3_30 ⟨Nat.le_of_ble_eq_true rfl, Nat.le_of_ble_eq_true rfl⟩ rfl rfl (Nat.le_of_ble_eq_true rfl) ⟨Nat.le_of_ble_eq_true rfl, Nat.le_of_ble_eq_true rfl⟩ (q_requireStore1 hv) ?_
      refine aw_iload_n dX3_callOften_4 rfl ?_
      refine aw_iconst (v := nI 1) dX3_callOften_5 rfl ?_
      refine aw_bipush (v := nI 50) dX3_callOften_6 rfl ?_
      exact aw_sThr dX3_callOften_8 cvX3_52 ⟨Nat.le_of_ble_eq_true rfl, Nat.le_of_ble_eq_true rfl⟩ rfl rfl (Nat.le_of_ble_eq_true rfl) ⟨Nat.le_of_ble_eq_true rfl, Nat.le_of_ble_eq_true rfl⟩ rfl (q_range0 hn) (fun z' hz => CP.t2 hz)
theorem X_callHealthiest (hX : LX G K R) (hS : XS I (a, hs, B)) (hI : IV m k a) (hl1 : L1 a) (hmk : m + k ≤ 800000000) : Run G YX3_callHealthiest [.ref (G.1 0)] (K, R, I, J, z) (CP K R J z I XT XT (sBest  (a, hs, B))) := by
  obtain ⟨xk0, xr0, xr1, xr2, xk35, xrs, xr5, xD, xL1, xL18, xLs⟩ := id hX
  have hN : CSt I 1 a := hS.1
  have hH : XH I hs := hS.2.1
  have hB : RDt I B := hS.2.2
  have hk1 : K 1 = some (1, 7) := xL1.1
  have hk36 : K 36 = some (0, 2) := xD.1
  have h16 := hI.2.1
  have hn3 : I 1 3 = nI a.2.1.length := hN.2.2.1
  have hfu := c_isFull (J := J) (z := z) xL1 hn3 h16
  by_cases hf : a.2.1.length = 16
  · have hx : sBest (a, hs, B) = (1, 0, (a, hs, B)) := by unfold sBest; rw [if_pos hf]
    rw [hx]
    rw [if_pos hf] at hfu
    refine run_of (ls := [(0, .ref (G.1 0))]) (by decide +kernel) rfl rfl (Nat.le_of_ble_eq_true rfl) ?_
    refine aw_aload_n dX3_callHealthiest_0 rfl ?_
    refine aw_getR dX3_callHealthiest_1 flX3_10 rfl (by assumption) (by assumption) ?_
    refine aw_vRd dX3_callHealthiest_4 cvX3_60 ⟨Nat.le_of_ble_eq_true rfl, Nat.le_of_ble_eq_true rfl⟩ (by assumption) ⟨_, rfl, rfl⟩ (hfu) rfl rfl (Nat.le_of_ble_eq_true rfl) ⟨rfl, rfl⟩ ⟨Nat.le_of_ble_eq_true rfl, Nat.le_of_ble_eq_true rfl⟩ ?_
    refine aw_if_eqN (tgt := 20) dX3_callHealthiest_7 (by decide) (by omega) (fun hc7 => absurd hc7 (by decide)) (fun hc7 => ?_)
    exact aw_throw (cls := XT) (text := "16 calls are on their way") dX3_callHealthiest_10 dX3_callHealthiest_13 dX3_callHealthiest_14 dX3_callHealthiest_16 dX3_callHealthiest_19 rfl rfl (by decide +kernel) (gT_ix 169 (by decide +kernel) rfl) (gT_ix 15 (by decide +kernel) rfl) (by decide) atXT_3 (Nat.le_of_ble_eq_true rfl) (Nat.le_of_ble_eq_true rfl) (Nat.le_of_ble_eq_true rfl) (Nat.le_of_ble_eq_true rfl) atXT_h (fun z' hz => CP.t1 hz)
  · have hx : sBest (a, hs, B) = (match bestN a 4 with
      | none => (0, -1, a, pushH hs a, B)
      | some b => (0, nI b, callA a b, pushH hs a, B)) := by unfold sBest; exact if_neg hf
    rw [hx]
    rw [if_neg hf] at hfu
    have hbs : ∀ I1 : Nat → Nat → Int32, CSt I1 1 a → ∀ x, oI (bestN a 4) = x → Run G YX1_healthiestStore [.ref (G.1 1)] (K, R, I1, J, z) (Rd (K, R, I1, J, z) (.int x)) := fun I1 h1 x hx => by
      subst hx; exact c_healthiestStore (a := a) xL1 h1 hI (by omega)
    rcases hb : bestN a 4 with _ | b
    · rw [hb] at hbs
      refine run_of (ls := [(0, .ref (G.1 0))]) (by decide +kernel) rfl rfl (Nat.le_of_ble_eq_true rfl) ?_
      refine aw_aload_n dX3_callHealthiest_0 rfl ?_
      refine aw_getR dX3_callHealthiest_1 flX3_10 rfl (by assumption) (by assumption) ?_
      refine aw_vRd dX3_callHealthiest_4 cvX3_60 ⟨Nat.le_of_ble_eq_true rfl, Nat.le_of_ble_eq_true rfl⟩ (by assumption) ⟨_, rfl, rfl⟩ (hfu) rfl rfl (Nat.le_of_ble_eq_true rfl) ⟨rfl, rfl⟩ ⟨Nat.le_of_ble_eq_true rfl, Nat.le_of_ble_eq_true rfl⟩ ?_
      refine aw_if_eqN (tgt := 20) dX3_callHealthiest_7 (by decide) (by omega) (fun hc7 => ?_) (fun hc7 => absurd rfl hc7)
      refine aw_aload_n dX3_callHealthiest_20 rfl ?_
      refine aw_vUp0 dX3_callHealthiest_21 cvX3_45 ⟨Nat.le_of_ble_eq_true rfl, Nat.le_of_ble_eq_true rfl⟩ (by assumption) ⟨_, rfl, rfl⟩ (x_save hX hS h16) rfl rfl (Nat.le_of_ble_eq_true rfl) ⟨rfl, rfl⟩ ⟨Nat.le_of_ble_eq_true rfl, Nat.le_of_ble_eq_true rfl⟩ (fun I21 hP21 => ?_)
      refine aw_aload_n dX3_callHealthiest_24 rfl ?_
      refine aw_getR dX3_callHealthiest_25 flX3_10 rfl (by assumption) (by assumption) ?_
      refine aw_vRd dX3_callHealthiest_28 cvX3_64 ⟨Nat.le_of_ble_eq_true rfl, Nat.le_of_ble_eq_true rfl⟩ (by assumption) ⟨_, rfl, rfl⟩ (hbs I21 hP21.1.1 (-1) rfl) rfl rfl (Nat.le_of_ble_eq_true rfl) ⟨rfl, rfl⟩ ⟨Nat.le_of_ble_eq_true rfl, Nat.le_of_ble_eq_true rfl⟩ ?_
      refine aw_istore_n (ls' := [(1, _), (0, _)]) dX3_callHealthiest_31 (by decide) rfl ?_
      refine aw_iload_n dX3_callHealthiest_32 rfl ?_
      refine aw_iconst (v := (-1)) dX3_callHealthiest_33 rfl ?_
      refine aw_icmp_eq (tgt := 46) dX3_callHealthiest_34 (by decide) (fun hc34 => ?_) (fun hc34 => absurd rfl hc34)
      refine aw_iload_n dX3_callHealthiest_46 rfl ?_
      exact aw_iret dX3_callHealthiest_47 rfl (Nat.le_of_ble_eq_true rfl) (Nat.le_of_ble_eq_true rfl) (CP.ok hP21)
    · rw [hb] at hbs
      have hb2 := bestN_lt hb
      refine run_of (ls := [(0, .ref (G.1 0))]) (by decide +kernel) rfl rfl (Nat.le_of_ble_eq_true rfl) ?_
      refine aw_aload_n dX3_callHealthiest_0 rfl ?_
      refine aw_getR dX3_callHealthiest_1 flX3_10 rfl (by assumption) (by assumption) ?_
      refine aw_vRd dX3_callHealthiest_4 cvX3_60 ⟨Nat.le_of_ble_eq_true rfl, Nat.le_of_ble_eq_true rfl⟩ (by assumption) ⟨_, rfl, rfl⟩ (hfu) rfl rfl (Nat.le_of_ble_eq_true rfl) ⟨rfl, rfl⟩ ⟨Nat.le_of_ble_eq_true rfl, Nat.le_of_ble_eq_true rfl⟩ ?_
      refine aw_if_eqN (tgt := 20) dX3_callHealthiest_7 (by decide) (by omega) (fun hc7 => ?_) (fun hc7 => absurd rfl hc7)
      refine aw_aload_n dX3_callHealthiest_20 rfl ?_
      refine aw_vUp0 dX3_callHealthiest_21 cvX3_45 ⟨Nat.le_of_ble_eq_true rfl, Nat.le_of_ble_eq_true rfl⟩ (by assumption) ⟨_, rfl, rfl⟩ (x_save hX hS h16) rfl rfl (Nat.le_of_ble_eq_true rfl) ⟨rfl, rfl⟩ ⟨Nat.le_of_ble_eq_true rfl, Nat.le_of_ble_eq_true rfl⟩ (fun I21 hP21 => ?_)
      refine aw_aload_n dX3_callHealthiest_24 rfl ?_
      refine aw_getR dX3_callHealthiest_25 flX3_10 rfl (by assumption) (by assumption) ?_
      refine aw_vRd dX3_callHealthiest_28 cvX3_64 ⟨Nat.le_of_ble_eq_true rfl, Nat.le_of_ble_eq_true rfl⟩ (by assumption) ⟨_, rfl, rfl⟩ (hbs I21 hP21.1.1 (nI b) rfl) rfl rfl (Nat.le_of_ble_eq_true rfl) ⟨rfl, rfl⟩ ⟨Nat.le_of_ble_eq_true rfl, Nat.le_of_ble_eq_true rfl⟩ ?_
      refine aw_istore_n (ls' := [(1, _), (0, _)]) dX3_callHealthiest_31 (by decide) rfl ?_
      refine aw_iload_n dX3_callHealthiest_32 rfl ?_
      refine aw_iconst (v := (-1)) dX3_callHealthiest_33 rfl ?_
      refine aw_icmp_eq (tgt := 46) dX3_callHealthiest_34 (by decide) (fun hc34 => absurd hc34 (nI_m1 (by omega))) (fun hc34 => ?_)
      refine aw_aload_n dX3_callHealthiest_37 rfl ?_
      refine aw_getR dX3_callHealthiest_38 flX3_10 rfl (by assumption) (by assumption) ?_
      refine aw_iload_n dX3_callHealthiest_41 rfl ?_
      refine aw_vUp dX3_callHealthiest_42 cvX3_48 ⟨Nat.le_of_ble_eq_true rfl, Nat.le_of_ble_eq_true rfl⟩ (by assumption) ⟨_, rfl, rfl⟩ (c_ring (a := a) xL1 hP21.1.1 hI (by omega) hb2.1 (Or.inr (by omega))) rfl rfl (Nat.le_of_ble_eq_true rfl) ⟨rfl, rfl⟩ ⟨Nat.le_of_ble_eq_true rfl, Nat.le_of_ble_eq_true rfl⟩ (fun I42 hP42 => ?_)
      refine aw_pop dX3_callHealthiest_45 rfl ?_
      refine aw_iload_n dX3_callHealthiest_46 rfl ?_
      exact aw_iret dX3_callHealthiest_47 rfl (Nat.le_of_ble_eq_true rfl) (Nat.le_of_ble_eq_true rfl) (by obtain ⟨w1, w2⟩ := hP21.1.now hP42.1 hP42.2; exact CP.ok ⟨w1, hP21.2.tr w2⟩)
theorem X_close (hX : LX G K R) (hS : XS I (a, hs, B)) (hI : IV m k a) (hl1 : L1 a) (hmk : m + k ≤ 800000000) (v : Int32) : Run G YX3_close [.ref (G.1 0), .int v] (K, R, I, J, z) (CP K R J z I XI XI (sClose v (a, hs, B))) := by
  obtain ⟨xk0, xr0, xr1, xr2, xk35, xrs, xr5, xD, xL1, xL18, xLs⟩ := id hX
  have hN : CSt I 1 a := hS.1
  have hH : XH I hs := hS.2.1
  have hB : RDt I B := hS.2.2
  have hk1 : K 1 = some (1, 7) := xL1.1
  have hk36 : K 36 = some (0, 2) := xD.1
  have h16 := hI.2.1
  have hn3 : I 1 3 = nI a.2.1.length := hN.2.2.1
  by_cases hv : inR v 0 3
  rotate_left
  · have hx : sClose v (a, hs, B) = (1, 0, (a, hs, B)) := by unfold sClose; rw [if_neg hv]
    rw [hx]
    refine run_of (ls := [(0, .ref (G.1 0)), (1, .int v)]) (by decide +kernel) rfl rfl (Nat.le_of_ble_eq_true rfl) ?_
    refine aw_iload_n dX3_close_0 rfl ?_
    exact aw_sThr dX3_close_1 cvX3_30 ⟨Nat.le_of_ble_eq_true rfl, Nat.le_of_ble_eq_true rfl⟩ rfl rfl (Nat.le_of_ble_eq_true rfl) ⟨Nat.le_of_ble_eq_true rfl, Nat.le_of_ble_eq_true rfl⟩ rfl (q_requireStore0 hv) (fun z' hz => CP.t1 hz)
  obtain ⟨hv1, -, hv3⟩ := inR_nat hv (by decide) (by decide)
  have hst : nv v < 4 := by omega
  have hsI := hI.2.2.2.2.1 _ hst
  have hx : sClose v (a, hs, B) = (0, nI (a.2.2 (nv v) 2), shutA a (nv v), pushH hs a, B) := by unfold sClose; rw [if_pos hv]
  rw [hx]
  clear hx
  obtain ⟨st, hst'⟩ : ∃ st, st = nv v := ⟨_, rfl⟩
  rw [← hst'] at hv1 hv3 hst hsI ⊢
  subst hv1
  refine run_of (ls := [(0, .ref (G.1 0)), (1, .int (nI st))]) (by decide +kernel) rfl rfl (Nat.le_of_ble_eq_true rfl) ?_
  refine aw_iload_n dX3_close_0 rfl ?_
  refine aw_sOk dX3_close_1 cvX3_30 ⟨Nat.le_of_ble_eq_true rfl, Nat.le_of_ble_eq_true rfl⟩ rfl rfl (Nat.le_of_ble_eq_true rfl) ⟨Nat.le_of_ble_eq_true rfl, Nat.le_of_ble_eq_true rfl⟩ (q_requireStore1 hv) ?_
  refine aw_aload_n dX3_close_4 rfl ?_
  refine aw_vUp0 dX3_close_5 cvX3_45 ⟨Nat.le_of_ble_eq_true rfl, Nat.le_of_ble_eq_true rfl⟩ (by assumption) ⟨_, rfl, rfl⟩ (x_save hX hS h16) rfl rfl (Nat.le_of_ble_eq_true rfl) ⟨rfl, rfl⟩ ⟨Nat.le_of_ble_eq_true rfl, Nat.le_of_ble_eq_true rfl⟩ (fun I5 hP5 => ?_)
  refine aw_aload_n dX3_close_8 rfl ?_
  refine aw_getR dX3_close_9 flX3_10 rfl (by assumption) (by assumption) ?_
  refine aw_iload_n dX3_close_12 rfl ?_
  refine aw_vUp dX3_close_13 cvX3_68 ⟨Nat.le_of_ble_eq_true rfl, Nat.le_of_ble_eq_true rfl⟩ (by assumption) ⟨_, rfl, rfl⟩ (c_closeByHand (a := a) xL1 hP5.1.1 hI (by omega) hst) rfl rfl (Nat.le_of_ble_eq_true rfl) ⟨rfl, rfl⟩ ⟨Nat.le_of_ble_eq_true rfl, Nat.le_of_ble_eq_true rfl⟩ (fun I13 hP13 => ?_)
  exact aw_iret dX3_close_16 rfl (Nat.le_of_ble_eq_true rfl) (Nat.le_of_ble_eq_true rfl) (by obtain ⟨w1, w2⟩ := hP5.1.now hP13.1 hP13.2; exact CP.ok ⟨w1, hP5.2.tr w2⟩)
theorem X_pass (hX : LX G K R) (hS : XS I (a, hs, B)) (hI : IV m k a) (hl1 : L1 a) (hmk : m + k ≤ 800000000) (v : Int32) : Run G YX3_pass [.ref (G.1 0), .int v] (K, R, I, J, z) (CP K R J z I XG XG (sPass v (a, hs, B))) := by
  obtain ⟨xk0, xr0, xr1, xr2, xk35, xrs, xr5, xD, xL1, xL18, xLs⟩ := id hX
  have hN : CSt I 1 a := hS.1
  have hH : XH I hs := hS.2.1
  have hB : RDt I B := hS.2.2
  have hk1 : K 1 = some (1, 7) := xL1.1
  have hk36 : K 36 = some (0, 2) := xD.1
  have h16 := hI.2.1
  have hn3 : I 1 3 = nI a.2.1.length := hN.2.2.1
  by_cases hv : inR v 1 200
  rotate_left
  · have hx : sPass v (a, hs, B) = (1, 0, (a, hs, B)) := by unfold sPass; rw [if_neg hv]
    rw [hx]
    refine run_of (ls := [(0, .ref (G.1 0)), (1, .int v)]) (by decide +kernel) rfl rfl (Nat.le_of_ble_eq_true rfl) ?_
    refine aw_iload_n dX3_pass_0 rfl ?_
    refine aw_iconst (v := nI 1) dX3_pass_1 rfl ?_
    refine aw_sipush (v := nI 200) dX3_pass_2 rfl ?_
    exact aw_sThr dX3_pass_5 cvX3_52 ⟨Nat.le_of_ble_eq_true rfl, Nat.le_of_ble_eq_true rfl⟩ rfl rfl (Nat.le_of_ble_eq_true rfl) ⟨Nat.le_of_ble_eq_true rfl, Nat.le_of_ble_eq_true rfl⟩ rfl (q_range0 hv) (fun z' hz => CP.t1 hz)
  obtain ⟨hv1, -, hv3⟩ := inR_nat hv (by decide) (by decide)
  have hx : sPass v (a, hs, B) = (0, nI (ticksN (nv v) a), ticksA (nv v) a, pushH hs a, B) := by unfold sPass; rw [if_pos hv]
  rw [hx]
  clear hx
  obtain ⟨n, hn'⟩ : ∃ st, st = nv v := ⟨_, rfl⟩
  rw [← hn'] at hv1 hv3 ⊢
  subst hv1
  refine run_of (ls := [(0, .ref (G.1 0)), (1, .int (nI n))]) (by decide +kernel) rfl rfl (Nat.le_of_ble_eq_true rfl) ?_
  refine aw_iload_n dX3_pass_0 rfl ?_
  refine aw_iconst (v := nI 1) dX3_pass_1 rfl ?_
  refine aw_sipush (v := nI 200) dX3_pass_2 rfl ?_
  refine aw_sOk dX3_pass_5 cvX3_52 ⟨Nat.le_of_ble_eq_true rfl, Nat.le_of_ble_eq_true rfl⟩ rfl rfl (Nat.le_of_ble_eq_true rfl) ⟨Nat.le_of_ble_eq_true rfl, Nat.le_of_ble_eq_true rfl⟩ (q_range1 hv) ?_
  refine aw_aload_n dX3_pass_8 rfl ?_
  refine aw_vUp0 dX3_pass_9 cvX3_45 ⟨Nat.le_of_ble_eq_true rfl, Nat.le_of_ble_eq_true rfl⟩ (by assumption) ⟨_, rfl, rfl⟩ (x_save hX hS h16) rfl rfl (Nat.le_of_ble_eq_true rfl) ⟨rfl, rfl⟩ ⟨Nat.le_of_ble_eq_true rfl, Nat.le_of_ble_eq_true rfl⟩ (fun I9 hP9 => ?_)
  refine aw_aload_n dX3_pass_12 rfl ?_
  refine aw_getR dX3_pass_13 flX3_10 rfl (by assumption) (by assumption) ?_
  refine aw_iload_n dX3_pass_16 rfl ?_
  refine aw_vUp dX3_pass_17 cvX3_84 ⟨Nat.le_of_ble_eq_true rfl, Nat.le_of_ble_eq_true rfl⟩ (by assumption) ⟨_, rfl, rfl⟩ (c_letPass (a := a) xL1 hP9.1.1 hI hl1 (by omega) (by omega)) rfl rfl (Nat.le_of_ble_eq_true rfl) ⟨rfl, rfl⟩ ⟨Nat.le_of_ble_eq_true rfl, Nat.le_of_ble_eq_true rfl⟩ (fun I17 hP17 => ?_)
  exact aw_iret dX3_pass_20 rfl (Nat.le_of_ble_eq_true rfl) (Nat.le_of_ble_eq_true rfl) (by obtain ⟨w1, w2⟩ := hP9.1.now hP17.1 hP17.2; exact CP.ok ⟨w1, hP9.2.tr w2⟩)
end CLASS14
