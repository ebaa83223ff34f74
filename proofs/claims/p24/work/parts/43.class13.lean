/-! THE CLASS: checks, the object, what is kept -/
def Ok0 (σ : Sg) : RT → Sg → Prop := fun r σ' => r = .inl none ∧ σ' = σ
def Thr (E : String) (σ : Sg) : RT → Sg → Prop := fun r σ' => r = .inr E ∧ ∃ z', σ.2.2.2.2 ≤ z' ∧ σ' = (σ.1, σ.2.1, σ.2.2.1, σ.2.2.2.1, z')
section CLASS13A
variable {G : GG} {y : YY} {Z : ZT} {Q : RT → Sg → Prop} {pc : Nat} {ls : List (Nat × Value)} {st rest : List Value} {σ : Sg} {cu su : Nat}
theorem aw_sOk {yc : YY} {idx n : Nat} {As : List Value} (hd : decode y.2.1 pc = .ok (.invokestatic idx, 3)) (cv : CS y.1.cls idx yc n) (cr : CR yc y) (hst : st = As.reverse ++ rest) (hn : As.length = n) (hrest : (rest.map fun v => v.category).sum ≤ 8)
    (hroom : cu + yc.2.2.2.2.1.cells ≤ y.2.2.2.2.1.cells ∧ su + yc.2.2.2.2.1.slots ≤ y.2.2.2.2.1.slots) (hr : Run G yc As σ (Ok0 σ)) (kk : AW G y Z (pc + 3) ls rest σ (cu + yc.2.2.2.2.1.cells) (su + yc.2.2.2.2.1.slots)) : AW G y Z pc ls st σ cu su :=
  aw_invS hd cv cr hst hn hrest hroom hr (fun E σ' h => by cases h.1) (fun v σ' h => by obtain ⟨h1, rfl⟩ := h; cases h1; exact kk)
theorem aw_sThr {yc : YY} {idx n : Nat} {As : List Value} {E : String} (hd : decode y.2.1 pc = .ok (.invokestatic idx, 3)) (cv : CS y.1.cls idx yc n) (cr : CR yc y) (hst : st = As.reverse ++ rest) (hn : As.length = n) (hrest : (rest.map fun v => v.category).sum ≤ 8)
    (hroom : cu + yc.2.2.2.2.1.cells ≤ y.2.2.2.2.1.cells ∧ su + yc.2.2.2.2.1.slots ≤ y.2.2.2.2.1.slots) (htb : y.2.2.2.2.2 = []) (hr : Run G yc As σ (Thr E σ)) (hq : ∀ z', σ.2.2.2.2 ≤ z' → Q (.inr E) (σ.1, σ.2.1, σ.2.2.1, σ.2.2.2.1, z')) : AW G y (MZ G y Q) pc ls st σ cu su :=
  aw_invS hd cv cr hst hn hrest hroom hr (fun E' σ' h => by
    obtain ⟨h1, z', h2, rfl⟩ := h
    cases h1
    exact ax_out htb hroom.1 hroom.2 (hq z' h2)) (fun v σ' h => by cases h.1)
end CLASS13A
section CLASS13
variable {G : GG} {K : Nat → Option (Nat × Nat)} {R : Nat → Nat → Value} {I : Nat → Nat → Int32} {J : Nat → Nat → Int64} {z : Nat} {σ : Sg} {a : AA} {m k : Nat}
variable {B : List Nat} {hs : List AA} {v l h : Int32}
theorem le_of_lt3 {v : Int32} (h : v < nI 4) : v ≤ nI 3 := by
  rw [Int32.lt_iff_toInt_lt, nI_toInt (by decide)] at h
  rw [Int32.le_iff_toInt_le, nI_toInt (by decide)]
  omega
theorem le_of_lt4 {v : Int32} (h : v < nI 5) : v ≤ nI 4 := by
  rw [Int32.lt_iff_toInt_lt, nI_toInt (by decide)] at h
  rw [Int32.le_iff_toInt_le, nI_toInt (by decide)]
  omega
theorem q_requireStore1 (hv : inR v 0 3) : Run G YX3_requireStore [.int v] (K, R, I, J, z) (Ok0 (K, R, I, J, z)) := by
  obtain ⟨hv1, -, hv3⟩ := inR_nat hv (by decide) (by decide)
  obtain ⟨st, hst⟩ : ∃ st, st = nv v := ⟨_, rfl⟩
  rw [← hst] at hv1 hv3
  subst hv1
  refine run_of (ls := [(0, .int (nI st))]) (by decide +kernel) rfl rfl (Nat.le_of_ble_eq_true rfl) ?_
  refine aw_iload_n dX3_requireStore_0 rfl ?_
  refine aw_if_ltN (tgt := 9) dX3_requireStore_1 (by decide) (by omega) ?_
  refine aw_iload_n dX3_requireStore_4 rfl ?_
  refine aw_iconst (v := nI 4) dX3_requireStore_5 rfl ?_
  refine aw_icmp_ltN (tgt := 19) dX3_requireStore_6 (by decide) (by omega) (by omega) (fun hc6 => ?_) (fun hc6 => absurd hc6 (by omega))
  exact aw_vret dX3_requireStore_19 rfl (Nat.zero_le _) (Nat.zero_le _) ⟨rfl, rfl⟩
theorem q_requireStore0 (hv : ¬ inR v 0 3) : Run G YX3_requireStore [.int v] (K, R, I, J, z) (Thr XI (K, R, I, J, z)) := by
  refine run_of (ls := [(0, .int v)]) (by decide +kernel) rfl rfl (Nat.le_of_ble_eq_true rfl) ?_
  refine aw_iload_n dX3_requireStore_0 rfl ?_
  refine aw_if_lt (tgt := 9) dX3_requireStore_1 (by decide) (fun hc1 => ?_) (fun hc1 => ?_)
  · exact aw_throw (cls := XI) (text := "there is no such store") dX3_requireStore_9 dX3_requireStore_12 dX3_requireStore_13 dX3_requireStore_15 dX3_requireStore_18 rfl rfl (by decide +kernel) (gT_ix 321 (by decide +kernel) rfl) (gT_ix 16 (by decide +kernel) rfl) (by decide) atXI_3 (Nat.le_of_ble_eq_true rfl) (Nat.le_of_ble_eq_true rfl) (Nat.le_of_ble_eq_true rfl) (Nat.le_of_ble_eq_true rfl) atXI_h (fun z' hz => ⟨rfl, z', hz, rfl⟩)
  · refine aw_iload_n dX3_requireStore_4 rfl ?_
    refine aw_iconst (v := nI 4) dX3_requireStore_5 rfl ?_
    refine aw_icmp_lt (tgt := 19) dX3_requireStore_6 (by decide) (fun hc6 => absurd ⟨Int32.not_lt.mp hc1, le_of_lt3 hc6⟩ hv) (fun hc6 => ?_)
    exact aw_throw (cls := XI) (text := "there is no such store") dX3_requireStore_9 dX3_requireStore_12 dX3_requireStore_13 dX3_requireStore_15 dX3_requireStore_18 rfl rfl (by decide +kernel) (gT_ix 321 (by decide +kernel) rfl) (gT_ix 16 (by decide +kernel) rfl) (by decide) atXI_3 (Nat.le_of_ble_eq_true rfl) (Nat.le_of_ble_eq_true rfl) (Nat.le_of_ble_eq_true rfl) (Nat.le_of_ble_eq_true rfl) atXI_h (fun z' hz => ⟨rfl, z', hz, rfl⟩)
theorem q_requireSetting1 (hv : inR v 0 4) : Run G YX3_requireSetting [.int v] (K, R, I, J, z) (Ok0 (K, R, I, J, z)) := by
  obtain ⟨hv1, -, hv3⟩ := inR_nat hv (by decide) (by decide)
  obtain ⟨st, hst⟩ : ∃ st, st = nv v := ⟨_, rfl⟩
  rw [← hst] at hv1 hv3
  subst hv1
  refine run_of (ls := [(0, .int (nI st))]) (by decide +kernel) rfl rfl (Nat.le_of_ble_eq_true rfl) ?_
  refine aw_iload_n dX3_requireSetting_0 rfl ?_
  refine aw_if_ltN (tgt := 9) dX3_requireSetting_1 (by decide) (by omega) ?_
  refine aw_iload_n dX3_requireSetting_4 rfl ?_
  refine aw_iconst (v := nI 5) dX3_requireSetting_5 rfl ?_
  refine aw_icmp_ltN (tgt := 19) dX3_requireSetting_6 (by decide) (by omega) (by omega) (fun hc6 => ?_) (fun hc6 => absurd hc6 (by omega))
  exact aw_vret dX3_requireSetting_19 rfl (Nat.zero_le _) (Nat.zero_le _) ⟨rfl, rfl⟩
theorem q_requireSetting0 (hv : ¬ inR v 0 4) : Run G YX3_requireSetting [.int v] (K, R, I, J, z) (Thr XI (K, R, I, J, z)) := by
  refine run_of (ls := [(0, .int v)]) (by decide +kernel) rfl rfl (Nat.le_of_ble_eq_true rfl) ?_
  refine aw_iload_n dX3_requireSetting_0 rfl ?_
  refine aw_if_lt (tgt := 9) dX3_requireSetting_1 (by decide) (fun hc1 => ?_) (fun hc1 => ?_)
  · exact aw_throw (cls := XI) (text := "there is no such setting") dX3_requireSetting_9 dX3_requireSetting_12 dX3_requireSetting_13 dX3_requireSetting_15 dX3_requireSetting_18 rfl rfl (by decide +kernel) (gT_ix 321 (by decide +kernel) rfl) (gT_ix 16 (by decide +kernel) rfl) (by decide) atXI_3 (Nat.le_of_ble_eq_true rfl) (Nat.le_of_ble_eq_true rfl) (Nat.le_of_ble_eq_true rfl) (Nat.le_of_ble_eq_true rfl) atXI_h (fun z' hz => ⟨rfl, z', hz, rfl⟩)
  · refine aw_iload_n dX3_requireSetting_4 rfl ?_
    refine aw_iconst (v := nI 5) dX3_requireSetting_5 rfl ?_
    refine aw_icmp_lt (tgt := 19) dX3_requireSetting_6 (by decide) (fun hc6 => absurd ⟨Int32.not_lt.mp hc1, le_of_lt4 hc6⟩ hv) (fun hc6 => ?_)
    exact aw_throw (cls := XI) (text := "there is no such setting") dX3_requireSetting_9 dX3_requireSetting_12 dX3_requireSetting_13 dX3_requireSetting_15 dX3_requireSetting_18 rfl rfl (by decide +kernel) (gT_ix 321 (by decide +kernel) rfl) (gT_ix 16 (by decide +kernel) rfl) (by decide) atXI_3 (Nat.le_of_ble_eq_true rfl) (Nat.le_of_ble_eq_true rfl) (Nat.le_of_ble_eq_true rfl) (Nat.le_of_ble_eq_true rfl) atXI_h (fun z' hz => ⟨rfl, z', hz, rfl⟩)
theorem q_range1 {l h : Nat} (hv : inR v l h) : Run G YX3_requireRange [.int v, .int (nI l), .int (nI h)] (K, R, I, J, z) (Ok0 (K, R, I, J, z)) := by
  refine run_of (ls := [(0, .int v), (1, .int (nI l)), (2, .int (nI h))]) (by decide +kernel) rfl rfl (Nat.le_of_ble_eq_true rfl) ?_
  refine aw_iload_n dX3_requireRange_0 rfl ?_
  refine aw_iload_n dX3_requireRange_1 rfl ?_
  refine aw_icmp_lt (tgt := 10) dX3_requireRange_2 (by decide) (fun hc2 => absurd hv.1 (Int32.not_le.mpr hc2)) (fun hc2 => ?_)
  refine aw_iload_n dX3_requireRange_5 rfl ?_
  refine aw_iload_n dX3_requireRange_6 rfl ?_
  refine aw_icmp_le (tgt := 20) dX3_requireRange_7 (by decide) (fun hc7 => ?_) (fun hc7 => absurd hv.2 hc7)
  exact aw_vret dX3_requireRange_20 rfl (Nat.zero_le _) (Nat.zero_le _) ⟨rfl, rfl⟩
theorem q_range0 {l h : Nat} (hv : ¬ inR v l h) : Run G YX3_requireRange [.int v, .int (nI l), .int (nI h)] (K, R, I, J, z) (Thr XG (K, R, I, J, z)) := by
  refine run_of (ls := [(0, .int v), (1, .int (nI l)), (2, .int (nI h))]) (by decide +kernel) rfl rfl (Nat.le_of_ble_eq_true rfl) ?_
  refine aw_iload_n dX3_requireRange_0 rfl ?_
  refine aw_iload_n dX3_requireRange_1 rfl ?_
  refine aw_icmp_lt (tgt := 10) dX3_requireRange_2 (by decide) (fun hc2 => ?_) (fun hc2 => ?_)
  · exact aw_throw (cls := XG) (text := "out of range") dX3_requireRange_10 dX3_requireRange_13 dX3_requireRange_14 dX3_requireRange_16 dX3_requireRange_19 rfl rfl (by decide +kernel) (gT_ix 253 (by decide +kernel) rfl) (gT_ix 12 (by decide +kernel) rfl) (by decide) atXG_3 (Nat.le_of_ble_eq_true rfl) (Nat.le_of_ble_eq_true rfl) (Nat.le_of_ble_eq_true rfl) (Nat.le_of_ble_eq_true rfl) atXG_h (fun z' hz => ⟨rfl, z', hz, rfl⟩)
  · refine aw_iload_n dX3_requireRange_5 rfl ?_
    refine aw_iload_n dX3_requireRange_6 rfl ?_
    refine aw_icmp_le (tgt := 20) dX3_requireRange_7 (by decide) (fun hc7 => absurd ⟨Int32.not_lt.mp hc2, hc7⟩ hv) (fun hc7 => ?_)
    exact aw_throw (cls := XG) (text := "out of range") dX3_requireRange_10 dX3_requireRange_13 dX3_requireRange_14 dX3_requireRange_16 dX3_requireRange_19 rfl rfl (by decide +kernel) (gT_ix 253 (by decide +kernel) rfl) (gT_ix 12 (by decide +kernel) rfl) (by decide) atXG_3 (Nat.le_of_ble_eq_true rfl) (Nat.le_of_ble_eq_true rfl) (Nat.le_of_ble_eq_true rfl) (Nat.le_of_ble_eq_true rfl) atXG_h (fun z' hz => ⟨rfl, z', hz, rfl⟩)
theorem q_nn1 (hv : nI 0 ≤ v) : Run G YX3_requireNotNegative [.int v] (K, R, I, J, z) (Ok0 (K, R, I, J, z)) := by
  refine run_of (ls := [(0, .int v)]) (by decide +kernel) rfl rfl (Nat.le_of_ble_eq_true rfl) ?_
  refine aw_iload_n dX3_requireNotNegative_0 rfl ?_
  refine aw_if_ge (tgt := 14) dX3_requireNotNegative_1 (by decide) (fun hc1 => ?_) (fun hc1 => absurd hv hc1)
  exact aw_vret dX3_requireNotNegative_14 rfl (Nat.zero_le _) (Nat.zero_le _) ⟨rfl, rfl⟩
theorem q_nn0 (hv : ¬ nI 0 ≤ v) : Run G YX3_requireNotNegative [.int v] (K, R, I, J, z) (Thr XG (K, R, I, J, z)) := by
  refine run_of (ls := [(0, .int v)]) (by decide +kernel) rfl rfl (Nat.le_of_ble_eq_true rfl) ?_
  refine aw_iload_n dX3_requireNotNegative_0 rfl ?_
  refine aw_if_ge (tgt := 14) dX3_requireNotNegative_1 (by decide) (fun hc1 => absurd hc1 hv) (fun hc1 => ?_)
  exact aw_throw (cls := XG) (text := "place is below 0") dX3_requireNotNegative_4 dX3_requireNotNegative_7 dX3_requireNotNegative_8 dX3_requireNotNegative_10 dX3_requireNotNegative_13 rfl rfl (by decide +kernel) (gT_ix 253 (by decide +kernel) rfl) (gT_ix 12 (by decide +kernel) rfl) (by decide) atXG_3 (Nat.le_of_ble_eq_true rfl) (Nat.le_of_ble_eq_true rfl) (Nat.le_of_ble_eq_true rfl) (Nat.le_of_ble_eq_true rfl) atXG_h (fun z' hz => ⟨rfl, z', hz, rfl⟩)
/-- the object: 0, what hangs on it behind it -/
def LX (G : GG) (K : Nat → Option (Nat × Nat)) (R : Nat → Nat → Value) : Prop :=
  K 0 = some (3, 6) ∧ R 0 0 = .ref (G.1 1) ∧ R 0 1 = .ref (G.1 18) ∧ R 0 2 = .ref (G.1 35) ∧ K 35 = some (12, 6) ∧ (∀ i, i < 6 → R 35 i = .ref (G.1 (38 + 17 * i))) ∧ R 0 5 = .ref (G.1 36) ∧ LD G K R ∧ LSt G K R 1 ∧ LSt G K R 18 ∧ ∀ i, i < 6 → LSt G K R (38 + 17 * i)
/-- the kept states lie in a ring -/
def XH (I : Nat → Nat → Int32) (hs : List AA) : Prop := ∃ old, old < 6 ∧ I 0 3 = nI old ∧ I 0 4 = nI hs.length ∧ hs.length ≤ 6 ∧ ∀ (i : Nat) (x : AA), hs[i]? = some x → CSt I (38 + 17 * ((old + i) % 6)) x ∧ x.2.1.length ≤ 16
def XS (I : Nat → Nat → Int32) (s : ST) : Prop := CSt I 1 s.1 ∧ XH I s.2.1 ∧ RDt I s.2.2
def FrC (I I' : Nat → Nat → Int32) : Prop := ∀ q, 140 ≤ q → I' q = I q
theorem FrC.rf {I : Nat → Nat → Int32} : FrC I I := fun _ _ => rfl
theorem FrC.tr {I I' I'' : Nat → Nat → Int32} (a : FrC I I') (b : FrC I' I'') : FrC I I'' := fun q hq => (b q hq).trans (a q hq)
theorem CSt.fr {I I' : Nat → Nat → Int32} {h : Nat} {a : AA} (hS : CSt I h a) (h1 : ∀ q, h ≤ q → q < h + 17 → I' q = I q) : CSt I' h a := by
  obtain ⟨⟨g1, g2, g3, g4, g5⟩, hA, hn, hW⟩ := hS
  refine ⟨⟨fun i hi => by rw [h1 _ (by omega) (by omega)]; exact g1 i hi, by rw [h1 _ (by omega) (by omega)]; exact g2, by rw [h1 _ (by omega) (by omega)]; exact g3, by rw [h1 _ (by omega) (by omega)]; exact g4, fun s hs => by rw [h1 _ (by omega) (by omega), h1 _ (by omega) (by omega)]; exact g5 s hs⟩, hA.fr (fun q a1 a2 => h1 q (by omega) (by omega)), by rw [h1 _ (by omega) (by omega)]; exact hn, hW.fr (fun s hs => by rw [h1 _ (by omega) (by omega)])⟩
theorem RDt.fr {I I' : Nat → Nat → Int32} {B : List Nat} (hB : RDt I B) (h1 : I' 36 = I 36) (h2 : I' 37 = I 37) : RDt I' B := ⟨by rw [h1]; exact hB.1, hB.2.1, fun i c hi => by rw [h2]; exact hB.2.2 i c hi⟩
theorem XH.fr {I I' : Nat → Nat → Int32} {hs : List AA} (hH : XH I hs) (h0 : I' 0 = I 0) (h1 : ∀ q, 38 ≤ q → q < 140 → I' q = I q) : XH I' hs := by
  obtain ⟨old, o1, o2, o3, o4, o5⟩ := hH
  exact ⟨old, o1, by rw [h0]; exact o2, by rw [h0]; exact o3, o4, fun i x hx => ⟨(o5 i x hx).1.fr (fun q a1 a2 => h1 q (by omega) (by omega)), (o5 i x hx).2⟩⟩
/-- the now alone has changed -/
theorem XS.now {I I' : Nat → Nat → Int32} {a a' : AA} {hs : List AA} {B : List Nat} (hS : XS I (a, hs, B)) (h1 : CSt I' 1 a') (hF : FrS 1 I I') : XS I' (a', hs, B) ∧ FrC I I' :=
  ⟨⟨h1, hS.2.1.fr (hF 0 (by omega)) (fun q a1 a2 => hF q (by omega)), hS.2.2.fr (hF 36 (by omega)) (hF 37 (by omega))⟩, fun q hq => hF q (by omega)⟩
theorem x_save (hX : LX G K R) (hS : XS I (a, hs, B)) (h16 : a.2.1.length ≤ 16) : Run G YX3_save [.ref (G.1 0)] (K, R, I, J, z) (Up K R J z none (fun I' => XS I' (a, pushH hs a, B) ∧ FrC I I')) := by
  obtain ⟨xk0, xr0, xr1, xr2, xk35, xrs, xr5, xD, xL1, xL18, xLs⟩ := id hX
  have hN : CSt I 1 a := hS.1
  have hH : XH I hs := hS.2.1
  have hB : RDt I B := hS.2.2
  obtain ⟨old, o1, o2, o3, o4, o5⟩ := hH
  have hk1 : K 1 = some (1, 7) := xL1.1
  have fin : ∀ (I1 : Nat → Nat → Int32) (old1 : Nat) (hs1 : List AA), pushH hs a = hs1 ++ [a] → hs1.length ≤ 5 → old1 < 6 → I1 0 3 = nI old1 → I1 0 4 = nI hs1.length → FrO 0 I I1 → (∀ (i : Nat) (x : AA), hs1[i]? = some x → CSt I (38 + 17 * ((old1 + i) % 6)) x ∧ x.2.1.length ≤ 16) → AW G YX3_save (MZ G YX3_save (Up K R J z none (fun I' => XS I' (a, pushH hs a, B) ∧ FrC I I'))) 27 [(0, .ref (G.1 0))] [] (K, R, I1, J, z) 0 0 := by
    intro I1 old1 hs1 hp hl ho h3 h4 hF hx
    have hm : (old1 + hs1.length) % 6 < 6 := Nat.mod_lt _ (by decide)
    have hLm := xLs _ hm
    have hkm := hLm.1
    have hN1 : CSt I1 1 a := hN.fr (fun q a1 a2 => hF q (by omega))
    refine aw_aload_n dX3_save_27 rfl ?_
    refine aw_getR dX3_save_28 flX3_19 rfl (by assumption) (by assumption) ?_
    refine aw_aload_n dX3_save_31 rfl ?_
    refine aw_getI dX3_save_32 flX3_123 rfl (by assumption) h3 ?_
    refine aw_aload_n dX3_save_35 rfl ?_
    refine aw_getI dX3_save_36 flX3_117 rfl (by assumption) h4 ?_
    first | refine aw_iaddN dX3_save_39 ?_ | refine aw_iadd dX3_save_39 ?_
    refine aw_bipush (v := nI 6) dX3_save_40 rfl ?_
    refine aw_iremN dX3_save_42 (by omega) (by omega) (by omega) ?_
    refine aw_aald dX3_save_43 (by assumption) (by omega) (by omega) rfl (by omega) (xrs _ hm) ?_
    refine aw_aload_n dX3_save_44 rfl ?_
    refine aw_getR dX3_save_45 flX3_10 rfl (by assumption) (by assumption) ?_
    refine aw_vUp0 dX3_save_48 cvX3_126 ⟨Nat.le_of_ble_eq_true rfl, Nat.le_of_ble_eq_true rfl⟩ (by assumption) ⟨_, rfl, rfl⟩ (c_copyFrom hLm xL1 (by omega) hN1 h16) rfl rfl (Nat.le_of_ble_eq_true rfl) ⟨rfl, rfl⟩ ⟨Nat.zero_le _, Nat.zero_le _⟩ (fun I48 hP48 => ?_)
    refine aw_aload_n dX3_save_51 rfl ?_
    refine aw_dup dX3_save_52 rfl ?_
    refine aw_getI dX3_save_53 flX3_117 rfl (by assumption) (show _ = nI hs1.length by rw [hP48.2 0 (by omega)]; exact h4) ?_
    refine aw_iconst (v := nI 1) dX3_save_56 rfl ?_
    first | refine aw_iaddN dX3_save_57 ?_ | refine aw_iadd dX3_save_57 ?_
    refine aw_putI dX3_save_58 flX3_117 rfl (by intro r hr; cases hr; rfl) (by assumption) (by omega) rfl rfl ?_
    refine aw_vret dX3_save_61 rfl (Nat.zero_le _) (Nat.zero_le _) ?_
    refine ⟨rfl, _, rfl, ⟨(hN1.fr (I' := I48) (fun q a1 a2 => hP48.2 q (by omega))).fr (fun q a1 a2 => FrO.up q (by omega)), ⟨old1, ho, ?_, ?_, ?_, fun i x hi => ?_⟩, hB.fr ?_ ?_⟩, fun q hq => ?_⟩
    · rw [up2_o, if_neg (by decide), hP48.2 0 (by omega)]; exact h3
    · rw [up2_o, if_pos rfl, hp]; simp
    · rw [hp]; simp; omega
    · rw [hp] at hi
      have hil := (List.getElem?_eq_some_iff.mp hi).1
      rw [List.length_append, List.length_singleton] at hil
      by_cases e : i = hs1.length
      · subst e
        rw [List.getElem?_append_right (Nat.le_refl _), Nat.sub_self] at hi
        cases hi
        exact ⟨hP48.1.fr (fun q a1 a2 => FrO.up q (by omega)), h16⟩
      · rw [List.getElem?_append_left (by omega)] at hi
        obtain ⟨c1, c2⟩ := hx i x hi
        refine ⟨c1.fr (fun q a1 a2 => ?_), c2⟩
        rw [FrO.up q (by omega), hP48.2 q (by omega), hF q (by omega)]
    · rw [FrO.up 36 (by decide), hP48.2 36 (by omega), hF 36 (by decide)]
    · rw [FrO.up 37 (by decide), hP48.2 37 (by omega), hF 37 (by decide)]
    · rw [FrO.up q (by omega), hP48.2 q (by omega), hF q (by omega)]
  refine run_of (ls := [(0, .ref (G.1 0))]) (by decide +kernel) rfl rfl (Nat.le_of_ble_eq_true rfl) ?_
  refine aw_aload_n dX3_save_0 rfl ?_
  refine aw_getI dX3_save_1 flX3_117 rfl (by assumption) o3 ?_
  refine aw_bipush (v := nI 6) dX3_save_4 rfl ?_
  refine aw_icmp_ltN (tgt := 27) dX3_save_6 (by decide) (by omega) (by omega) (fun hc6 => ?_) (fun hc6 => ?_)
  · first
    | (have h6 : hs.length = 6 := by omega
       refine aw_pick [0] rfl (fin _ ((old + 1) % 6) hs.tail (by unfold pushH; rw [if_pos h6]) (by rw [List.length_tail]; omega) (by omega) (by rw [up2_o, if_neg (by decide), up2_o, if_pos rfl]) (by rw [up2_o, if_pos rfl, List.length_tail, h6]) (FrO.up.tr FrO.up) (fun i x hi => ?_))
       have hil := (List.getElem?_eq_some_iff.mp hi).1
       rw [List.length_tail] at hil
       rw [List.getElem?_tail] at hi
       have := o5 (i + 1) x hi
       rw [show ((old + 1) % 6 + i) % 6 = (old + (i + 1)) % 6 by omega]
       exact this)
    | exact aw_pick [0] rfl (fin I old hs (by unfold pushH; rw [if_neg (by omega)]) (by omega) o1 o2 o3 FrO.rf o5)
  · refine aw_aload_n dX3_save_9 rfl ?_
    refine aw_aload_n dX3_save_10 rfl ?_
    refine aw_getI dX3_save_11 flX3_123 rfl (by assumption) o2 ?_
    refine aw_iconst (v := nI 1) dX3_save_14 rfl ?_
    first | refine aw_iaddN dX3_save_15 ?_ | refine aw_iadd dX3_save_15 ?_
    refine aw_bipush (v := nI 6) dX3_save_16 rfl ?_
    refine aw_iremN dX3_save_18 (by omega) (by omega) (by omega) ?_
    refine aw_putI dX3_save_19 flX3_123 rfl (by intro r hr; cases hr; rfl) (by assumption) (by omega) rfl rfl ?_
    refine aw_aload_n dX3_save_22 rfl ?_
    refine aw_iconst (v := nI 5) dX3_save_23 rfl ?_
    refine aw_putI dX3_save_24 flX3_117 rfl (by intro r hr; cases hr; rfl) (by assumption) (by omega) rfl rfl ?_
    first
    | (have h6 : hs.length = 6 := by omega
       refine aw_pick [0] rfl (fin _ ((old + 1) % 6) hs.tail (by unfold pushH; rw [if_pos h6]) (by rw [List.length_tail]; omega) (by omega) (by rw [up2_o, if_neg (by decide), up2_o, if_pos rfl]) (by rw [up2_o, if_pos rfl, List.length_tail, h6]) (FrO.up.tr FrO.up) (fun i x hi => ?_))
       have hil := (List.getElem?_eq_some_iff.mp hi).1
       rw [List.length_tail] at hil
       rw [List.getElem?_tail] at hi
       have := o5 (i + 1) x hi
       rw [show ((old + 1) % 6 + i) % 6 = (old + (i + 1)) % 6 by omega]
       exact this)
    | exact aw_pick [0] rfl (fin I old hs (by unfold pushH; rw [if_neg (by omega)]) (by omega) o1 o2 o3 FrO.rf o5)
end CLASS13
