/-! THE OBJECT IS MADE -/
theorem LSt.fr {G : GG} {h : Nat} {K K' : Nat → Option (Nat × Nat)} {R R' : Nat → Nat → Value} (hL : LSt G K R h) (f : ∀ q, h ≤ q → q < h + 17 → K' q = K q ∧ R' q = R q) : LSt G K' R' h := by
  obtain ⟨a1, a2, a3, as, a4, a5, a6, a7, a8, a9, a10, a11, a12, a13, a14, a15, a16, a17, hs, hh⟩ := hL
  have k := fun q h1 h2 => (f q h1 h2).1
  have r := fun q h1 h2 => (f q h1 h2).2
  exact ⟨by rw [k _ (by omega) (by omega)]; exact a1, by rw [r _ (by omega) (by omega)]; exact a2, by rw [k _ (by omega) (by omega)]; exact a3, fun i hi => by rw [r _ (by omega) (by omega)]; exact as i hi, by rw [r _ (by omega) (by omega)]; exact a4, by rw [k _ (by omega) (by omega)]; exact a5, by rw [r _ (by omega) (by omega)]; exact a6, by rw [k _ (by omega) (by omega)]; exact a7,
    by rw [r _ (by omega) (by omega)]; exact a8, by rw [r _ (by omega) (by omega)]; exact a9, by rw [r _ (by omega) (by omega)]; exact a10, by rw [r _ (by omega) (by omega)]; exact a11, by rw [r _ (by omega) (by omega)]; exact a12, by rw [k _ (by omega) (by omega)]; exact a13, by rw [k _ (by omega) (by omega)]; exact a14, by rw [k _ (by omega) (by omega)]; exact a15, by rw [k _ (by omega) (by omega)]; exact a16, by rw [k _ (by omega) (by omega)]; exact a17,
    fun i hi => ⟨by rw [k _ (by omega) (by omega)]; exact (hs i hi).1, by rw [r _ (by omega) (by omega)]; exact (hs i hi).2.1, by rw [k _ (by omega) (by omega)]; exact (hs i hi).2.2.1, (hs i hi).2.2.2⟩, hh⟩
section CLASS20
variable {G : GG} {K : Nat → Option (Nat × Nat)} {R : Nat → Nat → Value} {I : Nat → Nat → Int32} {J : Nat → Nat → Int64} {z : Nat} {σ : Sg} {a : AA} {m k : Nat}
theorem i_text (hk : K 36 = some (0, 2)) (hi : ∀ j, I 36 j = 0) : Run G YX0_init [.ref (G.1 36)] (K, R, I, J, 37) (fun r σ' => r = .inl none ∧ LD G σ'.1 σ'.2.1 ∧ RDt σ'.2.2.1 [] ∧ Same 36 38 (K, R, I, J, 37) σ') := by
  refine run_of (ls := [(0, .ref (G.1 36))]) (by decide +kernel) rfl rfl (Nat.le_of_ble_eq_true rfl) ?_
  refine aw_aload_n dX0_init_0 rfl ?_
  refine aw_objInit dX0_init_1 (oiL (i := 138) (by decide +kernel)) oiI oiC (Nat.le_of_ble_eq_true rfl) (Nat.le_of_ble_eq_true rfl) ?_
  refine aw_aload_n dX0_init_4 rfl ?_
  refine aw_bipush (v := nI 60) dX0_init_5 rfl ?_
  refine aw_newaI (z := 37) dX0_init_7 acInt (Nat.le_of_ble_eq_true rfl) (by omega) (Nat.le_of_ble_eq_true rfl) (Nat.le_of_ble_eq_true rfl) ?_
  refine aw_putR dX0_init_9 flX0_11 rfl (by intro r hr; cases hr; exact ⟨rfl, rfl⟩) rfl (by rw [upK_n (by decide)]; exact hk) (by omega) rfl rfl ?_
  refine aw_vret dX0_init_12 rfl (Nat.le_of_ble_eq_true rfl) (Nat.le_of_ble_eq_true rfl) ?_
  refine ⟨rfl, ⟨by show upK K 37 (10, 60) 36 = _; rw [upK_n (by decide)]; exact hk, by show upR (zr R 37 .null) 36 0 (.ref (G.1 37)) 36 0 = _; exact upR_s, by show upK K 37 (10, 60) 37 = _; exact upK_s⟩, ⟨?_, Nat.zero_le _, fun i c h => by simp at h⟩, ⟨fun q hq => ⟨?_, ?_, ?_, ?_⟩, rfl⟩⟩
  · show zr I 37 0 36 1 = nI 0; rw [zr_n (by decide)]; exact hi 1
  · show upK K 37 (10, 60) q = _; rw [upK_n (by omega)]
  · show upR _ 36 0 _ q = _; rw [upR_n (by omega), zr_n (by omega)]
  · show zr I 37 0 q = _; rw [zr_n (by omega)]
  · show zr J 37 0 q = _; rw [zr_n (by omega)]
/-- all but the kept states are made, and i of these -/
def LO (G : GG) (i : Nat) (K : Nat → Option (Nat × Nat)) (R : Nat → Nat → Value) (I : Nat → Nat → Int32) (J : Nat → Nat → Int64) (K1 : Nat → Option (Nat × Nat)) (R1 : Nat → Nat → Value) (I1 : Nat → Nat → Int32) (J1 : Nat → Nat → Int64) : Prop :=
  (K1 0 = some (3, 6) ∧ R1 0 0 = .ref (G.1 1) ∧ R1 0 1 = .ref (G.1 18) ∧ R1 0 2 = .ref (G.1 35) ∧ K1 35 = some (12, 6) ∧ R1 0 5 = .ref (G.1 36) ∧ LD G K1 R1 ∧ LSt G K1 R1 1 ∧ LSt G K1 R1 18) ∧ CSt I1 1 a0 ∧ RDt I1 [] ∧ (∀ j, I1 0 j = 0) ∧
  (∀ s, s < i → R1 35 s = .ref (G.1 (38 + 17 * s)) ∧ LSt G K1 R1 (38 + 17 * s)) ∧ ∀ q, 38 + 17 * i ≤ q → K1 q = K q ∧ R1 q = R q ∧ I1 q = I q ∧ J1 q = J q
theorem LO.next {G : GG} {i z2 : Nat} {K K1 K2 : Nat → Option (Nat × Nat)} {R R1 R2 : Nat → Nat → Value} {I I1 I2 : Nat → Nat → Int32} {J J1 J2 : Nat → Nat → Int64} (hi : i < 6) (hL : LO G i K R I J K1 R1 I1 J1) (hT : LSt G K2 R2 (38 + 17 * i))
    (hF : Same (38 + 17 * i) (38 + 17 * i + 17) (upK K1 (38 + 17 * i) (1, 7), zr R1 (38 + 17 * i) .null, zr I1 (38 + 17 * i) 0, zr J1 (38 + 17 * i) 0, 38 + 17 * i + 1) (K2, R2, I2, J2, z2)) : LO G (i + 1) K R I J K2 (upR R2 35 i (.ref (G.1 (38 + 17 * i)))) I2 J2 := by
  obtain ⟨⟨a1, a2, a3, a4, a5, a6, a7, a8, a9⟩, hC, hB, h0, hs, hO⟩ := hL
  have f : ∀ q, (q < 38 + 17 * i ∨ 38 + 17 * i + 17 ≤ q) → K2 q = K1 q ∧ R2 q = R1 q ∧ I2 q = I1 q ∧ J2 q = J1 q := fun q hq => by
    obtain ⟨b1, b2, b3, b4⟩ := hF.1 q hq
    refine ⟨?_, ?_, ?_, ?_⟩
    · rw [show K2 q = upK K1 (38 + 17 * i) (1, 7) q from b1, upK_n (by omega)]
    · rw [show R2 q = zr R1 (38 + 17 * i) .null q from b2, zr_n (by omega)]
    · rw [show I2 q = zr I1 (38 + 17 * i) 0 q from b3, zr_n (by omega)]
    · rw [show J2 q = zr J1 (38 + 17 * i) 0 q from b4, zr_n (by omega)]
  have r : ∀ q, (q < 38 + 17 * i ∨ 38 + 17 * i + 17 ≤ q) → q ≠ 35 → upR R2 35 i (.ref (G.1 (38 + 17 * i))) q = R1 q := fun q hq hn => by rw [upR_n hn, (f q hq).2.1]
  refine ⟨⟨by rw [(f _ (by omega)).1]; exact a1, by rw [r _ (by omega) (by omega)]; exact a2, by rw [r _ (by omega) (by omega)]; exact a3, by rw [r _ (by omega) (by omega)]; exact a4, by rw [(f _ (by omega)).1]; exact a5, by rw [r _ (by omega) (by omega)]; exact a6,
    ⟨by rw [(f _ (by omega)).1]; exact a7.1, by rw [r _ (by omega) (by omega)]; exact a7.2.1, by rw [(f _ (by omega)).1]; exact a7.2.2⟩, a8.fr (fun q h1 h2 => ⟨(f q (by omega)).1, r q (by omega) (by omega)⟩), a9.fr (fun q h1 h2 => ⟨(f q (by omega)).1, r q (by omega) (by omega)⟩)⟩,
    hC.fr (fun q h1 h2 => (f q (by omega)).2.2.1), hB.fr (f 36 (by omega)).2.2.1 (f 37 (by omega)).2.2.1, fun j => by rw [(f 0 (by omega)).2.2.1]; exact h0 j, fun s hs' => ?_, fun q hq => ?_⟩
  · by_cases e : s = i
    · subst e
      exact ⟨upR_s, hT.fr (fun q h1 h2 => ⟨rfl, by rw [upR_n (by omega)]⟩)⟩
    · obtain ⟨b1, b2⟩ := hs s (by omega)
      exact ⟨by rw [upR_o, if_neg e, (f _ (by omega)).2.1]; exact b1, b2.fr (fun q h1 h2 => ⟨(f q (by omega)).1, r q (by omega) (by omega)⟩)⟩
  · obtain ⟨b1, b2, b3, b4⟩ := hO q (by omega)
    obtain ⟨c1, c2, c3, c4⟩ := f q (by omega)
    exact ⟨c1.trans b1, by rw [upR_n (by omega)]; exact c2.trans b2, c3.trans b3, c4.trans b4⟩
theorem i_obj (hk : K 0 = some (3, 6)) (hi : ∀ j, I 0 j = 0) (hA : K 1001 = some (10, 5)) (hA2 : ∀ i, i < 5 → I 1001 i = nI (g0 i)) : Run G YX3_init [.ref (G.1 0)] (K, R, I, J, 1) (fun r σ' => r = .inl none ∧ LX G σ'.1 σ'.2.1 ∧ XS σ'.2.2.1 (a0, [], []) ∧ Same 0 140 (K, R, I, J, 1) σ') := by
  have loop : ∀ (d i : Nat) (K1 : Nat → Option (Nat × Nat)) (R1 : Nat → Nat → Value) (I1 : Nat → Nat → Int32) (J1 : Nat → Nat → Int64), 6 - i = d → i ≤ 6 → LO G i K R I J K1 R1 I1 J1 → AW G YX3_init (MZ G YX3_init (fun r σ' => r = .inl none ∧ LX G σ'.1 σ'.2.1 ∧ XS σ'.2.2.1 (a0, [], []) ∧ Same 0 140 (K, R, I, J, 1) σ')) 48 [(0, .ref (G.1 0)), (1, .int (nI i))] [] (K1, R1, I1, J1, 38 + 17 * i) (37 + 17 * i) (542 + 237 * i) := by
    intro d
    induction d using Nat.strongRecOn with
    | _ d ih =>
    intro i K1 R1 I1 J1 hd hi6 hL
    obtain ⟨⟨a1, a2, a3, a4, a5, a6, a7, a8, a9⟩, hC, hB, h0, hs, hO⟩ := id hL
    rcases Nat.lt_or_ge i 6 with hlt | hge
    rotate_left
    · have hie : i = 6 := by omega
      subst hie
      refine aw_iload_n dX3_init_48 rfl ?_
      refine aw_bipush (v := nI 6) dX3_init_49 rfl ?_
      refine aw_icmp_geN (tgt := 73) dX3_init_51 (by decide) (by omega) (by omega) (fun hc51 => ?_) (fun hc51 => absurd hc51 (by decide))
      refine aw_vret dX3_init_73 rfl (Nat.le_of_ble_eq_true rfl) (Nat.le_of_ble_eq_true rfl) ?_
      refine ⟨rfl, ⟨a1, a2, a3, a4, a5, fun i hi => (hs i hi).1, a6, a7, a8, a9, fun i hi => (hs i hi).2⟩, ⟨hC, ⟨0, by decide, ?_, ?_, Nat.zero_le _, fun i x h => by simp at h⟩, hB⟩, ⟨fun q hq => hO q (by omega), rfl⟩⟩
      · show I1 0 3 = nI 0; rw [h0]; rfl
      · show I1 0 4 = nI 0; rw [h0]; rfl
    · have o1 := hO 1001 (by omega)
      have hist := i_state (G := G) (K := upK K1 (38 + 17 * i) (1, 7)) (R := zr R1 (38 + 17 * i) .null) (I := zr I1 (38 + 17 * i) 0) (J := zr J1 (38 + 17 * i) 0) (h := 38 + 17 * i) upK_s (fun j => zr_s) (by omega) (by rw [upK_n (by omega), o1.1]; exact hA) (fun j hj => by rw [zr_n (by omega), o1.2.2.1]; exact hA2 j hj)
      refine aw_iload_n dX3_init_48 rfl ?_
      refine aw_bipush (v := nI 6) dX3_init_49 rfl ?_
      refine aw_icmp_geN (tgt := 73) dX3_init_51 (by decide) (by omega) (by omega) (fun hc51 => absurd hc51 (by omega)) (fun hc51 => ?_)
      refine aw_aload_n dX3_init_54 rfl ?_
      refine aw_getR dX3_init_55 flX3_19 rfl (by assumption) (by assumption) ?_
      refine aw_iload_n dX3_init_58 rfl ?_
      refine aw_new (c := 1) dX3_init_59 rfl (gT_ix 26 (by decide +kernel) rfl) (gT_ix 27 (by decide +kernel) rfl) (gT_ix 5 (by decide +kernel) rfl) (by omega) (by show 37 + 17 * i + 1 ≤ 139; omega) (by show 542 + 237 * i + 7 ≤ 1964; omega) ?_
      refine aw_dup dX3_init_62 rfl ?_
      refine aw_invI dX3_init_63 cvX3_9 ⟨Nat.le_of_ble_eq_true rfl, Nat.le_of_ble_eq_true rfl⟩ (As := []) rfl rfl (Nat.le_of_ble_eq_true rfl) ⟨by show 37 + 17 * i + 1 + 16 ≤ 139; omega, by show 542 + 237 * i + 7 + 230 ≤ 1964; omega⟩ hist (fun E σ' q => by cases q.1) (fun v σ2 hq => ?_)
      obtain ⟨hv, hL2, hC2, hF2⟩ := hq
      cases hv
      obtain ⟨K2, R2, I2, J2, z2⟩ := σ2
      have hz2 : z2 = 38 + 17 * i + 17 := hF2.2
      subst hz2
      have k35 : K2 35 = some (12, 6) := by
        have := (hF2.1 35 (by omega)).1
        rw [show K2 35 = upK K1 (38 + 17 * i) (1, 7) 35 from this, upK_n (by omega)]; exact a5
      have hk2 : K2 (38 + 17 * i) = some (1, 7) := hL2.1
      have hN := LO.next hlt hL hL2 hF2
      show AW G _ _ _ _ _ _ (37 + 17 * i + 1 + 16) (542 + 237 * i + 7 + 230)
      refine aw_aast (c := 1) (nn := 7) dX3_init_66 k35 (Or.inl ⟨rfl, rfl⟩) (by omega) (by decide) rfl hlt hk2 ?_
      refine aw_iincN (k := 1) (ls' := [(1, _), (0, _)]) dX3_init_67 rfl rfl (by decide) rfl ?_
      refine aw_goto (tgt := 48) dX3_init_70 (by decide) ?_
      have h9 := ih (6 - (i + 1)) (by omega) (i + 1) _ _ _ _ rfl (by omega) hN
      exact aw_widen (cu' := 37 + 17 * (i + 1)) (su' := 542 + 237 * (i + 1)) (by omega) (by omega) (aw_pick [1, 0] rfl h9)
  have hist1 := i_state (G := G) (K := upK K 1 (1, 7)) (R := zr R 1 .null) (I := zr I 1 0) (J := zr J 1 0) (h := 1) upK_s (fun j => zr_s) (by omega) (by rw [upK_n (by decide)]; exact hA) (fun j hj => by rw [zr_n (by decide)]; exact hA2 j hj)
  refine run_of (ls := [(0, .ref (G.1 0))]) (by decide +kernel) rfl rfl (Nat.le_of_ble_eq_true rfl) ?_
  refine aw_aload_n dX3_init_0 rfl ?_
  refine aw_objInit dX3_init_1 (oiL (i := 23) (by decide +kernel)) oiI oiC (Nat.le_of_ble_eq_true rfl) (Nat.le_of_ble_eq_true rfl) ?_
  refine aw_aload_n dX3_init_4 rfl ?_
  refine aw_new (c := 1) dX3_init_5 rfl (gT_ix 26 (by decide +kernel) rfl) (gT_ix 27 (by decide +kernel) rfl) (gT_ix 5 (by decide +kernel) rfl) (by omega) (Nat.le_of_ble_eq_true rfl) (Nat.le_of_ble_eq_true rfl) ?_
  refine aw_dup dX3_init_8 rfl ?_
  refine aw_invI dX3_init_9 cvX3_9 ⟨Nat.le_of_ble_eq_true rfl, Nat.le_of_ble_eq_true rfl⟩ (As := []) rfl rfl (Nat.le_of_ble_eq_true rfl) ⟨Nat.le_of_ble_eq_true rfl, Nat.le_of_ble_eq_true rfl⟩ hist1 (fun E σ' q => by cases q.1) (fun v σ2 hq => ?_)
  obtain ⟨hv, hL1, hC1, hF1⟩ := hq
  cases hv
  obtain ⟨K2, R2, I2, J2, z2⟩ := σ2
  have hz2 : z2 = 18 := hF1.2
  subst hz2
  have f2 : ∀ q, (q < 1 ∨ 18 ≤ q) → K2 q = K q ∧ R2 q = R q ∧ I2 q = I q ∧ J2 q = J q := fun q hq => by
    obtain ⟨b1, b2, b3, b4⟩ := hF1.1 q (by omega)
    exact ⟨by rw [show K2 q = upK K 1 (1, 7) q from b1, upK_n (by omega)], by rw [show R2 q = zr R 1 .null q from b2, zr_n (by omega)], by rw [show I2 q = zr I 1 0 q from b3, zr_n (by omega)], by rw [show J2 q = zr J 1 0 q from b4, zr_n (by omega)]⟩
  have k20 : K2 0 = some (3, 6) := by rw [(f2 0 (by omega)).1]; exact hk
  have hist2 := i_state (G := G) (K := upK K2 18 (1, 7)) (R := zr (upR R2 0 0 (.ref (G.1 1))) 18 .null) (I := zr I2 18 0) (J := zr J2 18 0) (h := 18) upK_s (fun j => zr_s) (by omega) (by rw [upK_n (by decide), (f2 1001 (by omega)).1]; exact hA) (fun j hj => by rw [zr_n (by decide), (f2 1001 (by omega)).2.2.1]; exact hA2 j hj)
  show AW G _ _ _ _ _ _ (0 + 1 + 16) (0 + 7 + 230)
  refine aw_putR dX3_init_12 flX3_10 rfl (by intro r hr; cases hr; exact ⟨rfl, rfl⟩) rfl k20 (by omega) rfl rfl ?_
  refine aw_aload_n dX3_init_15 rfl ?_
  refine aw_new (c := 1) dX3_init_16 rfl (gT_ix 26 (by decide +kernel) rfl) (gT_ix 27 (by decide +kernel) rfl) (gT_ix 5 (by decide +kernel) rfl) (by omega) (Nat.le_of_ble_eq_true rfl) (Nat.le_of_ble_eq_true rfl) ?_
  refine aw_dup dX3_init_19 rfl ?_
  refine aw_invI dX3_init_20 cvX3_9 ⟨Nat.le_of_ble_eq_true rfl, Nat.le_of_ble_eq_true rfl⟩ (As := []) rfl rfl (Nat.le_of_ble_eq_true rfl) ⟨Nat.le_of_ble_eq_true rfl, Nat.le_of_ble_eq_true rfl⟩ hist2 (fun E σ' q => by cases q.1) (fun v σ3 hq => ?_)
  obtain ⟨hv, hL18, hC18, hF18⟩ := hq
  cases hv
  obtain ⟨K3, R3, I3, J3, z3⟩ := σ3
  have hz3 : z3 = 35 := hF18.2
  subst hz3
  have f3 : ∀ q, (q < 18 ∨ 35 ≤ q) → K3 q = K2 q ∧ R3 q = upR R2 0 0 (.ref (G.1 1)) q ∧ I3 q = I2 q ∧ J3 q = J2 q := fun q hq => by
    obtain ⟨b1, b2, b3, b4⟩ := hF18.1 q (by omega)
    exact ⟨by rw [show K3 q = upK K2 18 (1, 7) q from b1, upK_n (by omega)], by rw [show R3 q = zr (upR R2 0 0 (.ref (G.1 1))) 18 .null q from b2, zr_n (by omega)], by rw [show I3 q = zr I2 18 0 q from b3, zr_n (by omega)], by rw [show J3 q = zr J2 18 0 q from b4, zr_n (by omega)]⟩
  have k30 : K3 0 = some (3, 6) := by rw [(f3 0 (by omega)).1]; exact k20
  show AW G _ _ _ _ _ _ (0 + 1 + 16 + 1 + 16) (0 + 7 + 230 + 7 + 230)
  refine aw_putR dX3_init_23 flX3_16 rfl (by intro r hr; cases hr; exact ⟨rfl, rfl⟩) rfl k30 (by omega) rfl rfl ?_
  refine aw_aload_n dX3_init_26 rfl ?_
  refine aw_bipush (v := nI 6) dX3_init_27 rfl ?_
  refine aw_anew (t := 12) (z := 35) (N := 6) dX3_init_29 (Or.inl ⟨rfl, rfl⟩) (gT_ix 26 (by decide +kernel) rfl) (Nat.le_of_ble_eq_true rfl) (by omega) (Nat.le_of_ble_eq_true rfl) (Nat.le_of_ble_eq_true rfl) ?_
  refine aw_putR dX3_init_32 flX3_19 rfl (by intro r hr; cases hr; exact ⟨rfl, rfl⟩) rfl (by rw [upK_n (by decide)]; exact k30) (by omega) rfl rfl ?_
  refine aw_aload_n dX3_init_35 rfl ?_
  refine aw_new (c := 0) (z := 35 + 1) dX3_init_36 rfl (gT_ix 133 (by decide +kernel) rfl) (gT_ix 134 (by decide +kernel) rfl) (gT_ix 8 (by decide +kernel) rfl) (by omega) (Nat.le_of_ble_eq_true rfl) (Nat.le_of_ble_eq_true rfl) ?_
  refine aw_dup dX3_init_39 rfl ?_
  refine aw_invIN (yc := YX0_init) (n := 0) dX3_init_40 rfl rfl (gT_ix 136 (by decide +kernel) rfl) (gT_ix 8 (by decide +kernel) rfl) (gT_ix 137 (by decide +kernel) rfl) (by decide +kernel) rfl ⟨Nat.le_of_ble_eq_true rfl, Nat.le_of_ble_eq_true rfl⟩ (As := []) rfl rfl (Nat.le_of_ble_eq_true rfl) ⟨Nat.le_of_ble_eq_true rfl, Nat.le_of_ble_eq_true rfl⟩ (i_text upK_s (fun j => zr_s)) (fun E σ' q => by cases q.1) (fun v σ4 hq => ?_)
  obtain ⟨hv, hLD, hRD, hF4⟩ := hq
  cases hv
  obtain ⟨K4, R4, I4, J4, z4⟩ := σ4
  have hz4 : z4 = 38 := hF4.2
  subst hz4
  have f4 : ∀ q, (q < 36 ∨ 38 ≤ q) → K4 q = upK K3 35 (12, 6) q ∧ R4 q = upR (zr (upR R3 0 1 (.ref (G.1 18))) 35 .null) 0 2 (.ref (G.1 35)) q ∧ I4 q = zr I3 35 0 q ∧ J4 q = zr J3 35 0 q := fun q hq => by
    obtain ⟨b1, b2, b3, b4⟩ := hF4.1 q (by omega)
    exact ⟨Eq.trans b1 (upK_n (by omega)), Eq.trans b2 (zr_n (by omega)), Eq.trans b3 (zr_n (by omega)), Eq.trans b4 (zr_n (by omega))⟩
  have k40 : K4 0 = some (3, 6) := by rw [(f4 0 (by omega)).1, upK_n (by decide)]; exact k30
  show AW G _ _ _ _ _ _ (0 + 1 + 16 + 1 + 16 + 1 + 1 + 1) (0 + 7 + 230 + 7 + 230 + 6 + 2 + 60)
  refine aw_putR dX3_init_43 flX3_26 rfl (by intro r hr; cases hr; exact ⟨rfl, rfl⟩) rfl k40 (by omega) rfl rfl ?_
  refine aw_iconst (v := nI 0) dX3_init_46 rfl ?_
  refine aw_istore_n (ls' := [(1, _), (0, _)]) dX3_init_47 (by decide) rfl ?_
  refine aw_widen (cu' := 37 + 17 * 0) (su' := 542 + 237 * 0) (by decide) (by decide) (aw_pick [1, 0] rfl (loop 6 0 _ _ _ _ rfl (by decide) ⟨⟨k40, ?_, ?_, ?_, ?_, ?_, ⟨hLD.1, ?_, hLD.2.2⟩, hL1.fr (fun q h1 h2 => ⟨?_, ?_⟩), hL18.fr (fun q h1 h2 => ⟨?_, ?_⟩)⟩, hC1.fr (fun q h1 h2 => ?_), hRD, fun j => ?_, fun s hs => absurd hs (by omega), fun q hq => ⟨?_, ?_, ?_, ?_⟩⟩))
  · rw [upR_o, if_neg (by decide), (f4 0 (by omega)).2.1, upR_o, if_neg (by decide), zr_n (by decide), upR_o, if_neg (by decide), (f3 0 (by omega)).2.1, upR_s]
  · rw [upR_o, if_neg (by decide), (f4 0 (by omega)).2.1, upR_o, if_neg (by decide), zr_n (by decide), upR_s]
  · rw [upR_o, if_neg (by decide), (f4 0 (by omega)).2.1, upR_s]
  · rw [(f4 35 (by omega)).1, upK_s]
  · rw [upR_s]
  · rw [upR_n (by decide)]; exact hLD.2.1
  · rw [(f4 q (by omega)).1, upK_n (by omega), (f3 q (by omega)).1]
  · rw [upR_n (by omega), (f4 q (by omega)).2.1, upR_n (by omega), zr_n (by omega), upR_n (by omega), (f3 q (by omega)).2.1, upR_n (by omega)]
  · rw [(f4 q (by omega)).1, upK_n (by omega)]
  · rw [upR_n (by omega), (f4 q (by omega)).2.1, upR_n (by omega), zr_n (by omega), upR_n (by omega)]
  · rw [(f4 q (by omega)).2.2.1, zr_n (by omega), (f3 q (by omega)).2.2.1]
  · rw [(f4 0 (by omega)).2.2.1, zr_n (by omega), (f3 0 (by omega)).2.2.1, (f2 0 (by omega)).2.2.1]; exact hi j
  · rw [(f4 q (by omega)).1, upK_n (by omega), (f3 q (by omega)).1, (f2 q (by omega)).1]
  · rw [upR_n (by omega), (f4 q (by omega)).2.1, upR_n (by omega), zr_n (by omega), upR_n (by omega), (f3 q (by omega)).2.1, upR_n (by omega), (f2 q (by omega)).2.1]
  · rw [(f4 q (by omega)).2.2.1, zr_n (by omega), (f3 q (by omega)).2.2.1, (f2 q (by omega)).2.2.1]
  · rw [(f4 q (by omega)).2.2.2, zr_n (by omega), (f3 q (by omega)).2.2.2, (f2 q (by omega)).2.2.2]
end CLASS20
