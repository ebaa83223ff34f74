/-! A STATE IS MADE -/
def g0 : Nat → Nat := fun k => if k = 0 then 20 else if k = 1 then 4 else if k = 2 then 2 else if k = 3 then 10 else if k = 4 then 80 else 0
def a0 : AA := (g0, [], fun _ => row0)
/-- while the stores are made -/
def LI (G : GG) (h i : Nat) (K : Nat → Option (Nat × Nat)) (R : Nat → Nat → Value) (I : Nat → Nat → Int32) (J : Nat → Nat → Int64) (K1 : Nat → Option (Nat × Nat)) (R1 : Nat → Nat → Value) (I1 : Nat → Nat → Int32) (J1 : Nat → Nat → Int64) : Prop :=
  (K1 h = some (1, 7) ∧ R1 h 0 = .ref (G.1 (h + 1)) ∧ K1 (h + 1) = some (13, 4) ∧ R1 h 1 = .ref (G.1 (h + 2)) ∧ K1 (h + 2) = some (10, 5) ∧ R1 h 2 = .ref (G.1 (h + 3)) ∧ K1 (h + 3) = some (14, 5) ∧
  R1 (h + 3) 0 = .ref (G.1 (h + 4)) ∧ R1 (h + 3) 1 = .ref (G.1 (h + 5)) ∧ R1 (h + 3) 2 = .ref (G.1 (h + 6)) ∧ R1 (h + 3) 3 = .ref (G.1 (h + 7)) ∧ R1 (h + 3) 4 = .ref (G.1 (h + 8)) ∧
  K1 (h + 4) = some (10, 16) ∧ K1 (h + 5) = some (10, 16) ∧ K1 (h + 6) = some (10, 16) ∧ K1 (h + 7) = some (10, 16) ∧ K1 (h + 8) = some (10, 16)) ∧
  (∀ s, s < i → R1 (h + 1) s = .ref (G.1 (h + 9 + 2 * s)) ∧ LT K1 R1 G (h + 9 + 2 * s) ∧ SR (I1 (h + 9 + 2 * s)) (I1 (h + 9 + 2 * s + 1)) row0 ∧ I1 (h + 9 + 2 * s) 12 = nI 0) ∧
  (∀ j, I1 h j = 0) ∧ (∀ q, (q < h ∨ h + 9 + 2 * i ≤ q) → K1 q = K q ∧ R1 q = R q ∧ I1 q = I q ∧ J1 q = J q)
theorem LI.lst {G : GG} {h : Nat} {K : Nat → Option (Nat × Nat)} {R : Nat → Nat → Value} {I : Nat → Nat → Int32} {J : Nat → Nat → Int64} {K1 : Nat → Option (Nat × Nat)} {R1 : Nat → Nat → Value} {I1 : Nat → Nat → Int32} {J1 : Nat → Nat → Int64} (hh : h ≤ 800) (hL : LI G h 4 K R I J K1 R1 I1 J1) : LSt G K1 R1 h := by
  obtain ⟨⟨a1, a2, a3, a4, a5, a6, a7, a8, a9, a10, a11, a12, a13, a14, a15, a16, a17⟩, hs, -, -⟩ := hL
  exact ⟨a1, a2, a3, fun i hi => (hs i hi).1, a4, a5, a6, a7, a8, a9, a10, a11, a12, a13, a14, a15, a16, a17, fun i hi => (hs i hi).2.1, hh⟩
/-- one store more -/
theorem LI.next {G : GG} {h i : Nat} {K : Nat → Option (Nat × Nat)} {R : Nat → Nat → Value} {I : Nat → Nat → Int32} {J : Nat → Nat → Int64} {K1 : Nat → Option (Nat × Nat)} {R1 : Nat → Nat → Value} {I1 : Nat → Nat → Int32} {J1 : Nat → Nat → Int64} {K2 : Nat → Option (Nat × Nat)} {R2 : Nat → Nat → Value} {I2 : Nat → Nat → Int32} {J2 : Nat → Nat → Int64} {z2 : Nat} (hL : LI G h i K R I J K1 R1 I1 J1)
    (hT : LT K2 R2 G (h + 9 + 2 * i)) (hS : SR (I2 (h + 9 + 2 * i)) (I2 (h + 9 + 2 * i + 1)) row0) (h12 : I2 (h + 9 + 2 * i) 12 = nI 0)
    (hF : Same (h + 9 + 2 * i) (h + 9 + 2 * i + 2) (upK K1 (h + 9 + 2 * i) (2, 14), zr R1 (h + 9 + 2 * i) .null, zr I1 (h + 9 + 2 * i) 0, zr J1 (h + 9 + 2 * i) 0, h + 9 + 2 * i + 1) (K2, R2, I2, J2, z2)) :
    LI G h (i + 1) K R I J K2 (upR R2 (h + 1) i (.ref (G.1 (h + 9 + 2 * i)))) I2 J2 := by
  obtain ⟨⟨a1, a2, a3, a4, a5, a6, a7, a8, a9, a10, a11, a12, a13, a14, a15, a16, a17⟩, hs, hI, hO⟩ := hL
  have f : ∀ q, (q < h + 9 + 2 * i ∨ h + 9 + 2 * i + 2 ≤ q) → K2 q = K1 q ∧ R2 q = R1 q ∧ I2 q = I1 q ∧ J2 q = J1 q := fun q hq => by
    obtain ⟨b1, b2, b3, b4⟩ := hF.1 q hq
    refine ⟨?_, ?_, ?_, ?_⟩
    · rw [show K2 q = upK K1 (h + 9 + 2 * i) (2, 14) q from b1, upK_n (by omega)]
    · rw [show R2 q = zr R1 (h + 9 + 2 * i) .null q from b2, zr_n (by omega)]
    · rw [show I2 q = zr I1 (h + 9 + 2 * i) 0 q from b3, zr_n (by omega)]
    · rw [show J2 q = zr J1 (h + 9 + 2 * i) 0 q from b4, zr_n (by omega)]
  have k := fun q hq => (f q hq).1
  have r : ∀ q, (q < h + 9 + 2 * i ∨ h + 9 + 2 * i + 2 ≤ q) → q ≠ h + 1 → upR R2 (h + 1) i (.ref (G.1 (h + 9 + 2 * i))) q = R1 q := fun q hq hn => by rw [upR_n hn, (f q hq).2.1]
  have tt : ∀ s, LT K2 R2 G (h + 9 + 2 * s) → LT K2 (upR R2 (h + 1) i (.ref (G.1 (h + 9 + 2 * i)))) G (h + 9 + 2 * s) := fun s hs => ⟨hs.1, by rw [upR_n (by omega)]; exact hs.2.1, hs.2.2.1, hs.2.2.2⟩
  refine ⟨⟨by rw [k _ (by omega)]; exact a1, by rw [r _ (by omega) (by omega)]; exact a2, by rw [k _ (by omega)]; exact a3, by rw [r _ (by omega) (by omega)]; exact a4, by rw [k _ (by omega)]; exact a5, by rw [r _ (by omega) (by omega)]; exact a6, by rw [k _ (by omega)]; exact a7,
    by rw [r _ (by omega) (by omega)]; exact a8, by rw [r _ (by omega) (by omega)]; exact a9, by rw [r _ (by omega) (by omega)]; exact a10, by rw [r _ (by omega) (by omega)]; exact a11, by rw [r _ (by omega) (by omega)]; exact a12, by rw [k _ (by omega)]; exact a13, by rw [k _ (by omega)]; exact a14, by rw [k _ (by omega)]; exact a15, by rw [k _ (by omega)]; exact a16, by rw [k _ (by omega)]; exact a17⟩, fun s hs' => ?_, fun j => ?_, fun q hq => ?_⟩
  · by_cases e : s = i
    · subst e
      exact ⟨upR_s, tt s hT, hS, h12⟩
    · obtain ⟨b1, b2, b3, b4⟩ := hs s (by omega)
      refine ⟨?_, ?_, ?_, ?_⟩
      · rw [upR_o, if_neg e, (f _ (by omega)).2.1]; exact b1
      · exact tt s ⟨by rw [k _ (by omega)]; exact b2.1, by rw [(f _ (by omega)).2.1]; exact b2.2.1, by rw [k _ (by omega)]; exact b2.2.2.1, b2.2.2.2⟩
      · rw [(f _ (by omega)).2.2.1, (f _ (by omega)).2.2.1]; exact b3
      · rw [(f _ (by omega)).2.2.1]; exact b4
  · rw [(f _ (by omega)).2.2.1]; exact hI j
  · obtain ⟨b1, b2, b3, b4⟩ := hO q (by omega)
    obtain ⟨c1, c2, c3, c4⟩ := f q (by omega)
    exact ⟨c1.trans b1, by rw [upR_n (by omega)]; exact c2.trans b2, c3.trans b3, c4.trans b4⟩
section CLASS19
variable {G : GG} {K : Nat → Option (Nat × Nat)} {R : Nat → Nat → Value} {I : Nat → Nat → Int32} {J : Nat → Nat → Int64} {z : Nat} {σ : Sg} {a : AA} {m k : Nat}
variable {o h : Nat}
theorem i_state (hk : K h = some (1, 7)) (hi : ∀ j, I h j = 0) (hh : h ≤ 800) (hA : K 1001 = some (10, 5)) (hA2 : ∀ i, i < 5 → I 1001 i = nI (g0 i)) : Run G YX1_init [.ref (G.1 h)] (K, R, I, J, h + 1) (fun r σ' => r = .inl none ∧ LSt G σ'.1 σ'.2.1 h ∧ CSt σ'.2.2.1 h a0 ∧ Same h (h + 17) (K, R, I, J, h + 1) σ') := by
  have loop : ∀ (d i : Nat) (K1 : Nat → Option (Nat × Nat)) (R1 : Nat → Nat → Value) (I1 : Nat → Nat → Int32) (J1 : Nat → Nat → Int64), 4 - i = d → i ≤ 4 → LI G h i K R I J K1 R1 I1 J1 → AW G YX1_init (MZ G YX1_init (fun r σ' => r = .inl none ∧ LSt G σ'.1 σ'.2.1 h ∧ CSt σ'.2.2.1 h a0 ∧ Same h (h + 17) (K, R, I, J, h + 1) σ')) 32 [(0, .ref (G.1 h)), (1, .int (nI i))] [] (K1, R1, I1, J1, h + 9 + 2 * i) (8 + 2 * i) (94 + 34 * i) := by
    intro d
    induction d using Nat.strongRecOn with
    | _ d ih =>
    intro i K1 R1 I1 J1 hd hi4 hL
    have hLc := id hL
    obtain ⟨⟨q1, q2, q3, q4, q5, q6, q7, -⟩, hs, hI0, hO⟩ := hLc
    rcases Nat.lt_or_ge i 4 with hlt | hge
    rotate_left
    · have hie : i = 4 := by omega
      subst hie
      have o1 := hO 1001 (by omega)
      have hk1001 : K1 1001 = some (10, 5) := by rw [o1.1]; exact hA
      refine aw_iload_n dX1_init_32 rfl ?_
      refine aw_iconst (v := nI 4) dX1_init_33 rfl ?_
      refine aw_icmp_geN (tgt := 56) dX1_init_34 (by decide) (by omega) (by omega) (fun hc34 => ?_) (fun hc34 => absurd hc34 (by decide))
      refine aw_getsN dX1_init_56 rfl ?_
      refine aw_iconst (v := nI 0) dX1_init_59 rfl ?_
      refine aw_aload_n dX1_init_60 rfl ?_
      refine aw_getR dX1_init_61 flX1_17 rfl (by assumption) (by assumption) ?_
      refine aw_iconst (v := nI 0) dX1_init_64 rfl ?_
      refine aw_iconst (v := nI 5) dX1_init_65 rfl ?_
      refine aw_copy (mm := 5) dX1_init_66 lkX1_30 acN acS acI hk1001 q5 (by omega) (by omega) (by omega) (by omega) (Nat.le_of_ble_eq_true rfl) (Nat.le_of_ble_eq_true rfl) ?_
      refine aw_vret dX1_init_69 rfl (Nat.le_of_ble_eq_true rfl) (Nat.le_of_ble_eq_true rfl) ?_
      have hcp : ∀ q, q ≠ h + 2 → cpyI I1 1001 (h + 2) 5 q = I1 q := fun q hq => by funext j; unfold cpyI; rw [if_neg (fun e => hq e.1)]
      refine ⟨rfl, hL.lst hh, ⟨⟨fun i hi => ?_, ?_, ?_, ?_, fun s hs' => ?_⟩, fun p c hp => by simp [a0] at hp, ?_, fun s hs' => ?_⟩, ⟨fun q hq => ?_, by show h + 9 + 2 * 4 = _; omega⟩⟩
      · show cpyI I1 1001 (h + 2) 5 (h + 2) i = _
        unfold cpyI; rw [if_pos ⟨rfl, hi⟩, o1.2.2.1]; exact hA2 i hi
      · show cpyI I1 1001 (h + 2) 5 h 4 = _
        rw [hcp h (by omega), hI0]; rfl
      · show cpyI I1 1001 (h + 2) 5 h 5 = _
        rw [hcp h (by omega), hI0]; rfl
      · show cpyI I1 1001 (h + 2) 5 h 6 = _
        rw [hcp h (by omega), hI0]; rfl
      · show SR (cpyI I1 1001 (h + 2) 5 (h + 9 + 2 * s)) (cpyI I1 1001 (h + 2) 5 (h + 9 + 2 * s + 1)) row0
        rw [hcp _ (by omega), hcp _ (by omega)]; exact (hs s hs').2.2.1
      · show cpyI I1 1001 (h + 2) 5 h 3 = _
        rw [hcp h (by omega), hI0]; rfl
      · show cpyI I1 1001 (h + 2) 5 (h + 9 + 2 * s) 12 = _
        rw [hcp _ (by omega), (hs s hs').2.2.2]; rfl
      · obtain ⟨b1, b2, b3, b4⟩ := hO q (by omega)
        exact ⟨b1, b2, by show cpyI I1 1001 (h + 2) 5 q = _; rw [hcp q (by omega)]; exact b3, b4⟩
    · have hko : upK K1 (h + 9 + 2 * i) (2, 14) (h + 9 + 2 * i) = some (2, 14) := upK_s
      have hist := i_store (G := G) (K := upK K1 (h + 9 + 2 * i) (2, 14)) (R := zr R1 (h + 9 + 2 * i) .null) (I := zr I1 (h + 9 + 2 * i) 0) (J := zr J1 (h + 9 + 2 * i) 0) (o := h + 9 + 2 * i) hko (fun j => zr_s) (by omega)
      refine aw_iload_n dX1_init_32 rfl ?_
      refine aw_iconst (v := nI 4) dX1_init_33 rfl ?_
      refine aw_icmp_geN (tgt := 56) dX1_init_34 (by decide) (by omega) (by omega) (fun hc34 => absurd hc34 (by omega)) (fun hc34 => ?_)
      refine aw_aload_n dX1_init_37 rfl ?_
      refine aw_getR dX1_init_38 flX1_11 rfl (by assumption) (by assumption) ?_
      refine aw_iload_n dX1_init_41 rfl ?_
      refine aw_new (c := 2) dX1_init_42 rfl (gT_ix 32 (by decide +kernel) rfl) (gT_ix 36 (by decide +kernel) rfl) (gT_ix 6 (by decide +kernel) rfl) (by omega) (by show 8 + 2 * i + 1 ≤ 16; omega) (by show 94 + 34 * i + 14 ≤ 230; omega) ?_
      refine aw_dup dX1_init_45 rfl ?_
      refine aw_invI dX1_init_46 cvX1_26 ⟨Nat.le_of_ble_eq_true rfl, Nat.le_of_ble_eq_true rfl⟩ (As := []) rfl rfl (Nat.le_of_ble_eq_true rfl) ⟨by show 8 + 2 * i + 1 + 1 ≤ 16; omega, by show 94 + 34 * i + 14 + 20 ≤ 230; omega⟩ hist (fun E σ' q => by cases q.1) (fun v σ2 hq => ?_)
      obtain ⟨hv, hT2, hS2, h12, hF2, hk2⟩ := hq
      cases hv
      obtain ⟨K2, R2, I2, J2, z2⟩ := σ2
      have hz2 : z2 = h + 9 + 2 * i + 2 := hF2.2
      subst hz2
      have k3 : K2 (h + 1) = some (13, 4) := by
        have := (hF2.1 (h + 1) (by omega)).1
        rw [show K2 (h + 1) = upK K1 (h + 9 + 2 * i) (2, 14) (h + 1) from this, upK_n (by omega)]; exact q3
      have hN := LI.next hL hT2 hS2 h12 hF2
      show AW G _ _ _ _ _ _ (8 + 2 * i + 1 + 1) (94 + 34 * i + 14 + 20)
      refine aw_aast (c := 2) (nn := 14) dX1_init_49 k3 (Or.inr ⟨rfl, rfl⟩) (by omega) (by decide) rfl hlt hk2 ?_
      refine aw_iincN (k := 1) (ls' := [(1, _), (0, _)]) dX1_init_50 rfl rfl (by decide) rfl ?_
      refine aw_goto (tgt := 32) dX1_init_53 (by decide) ?_
      have h9 := ih (4 - (i + 1)) (by omega) (i + 1) _ _ _ _ rfl (by omega) hN
      exact aw_widen (cu' := 8 + 2 * (i + 1)) (su' := 94 + 34 * (i + 1)) (by omega) (by omega) (aw_pick [1, 0] rfl h9)
  refine run_of (ls := [(0, .ref (G.1 h))]) (by decide +kernel) rfl rfl (Nat.le_of_ble_eq_true rfl) ?_
  refine aw_aload_n dX1_init_0 rfl ?_
  refine aw_objInit dX1_init_1 (oiL (i := 31) (by decide +kernel)) oiI oiC (Nat.le_of_ble_eq_true rfl) (Nat.le_of_ble_eq_true rfl) ?_
  refine aw_aload_n dX1_init_4 rfl ?_
  refine aw_iconst (v := nI 4) dX1_init_5 rfl ?_
  refine aw_anew (t := 13) (z := h + 1) (N := 4) dX1_init_6 (Or.inr ⟨rfl, rfl⟩) (gT_ix 32 (by decide +kernel) rfl) (Nat.le_of_ble_eq_true rfl) (by omega) (Nat.le_of_ble_eq_true rfl) (Nat.le_of_ble_eq_true rfl) ?_
  refine aw_putR dX1_init_9 flX1_11 rfl (by intro r hr; cases hr; exact ⟨rfl, rfl⟩) rfl (by rw [upK_n (by omega)]; exact hk) (by omega) rfl rfl ?_
  refine aw_aload_n dX1_init_12 rfl ?_
  refine aw_iconst (v := nI 5) dX1_init_13 rfl ?_
  refine aw_newaI (z := h + 1 + 1) dX1_init_14 acInt (Nat.le_of_ble_eq_true rfl) (by omega) (Nat.le_of_ble_eq_true rfl) (Nat.le_of_ble_eq_true rfl) ?_
  refine aw_putR dX1_init_16 flX1_17 rfl (by intro r hr; cases hr; exact ⟨rfl, rfl⟩) rfl (by rw [upK_n (by omega), upK_n (by omega)]; exact hk) (by omega) rfl rfl ?_
  refine aw_aload_n dX1_init_19 rfl ?_
  refine aw_iconst (v := nI 5) dX1_init_20 rfl ?_
  refine aw_bipush (v := nI 16) dX1_init_21 rfl ?_
  refine aw_multi (z := h + 1 + 1 + 1) dX1_init_23 (gT_ix 34 (by decide +kernel) rfl) acInt (by omega) (Nat.le_of_ble_eq_true rfl) (Nat.le_of_ble_eq_true rfl) ?_
  refine aw_putR dX1_init_27 flX1_23 rfl (by intro r hr; cases hr; exact ⟨rfl, rfl⟩) rfl (by rw [if_neg (by omega), if_neg (by omega), upK_n (by omega), upK_n (by omega)]; exact hk) (by omega) rfl rfl ?_
  refine aw_iconst (v := nI 0) dX1_init_30 rfl ?_
  refine aw_istore_n (ls' := [(1, _), (0, _)]) dX1_init_31 (by decide) rfl ?_
  refine aw_widen (cu' := 8 + 2 * 0) (su' := 94 + 34 * 0) (by decide) (by decide) (aw_pick [1, 0] rfl (loop 4 0 _ _ _ _ rfl (by decide) ⟨⟨?_, ?_, ?_, ?_, ?_, ?_, ?_, ?_, ?_, ?_, ?_, ?_, ?_, ?_, ?_, ?_, ?_⟩, fun s hs => absurd hs (by omega), fun j => ?_, fun q hq => ⟨?_, ?_, ?_, ?_⟩⟩))
  all_goals first
  | (simp (disch := omega) only [upK, upR, zr, if_pos, if_neg]; done)
  | (simp (disch := omega) only [upK, upR, zr, if_pos, if_neg]; first | exact hk | exact hi _)
  | (funext k; simp (disch := omega) only [upK, upR, zr, if_pos, if_neg]; done)
  | (simp (disch := omega) only [upK, upR, zr, if_pos, if_neg, ite_true, ite_false, true_and, and_true, false_and, and_false, if_true, if_false]; done)
  | (simp (disch := omega) [upK, upR, zr]; done)
  | (simp [upK, upR, zr, hk, hi]; done)
  | (funext k; simp [upK, upR, zr, hk, hi]; omega)
end CLASS19
