/-! THE REFERENCE'S FACE: delays -/
section MODEL15
variable {G : GG} {K : Nat → Option (Nat × Nat)} {R : Nat → Nat → Value} {I : Nat → Nat → Int32} {J : Nat → Nat → Int64} {z : Nat} {σ : Sg} {a : AA} {hs : List AA} {B : List Nat} {m k : Nat}
theorem M_delays (hL : LM G K R) (hS : MS I (a, hs, B)) (hI : IV m k a) (hl1 : L1 a) (hmk : m + k ≤ 900000000) (v : Int32) : Run G YX4_delays [.ref (G.1 140), .int v] (K, R, I, J, z) (MP K R J z I (sDelays v (a, hs, B))) := by
  obtain ⟨hk0, hr1, hk1, hr2, hk2, hr3, hk3, hr5, hk5, hr9, hk9⟩ := hL
  have hL : LM G K R := ⟨hk0, hr1, hk1, hr2, hk2, hr3, hk3, hr5, hk5, hr9, hk9⟩
  have h16 := hI.2.1
  have hS0 := hS.th (x := nI 0)
  have hM0 : RM (up2 I 140 0 (nI 0) 141) a := hS0.1
  have hH0 : RH (up2 I 140 0 (nI 0)) hs := hS0.2.1
  have hB0 : RB (up2 I 140 0 (nI 0)) B := hS0.2.2
  have hn9 : up2 I 140 0 (nI 0) 141 9 = nI a.2.1.length := hS0.1.2.1
  have hC : ∀ c ∈ a.2.1, c 0 < 4 ∧ c 3 ≤ 1 := fun c hc => ⟨(hI.2.2.1 c hc).1, (hI.2.2.1 c hc).2.2.2.2.1⟩

  by_cases hv : inR v 0 3
  rotate_left
  · have hx : sDelays v (a, hs, B) = (1, 0, (a, hs, B)) := by unfold sDelays; rw [if_neg hv]
    rw [hx]
    refine run_of (ls := [(0, .ref (G.1 140)), (1, .int v)]) (by decide +kernel) rfl rfl (Nat.le_of_ble_eq_true rfl) ?_
    refine aw_aload_n dX4_delays_0 rfl ?_
    refine aw_iconst (v := nI 0) dX4_delays_1 rfl ?_
    refine aw_putI dX4_delays_2 flX4_25 rfl (by intro r hr; cases hr; rfl) (by assumption) (by omega) rfl rfl ?_
    refine aw_iload_n dX4_delays_5 rfl ?_
    refine aw_sRd dX4_delays_6 cvX4_90 ⟨Nat.le_of_ble_eq_true rfl, Nat.le_of_ble_eq_true rfl⟩ (isS0 hv) rfl rfl (Nat.le_of_ble_eq_true rfl) ⟨rfl, rfl⟩ ⟨Nat.zero_le _, Nat.zero_le _⟩ ?_
    refine aw_if_neN (tgt := 18) dX4_delays_9 (by decide) (by omega) (fun hc9 => absurd rfl hc9) (fun hc9 => ?_)
    refine aw_aload_n dX4_delays_12 rfl ?_
    refine aw_iconst (v := nI 1) dX4_delays_13 rfl ?_
    refine aw_vUp dX4_delays_14 cvX4_93 ⟨Nat.le_of_ble_eq_true rfl, Nat.le_of_ble_eq_true rfl⟩ (by assumption) ⟨_, rfl, rfl⟩ (r_fails hL (nI 1)) rfl rfl (Nat.le_of_ble_eq_true rfl) ⟨rfl, rfl⟩ ⟨Nat.zero_le _, Nat.zero_le _⟩ (fun I14 hP14 => ?_)
    exact aw_iret dX4_delays_17 rfl (Nat.zero_le _) (Nat.zero_le _) ⟨rfl, _, rfl, failS hS hP14⟩
  obtain ⟨hv1, -, hv3⟩ := inR_nat hv (by decide) (by decide)
  have hst : nv v < 4 := by omega
  have ht := (hI.2.2.2.2.1 _ hst).up hI.b
  obtain ⟨hr20, hr99⟩ := rdAll_RL B
  by_cases hk : (rdAll B).1 = true
  rotate_left
  · have hx : sDelays v (a, hs, B) = (2, 0, (a, hs, B)) := by unfold sDelays; rw [if_pos hv, if_neg hk]
    rw [hx]
    have hk0' : (rdAll B).1 = false := by simpa using hk
    refine run_of (ls := [(0, .ref (G.1 140)), (1, .int v)]) (by decide +kernel) rfl rfl (Nat.le_of_ble_eq_true rfl) ?_
    refine aw_aload_n dX4_delays_0 rfl ?_
    refine aw_iconst (v := nI 0) dX4_delays_1 rfl ?_
    refine aw_putI dX4_delays_2 flX4_25 rfl (by intro r hr; cases hr; rfl) (by assumption) (by omega) rfl rfl ?_
    refine aw_iload_n dX4_delays_5 rfl ?_
    refine aw_sRd dX4_delays_6 cvX4_90 ⟨Nat.le_of_ble_eq_true rfl, Nat.le_of_ble_eq_true rfl⟩ (isS1 hv) rfl rfl (Nat.le_of_ble_eq_true rfl) ⟨rfl, rfl⟩ ⟨Nat.zero_le _, Nat.zero_le _⟩ ?_
    refine aw_if_neN (tgt := 18) dX4_delays_9 (by decide) (by omega) (fun hc9 => ?_) (fun hc9 => absurd hc9 (by decide))
    refine aw_aload_n dX4_delays_18 rfl ?_
    refine aw_vUp0 dX4_delays_19 cvX4_132 ⟨Nat.le_of_ble_eq_true rfl, Nat.le_of_ble_eq_true rfl⟩ (by assumption) ⟨_, rfl, rfl⟩ (r_readsAll hL hB0) rfl rfl (Nat.le_of_ble_eq_true rfl) ⟨rfl, rfl⟩ ⟨Nat.zero_le _, Nat.zero_le _⟩ (fun I19 hP19 => ?_)
    have hF := hP19.2
    have hS19 : MS I19 (a, hs, B) := hS0.fr (fun q h1 h2 _ => hF.1 q h1 h2) (fun j hj => hF.2 j (by omega) (by omega) (by omega))
    have hok := hP19.1.1
    have hb1 := b2_le (rdAll B).1
    refine aw_aload_n dX4_delays_22 rfl ?_
    refine aw_getI dX4_delays_23 flX4_122 rfl (by assumption) hok ?_
    refine aw_if_neN (tgt := 35) dX4_delays_26 (by decide) (by omega) (fun hc26 => absurd (b2_f hk0') hc26) (fun hc26 => ?_)
    refine aw_aload_n dX4_delays_29 rfl ?_
    refine aw_iconst (v := nI 2) dX4_delays_30 rfl ?_
    refine aw_vUp dX4_delays_31 cvX4_93 ⟨Nat.le_of_ble_eq_true rfl, Nat.le_of_ble_eq_true rfl⟩ (by assumption) ⟨_, rfl, rfl⟩ (r_fails hL (nI 2)) rfl rfl (Nat.le_of_ble_eq_true rfl) ⟨rfl, rfl⟩ ⟨Nat.zero_le _, Nat.zero_le _⟩ (fun I31 hP31 => ?_)
    refine aw_iret dX4_delays_34 rfl (Nat.zero_le _) (Nat.zero_le _) ?_
    subst hP31
    refine ⟨rfl, _, rfl, hS19.th, by rw [up2_o, if_pos rfl], fun q hq => ?_⟩
    rw [FrO.up q (by omega), hF.1 q (by omega) (by omega), FrO.up q (by omega)]
  have hx : sDelays v (a, hs, B) = (0, nI (a.2.2 (nv v) 0), (a.1, a.2.1, sT a.2.2 (nv v) (rowR (rdAll B).2.2 (a.2.2 (nv v)))), pushH hs a, []) := by unfold sDelays; rw [if_pos hv, if_pos hk]
  rw [hx]
  clear hx
  obtain ⟨st, hst'⟩ : ∃ st, st = nv v := ⟨_, rfl⟩
  rw [← hst'] at hv1 hv3 hst ht ⊢
  subst hv1
  obtain ⟨r, hr⟩ : ∃ r, r = (rdAll B).2.2 := ⟨_, rfl⟩
  rw [← hr] at hr20 hr99 ⊢
  have loop : ∀ (I0 : Nat → Nat → Int32), RH I0 (pushH hs a) → I0 140 6 = nI 0 → I0 140 0 = nI 0 → (∀ q, (q < 140 ∨ 145 < q) → I0 q = I q) → I0 140 10 = nI r.length → (∀ (i x : Nat), r[i]? = some x → I0 145 i = nI x) → ∀ (d q : Nat) (I1 : Nat → Nat → Int32), 20 - q = d → q ≤ 20 → RM (I1 141) (a.1, a.2.1, sT a.2.2 st (rowF r q (a.2.2 st))) → FrO 141 I0 I1 → AW G YX4_delays (MZ G YX4_delays (MP K R J z I (0, nI (a.2.2 st 0), (a.1, a.2.1, sT a.2.2 st (rowR r (a.2.2 st))), pushH hs a, []))) 53 [(0, .ref (G.1 140)), (1, .int (nI st)), (2, .int (nI (a.2.2 st 0))), (3, .int (nI q))] [] (K, R, I1, J, z) 0 0 := by
    intro I0 hRH h6 h00 hfr h10 hrv d
    induction d using Nat.strongRecOn with
    | _ d ih =>
    intro q I1 hd hq hM1 hF1
    have h10' : I1 140 10 = nI r.length := by rw [hF1 140 (by decide)]; exact h10
    rcases Nat.lt_or_ge q 20 with hlt | hge
    rotate_left
    · have hqe : q = 20 := by omega
      subst hqe
      refine aw_iload_n dX4_delays_53 rfl ?_
      refine aw_bipush (v := nI 20) dX4_delays_54 rfl ?_
      refine aw_icmp_geN (tgt := 92) dX4_delays_56 (by decide) (by omega) (by omega) (fun hc56 => ?_) (fun hc56 => absurd hc56 (by decide))
      refine aw_aload_n dX4_delays_92 rfl ?_
      refine aw_iload_n dX4_delays_93 rfl ?_
      refine aw_iconst (v := nI 0) dX4_delays_94 rfl ?_
      refine aw_aload_n dX4_delays_95 rfl ?_
      refine aw_getI dX4_delays_96 flX4_126 rfl (by assumption) h10' ?_
      refine aw_vUp0 dX4_delays_99 cvX4_29 ⟨Nat.le_of_ble_eq_true rfl, Nat.le_of_ble_eq_true rfl⟩ (by assumption) ⟨_, rfl, rfl⟩ (r_lay (a := (a.1, a.2.1, sT a.2.2 st (rowF r 20 (a.2.2 st)))) (st := st) (w := 0) hL hM1 h16 hst (by decide)) rfl rfl (Nat.le_of_ble_eq_true rfl) ⟨rfl, rfl⟩ ⟨Nat.zero_le _, Nat.zero_le _⟩ (fun I99 hP99 => ?_)
      refine aw_aload_n dX4_delays_102 rfl ?_
      refine aw_iload_n dX4_delays_103 rfl ?_
      refine aw_iconst (v := nI 1) dX4_delays_104 rfl ?_
      refine aw_iconst (v := nI 0) dX4_delays_105 rfl ?_
      refine aw_vUp0 dX4_delays_106 cvX4_29 ⟨Nat.le_of_ble_eq_true rfl, Nat.le_of_ble_eq_true rfl⟩ (by assumption) ⟨_, rfl, rfl⟩ (r_lay (st := st) (w := 1) (v := 0) hL hP99.1 h16 hst (by decide)) rfl rfl (Nat.le_of_ble_eq_true rfl) ⟨rfl, rfl⟩ ⟨Nat.zero_le _, Nat.zero_le _⟩ (fun I106 hP106 => ?_)
      refine aw_iload_n dX4_delays_109 rfl ?_
      refine aw_iret dX4_delays_110 rfl (Nat.zero_le _) (Nat.zero_le _) ?_
      have hM2 := hP106.1
      simp only [sT_s, sT_sT, rowF_all] at hM2
      have hF2 : FrO 141 I0 I106 := hF1.tr (hP99.2.tr hP106.2)
      refine ⟨rfl, _, rfl, ⟨hM2, hRH.fr (hF2 143 (by decide)) (by rw [hF2 140 (by decide)]), ⟨by rw [hF2 140 (by decide)]; exact h6, Nat.zero_le _, fun i c hi => by simp at hi⟩⟩, by rw [hF2 140 (by decide)]; exact h00, fun q hq => by rw [hF2 q (by omega), hfr q hq]⟩
    · have key : ∀ x : Nat, x = r.getD q 0 → AW G YX4_delays (MZ G YX4_delays (MP K R J z I (0, nI (a.2.2 st 0), (a.1, a.2.1, sT a.2.2 st (rowR r (a.2.2 st))), pushH hs a, []))) 83 [(0, .ref (G.1 140)), (1, .int (nI st)), (2, .int (nI (a.2.2 st 0))), (3, .int (nI q))] [.int (nI x), .int (nI (12 + q)), .int (nI st), .ref (G.1 140)] (K, R, I1, J, z) 0 0 := by
        intro x hx
        subst hx
        refine aw_vUp0 dX4_delays_83 cvX4_29 ⟨Nat.le_of_ble_eq_true rfl, Nat.le_of_ble_eq_true rfl⟩ (by assumption) ⟨_, rfl, rfl⟩ (r_lay (a := (a.1, a.2.1, sT a.2.2 st (rowF r q (a.2.2 st)))) (st := st) (w := 12 + q) hL hM1 h16 hst (by omega)) rfl rfl (Nat.le_of_ble_eq_true rfl) ⟨rfl, rfl⟩ ⟨Nat.zero_le _, Nat.zero_le _⟩ (fun I83 hP83 => ?_)
        refine aw_iincN (k := 1) (ls' := [(3, _), (0, _), (1, _), (2, _)]) dX4_delays_86 rfl rfl (by decide) rfl ?_
        refine aw_goto (tgt := 53) dX4_delays_89 (by decide) ?_
        have hM2 := hP83.1
        simp only [sT_s, sT_sT, rowF_s] at hM2
        exact aw_pick [1, 2, 3, 0] rfl (ih (20 - (q + 1)) (by omega) (q + 1) _ rfl (by omega) hM2 (hF1.tr hP83.2))
      refine aw_iload_n dX4_delays_53 rfl ?_
      refine aw_bipush (v := nI 20) dX4_delays_54 rfl ?_
      refine aw_icmp_geN (tgt := 92) dX4_delays_56 (by decide) (by omega) (by omega) (fun hc56 => absurd hc56 (by omega)) (fun hc56 => ?_)
      refine aw_aload_n dX4_delays_59 rfl ?_
      refine aw_iload_n dX4_delays_60 rfl ?_
      refine aw_bipush (v := nI 12) dX4_delays_61 rfl ?_
      refine aw_iload_n dX4_delays_63 rfl ?_
      first | refine aw_iaddN dX4_delays_64 ?_ | refine aw_iadd dX4_delays_64 ?_
      refine aw_iload_n dX4_delays_65 rfl ?_
      refine aw_aload_n dX4_delays_66 rfl ?_
      refine aw_getI dX4_delays_67 flX4_126 rfl (by assumption) h10' ?_
      refine aw_icmp_geN (tgt := 82) dX4_delays_70 (by decide) (by omega) (by omega) (fun hc70 => ?_) (fun hc70 => ?_)
      · refine aw_iconst (v := nI 0) dX4_delays_82 rfl ?_
        first
        | exact aw_pick [0, 1, 2, 3] rfl (key _ rfl)
        | exact aw_pick [0, 1, 2, 3] rfl (key 0 (getD_ge hc70).symm)
      · refine aw_aload_n dX4_delays_73 rfl ?_
        refine aw_getR dX4_delays_74 flX4_22 rfl (by assumption) (by assumption) ?_
        refine aw_iload_n dX4_delays_77 rfl ?_
        refine aw_iald dX4_delays_78 (by assumption) (by omega) rfl (by omega) (show _ = nI (r.getD q 0) by rw [hF1 145 (by decide)]; exact hrv q _ (getD_lt hc70)) ?_
        refine aw_goto (tgt := 83) dX4_delays_79 (by decide) ?_
        first
        | exact aw_pick [0, 1, 2, 3] rfl (key _ rfl)
        | exact aw_pick [0, 1, 2, 3] rfl (key 0 (getD_ge hc70).symm)
  refine run_of (ls := [(0, .ref (G.1 140)), (1, .int (nI st))]) (by decide +kernel) rfl rfl (Nat.le_of_ble_eq_true rfl) ?_
  refine aw_aload_n dX4_delays_0 rfl ?_
  refine aw_iconst (v := nI 0) dX4_delays_1 rfl ?_
  refine aw_putI dX4_delays_2 flX4_25 rfl (by intro r hr; cases hr; rfl) (by assumption) (by omega) rfl rfl ?_
  refine aw_iload_n dX4_delays_5 rfl ?_
  refine aw_sRd dX4_delays_6 cvX4_90 ⟨Nat.le_of_ble_eq_true rfl, Nat.le_of_ble_eq_true rfl⟩ (isS1 hv) rfl rfl (Nat.le_of_ble_eq_true rfl) ⟨rfl, rfl⟩ ⟨Nat.zero_le _, Nat.zero_le _⟩ ?_
  refine aw_if_neN (tgt := 18) dX4_delays_9 (by decide) (by omega) (fun hc9 => ?_) (fun hc9 => absurd hc9 (by decide))
  refine aw_aload_n dX4_delays_18 rfl ?_
  refine aw_vUp0 dX4_delays_19 cvX4_132 ⟨Nat.le_of_ble_eq_true rfl, Nat.le_of_ble_eq_true rfl⟩ (by assumption) ⟨_, rfl, rfl⟩ (r_readsAll hL hB0) rfl rfl (Nat.le_of_ble_eq_true rfl) ⟨rfl, rfl⟩ ⟨Nat.zero_le _, Nat.zero_le _⟩ (fun I19 hP19 => ?_)
  have hF := hP19.2
  have hS19 : MS I19 (a, hs, B) := hS0.fr (fun q h1 h2 _ => hF.1 q h1 h2) (fun j hj => hF.2 j (by omega) (by omega) (by omega))
  have hok := hP19.1.1
  have hb1 := b2_le (rdAll B).1
  refine aw_aload_n dX4_delays_22 rfl ?_
  refine aw_getI dX4_delays_23 flX4_122 rfl (by assumption) hok ?_
  refine aw_if_neN (tgt := 35) dX4_delays_26 (by decide) (by omega) (fun hc26 => ?_) (fun hc26 => absurd hc26 (by rw [hk]; decide))
  refine aw_aload_n dX4_delays_35 rfl ?_
  refine aw_vUp0 dX4_delays_36 cvX4_96 ⟨Nat.le_of_ble_eq_true rfl, Nat.le_of_ble_eq_true rfl⟩ (by assumption) ⟨_, rfl, rfl⟩ (r_saves (a := a) (hs := hs) hL hS19.1 h16 hS19.2.1) rfl rfl (Nat.le_of_ble_eq_true rfl) ⟨rfl, rfl⟩ ⟨Nat.zero_le _, Nat.zero_le _⟩ (fun I36 hP36 => ?_)
  refine aw_aload_n dX4_delays_39 rfl ?_
  refine aw_iconst (v := nI 0) dX4_delays_40 rfl ?_
  refine aw_putI dX4_delays_41 flX4_113 rfl (by intro r hr; cases hr; rfl) (by assumption) (by omega) rfl rfl ?_
  have hM36 : RM (up2 I36 140 6 (nI 0) 141) a := by rw [FrO.up 141 (by decide), hP36.2.1 141 (by decide) (by decide)]; exact hS19.1
  refine aw_aload_n dX4_delays_44 rfl ?_
  refine aw_iload_n dX4_delays_45 rfl ?_
  refine aw_iconst (v := nI 0) dX4_delays_46 rfl ?_
  refine aw_vRd dX4_delays_47 cvX4_40 ⟨Nat.le_of_ble_eq_true rfl, Nat.le_of_ble_eq_true rfl⟩ (by assumption) ⟨_, rfl, rfl⟩ (r_of (a := a) hL hM36 hst (w := 0) (by decide)) rfl rfl (Nat.le_of_ble_eq_true rfl) ⟨rfl, rfl⟩ ⟨Nat.zero_le _, Nat.zero_le _⟩ ?_
  refine aw_istore_n (ls' := [(2, _), (0, _), (1, _)]) dX4_delays_50 (by decide) rfl ?_
  refine aw_iconst (v := nI 0) dX4_delays_51 rfl ?_
  refine aw_istore_n (ls' := [(3, _), (2, _), (0, _), (1, _)]) dX4_delays_52 (by decide) rfl ?_
  refine aw_pick [2, 3, 1, 0] rfl (loop _ (hP36.1.fr (FrO.up 143 (by decide)) (by rw [up2_o, if_neg (by decide)])) (by rw [up2_o, if_pos rfl]) ?_ ?_ ?_ ?_ 20 0 _ rfl (by decide) (by rw [rowF_0, sT_id]; exact hM36) FrO.rf)
  · rw [up2_o, if_neg (by decide), hP36.2.2 0 (by decide), hF.2 0 (by decide) (by decide) (by decide), up2_o, if_pos rfl]
  · intro q hq; rw [FrO.up q (by omega), hP36.2.1 q (by omega) (by omega), hF.1 q (by omega) (by omega), FrO.up q (by omega)]
  · rw [up2_o, if_neg (by decide), hP36.2.2 10 (by decide), hr]; exact hP19.1.2.2.1
  · intro i x hi; rw [FrO.up 145 (by decide), hP36.2.1 145 (by decide) (by decide)]; rw [hr] at hi; exact hP19.1.2.2.2 i x hi
end MODEL15
