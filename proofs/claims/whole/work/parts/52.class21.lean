/-! THE REFERENCE IS MADE -/
def Tz (i : Nat) : Nat → Rw := fun s => if s < i then row0 else fun _ => 0
theorem Tz_0 : Tz 0 = fun _ _ => 0 := by funext s; unfold Tz; rw [if_neg (by omega)]
theorem Tz_s (i : Nat) : sT (sT (Tz i) i (u1 (Tz i i) 0 1)) i (u1 (sT (Tz i) i (u1 (Tz i i) 0 1) i) 12 5) = Tz (i + 1) := by
  rw [sT_sT, sT_s]
  have e0 : Tz i i = fun _ => 0 := by unfold Tz; rw [if_neg (by omega)]
  rw [e0]
  funext s
  by_cases e : s = i
  · subst e
    rw [sT_s]
    unfold Tz
    rw [if_pos (by omega)]
    funext k; unfold u1 row0
    by_cases e12 : k = 12
    · subst e12; rfl
    · rw [if_neg e12, if_neg e12]
  · rw [sT_n e]
    unfold Tz
    by_cases q : s < i
    · rw [if_pos q, if_pos (by omega)]
    · rw [if_neg q, if_neg (by omega)]
theorem g0_eq : u1 (u1 (u1 (u1 (u1 (fun _ => 0) 0 20) 1 4) 2 2) 3 10) 4 80 = g0 := by
  funext k; unfold u1 g0
  by_cases e4 : k = 4
  · subst e4; rfl
  · rw [if_neg e4]
    by_cases e3 : k = 3
    · subst e3; rfl
    · rw [if_neg e3]
      by_cases e2 : k = 2
      · subst e2; rfl
      · rw [if_neg e2]
        by_cases e1 : k = 1
        · subst e1; rfl
        · rw [if_neg e1]
          by_cases e0 : k = 0
          · subst e0; rfl
          · rw [if_neg e0, if_neg e0, if_neg e1, if_neg e2, if_neg e3, if_neg e4]
theorem RM_Tz {f : Nat → Int32} (h : RM f (g0, [], Tz 4)) : RM f a0 := by
  obtain ⟨h1, h2, h3, h4⟩ := h
  refine ⟨h1, h2, h3, fun s hs w hw => ?_⟩
  rw [h4 s hs w hw]
  show nI (Tz 4 s w) = nI (row0 w)
  unfold Tz; rw [if_pos hs]
theorem RM_z {f : Nat → Int32} (h : ∀ k, f k = 0) : RM f (fun _ => 0, [], fun _ _ => 0) := ⟨fun k _ => h k, h 9, fun p c hp => by simp at hp, fun s _ w _ => h _⟩
section CLASS21
variable {G : GG} {K : Nat → Option (Nat × Nat)} {R : Nat → Nat → Value} {I : Nat → Nat → Int32} {J : Nat → Nat → Int64} {z : Nat} {σ : Sg} {a : AA} {m k : Nat}
theorem i_model (hk : K 140 = some (4, 12)) (hi : ∀ j, I 140 j = 0) : Run G YX4_init [.ref (G.1 140)] (K, R, I, J, 141) (fun r σ' => r = .inl none ∧ LM G σ'.1 σ'.2.1 ∧ MS σ'.2.2.1 (a0, [], []) ∧ Same 140 146 (K, R, I, J, 141) σ') := by
  have loop : ∀ (K1 : Nat → Option (Nat × Nat)) (R1 : Nat → Nat → Value) (J1 : Nat → Nat → Int64) (I0 : Nat → Nat → Int32), LM G K1 R1 → (∀ j, I0 140 j = 0) → (∀ q, (q < 140 ∨ 146 ≤ q) → K1 q = K q ∧ R1 q = R q ∧ I0 q = I q ∧ J1 q = J q) → ∀ (d i : Nat) (I1 : Nat → Nat → Int32), 4 - i = d → i ≤ 4 → RM (I1 141) (g0, [], Tz i) → FrO 141 I0 I1 → AW G YX4_init (MZ G YX4_init (fun r σ' => r = .inl none ∧ LM G σ'.1 σ'.2.1 ∧ MS σ'.2.2.1 (a0, [], []) ∧ Same 140 146 (K, R, I, J, 141) σ')) 92 [(0, .ref (G.1 140)), (1, .int (nI i))] [] (K1, R1, I1, J1, 146) 5 1824 := by
    intro K1 R1 J1 I0 hL h0 hO d
    have hk0 := hL.1
    induction d using Nat.strongRecOn with
    | _ d ih =>
    intro i I1 hd hi4 hM hF
    rcases Nat.lt_or_ge i 4 with hlt | hge
    rotate_left
    · have hie : i = 4 := by omega
      subst hie
      refine aw_iload_n dX4_init_92 rfl ?_
      refine aw_iconst (v := nI 4) dX4_init_93 rfl ?_
      refine aw_icmp_geN (tgt := 118) dX4_init_94 (by decide) (by omega) (by omega) (fun hc94 => ?_) (fun hc94 => absurd hc94 (by decide))
      refine aw_vret dX4_init_118 rfl (Nat.le_of_ble_eq_true rfl) (Nat.le_of_ble_eq_true rfl) ?_
      have h10 : ∀ j, I1 140 j = 0 := fun j => by rw [hF 140 (by decide)]; exact h0 j
      refine ⟨rfl, hL, ⟨RM_Tz hM, ⟨?_, Nat.zero_le _, fun i x h => by simp at h⟩, ⟨?_, Nat.zero_le _, fun i x h => by simp at h⟩⟩, ⟨fun q hq => ?_, rfl⟩⟩
      · show I1 140 4 = nI 0; rw [h10]; rfl
      · show I1 140 6 = nI 0; rw [h10]; rfl
      · obtain ⟨b1, b2, b3, b4⟩ := hO q hq
        exact ⟨b1, b2, by show I1 q = _; rw [hF q (by omega)]; exact b3, b4⟩
    · skip
      refine aw_iload_n dX4_init_92 rfl ?_
      refine aw_iconst (v := nI 4) dX4_init_93 rfl ?_
      refine aw_icmp_geN (tgt := 118) dX4_init_94 (by decide) (by omega) (by omega) (fun hc94 => absurd hc94 (by omega)) (fun hc94 => ?_)
      refine aw_aload_n dX4_init_97 rfl ?_
      refine aw_iload_n dX4_init_98 rfl ?_
      refine aw_iconst (v := nI 0) dX4_init_99 rfl ?_
      refine aw_iconst (v := nI 1) dX4_init_100 rfl ?_
      refine aw_vUp0 dX4_init_101 cvX4_29 ⟨Nat.le_of_ble_eq_true rfl, Nat.le_of_ble_eq_true rfl⟩ (by assumption) ⟨_, rfl, rfl⟩ (r_lay (a := (g0, [], Tz i)) (st := i) (w := 0) (v := 1) hL hM (Nat.zero_le _) hlt (by decide)) rfl rfl (Nat.le_of_ble_eq_true rfl) ⟨rfl, rfl⟩ ⟨Nat.le_of_ble_eq_true rfl, Nat.le_of_ble_eq_true rfl⟩ (fun I101 hP101 => ?_)
      refine aw_aload_n dX4_init_104 rfl ?_
      refine aw_iload_n dX4_init_105 rfl ?_
      refine aw_bipush (v := nI 12) dX4_init_106 rfl ?_
      refine aw_iconst (v := nI 5) dX4_init_108 rfl ?_
      refine aw_vUp0 dX4_init_109 cvX4_29 ⟨Nat.le_of_ble_eq_true rfl, Nat.le_of_ble_eq_true rfl⟩ (by assumption) ⟨_, rfl, rfl⟩ (r_lay (st := i) (w := 12) (v := 5) hL hP101.1 (Nat.zero_le _) hlt (by decide)) rfl rfl (Nat.le_of_ble_eq_true rfl) ⟨rfl, rfl⟩ ⟨Nat.le_of_ble_eq_true rfl, Nat.le_of_ble_eq_true rfl⟩ (fun I109 hP109 => ?_)
      refine aw_iincN (k := 1) (ls' := [(1, _), (0, _)]) dX4_init_112 rfl rfl (by decide) rfl ?_
      refine aw_goto (tgt := 92) dX4_init_115 (by decide) ?_
      have hM9 := hP109.1
      simp only at hM9
      rw [Tz_s] at hM9
      exact aw_pick [1, 0] rfl (ih (4 - (i + 1)) (by omega) (i + 1) I109 rfl (by omega) hM9 (hF.tr (hP101.2.tr hP109.2)))
  refine run_of (ls := [(0, .ref (G.1 140))]) (by decide +kernel) rfl rfl (Nat.le_of_ble_eq_true rfl) ?_
  refine aw_aload_n dX4_init_0 rfl ?_
  refine aw_objInit dX4_init_1 (oiL (i := 687) (by decide +kernel)) oiI oiC (Nat.le_of_ble_eq_true rfl) (Nat.le_of_ble_eq_true rfl) ?_
  refine aw_aload_n dX4_init_4 rfl ?_
  refine aw_sipush (v := nI 218) dX4_init_5 rfl ?_
  refine aw_newaI (z := 141) dX4_init_8 acInt (Nat.le_of_ble_eq_true rfl) (by omega) (Nat.le_of_ble_eq_true rfl) (Nat.le_of_ble_eq_true rfl) ?_
  refine aw_putR dX4_init_10 flX4_7 rfl (by intro r hr; cases hr; exact ⟨rfl, rfl⟩) rfl (by rw [upK_n (by decide)]; exact hk) (by omega) rfl rfl ?_
  refine aw_aload_n dX4_init_13 rfl ?_
  refine aw_sipush (v := nI 218) dX4_init_14 rfl ?_
  refine aw_newaI (z := 141 + 1) dX4_init_17 acInt (Nat.le_of_ble_eq_true rfl) (by omega) (Nat.le_of_ble_eq_true rfl) (Nat.le_of_ble_eq_true rfl) ?_
  refine aw_putR dX4_init_19 flX4_13 rfl (by intro r hr; cases hr; exact ⟨rfl, rfl⟩) rfl (by rw [upK_n (by decide), upK_n (by decide)]; exact hk) (by omega) rfl rfl ?_
  refine aw_aload_n dX4_init_22 rfl ?_
  refine aw_sipush (v := nI 1308) dX4_init_23 rfl ?_
  refine aw_newaI (z := 141 + 1 + 1) dX4_init_26 acInt (Nat.le_of_ble_eq_true rfl) (by omega) (Nat.le_of_ble_eq_true rfl) (Nat.le_of_ble_eq_true rfl) ?_
  refine aw_putR dX4_init_28 flX4_16 rfl (by intro r hr; cases hr; exact ⟨rfl, rfl⟩) rfl (by rw [upK_n (by decide), upK_n (by decide), upK_n (by decide)]; exact hk) (by omega) rfl rfl ?_
  refine aw_aload_n dX4_init_31 rfl ?_
  refine aw_bipush (v := nI 60) dX4_init_32 rfl ?_
  refine aw_newaI (z := 141 + 1 + 1 + 1) dX4_init_34 acInt (Nat.le_of_ble_eq_true rfl) (by omega) (Nat.le_of_ble_eq_true rfl) (Nat.le_of_ble_eq_true rfl) ?_
  refine aw_putR dX4_init_36 flX4_19 rfl (by intro r hr; cases hr; exact ⟨rfl, rfl⟩) rfl (by rw [upK_n (by decide), upK_n (by decide), upK_n (by decide), upK_n (by decide)]; exact hk) (by omega) rfl rfl ?_
  refine aw_aload_n dX4_init_39 rfl ?_
  refine aw_bipush (v := nI 20) dX4_init_40 rfl ?_
  refine aw_newaI (z := 141 + 1 + 1 + 1 + 1) dX4_init_42 acInt (Nat.le_of_ble_eq_true rfl) (by omega) (Nat.le_of_ble_eq_true rfl) (Nat.le_of_ble_eq_true rfl) ?_
  refine aw_putR dX4_init_44 flX4_22 rfl (by intro r hr; cases hr; exact ⟨rfl, rfl⟩) rfl (by rw [upK_n (by decide), upK_n (by decide), upK_n (by decide), upK_n (by decide), upK_n (by decide)]; exact hk) (by omega) rfl rfl ?_
  refine aw_aload_n dX4_init_47 rfl ?_
  refine aw_iconst (v := nI 0) dX4_init_48 rfl ?_
  refine aw_putI dX4_init_49 flX4_25 rfl (by intro r hr; cases hr; rfl) (by rw [upK_n (by decide), upK_n (by decide), upK_n (by decide), upK_n (by decide), upK_n (by decide)]; exact hk) (by omega) rfl rfl ?_
  refine aw_aload_n dX4_init_52 rfl ?_
  refine aw_getR dX4_init_53 flX4_7 rfl (by rw [upK_n (by decide), upK_n (by decide), upK_n (by decide), upK_n (by decide), upK_n (by decide)]; exact hk) (show _ = .ref (G.1 141) by simp [upR, zr]) ?_
  refine aw_iconst (v := nI 0) dX4_init_56 rfl ?_
  refine aw_bipush (v := nI 20) dX4_init_57 rfl ?_
  refine aw_iast dX4_init_59 (by rw [upK_n (by decide), upK_n (by decide), upK_n (by decide), upK_n (by decide), upK_s]) (by omega) (by omega) rfl (by omega) ?_
  refine aw_aload_n dX4_init_60 rfl ?_
  refine aw_getR dX4_init_61 flX4_7 rfl (by rw [upK_n (by decide), upK_n (by decide), upK_n (by decide), upK_n (by decide), upK_n (by decide)]; exact hk) (show _ = .ref (G.1 141) by simp [upR, zr]) ?_
  refine aw_iconst (v := nI 1) dX4_init_64 rfl ?_
  refine aw_iconst (v := nI 4) dX4_init_65 rfl ?_
  refine aw_iast dX4_init_66 (by rw [upK_n (by decide), upK_n (by decide), upK_n (by decide), upK_n (by decide), upK_s]) (by omega) (by omega) rfl (by omega) ?_
  refine aw_aload_n dX4_init_67 rfl ?_
  refine aw_getR dX4_init_68 flX4_7 rfl (by rw [upK_n (by decide), upK_n (by decide), upK_n (by decide), upK_n (by decide), upK_n (by decide)]; exact hk) (show _ = .ref (G.1 141) by simp [upR, zr]) ?_
  refine aw_iconst (v := nI 2) dX4_init_71 rfl ?_
  refine aw_iconst (v := nI 2) dX4_init_72 rfl ?_
  refine aw_iast dX4_init_73 (by rw [upK_n (by decide), upK_n (by decide), upK_n (by decide), upK_n (by decide), upK_s]) (by omega) (by omega) rfl (by omega) ?_
  refine aw_aload_n dX4_init_74 rfl ?_
  refine aw_getR dX4_init_75 flX4_7 rfl (by rw [upK_n (by decide), upK_n (by decide), upK_n (by decide), upK_n (by decide), upK_n (by decide)]; exact hk) (show _ = .ref (G.1 141) by simp [upR, zr]) ?_
  refine aw_iconst (v := nI 3) dX4_init_78 rfl ?_
  refine aw_bipush (v := nI 10) dX4_init_79 rfl ?_
  refine aw_iast dX4_init_81 (by rw [upK_n (by decide), upK_n (by decide), upK_n (by decide), upK_n (by decide), upK_s]) (by omega) (by omega) rfl (by omega) ?_
  refine aw_aload_n dX4_init_82 rfl ?_
  refine aw_getR dX4_init_83 flX4_7 rfl (by rw [upK_n (by decide), upK_n (by decide), upK_n (by decide), upK_n (by decide), upK_n (by decide)]; exact hk) (show _ = .ref (G.1 141) by simp [upR, zr]) ?_
  refine aw_iconst (v := nI 4) dX4_init_86 rfl ?_
  refine aw_bipush (v := nI 80) dX4_init_87 rfl ?_
  refine aw_iast dX4_init_89 (by rw [upK_n (by decide), upK_n (by decide), upK_n (by decide), upK_n (by decide), upK_s]) (by omega) (by omega) rfl (by omega) ?_
  refine aw_iconst (v := nI 0) dX4_init_90 rfl ?_
  refine aw_istore_n (ls' := [(1, _), (0, _)]) dX4_init_91 (by decide) rfl ?_
  have hLM : LM G (upK (upK (upK (upK (upK K 141 (10, 218)) (141 + 1) (10, 218)) (141 + 1 + 1) (10, 1308)) (141 + 1 + 1 + 1) (10, 60)) (141 + 1 + 1 + 1 + 1) (10, 20)) (upR (zr (upR (zr (upR (zr (upR (zr (upR (zr R 141 .null) 140 1 (.ref (G.1 141))) (141 + 1) .null) 140 2 (.ref (G.1 (141 + 1)))) (141 + 1 + 1) .null) 140 3 (.ref (G.1 (141 + 1 + 1)))) (141 + 1 + 1 + 1) .null) 140 5 (.ref (G.1 (141 + 1 + 1 + 1)))) (141 + 1 + 1 + 1 + 1) .null) 140 9 (.ref (G.1 (141 + 1 + 1 + 1 + 1)))) := by
    refine ⟨by simp [upK, hk], by simp [upR, zr], by simp [upK], by simp [upR, zr], by simp [upK], by simp [upR, zr], by simp [upK], by simp [upR, zr], by simp [upK], by simp [upR, zr], by simp [upK]⟩
  refine aw_widen (cu' := 5) (su' := 1824) (by decide) (by decide) (aw_pick [1, 0] rfl (loop _ _ _ (up2 (zr (zr (zr (zr (zr I 141 0) (141 + 1) 0) (141 + 1 + 1) 0) (141 + 1 + 1 + 1) 0) (141 + 1 + 1 + 1 + 1) 0) 140 0 (nI 0)) hLM (fun j => ?_) (fun q hq => ⟨?_, ?_, ?_, ?_⟩) 4 0 _ rfl (by decide) ?_ ?_))
  · rw [up2_o]
    by_cases e : j = 0
    · rw [if_pos e]; rfl
    · rw [if_neg e]; simp [zr, hi]
  · simp (disch := omega) only [upK, if_neg]
  · funext k; simp (disch := omega) only [upR, zr, if_neg]
  · rw [FrO.up q (by omega), zr_n (by omega), zr_n (by omega), zr_n (by omega), zr_n (by omega), zr_n (by omega)]
  · rw [zr_n (by omega), zr_n (by omega), zr_n (by omega), zr_n (by omega), zr_n (by omega)]
  · rw [Tz_0, ← g0_eq]
    have hz : RM (up2 (zr (zr (zr (zr (zr I 141 0) (141 + 1) 0) (141 + 1 + 1) 0) (141 + 1 + 1 + 1) 0) (141 + 1 + 1 + 1 + 1) 0) 140 0 (nI 0) 141) (fun _ => 0, [], fun _ _ => 0) := RM_z (fun k => by rw [FrO.up 141 (by decide)]; simp [zr])
    exact RM_g (RM_g (RM_g (RM_g (RM_g hz (k := 0) (v := 20) (by decide) (fun j => up2_o)) (k := 1) (v := 4) (by decide) (fun j => up2_o)) (k := 2) (v := 2) (by decide) (fun j => up2_o)) (k := 3) (v := 10) (by decide) (fun j => up2_o)) (k := 4) (v := 80) (by decide) (fun j => up2_o)
  · exact FrO.up.tr (FrO.up.tr (FrO.up.tr (FrO.up.tr FrO.up)))
end CLASS21
