/-! THE CLASS: looks -/
theorem hl_1 {P Q : Prop} [Decidable (P ∨ Q)] (h : P) : (Sum.inl (some (Value.int (nI 1))) : RT) = Sum.inl (some (.int (nI (if P ∨ Q then 1 else 0)))) := by rw [if_pos (Or.inl h)]
theorem hl_2 {P Q S : Prop} [Decidable (P ∨ (Q ∧ S))] (h : Q) (h' : S) : (Sum.inl (some (Value.int (nI 1))) : RT) = Sum.inl (some (.int (nI (if P ∨ (Q ∧ S) then 1 else 0)))) := by rw [if_pos (Or.inr ⟨h, h'⟩)]
theorem hl_0 {P : Prop} [Decidable P] (h : ¬ P) : (Sum.inl (some (Value.int (nI 0))) : RT) = Sum.inl (some (.int (nI (if P then 1 else 0)))) := by rw [if_neg h]
section CLASS9
variable {G : GG} {K : Nat → Option (Nat × Nat)} {R : Nat → Nat → Value} {I : Nat → Nat → Int32} {J : Nat → Nat → Int64} {z : Nat} {σ : Sg} {a : AA} {m k : Nat}
variable {h b st : Nat} {g : Nat → Nat} {T : Nat → Rw} {L : List Cl}
theorem c_numberOf {w : Nat} (hL : LSt G K R h) (hS : CSt I h a) (hI : IV m k a) (hmk : m + k ≤ 900000000) (hst : st < 4) (hw : w ≤ 10) : Run G YX1_numberOf [.ref (G.1 h), .int (nI st), .int (nI w)] (K, R, I, J, z) (Rd (K, R, I, J, z) (.int (nI (tellN a st w)))) := by
  obtain ⟨hk0, hr0, hk1, hsr, hr1, hk2, hr2, hk3, hc0, hc1, hc2, hc3, hc4, hkc0, hkc1, hkc2, hkc3, hkc4, hTs, hh⟩ := id hL
  obtain ⟨hSG, hA, hn, hW⟩ := id hS
  have hT := hTs st hst
  have hSR := hSG.2.2.2.2 st hst
  have hg := hI.1
  have h16 := hI.2.1
  have hb := (hI.2.2.2.2.1 st hst).up hI.b
  have hC : ∀ c ∈ a.2.1, c 0 < 4 ∧ c 3 ≤ 1 := fun c hc => ⟨(hI.2.2.1 c hc).1, (hI.2.2.1 c hc).2.2.2.2.1⟩
  obtain ⟨s0, s1, ⟨nx, s2, s2a, s2b⟩, s3, s4, s5, s6, s78, s9, s10, s11, s13⟩ := id hSR
  obtain ⟨b0, b1, b2', b3, b4, b5, b6, b7, b8, b9, b10, b11, b12⟩ := id hb
  have hKo := hT.1
  have hwy := hW st hst
  have hr12 : I (h + 9 + 2 * st + 1) (a.2.2 st 1) = nI (a.2.2 st (12 + a.2.2 st 1)) := s0 _ (by omega)
  rcases (show w = 0 ∨ w = 1 ∨ w = 2 ∨ w = 3 ∨ w = 4 ∨ w = 5 ∨ w = 6 ∨ w = 7 ∨ w = 8 ∨ w = 9 ∨ w = 10 by omega) with rfl | rfl | rfl | rfl | rfl | rfl | rfl | rfl | rfl | rfl | rfl
  · refine run_of (ls := [(0, .ref (G.1 h)), (1, .int (nI st)), (2, .int (nI 0))]) (by decide +kernel) rfl rfl (Nat.le_of_ble_eq_true rfl) ?_
    refine aw_aload_n dX1_numberOf_0 rfl ?_
    refine aw_getR dX1_numberOf_1 flX1_11 rfl (by assumption) (by assumption) ?_
    refine aw_iload_n dX1_numberOf_4 rfl ?_
    refine aw_aald dX1_numberOf_5 (by assumption) (by omega) (by omega) rfl (by omega) (hsr st hst) ?_
    refine aw_astore_n (ls' := [(3, _), (0, _), (1, _), (2, _)]) dX1_numberOf_6 (by decide) rfl ?_
    refine aw_iload_n dX1_numberOf_7 rfl ?_
    refine aw_tableIn (tgt := 64) dX1_numberOf_8 (by decide) (by decide) rfl (by decide) ?_
    refine aw_aload_n dX1_numberOf_64 rfl ?_
    refine aw_getI dX1_numberOf_65 flX1_61 rfl (by assumption) s3 ?_
    exact aw_iret dX1_numberOf_68 rfl (Nat.zero_le _) (Nat.zero_le _) ⟨rfl, rfl⟩
  · refine run_of (ls := [(0, .ref (G.1 h)), (1, .int (nI st)), (2, .int (nI 1))]) (by decide +kernel) rfl rfl (Nat.le_of_ble_eq_true rfl) ?_
    refine aw_aload_n dX1_numberOf_0 rfl ?_
    refine aw_getR dX1_numberOf_1 flX1_11 rfl (by assumption) (by assumption) ?_
    refine aw_iload_n dX1_numberOf_4 rfl ?_
    refine aw_aald dX1_numberOf_5 (by assumption) (by omega) (by omega) rfl (by omega) (hsr st hst) ?_
    refine aw_astore_n (ls' := [(3, _), (0, _), (1, _), (2, _)]) dX1_numberOf_6 (by decide) rfl ?_
    refine aw_iload_n dX1_numberOf_7 rfl ?_
    refine aw_tableIn (tgt := 69) dX1_numberOf_8 (by decide) (by decide) rfl (by decide) ?_
    refine aw_aload_n dX1_numberOf_69 rfl ?_
    refine aw_aload_n dX1_numberOf_70 rfl ?_
    refine aw_getR dX1_numberOf_71 flX1_17 rfl (by assumption) (by assumption) ?_
    refine aw_iconst (v := nI 1) dX1_numberOf_74 rfl ?_
    refine aw_iald dX1_numberOf_75 (by assumption) (by omega) rfl (by omega) (hSG.1 1 (by decide)) ?_
    refine aw_vRd dX1_numberOf_76 cvX1_158 ⟨Nat.le_of_ble_eq_true rfl, Nat.le_of_ble_eq_true rfl⟩ (by assumption) ⟨_, rfl, rfl⟩ (s_windowSize hT hSR hb (by omega) hg) rfl rfl (Nat.le_of_ble_eq_true rfl) ⟨rfl, rfl⟩ ⟨Nat.zero_le _, Nat.zero_le _⟩ ?_
    exact aw_iret dX1_numberOf_79 rfl (Nat.zero_le _) (Nat.zero_le _) ⟨rfl, rfl⟩
  · refine run_of (ls := [(0, .ref (G.1 h)), (1, .int (nI st)), (2, .int (nI 2))]) (by decide +kernel) rfl rfl (Nat.le_of_ble_eq_true rfl) ?_
    refine aw_aload_n dX1_numberOf_0 rfl ?_
    refine aw_getR dX1_numberOf_1 flX1_11 rfl (by assumption) (by assumption) ?_
    refine aw_iload_n dX1_numberOf_4 rfl ?_
    refine aw_aald dX1_numberOf_5 (by assumption) (by omega) (by omega) rfl (by omega) (hsr st hst) ?_
    refine aw_astore_n (ls' := [(3, _), (0, _), (1, _), (2, _)]) dX1_numberOf_6 (by decide) rfl ?_
    refine aw_iload_n dX1_numberOf_7 rfl ?_
    refine aw_tableIn (tgt := 80) dX1_numberOf_8 (by decide) (by decide) rfl (by decide) ?_
    refine aw_aload_n dX1_numberOf_80 rfl ?_
    refine aw_aload_n dX1_numberOf_81 rfl ?_
    refine aw_getR dX1_numberOf_82 flX1_17 rfl (by assumption) (by assumption) ?_
    refine aw_iconst (v := nI 1) dX1_numberOf_85 rfl ?_
    refine aw_iald dX1_numberOf_86 (by assumption) (by omega) rfl (by omega) (hSG.1 1 (by decide)) ?_
    refine aw_vRd dX1_numberOf_87 cvX1_148 ⟨Nat.le_of_ble_eq_true rfl, Nat.le_of_ble_eq_true rfl⟩ (by assumption) ⟨_, rfl, rfl⟩ (s_badInWindow hT hSR hb (by omega) hg) rfl rfl (Nat.le_of_ble_eq_true rfl) ⟨rfl, rfl⟩ ⟨Nat.zero_le _, Nat.zero_le _⟩ ?_
    exact aw_iret dX1_numberOf_90 rfl (Nat.zero_le _) (Nat.zero_le _) ⟨rfl, rfl⟩
  · refine run_of (ls := [(0, .ref (G.1 h)), (1, .int (nI st)), (2, .int (nI 3))]) (by decide +kernel) rfl rfl (Nat.le_of_ble_eq_true rfl) ?_
    refine aw_aload_n dX1_numberOf_0 rfl ?_
    refine aw_getR dX1_numberOf_1 flX1_11 rfl (by assumption) (by assumption) ?_
    refine aw_iload_n dX1_numberOf_4 rfl ?_
    refine aw_aald dX1_numberOf_5 (by assumption) (by omega) (by omega) rfl (by omega) (hsr st hst) ?_
    refine aw_astore_n (ls' := [(3, _), (0, _), (1, _), (2, _)]) dX1_numberOf_6 (by decide) rfl ?_
    refine aw_iload_n dX1_numberOf_7 rfl ?_
    refine aw_tableIn (tgt := 91) dX1_numberOf_8 (by decide) (by decide) rfl (by decide) ?_
    refine aw_aload_n dX1_numberOf_91 rfl ?_
    refine aw_getI dX1_numberOf_92 flX1_151 rfl (by assumption) s4 ?_
    exact aw_iret dX1_numberOf_95 rfl (Nat.zero_le _) (Nat.zero_le _) ⟨rfl, rfl⟩
  · refine run_of (ls := [(0, .ref (G.1 h)), (1, .int (nI st)), (2, .int (nI 4))]) (by decide +kernel) rfl rfl (Nat.le_of_ble_eq_true rfl) ?_
    refine aw_aload_n dX1_numberOf_0 rfl ?_
    refine aw_getR dX1_numberOf_1 flX1_11 rfl (by assumption) (by assumption) ?_
    refine aw_iload_n dX1_numberOf_4 rfl ?_
    refine aw_aald dX1_numberOf_5 (by assumption) (by omega) (by omega) rfl (by omega) (hsr st hst) ?_
    refine aw_astore_n (ls' := [(3, _), (0, _), (1, _), (2, _)]) dX1_numberOf_6 (by decide) rfl ?_
    refine aw_iload_n dX1_numberOf_7 rfl ?_
    refine aw_tableIn (tgt := 96) dX1_numberOf_8 (by decide) (by decide) rfl (by decide) ?_
    refine aw_aload_n dX1_numberOf_96 rfl ?_
    refine aw_getI dX1_numberOf_97 flX1_132 rfl (by assumption) s5 ?_
    exact aw_iret dX1_numberOf_100 rfl (Nat.zero_le _) (Nat.zero_le _) ⟨rfl, rfl⟩
  · refine run_of (ls := [(0, .ref (G.1 h)), (1, .int (nI st)), (2, .int (nI 5))]) (by decide +kernel) rfl rfl (Nat.le_of_ble_eq_true rfl) ?_
    refine aw_aload_n dX1_numberOf_0 rfl ?_
    refine aw_getR dX1_numberOf_1 flX1_11 rfl (by assumption) (by assumption) ?_
    refine aw_iload_n dX1_numberOf_4 rfl ?_
    refine aw_aald dX1_numberOf_5 (by assumption) (by omega) (by omega) rfl (by omega) (hsr st hst) ?_
    refine aw_astore_n (ls' := [(3, _), (0, _), (1, _), (2, _)]) dX1_numberOf_6 (by decide) rfl ?_
    refine aw_iload_n dX1_numberOf_7 rfl ?_
    refine aw_tableIn (tgt := 101) dX1_numberOf_8 (by decide) (by decide) rfl (by decide) ?_
    refine aw_aload_n dX1_numberOf_101 rfl ?_
    refine aw_getI dX1_numberOf_102 flX1_70 rfl (by assumption) s9 ?_
    exact aw_iret dX1_numberOf_105 rfl (Nat.zero_le _) (Nat.zero_le _) ⟨rfl, rfl⟩
  · refine run_of (ls := [(0, .ref (G.1 h)), (1, .int (nI st)), (2, .int (nI 6))]) (by decide +kernel) rfl rfl (Nat.le_of_ble_eq_true rfl) ?_
    refine aw_aload_n dX1_numberOf_0 rfl ?_
    refine aw_getR dX1_numberOf_1 flX1_11 rfl (by assumption) (by assumption) ?_
    refine aw_iload_n dX1_numberOf_4 rfl ?_
    refine aw_aald dX1_numberOf_5 (by assumption) (by omega) (by omega) rfl (by omega) (hsr st hst) ?_
    refine aw_astore_n (ls' := [(3, _), (0, _), (1, _), (2, _)]) dX1_numberOf_6 (by decide) rfl ?_
    refine aw_iload_n dX1_numberOf_7 rfl ?_
    refine aw_tableIn (tgt := 106) dX1_numberOf_8 (by decide) (by decide) rfl (by decide) ?_
    refine aw_aload_n dX1_numberOf_106 rfl ?_
    refine aw_getI dX1_numberOf_107 flX1_67 rfl (by assumption) s10 ?_
    exact aw_iret dX1_numberOf_110 rfl (Nat.zero_le _) (Nat.zero_le _) ⟨rfl, rfl⟩
  · refine run_of (ls := [(0, .ref (G.1 h)), (1, .int (nI st)), (2, .int (nI 7))]) (by decide +kernel) rfl rfl (Nat.le_of_ble_eq_true rfl) ?_
    refine aw_aload_n dX1_numberOf_0 rfl ?_
    refine aw_getR dX1_numberOf_1 flX1_11 rfl (by assumption) (by assumption) ?_
    refine aw_iload_n dX1_numberOf_4 rfl ?_
    refine aw_aald dX1_numberOf_5 (by assumption) (by omega) (by omega) rfl (by omega) (hsr st hst) ?_
    refine aw_astore_n (ls' := [(3, _), (0, _), (1, _), (2, _)]) dX1_numberOf_6 (by decide) rfl ?_
    refine aw_iload_n dX1_numberOf_7 rfl ?_
    refine aw_tableIn (tgt := 111) dX1_numberOf_8 (by decide) (by decide) rfl (by decide) ?_
    refine aw_aload_n dX1_numberOf_111 rfl ?_
    refine aw_getI dX1_numberOf_112 flX1_111 rfl (by assumption) s11 ?_
    exact aw_iret dX1_numberOf_115 rfl (Nat.zero_le _) (Nat.zero_le _) ⟨rfl, rfl⟩
  · refine run_of (ls := [(0, .ref (G.1 h)), (1, .int (nI st)), (2, .int (nI 8))]) (by decide +kernel) rfl rfl (Nat.le_of_ble_eq_true rfl) ?_
    refine aw_aload_n dX1_numberOf_0 rfl ?_
    refine aw_getR dX1_numberOf_1 flX1_11 rfl (by assumption) (by assumption) ?_
    refine aw_iload_n dX1_numberOf_4 rfl ?_
    refine aw_aald dX1_numberOf_5 (by assumption) (by omega) (by omega) rfl (by omega) (hsr st hst) ?_
    refine aw_astore_n (ls' := [(3, _), (0, _), (1, _), (2, _)]) dX1_numberOf_6 (by decide) rfl ?_
    refine aw_iload_n dX1_numberOf_7 rfl ?_
    refine aw_tableIn (tgt := 116) dX1_numberOf_8 (by decide) (by decide) rfl (by decide) ?_
    refine aw_aload_n dX1_numberOf_116 rfl ?_
    refine aw_getI dX1_numberOf_117 flX1_88 rfl (by assumption) hwy ?_
    exact aw_iret dX1_numberOf_120 rfl (Nat.zero_le _) (Nat.zero_le _) ⟨rfl, rfl⟩
  · refine run_of (ls := [(0, .ref (G.1 h)), (1, .int (nI st)), (2, .int (nI 9))]) (by decide +kernel) rfl rfl (Nat.le_of_ble_eq_true rfl) ?_
    refine aw_aload_n dX1_numberOf_0 rfl ?_
    refine aw_getR dX1_numberOf_1 flX1_11 rfl (by assumption) (by assumption) ?_
    refine aw_iload_n dX1_numberOf_4 rfl ?_
    refine aw_aald dX1_numberOf_5 (by assumption) (by omega) (by omega) rfl (by omega) (hsr st hst) ?_
    refine aw_astore_n (ls' := [(3, _), (0, _), (1, _), (2, _)]) dX1_numberOf_6 (by decide) rfl ?_
    refine aw_iload_n dX1_numberOf_7 rfl ?_
    refine aw_tableIn (tgt := 121) dX1_numberOf_8 (by decide) (by decide) rfl (by decide) ?_
    refine aw_aload_n dX1_numberOf_121 rfl ?_
    refine aw_getI dX1_numberOf_122 flX1_161 rfl (by assumption) s13 ?_
    exact aw_iret dX1_numberOf_125 rfl (Nat.zero_le _) (Nat.zero_le _) ⟨rfl, rfl⟩
  · refine run_of (ls := [(0, .ref (G.1 h)), (1, .int (nI st)), (2, .int (nI 10))]) (by decide +kernel) rfl rfl (Nat.le_of_ble_eq_true rfl) ?_
    refine aw_aload_n dX1_numberOf_0 rfl ?_
    refine aw_getR dX1_numberOf_1 flX1_11 rfl (by assumption) (by assumption) ?_
    refine aw_iload_n dX1_numberOf_4 rfl ?_
    refine aw_aald dX1_numberOf_5 (by assumption) (by omega) (by omega) rfl (by omega) (hsr st hst) ?_
    refine aw_astore_n (ls' := [(3, _), (0, _), (1, _), (2, _)]) dX1_numberOf_6 (by decide) rfl ?_
    refine aw_iload_n dX1_numberOf_7 rfl ?_
    refine aw_tableOut (tgt := 126) dX1_numberOf_8 (by decide) (by decide) ?_
    refine aw_aload_n dX1_numberOf_126 rfl ?_
    refine aw_getR dX1_numberOf_127 flX1_164 rfl hT.1 hT.2.1 ?_
    refine aw_aload_n dX1_numberOf_130 rfl ?_
    refine aw_vRd dX1_numberOf_131 cvX1_167 ⟨Nat.le_of_ble_eq_true rfl, Nat.le_of_ble_eq_true rfl⟩ hT.1 ⟨_, rfl, rfl⟩ (s_nextPlace hT hSR hb (by omega)) rfl rfl (Nat.le_of_ble_eq_true rfl) ⟨rfl, rfl⟩ ⟨Nat.zero_le _, Nat.zero_le _⟩ ?_
    refine aw_iald dX1_numberOf_134 hT.2.2.1 (by omega) rfl (by omega) hr12 ?_
    exact aw_iret dX1_numberOf_135 rfl (Nat.zero_le _) (Nat.zero_le _) ⟨rfl, rfl⟩
theorem c_sumOf {w : Nat} (hL : LSt G K R h) (hS : CSt I h a) (hI : IV m k a) (hmk : m + k ≤ 900000000) (hw : w ≤ 10) : Run G YX1_sumOf [.ref (G.1 h), .int (nI w)] (K, R, I, J, z) (Rd (K, R, I, J, z) (.int (nI (sumN a w 4)))) := by
  obtain ⟨hk0, hr0, hk1, hsr, hr1, hk2, hr2, hk3, hc0, hc1, hc2, hc3, hc4, hkc0, hkc1, hkc2, hkc3, hkc4, hTs, hh⟩ := id hL
  have loop : ∀ (d q : Nat), 4 - q = d → q ≤ 4 → AW G YX1_sumOf (MZ G YX1_sumOf (Rd (K, R, I, J, z) (.int (nI (sumN a w 4))))) 4 [(0, .ref (G.1 h)), (1, .int (nI w)), (2, .int (nI (sumN a w q))), (3, .int (nI q))] [] (K, R, I, J, z) 0 0 := by
    intro d
    induction d using Nat.strongRecOn with
    | _ d ih =>
    intro q hd hq
    rcases Nat.lt_or_ge q 4 with hlt | hge
    rotate_left
    · have hqe : q = 4 := by omega
      subst hqe
      refine aw_iload_n dX1_sumOf_4 rfl ?_
      refine aw_iconst (v := nI 4) dX1_sumOf_5 rfl ?_
      refine aw_icmp_geN (tgt := 24) dX1_sumOf_6 (by decide) (by omega) (by omega) (fun hc6 => ?_) (fun hc6 => absurd hc6 (by decide))
      refine aw_iload_n dX1_sumOf_24 rfl ?_
      exact aw_iret dX1_sumOf_25 rfl (Nat.zero_le _) (Nat.zero_le _) ⟨rfl, rfl⟩
    · skip
      refine aw_iload_n dX1_sumOf_4 rfl ?_
      refine aw_iconst (v := nI 4) dX1_sumOf_5 rfl ?_
      refine aw_icmp_geN (tgt := 24) dX1_sumOf_6 (by decide) (by omega) (by omega) (fun hc6 => absurd hc6 (by omega)) (fun hc6 => ?_)
      refine aw_iload_n dX1_sumOf_9 rfl ?_
      refine aw_aload_n dX1_sumOf_10 rfl ?_
      refine aw_iload_n dX1_sumOf_11 rfl ?_
      refine aw_iload_n dX1_sumOf_12 rfl ?_
      refine aw_vRd dX1_sumOf_13 cvX1_170 ⟨Nat.le_of_ble_eq_true rfl, Nat.le_of_ble_eq_true rfl⟩ (by assumption) ⟨_, rfl, rfl⟩ (c_numberOf hL hS hI hmk hlt hw) rfl rfl (Nat.le_of_ble_eq_true rfl) ⟨rfl, rfl⟩ ⟨Nat.zero_le _, Nat.zero_le _⟩ ?_
      first | refine aw_iaddN dX1_sumOf_16 ?_ | refine aw_iadd dX1_sumOf_16 ?_
      refine aw_istore_n (ls' := [(2, _), (0, _), (1, _), (3, _)]) dX1_sumOf_17 (by decide) rfl ?_
      refine aw_iincN (k := 1) (ls' := [(3, _), (2, _), (0, _), (1, _)]) dX1_sumOf_18 rfl rfl (by decide) rfl ?_
      refine aw_goto (tgt := 4) dX1_sumOf_21 (by decide) ?_
      exact aw_pick [2, 3, 1, 0] rfl (ih (4 - (q + 1)) (by omega) (q + 1) rfl (by omega))
  refine run_of (ls := [(0, .ref (G.1 h)), (1, .int (nI w))]) (by decide +kernel) rfl rfl (Nat.le_of_ble_eq_true rfl) ?_
  refine aw_iconst (v := nI 0) dX1_sumOf_0 rfl ?_
  refine aw_istore_n (ls' := [(2, _), (0, _), (1, _)]) dX1_sumOf_1 (by decide) rfl ?_
  refine aw_iconst (v := nI 0) dX1_sumOf_2 rfl ?_
  refine aw_istore_n (ls' := [(3, _), (2, _), (0, _), (1, _)]) dX1_sumOf_3 (by decide) rfl ?_
  exact aw_pick [2, 3, 1, 0] rfl (loop 4 0 rfl (by decide))
theorem c_closedBreakers (hL : LSt G K R h) (hS : CSt I h a) (hI : IV m k a) (hmk : m + k ≤ 900000000) : Run G YX1_closedBreakers [.ref (G.1 h)] (K, R, I, J, z) (Rd (K, R, I, J, z) (.int (nI (ovN a 6 4)))) := by
  obtain ⟨hk0, hr0, hk1, hsr, hr1, hk2, hr2, hk3, hc0, hc1, hc2, hc3, hc4, hkc0, hkc1, hkc2, hkc3, hkc4, hTs, hh⟩ := id hL
  have loop : ∀ (d q : Nat), 4 - q = d → q ≤ 4 → AW G YX1_closedBreakers (MZ G YX1_closedBreakers (Rd (K, R, I, J, z) (.int (nI (ovN a 6 4))))) 4 [(0, .ref (G.1 h)), (1, .int (nI (ovN a 6 q))), (2, .int (nI q))] [] (K, R, I, J, z) 0 0 := by
    intro d
    induction d using Nat.strongRecOn with
    | _ d ih =>
    intro q hd hq
    rcases Nat.lt_or_ge q 4 with hlt | hge
    rotate_left
    · have hqe : q = 4 := by omega
      subst hqe
      refine aw_iload_n dX1_closedBreakers_4 rfl ?_
      refine aw_iconst (v := nI 4) dX1_closedBreakers_5 rfl ?_
      refine aw_icmp_geN (tgt := 30) dX1_closedBreakers_6 (by decide) (by omega) (by omega) (fun hc6 => ?_) (fun hc6 => absurd hc6 (by decide))
      refine aw_iload_n dX1_closedBreakers_30 rfl ?_
      exact aw_iret dX1_closedBreakers_31 rfl (Nat.zero_le _) (Nat.zero_le _) ⟨rfl, rfl⟩
    · have s3 := (hS.1.2.2.2.2 q hlt).2.2.2.1
      have b3 := (hI.2.2.2.2.1 q hlt).2.2.2.1
      have hKo := (hTs q hlt).1
      refine aw_iload_n dX1_closedBreakers_4 rfl ?_
      refine aw_iconst (v := nI 4) dX1_closedBreakers_5 rfl ?_
      refine aw_icmp_geN (tgt := 30) dX1_closedBreakers_6 (by decide) (by omega) (by omega) (fun hc6 => absurd hc6 (by omega)) (fun hc6 => ?_)
      refine aw_aload_n dX1_closedBreakers_9 rfl ?_
      refine aw_getR dX1_closedBreakers_10 flX1_11 rfl (by assumption) (by assumption) ?_
      refine aw_iload_n dX1_closedBreakers_13 rfl ?_
      refine aw_aald dX1_closedBreakers_14 (by assumption) (by omega) (by omega) rfl (by omega) (hsr q hlt) ?_
      refine aw_getI dX1_closedBreakers_15 flX1_61 rfl (by assumption) s3 ?_
      refine aw_if_neN (tgt := 24) dX1_closedBreakers_18 (by decide) (by omega) (fun hc18 => ?_) (fun hc18 => ?_)
      · refine aw_iincN (k := 1) (ls' := [(2, _), (0, _), (1, _)]) dX1_closedBreakers_24 rfl rfl (by decide) rfl ?_
        refine aw_goto (tgt := 4) dX1_closedBreakers_27 (by decide) ?_
        first
        | (have e : ovN a 6 (q + 1) = ovN a 6 q := by rw [ovN, if_pos rfl, if_neg hc18]; rfl
           have h9 := ih (4 - (q + 1)) (by omega) (q + 1) rfl (by omega)
           rw [e] at h9
           exact aw_pick [1, 2, 0] rfl h9)
        | (have e : ovN a 6 (q + 1) = ovN a 6 q + 1 := by rw [ovN, if_pos rfl, if_pos hc18]
           have h9 := ih (4 - (q + 1)) (by omega) (q + 1) rfl (by omega)
           rw [e] at h9
           exact aw_pick [1, 2, 0] rfl h9)
      · refine aw_iincN (k := 1) (ls' := [(1, _), (0, _), (2, _)]) dX1_closedBreakers_21 rfl rfl (by decide) rfl ?_
        refine aw_iincN (k := 1) (ls' := [(2, _), (1, _), (0, _)]) dX1_closedBreakers_24 rfl rfl (by decide) rfl ?_
        refine aw_goto (tgt := 4) dX1_closedBreakers_27 (by decide) ?_
        first
        | (have e : ovN a 6 (q + 1) = ovN a 6 q := by rw [ovN, if_pos rfl, if_neg hc18]; rfl
           have h9 := ih (4 - (q + 1)) (by omega) (q + 1) rfl (by omega)
           rw [e] at h9
           exact aw_pick [2, 1, 0] rfl h9)
        | (have e : ovN a 6 (q + 1) = ovN a 6 q + 1 := by rw [ovN, if_pos rfl, if_pos hc18]
           have h9 := ih (4 - (q + 1)) (by omega) (q + 1) rfl (by omega)
           rw [e] at h9
           exact aw_pick [2, 1, 0] rfl h9)
  refine run_of (ls := [(0, .ref (G.1 h))]) (by decide +kernel) rfl rfl (Nat.le_of_ble_eq_true rfl) ?_
  refine aw_iconst (v := nI 0) dX1_closedBreakers_0 rfl ?_
  refine aw_istore_n (ls' := [(1, _), (0, _)]) dX1_closedBreakers_1 (by decide) rfl ?_
  refine aw_iconst (v := nI 0) dX1_closedBreakers_2 rfl ?_
  refine aw_istore_n (ls' := [(2, _), (1, _), (0, _)]) dX1_closedBreakers_3 (by decide) rfl ?_
  exact aw_pick [2, 1, 0] rfl (loop 4 0 rfl (by decide))
theorem c_isHealthier {x y : Nat} (hL : LSt G K R h) (hS : CSt I h a) (hI : IV m k a) (hmk : m + k ≤ 900000000) (hx : x < 4) (hy : y < 4) (hcx : a.2.2 x 2 = 0) : Run G YX1_isHealthier [.ref (G.1 h), .ref (G.1 (h + 9 + 2 * x)), .ref (G.1 (h + 9 + 2 * y))] (K, R, I, J, z) (Rd (K, R, I, J, z) (.int (nI (if badWinR a.1 (a.2.2 x) < badWinR a.1 (a.2.2 y) ∨ (badWinR a.1 (a.2.2 x) = badWinR a.1 (a.2.2 y) ∧ onWayN a x < onWayN a y) then 1 else 0)))) := by
  obtain ⟨hk0, hr0, hk1, hsr, hr1, hk2, hr2, hk3, hc0, hc1, hc2, hc3, hc4, hkc0, hkc1, hkc2, hkc3, hkc4, hTs, hh⟩ := id hL
  obtain ⟨hSG, hA, hn, hW⟩ := id hS
  have hg := hI.1
  have hKx := (hTs x hx).1
  have hKy := (hTs y hy).1
  have hbx := (hI.2.2.2.2.1 x hx).up hI.b
  have hby := (hI.2.2.2.2.1 y hy).up hI.b
  have hlx := badWinR_le (t := a.2.2 x) hg
  have hly := badWinR_le (t := a.2.2 y) hg
  have hox := Nat.le_trans (onWayN_le a x) hI.2.1
  have hoy := Nat.le_trans (onWayN_le a y) hI.2.1
  refine run_of (ls := [(0, .ref (G.1 h)), (1, .ref (G.1 (h + 9 + 2 * x))), (2, .ref (G.1 (h + 9 + 2 * y)))]) (by decide +kernel) rfl rfl (Nat.le_of_ble_eq_true rfl) ?_
  refine aw_aload_n dX1_isHealthier_0 rfl ?_
  refine aw_aload_n dX1_isHealthier_1 rfl ?_
  refine aw_getR dX1_isHealthier_2 flX1_17 rfl (by assumption) (by assumption) ?_
  refine aw_iconst (v := nI 1) dX1_isHealthier_5 rfl ?_
  refine aw_iald dX1_isHealthier_6 (by assumption) (by omega) rfl (by omega) (hSG.1 1 (by decide)) ?_
  refine aw_vRd dX1_isHealthier_7 cvX1_148 ⟨Nat.le_of_ble_eq_true rfl, Nat.le_of_ble_eq_true rfl⟩ (by assumption) ⟨_, rfl, rfl⟩ (s_badInWindow (hTs x hx) (hSG.2.2.2.2 x hx) hbx (by omega) hg) rfl rfl (Nat.le_of_ble_eq_true rfl) ⟨rfl, rfl⟩ ⟨Nat.zero_le _, Nat.zero_le _⟩ ?_
  refine aw_istore_n (ls' := [(3, _), (0, _), (1, _), (2, _)]) dX1_isHealthier_10 (by decide) rfl ?_
  refine aw_aload_n dX1_isHealthier_11 rfl ?_
  refine aw_aload_n dX1_isHealthier_12 rfl ?_
  refine aw_getR dX1_isHealthier_13 flX1_17 rfl (by assumption) (by assumption) ?_
  refine aw_iconst (v := nI 1) dX1_isHealthier_16 rfl ?_
  refine aw_iald dX1_isHealthier_17 (by assumption) (by omega) rfl (by omega) (hSG.1 1 (by decide)) ?_
  refine aw_vRd dX1_isHealthier_18 cvX1_148 ⟨Nat.le_of_ble_eq_true rfl, Nat.le_of_ble_eq_true rfl⟩ (by assumption) ⟨_, rfl, rfl⟩ (s_badInWindow (hTs y hy) (hSG.2.2.2.2 y hy) hby (by omega) hg) rfl rfl (Nat.le_of_ble_eq_true rfl) ⟨rfl, rfl⟩ ⟨Nat.zero_le _, Nat.zero_le _⟩ ?_
  refine aw_istore (ls' := [(4, _), (3, _), (0, _), (1, _), (2, _)]) dX1_isHealthier_21 (by decide) rfl ?_
  refine aw_iload_n dX1_isHealthier_23 rfl ?_
  refine aw_iload dX1_isHealthier_24 rfl ?_
  refine aw_icmp_ltN (tgt := 46) dX1_isHealthier_26 (by decide) (by omega) (by omega) (fun hc26 => ?_) (fun hc26 => ?_)
  · refine aw_iconst (v := nI 1) dX1_isHealthier_46 rfl ?_
    refine aw_goto (tgt := 51) dX1_isHealthier_47 (by decide) ?_
    exact aw_zret dX1_isHealthier_51 rfl rfl (Nat.zero_le _) (Nat.zero_le _) ⟨by first | exact hl_1 hc26 | exact hl_2 hc32 hc43 | exact hl_0 (by omega), rfl⟩
  · refine aw_iload_n dX1_isHealthier_29 rfl ?_
    refine aw_iload dX1_isHealthier_30 rfl ?_
    refine aw_icmp_neN (tgt := 50) dX1_isHealthier_32 (by decide) (by omega) (by omega) (fun hc32 => ?_) (fun hc32 => ?_)
    · refine aw_iconst (v := nI 0) dX1_isHealthier_50 rfl ?_
      exact aw_zret dX1_isHealthier_51 rfl rfl (Nat.zero_le _) (Nat.zero_le _) ⟨by first | exact hl_1 hc26 | exact hl_2 hc32 hc43 | exact hl_0 (by omega), rfl⟩
    · refine aw_aload_n dX1_isHealthier_35 rfl ?_
      refine aw_getI dX1_isHealthier_36 flX1_88 rfl (by assumption) (hW x hx) ?_
      refine aw_aload_n dX1_isHealthier_39 rfl ?_
      refine aw_getI dX1_isHealthier_40 flX1_88 rfl (by assumption) (hW y hy) ?_
      refine aw_icmp_geN (tgt := 50) dX1_isHealthier_43 (by decide) (by omega) (by omega) (fun hc43 => ?_) (fun hc43 => ?_)
      · refine aw_iconst (v := nI 0) dX1_isHealthier_50 rfl ?_
        exact aw_zret dX1_isHealthier_51 rfl rfl (Nat.zero_le _) (Nat.zero_le _) ⟨by first | exact hl_1 hc26 | exact hl_2 hc32 hc43 | exact hl_0 (by omega), rfl⟩
      · refine aw_iconst (v := nI 1) dX1_isHealthier_46 rfl ?_
        refine aw_goto (tgt := 51) dX1_isHealthier_47 (by decide) ?_
        exact aw_zret dX1_isHealthier_51 rfl rfl (Nat.zero_le _) (Nat.zero_le _) ⟨by first | exact hl_1 hc26 | exact hl_2 hc32 hc43 | exact hl_0 (by omega), rfl⟩
theorem c_healthiestStore (hL : LSt G K R h) (hS : CSt I h a) (hI : IV m k a) (hmk : m + k ≤ 900000000) : Run G YX1_healthiestStore [.ref (G.1 h)] (K, R, I, J, z) (Rd (K, R, I, J, z) (.int (oI (bestN a 4)))) := by
  obtain ⟨hk0, hr0, hk1, hsr, hr1, hk2, hr2, hk3, hc0, hc1, hc2, hc3, hc4, hkc0, hkc1, hkc2, hkc3, hkc4, hTs, hh⟩ := id hL
  have loop : ∀ (d q : Nat), 4 - q = d → q ≤ 4 → AW G YX1_healthiestStore (MZ G YX1_healthiestStore (Rd (K, R, I, J, z) (.int (oI (bestN a 4))))) 4 [(0, .ref (G.1 h)), (1, .int (oI (bestN a q))), (2, .int (nI q))] [] (K, R, I, J, z) 0 0 := by
    intro d
    induction d using Nat.strongRecOn with
    | _ d ih =>
    intro q hd hq
    rcases Nat.lt_or_ge q 4 with hlt | hge
    rotate_left
    · have hqe : q = 4 := by omega
      subst hqe
      refine aw_iload_n dX1_healthiestStore_4 rfl ?_
      refine aw_iconst (v := nI 4) dX1_healthiestStore_5 rfl ?_
      refine aw_icmp_geN (tgt := 53) dX1_healthiestStore_6 (by decide) (by omega) (by omega) (fun hc6 => ?_) (fun hc6 => absurd hc6 (by decide))
      refine aw_iload_n dX1_healthiestStore_53 rfl ?_
      exact aw_iret dX1_healthiestStore_54 rfl (Nat.zero_le _) (Nat.zero_le _) ⟨rfl, rfl⟩
    · have s3 := (hS.1.2.2.2.2 q hlt).2.2.2.1
      have b3 := (hI.2.2.2.2.1 q hlt).2.2.2.1
      have hKo := (hTs q hlt).1
      have h9 := ih (4 - (q + 1)) (by omega) (q + 1) rfl (by omega)
      rcases hb : bestN a q with _ | v
      · skip
        refine aw_iload_n dX1_healthiestStore_4 rfl ?_
        refine aw_iconst (v := nI 4) dX1_healthiestStore_5 rfl ?_
        refine aw_icmp_geN (tgt := 53) dX1_healthiestStore_6 (by decide) (by omega) (by omega) (fun hc6 => absurd hc6 (by omega)) (fun hc6 => ?_)
        refine aw_aload_n dX1_healthiestStore_9 rfl ?_
        refine aw_getR dX1_healthiestStore_10 flX1_11 rfl (by assumption) (by assumption) ?_
        refine aw_iload_n dX1_healthiestStore_13 rfl ?_
        refine aw_aald dX1_healthiestStore_14 (by assumption) (by omega) (by omega) rfl (by omega) (hsr q hlt) ?_
        refine aw_getI dX1_healthiestStore_15 flX1_61 rfl (by assumption) s3 ?_
        refine aw_if_neN (tgt := 47) dX1_healthiestStore_18 (by decide) (by omega) (fun hc18 => ?_) (fun hc18 => ?_)
        · refine aw_iincN (k := 1) (ls' := [(2, _), (0, _), (1, _)]) dX1_healthiestStore_47 rfl rfl (by decide) rfl ?_
          refine aw_goto (tgt := 4) dX1_healthiestStore_50 (by decide) ?_
          first
          | (rw [bestN_c hc18, hb] at h9
             exact aw_pick [1, 2, 0] rfl h9)
          | (rw [bestN_n hc18 hb] at h9
             exact aw_pick [1, 2, 0] rfl h9)
        · refine aw_iload_n dX1_healthiestStore_21 rfl ?_
          refine aw_iconst (v := (-1)) dX1_healthiestStore_22 rfl ?_
          refine aw_icmp_eq (tgt := 45) dX1_healthiestStore_23 (by decide) (fun hc23 => ?_) (fun hc23 => absurd rfl hc23)
          refine aw_iload_n dX1_healthiestStore_45 rfl ?_
          refine aw_istore_n (ls' := [(1, _), (0, _), (2, _)]) dX1_healthiestStore_46 (by decide) rfl ?_
          refine aw_iincN (k := 1) (ls' := [(2, _), (1, _), (0, _)]) dX1_healthiestStore_47 rfl rfl (by decide) rfl ?_
          refine aw_goto (tgt := 4) dX1_healthiestStore_50 (by decide) ?_
          first
          | (rw [bestN_c hc18, hb] at h9
             exact aw_pick [2, 1, 0] rfl h9)
          | (rw [bestN_n hc18 hb] at h9
             exact aw_pick [2, 1, 0] rfl h9)
      · have hv := bestN_lt hb
        refine aw_iload_n dX1_healthiestStore_4 rfl ?_
        refine aw_iconst (v := nI 4) dX1_healthiestStore_5 rfl ?_
        refine aw_icmp_geN (tgt := 53) dX1_healthiestStore_6 (by decide) (by omega) (by omega) (fun hc6 => absurd hc6 (by omega)) (fun hc6 => ?_)
        refine aw_aload_n dX1_healthiestStore_9 rfl ?_
        refine aw_getR dX1_healthiestStore_10 flX1_11 rfl (by assumption) (by assumption) ?_
        refine aw_iload_n dX1_healthiestStore_13 rfl ?_
        refine aw_aald dX1_healthiestStore_14 (by assumption) (by omega) (by omega) rfl (by omega) (hsr q hlt) ?_
        refine aw_getI dX1_healthiestStore_15 flX1_61 rfl (by assumption) s3 ?_
        refine aw_if_neN (tgt := 47) dX1_healthiestStore_18 (by decide) (by omega) (fun hc18 => ?_) (fun hc18 => ?_)
        · refine aw_iincN (k := 1) (ls' := [(2, _), (0, _), (1, _)]) dX1_healthiestStore_47 rfl rfl (by decide) rfl ?_
          refine aw_goto (tgt := 4) dX1_healthiestStore_50 (by decide) ?_
          first
          | (rw [bestN_c hc18, hb] at h9
             exact aw_pick [1, 2, 0] rfl h9)
          | (have hcc : ¬ _ := fun q => by rw [if_pos q] at hc42; exact absurd hc42 (by decide)
             rw [bestN_k hc18 hb hcc] at h9
             exact aw_pick [1, 2, 0] rfl h9)
          | (have hcc : badWinR a.1 (a.2.2 q) < badWinR a.1 (a.2.2 v) ∨ (badWinR a.1 (a.2.2 q) = badWinR a.1 (a.2.2 v) ∧ onWayN a q < onWayN a v) := by
               refine Decidable.byContradiction (fun w => ?_)
               rw [if_neg w] at hc42
               exact hc42 rfl
             rw [bestN_y hc18 hb hcc] at h9
             exact aw_pick [1, 2, 0] rfl h9)
        · refine aw_iload_n dX1_healthiestStore_21 rfl ?_
          refine aw_iconst (v := (-1)) dX1_healthiestStore_22 rfl ?_
          refine aw_icmp_eq (tgt := 45) dX1_healthiestStore_23 (by decide) (fun hc23 => absurd hc23 (nI_m1 (by omega))) (fun hc23 => ?_)
          show AW G _ _ _ _ _ _ 0 0
          refine aw_aload_n dX1_healthiestStore_26 rfl ?_
          refine aw_aload_n dX1_healthiestStore_27 rfl ?_
          refine aw_getR dX1_healthiestStore_28 flX1_11 rfl (by assumption) (by assumption) ?_
          refine aw_iload_n dX1_healthiestStore_31 rfl ?_
          refine aw_aald dX1_healthiestStore_32 (by assumption) (by omega) (by omega) rfl (by omega) (hsr q hlt) ?_
          refine aw_aload_n dX1_healthiestStore_33 rfl ?_
          refine aw_getR dX1_healthiestStore_34 flX1_11 rfl (by assumption) (by assumption) ?_
          refine aw_iload_n dX1_healthiestStore_37 rfl ?_
          refine aw_aald dX1_healthiestStore_38 (by assumption) (by omega) (by omega) rfl (by omega) (hsr v (by omega)) ?_
          refine aw_vRd dX1_healthiestStore_39 cvX1_154 ⟨Nat.le_of_ble_eq_true rfl, Nat.le_of_ble_eq_true rfl⟩ (by assumption) ⟨_, rfl, rfl⟩ (c_isHealthier hL hS hI hmk hlt (by omega) hc18) rfl rfl (Nat.le_of_ble_eq_true rfl) ⟨rfl, rfl⟩ ⟨Nat.zero_le _, Nat.zero_le _⟩ ?_
          have hle : ∀ (P : Prop) [Decidable P], (if P then 1 else 0) < 2 ^ 31 := fun P _ => by split <;> decide
          refine aw_if_eqN (tgt := 47) dX1_healthiestStore_42 (by decide) (hle _) (fun hc42 => ?_) (fun hc42 => ?_)
          · refine aw_iincN (k := 1) (ls' := [(2, _), (0, _), (1, _)]) dX1_healthiestStore_47 rfl rfl (by decide) rfl ?_
            refine aw_goto (tgt := 4) dX1_healthiestStore_50 (by decide) ?_
            first
            | (rw [bestN_c hc18, hb] at h9
               exact aw_pick [1, 2, 0] rfl h9)
            | (have hcc : ¬ _ := fun q => by rw [if_pos q] at hc42; exact absurd hc42 (by decide)
               rw [bestN_k hc18 hb hcc] at h9
               exact aw_pick [1, 2, 0] rfl h9)
            | (have hcc : badWinR a.1 (a.2.2 q) < badWinR a.1 (a.2.2 v) ∨ (badWinR a.1 (a.2.2 q) = badWinR a.1 (a.2.2 v) ∧ onWayN a q < onWayN a v) := by
                 refine Decidable.byContradiction (fun w => ?_)
                 rw [if_neg w] at hc42
                 exact hc42 rfl
               rw [bestN_y hc18 hb hcc] at h9
               exact aw_pick [1, 2, 0] rfl h9)
          · refine aw_iload_n dX1_healthiestStore_45 rfl ?_
            refine aw_istore_n (ls' := [(1, _), (0, _), (2, _)]) dX1_healthiestStore_46 (by decide) rfl ?_
            refine aw_iincN (k := 1) (ls' := [(2, _), (1, _), (0, _)]) dX1_healthiestStore_47 rfl rfl (by decide) rfl ?_
            refine aw_goto (tgt := 4) dX1_healthiestStore_50 (by decide) ?_
            first
            | (rw [bestN_c hc18, hb] at h9
               exact aw_pick [2, 1, 0] rfl h9)
            | (have hcc : ¬ _ := fun q => by rw [if_pos q] at hc42; exact absurd hc42 (by decide)
               rw [bestN_k hc18 hb hcc] at h9
               exact aw_pick [2, 1, 0] rfl h9)
            | (have hcc : badWinR a.1 (a.2.2 q) < badWinR a.1 (a.2.2 v) ∨ (badWinR a.1 (a.2.2 q) = badWinR a.1 (a.2.2 v) ∧ onWayN a q < onWayN a v) := by
                 refine Decidable.byContradiction (fun w => ?_)
                 rw [if_neg w] at hc42
                 exact hc42 rfl
               rw [bestN_y hc18 hb hcc] at h9
               exact aw_pick [2, 1, 0] rfl h9)
  refine run_of (ls := [(0, .ref (G.1 h))]) (by decide +kernel) rfl rfl (Nat.le_of_ble_eq_true rfl) ?_
  refine aw_iconst (v := (-1)) dX1_healthiestStore_0 rfl ?_
  refine aw_istore_n (ls' := [(1, _), (0, _)]) dX1_healthiestStore_1 (by decide) rfl ?_
  refine aw_iconst (v := nI 0) dX1_healthiestStore_2 rfl ?_
  refine aw_istore_n (ls' := [(2, _), (1, _), (0, _)]) dX1_healthiestStore_3 (by decide) rfl ?_
  exact aw_pick [2, 1, 0] rfl (loop 4 0 rfl (by decide))
theorem c_ticksTillFree (hL : LSt G K R h) (hS : CSt I h a) (hI : IV m k a) (hmk : m + k ≤ 900000000) (hst : st < 4) : Run G YX1_ticksTillFree [.ref (G.1 h), .int (nI st)] (K, R, I, J, z) (Rd (K, R, I, J, z) (.int (if freeN a st ≤ 999 then nI (freeN a st) else -1))) := by
  obtain ⟨hk0, hr0, hk1, hsr, hr1, hk2, hr2, hk3, hc0, hc1, hc2, hc3, hc4, hkc0, hkc1, hkc2, hkc3, hkc4, hTs, hh⟩ := id hL
  obtain ⟨hSG, hA, hn, hW⟩ := id hS
  have hT := hTs st hst
  have hSR := hSG.2.2.2.2 st hst
  have hg := hI.1
  have h16 := hI.2.1
  have hb := (hI.2.2.2.2.1 st hst).up hI.b
  have hC : ∀ c ∈ a.2.1, c 0 < 4 ∧ c 3 ≤ 1 := fun c hc => ⟨(hI.2.2.1 c hc).1, (hI.2.2.1 c hc).2.2.2.2.1⟩
  obtain ⟨s0, s1, ⟨nx, s2, s2a, s2b⟩, s3, s4, s5, s6, s78, s9, s10, s11, s13⟩ := id hSR
  obtain ⟨b0, b1, b2', b3, b4, b5, b6, b7, b8, b9, b10, b11, b12⟩ := id hb
  have hKo := hT.1
  have hg4 := hg.2.2.2.2
  have hTo := c_trialOf (J := J) (z := z) hL hA hn h16 hC hst
  rcases htr : trF st a.2.1 0 with _ | p
  · rw [htr] at hTo
    have hf : freeN a st = a.2.2 st 5 := by unfold freeN; rw [htr]
    rw [hf]
    refine run_of (ls := [(0, .ref (G.1 h)), (1, .int (nI st))]) (by decide +kernel) rfl rfl (Nat.le_of_ble_eq_true rfl) ?_
    refine aw_aload_n dX1_ticksTillFree_0 rfl ?_
    refine aw_getR dX1_ticksTillFree_1 flX1_11 rfl (by assumption) (by assumption) ?_
    refine aw_iload_n dX1_ticksTillFree_4 rfl ?_
    refine aw_aald dX1_ticksTillFree_5 (by assumption) (by omega) (by omega) rfl (by omega) (hsr st hst) ?_
    refine aw_astore_n (ls' := [(2, _), (0, _), (1, _)]) dX1_ticksTillFree_6 (by decide) rfl ?_
    refine aw_aload_n dX1_ticksTillFree_7 rfl ?_
    refine aw_iload_n dX1_ticksTillFree_8 rfl ?_
    refine aw_vRd dX1_ticksTillFree_9 cvX1_64 ⟨Nat.le_of_ble_eq_true rfl, Nat.le_of_ble_eq_true rfl⟩ (by assumption) ⟨_, rfl, rfl⟩ (hTo) rfl rfl (Nat.le_of_ble_eq_true rfl) ⟨rfl, rfl⟩ ⟨Nat.zero_le _, Nat.zero_le _⟩ ?_
    refine aw_istore_n (ls' := [(3, _), (2, _), (0, _), (1, _)]) dX1_ticksTillFree_12 (by decide) rfl ?_
    refine aw_aload_n dX1_ticksTillFree_13 rfl ?_
    refine aw_getI dX1_ticksTillFree_14 flX1_151 rfl (by assumption) s4 ?_
    refine aw_istore (ls' := [(4, _), (3, _), (2, _), (0, _), (1, _)]) dX1_ticksTillFree_17 (by decide) rfl ?_
    refine aw_iload_n dX1_ticksTillFree_19 rfl ?_
    refine aw_iconst (v := (-1)) dX1_ticksTillFree_20 rfl ?_
    refine aw_icmp_eq (tgt := 61) dX1_ticksTillFree_21 (by decide) (fun hc21 => ?_) (fun hc21 => absurd rfl hc21)
    refine aw_iload dX1_ticksTillFree_61 rfl ?_
    refine aw_sipush (v := nI 999) dX1_ticksTillFree_63 rfl ?_
    refine aw_icmp_gtN (tgt := 74) dX1_ticksTillFree_66 (by decide) (by omega) (by omega) (fun hc66 => ?_) (fun hc66 => ?_)
    · refine aw_iconst (v := (-1)) dX1_ticksTillFree_74 rfl ?_
      exact aw_iret dX1_ticksTillFree_75 rfl (Nat.zero_le _) (Nat.zero_le _) ⟨by first | rw [if_pos hc66] | rw [if_neg (by omega)], rfl⟩
    · refine aw_iload dX1_ticksTillFree_69 rfl ?_
      refine aw_goto (tgt := 75) dX1_ticksTillFree_71 (by decide) ?_
      exact aw_iret dX1_ticksTillFree_75 rfl (Nat.zero_le _) (Nat.zero_le _) ⟨by first | rw [if_pos hc66] | rw [if_neg (by omega)], rfl⟩
  · rw [htr] at hTo
    obtain ⟨-, c, hc, hcT⟩ := trF_at htr
    rw [Nat.sub_zero] at hc
    have hpl := (List.getElem?_eq_some_iff.mp hc).1
    obtain ⟨a0, a1, a2, a3, a4⟩ := hA p c hc
    have hcm := hI.2.2.1 c (List.mem_of_getElem? hc)
    obtain ⟨e0, e1, e2, e3, e4, e5, e6⟩ := hcm
    have hcT2 : c 0 = st ∧ c 3 = 1 := by simpa [isT] using hcT
    have h22 : a.2.2 st 2 = 2 := by rw [← hcT2.1]; exact e6 hcT2.2
    have h61 : 1 ≤ a.2.2 st 6 := (b10 (by omega)).1
    have hf : freeN a st = if badN a.1 (c 2) = 0 then c 1 else c 1 + (min (2 * a.2.2 st 6) (a.1 4) - 1) := by unfold freeN; rw [htr]; simp only [hc]
    have hbn := badN_le a.1 (c 2)
    have hmin1 : 1 ≤ min (2 * a.2.2 st 6) (a.1 4) := by omega
    have hmin2 : min (2 * a.2.2 st 6) (a.1 4) ≤ 999 := by omega
    rw [hf]
    refine run_of (ls := [(0, .ref (G.1 h)), (1, .int (nI st))]) (by decide +kernel) rfl rfl (Nat.le_of_ble_eq_true rfl) ?_
    refine aw_aload_n dX1_ticksTillFree_0 rfl ?_
    refine aw_getR dX1_ticksTillFree_1 flX1_11 rfl (by assumption) (by assumption) ?_
    refine aw_iload_n dX1_ticksTillFree_4 rfl ?_
    refine aw_aald dX1_ticksTillFree_5 (by assumption) (by omega) (by omega) rfl (by omega) (hsr st hst) ?_
    refine aw_astore_n (ls' := [(2, _), (0, _), (1, _)]) dX1_ticksTillFree_6 (by decide) rfl ?_
    refine aw_aload_n dX1_ticksTillFree_7 rfl ?_
    refine aw_iload_n dX1_ticksTillFree_8 rfl ?_
    refine aw_vRd dX1_ticksTillFree_9 cvX1_64 ⟨Nat.le_of_ble_eq_true rfl, Nat.le_of_ble_eq_true rfl⟩ (by assumption) ⟨_, rfl, rfl⟩ (hTo) rfl rfl (Nat.le_of_ble_eq_true rfl) ⟨rfl, rfl⟩ ⟨Nat.zero_le _, Nat.zero_le _⟩ ?_
    refine aw_istore_n (ls' := [(3, _), (2, _), (0, _), (1, _)]) dX1_ticksTillFree_12 (by decide) rfl ?_
    refine aw_aload_n dX1_ticksTillFree_13 rfl ?_
    refine aw_getI dX1_ticksTillFree_14 flX1_151 rfl (by assumption) s4 ?_
    refine aw_istore (ls' := [(4, _), (3, _), (2, _), (0, _), (1, _)]) dX1_ticksTillFree_17 (by decide) rfl ?_
    refine aw_iload_n dX1_ticksTillFree_19 rfl ?_
    refine aw_iconst (v := (-1)) dX1_ticksTillFree_20 rfl ?_
    refine aw_icmp_eq (tgt := 61) dX1_ticksTillFree_21 (by decide) (fun hc21 => absurd hc21 (nI_m1 (by omega))) (fun hc21 => ?_)
    show AW G _ _ _ _ _ _ 0 0
    refine aw_aload_n dX1_ticksTillFree_24 rfl ?_
    refine aw_getR dX1_ticksTillFree_25 flX1_23 rfl (by assumption) (by assumption) ?_
    refine aw_iconst (v := nI 1) dX1_ticksTillFree_28 rfl ?_
    refine aw_aald dX1_ticksTillFree_29 (by assumption) (by omega) (by omega) rfl (by omega) (by assumption) ?_
    refine aw_iload_n dX1_ticksTillFree_30 rfl ?_
    refine aw_iald dX1_ticksTillFree_31 (by assumption) (by omega) rfl (by omega) a1 ?_
    refine aw_istore (ls' := [(4, _), (3, _), (2, _), (0, _), (1, _)]) dX1_ticksTillFree_32 (by decide) rfl ?_
    refine aw_aload_n dX1_ticksTillFree_34 rfl ?_
    refine aw_aload_n dX1_ticksTillFree_35 rfl ?_
    refine aw_getR dX1_ticksTillFree_36 flX1_23 rfl (by assumption) (by assumption) ?_
    refine aw_iconst (v := nI 2) dX1_ticksTillFree_39 rfl ?_
    refine aw_aald dX1_ticksTillFree_40 (by assumption) (by omega) (by omega) rfl (by omega) (by assumption) ?_
    refine aw_iload_n dX1_ticksTillFree_41 rfl ?_
    refine aw_iald dX1_ticksTillFree_42 (by assumption) (by omega) rfl (by omega) a2 ?_
    refine aw_vRd dX1_ticksTillFree_43 cvX1_108 ⟨Nat.le_of_ble_eq_true rfl, Nat.le_of_ble_eq_true rfl⟩ (by assumption) ⟨_, rfl, rfl⟩ (c_isBad hL hSG hg (by omega)) rfl rfl (Nat.le_of_ble_eq_true rfl) ⟨rfl, rfl⟩ ⟨Nat.zero_le _, Nat.zero_le _⟩ ?_
    refine aw_if_eqN (tgt := 61) dX1_ticksTillFree_46 (by decide) (by omega) (fun hc46 => ?_) (fun hc46 => ?_)
    · refine aw_iload dX1_ticksTillFree_61 rfl ?_
      refine aw_sipush (v := nI 999) dX1_ticksTillFree_63 rfl ?_
      refine aw_icmp_gtN (tgt := 74) dX1_ticksTillFree_66 (by decide) (by omega) (by omega) (fun hc66 => ?_) (fun hc66 => ?_)
      · refine aw_iconst (v := (-1)) dX1_ticksTillFree_74 rfl ?_
        exact aw_iret dX1_ticksTillFree_75 rfl (Nat.zero_le _) (Nat.zero_le _) ⟨by first | rw [if_pos hc46, if_pos hc66] | rw [if_pos hc46, if_neg (by omega)] | rw [if_neg hc46, if_pos hc66] | rw [if_neg hc46, if_neg (by omega)], rfl⟩
      · refine aw_iload dX1_ticksTillFree_69 rfl ?_
        refine aw_goto (tgt := 75) dX1_ticksTillFree_71 (by decide) ?_
        exact aw_iret dX1_ticksTillFree_75 rfl (Nat.zero_le _) (Nat.zero_le _) ⟨by first | rw [if_pos hc46, if_pos hc66] | rw [if_pos hc46, if_neg (by omega)] | rw [if_neg hc46, if_pos hc66] | rw [if_neg hc46, if_neg (by omega)], rfl⟩
    · refine aw_iload dX1_ticksTillFree_49 rfl ?_
      refine aw_aload_n dX1_ticksTillFree_51 rfl ?_
      refine aw_aload_n dX1_ticksTillFree_52 rfl ?_
      refine aw_vRd dX1_ticksTillFree_53 cvX1_121 ⟨Nat.le_of_ble_eq_true rfl, Nat.le_of_ble_eq_true rfl⟩ (by assumption) ⟨_, rfl, rfl⟩ (c_nextCut hL hSG hg hst hb hmk) rfl rfl (Nat.le_of_ble_eq_true rfl) ⟨rfl, rfl⟩ ⟨Nat.zero_le _, Nat.zero_le _⟩ ?_
      refine aw_iconst (v := nI 1) dX1_ticksTillFree_56 rfl ?_
      first | refine aw_isubN dX1_ticksTillFree_57 (by omega) ?_ | refine aw_isub dX1_ticksTillFree_57 ?_
      first | refine aw_iaddN dX1_ticksTillFree_58 ?_ | refine aw_iadd dX1_ticksTillFree_58 ?_
      refine aw_istore (ls' := [(4, _), (3, _), (2, _), (0, _), (1, _)]) dX1_ticksTillFree_59 (by decide) rfl ?_
      refine aw_iload dX1_ticksTillFree_61 rfl ?_
      refine aw_sipush (v := nI 999) dX1_ticksTillFree_63 rfl ?_
      refine aw_icmp_gtN (tgt := 74) dX1_ticksTillFree_66 (by decide) (by omega) (by omega) (fun hc66 => ?_) (fun hc66 => ?_)
      · refine aw_iconst (v := (-1)) dX1_ticksTillFree_74 rfl ?_
        exact aw_iret dX1_ticksTillFree_75 rfl (Nat.zero_le _) (Nat.zero_le _) ⟨by first | rw [if_pos hc46, if_pos hc66] | rw [if_pos hc46, if_neg (by omega)] | rw [if_neg hc46, if_pos hc66] | rw [if_neg hc46, if_neg (by omega)], rfl⟩
      · refine aw_iload dX1_ticksTillFree_69 rfl ?_
        refine aw_goto (tgt := 75) dX1_ticksTillFree_71 (by decide) ?_
        exact aw_iret dX1_ticksTillFree_75 rfl (Nat.zero_le _) (Nat.zero_le _) ⟨by first | rw [if_pos hc46, if_pos hc66] | rw [if_pos hc46, if_neg (by omega)] | rw [if_neg hc46, if_pos hc66] | rw [if_neg hc46, if_neg (by omega)], rfl⟩
end CLASS9
