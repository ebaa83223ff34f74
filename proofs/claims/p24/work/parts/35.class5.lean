/-! THE CLASS: a call -/
theorem RK.u7 {b v : Nat} {t : Rw} (h : RK b t) : RK b (u1 t 7 v) := by
  obtain ⟨h0, h1, h2, h3, h4, h5, h6, h7, h8, h9, h10, h11, h12⟩ := h
  refine ⟨h0, h1, h2, h3, h4, h5, h6, h7, h8, h9, h10, h11, fun j hj => ?_⟩
  rw [u1_n (by omega)]; exact h12 j hj
theorem onWay_push {a : AA} {g : Nat → Nat} {T : Nat → Rw} {st d tr since : Nat} : onWayN (g, a.2.1 ++ [mkC st d tr since], T) = u1 (onWayN a) st (onWayN a st + 1) := by
  funext s
  unfold onWayN u1
  rw [List.countP_append]
  by_cases e : s = st
  · subst e; rw [if_pos rfl]; simp [mkC]
  · rw [if_neg e]; simp [mkC]; exact fun q => e q.symm
section CLASS5
variable {G : GG} {K : Nat → Option (Nat × Nat)} {R : Nat → Nat → Value} {I : Nat → Nat → Int32} {J : Nat → Nat → Int64} {z : Nat} {σ : Sg} {a : AA} {m k : Nat}
variable {h b st : Nat} {g : Nat → Nat} {T : Nat → Rw} {L : List Cl}
theorem c_ring (hL : LSt G K R h) (hS : CSt I h a) (hI : IV m k a) (hmk : m + k ≤ 900000000) (hst : st < 4) (hroom : refd a st = true ∨ a.2.1.length < 16) : Run G YX1_ring [.ref (G.1 h), .int (nI st)] (K, R, I, J, z) (Up K R J z (some (.int (nI (callN a st)))) (fun I' => CSt I' h (callA a st) ∧ FrS h I I')) := by
  obtain ⟨hk0, hr0, hk1, hsr, hr1, hk2, hr2, hk3, hc0, hc1, hc2, hc3, hc4, hkc0, hkc1, hkc2, hkc3, hkc4, hTs, hh⟩ := id hL
  obtain ⟨hSG, hA, hn, hW⟩ := id hS
  have hT := hTs st hst
  have hSR := hSG.2.2.2.2 st hst
  have hg := hI.1
  have h16 := hI.2.1
  have hb := (hI.2.2.2.2.1 st hst).up hI.b
  have hC : ∀ c ∈ a.2.1, c 0 < 4 ∧ c 3 ≤ 1 := fun c hc => ⟨(hI.2.2.1 c hc).1, (hI.2.2.1 c hc).2.2.2.2.1⟩
  obtain ⟨s0, s1, ⟨nx, s2, s2a, s2b⟩, s3, s4, s5, s6, s78, s9, s10, s11, s13⟩ := id hSR
  obtain ⟨b0, b1, b2', b3, b4, b5, b6, b7, b8, b9, b10, b11, b12⟩ := id hb
  have hKo := hT.1
  have ha := c_answerFor (J := J) (z := z) hL hS hI hmk hst
  by_cases hr : refd a st = true
  · have hc0 : callN a st = 0 := callN_z.mpr hr
    rw [hc0] at ha ⊢
    refine run_of (ls := [(0, .ref (G.1 h)), (1, .int (nI st))]) (by decide +kernel) rfl rfl (Nat.le_of_ble_eq_true rfl) ?_
    refine aw_aload_n dX1_ring_0 rfl ?_
    refine aw_getR dX1_ring_1 flX1_11 rfl (by assumption) (by assumption) ?_
    refine aw_iload_n dX1_ring_4 rfl ?_
    refine aw_aald dX1_ring_5 (by assumption) (by omega) (by omega) rfl (by omega) (hsr st hst) ?_
    refine aw_astore_n (ls' := [(2, _), (0, _), (1, _)]) dX1_ring_6 (by decide) rfl ?_
    refine aw_aload_n dX1_ring_7 rfl ?_
    refine aw_iload_n dX1_ring_8 rfl ?_
    refine aw_vRd dX1_ring_9 cvX1_57 ⟨Nat.le_of_ble_eq_true rfl, Nat.le_of_ble_eq_true rfl⟩ (by assumption) ⟨_, rfl, rfl⟩ (ha) rfl rfl (Nat.le_of_ble_eq_true rfl) ⟨rfl, rfl⟩ ⟨Nat.zero_le _, Nat.zero_le _⟩ ?_
    refine aw_istore_n (ls' := [(3, _), (2, _), (0, _), (1, _)]) dX1_ring_12 (by decide) rfl ?_
    refine aw_iload_n dX1_ring_13 rfl ?_
    refine aw_if_neN (tgt := 29) dX1_ring_14 (by decide) (by omega) (fun hc14 => absurd rfl hc14) (fun hc14 => ?_)
    refine aw_aload_n dX1_ring_17 rfl ?_
    refine aw_dup dX1_ring_18 rfl ?_
    refine aw_getI dX1_ring_19 flX1_67 rfl (by assumption) s10 ?_
    refine aw_iconst (v := nI 1) dX1_ring_22 rfl ?_
    first | refine aw_iaddN dX1_ring_23 ?_ | refine aw_iadd dX1_ring_23 ?_
    refine aw_putI dX1_ring_24 flX1_67 rfl (by intro r hr; cases hr; rfl) (by assumption) (by omega) rfl rfl ?_
    refine aw_iload_n dX1_ring_27 rfl ?_
    refine aw_iret dX1_ring_28 rfl (Nat.zero_le _) (Nat.zero_le _) ?_
    rw [callA_r hr]
    refine ⟨rfl, _, rfl, ⟨?_, ?_, ?_, ?_⟩, FrS.o FrO.up (by omega) (by omega)⟩
    · exact SG.row hSG hst (SR.up (SR.refu (v := a.2.2 st 8 + 1) hSR)) FrO.up
    · exact hA.fr (fun q h1 h2 => FrO.up q (by omega))
    · rw [FrO.up h (by omega)]; exact hn
    · refine CW.fr hW (fun s hs => ?_)
      by_cases e : s = st
      · subst e; rw [up2_o, if_neg (by decide)]
      · rw [FrO.up _ (by omega)]
  have hl : a.2.1.length < 16 := by
    rcases hroom with q | q
    · exact absurd q hr
    · exact q
  have htr := trN_le a st
  have hc1 : callN a st = trN a st + 1 := by unfold callN; rw [if_neg hr]
  rw [hc1] at ha ⊢
  have hm : a.1 6 + a.1 7 + a.2.1.length ≤ m := hI.2.2.2.2.2.2
  have h69 : a.2.2 st 9 ≤ a.1 6 := by
    have := hI.2.2.2.2.2.1
    rcases (show st = 0 ∨ st = 1 ∨ st = 2 ∨ st = 3 by omega) with rfl | rfl | rfl | rfl <;> omega
  obtain ⟨d, hd⟩ : ∃ d, d = a.2.2 st (12 + a.2.2 st 1) := ⟨_, rfl⟩
  have hd99 : d ≤ 99 := by rw [hd]; exact b12 _ (by omega)
  have key : ∀ tr, tr = trN a st → AW G YX1_ring (MZ G YX1_ring (Up K R J z (some (.int (nI (trN a st + 1)))) (fun I' => CSt I' h (callA a st) ∧ FrS h I I'))) 49 [(0, .ref (G.1 h)), (1, .int (nI st)), (2, .ref (G.1 (h + 9 + 2 * st))), (3, .int (nI (trN a st + 1)))] [.int (nI tr)] (K, R, up2 I (h + 9 + 2 * st) 9 (nI (a.2.2 st 7 + 1)), J, z) 0 0 := by
    intro tr htr2
    have hSG1 := SG.row hSG hst (SR.up (SR.thru (v := a.2.2 st 7 + 1) hSR)) FrO.up
    have hSG2 := SG.trials (v := a.1 8 + tr) hSG1
    have hSR2 := hSG2.2.2.2.2 st hst
    rw [sT_s] at hSR2
    have hb2 := RK.u7 (v := a.2.2 st 7 + 1) hb
    have hde : u1 (a.2.2 st) 7 (a.2.2 st 7 + 1) (12 + u1 (a.2.2 st) 7 (a.2.2 st 7 + 1) 1) = d := by rw [hd, u1_n (by omega), u1_n (by decide)]
    have htr1 : tr ≤ 1 := by omega
    refine aw_istore (ls' := [(4, _), (0, _), (1, _), (2, _), (3, _)]) dX1_ring_49 (by decide) rfl ?_
    refine aw_aload_n dX1_ring_51 rfl ?_
    refine aw_dup dX1_ring_52 rfl ?_
    refine aw_getI dX1_ring_53 flX1_50 rfl (by assumption) (show _ = nI (a.1 8) by rw [FrO.up h (by omega)]; exact hSG.2.2.2.1) ?_
    refine aw_iload dX1_ring_56 rfl ?_
    first | refine aw_iaddN dX1_ring_58 ?_ | refine aw_iadd dX1_ring_58 ?_
    refine aw_putI dX1_ring_59 flX1_50 rfl (by intro r hr; cases hr; rfl) (by assumption) (by omega) rfl rfl ?_
    refine aw_aload_n dX1_ring_62 rfl ?_
    refine aw_vUp dX1_ring_63 cvX1_73 ⟨Nat.le_of_ble_eq_true rfl, Nat.le_of_ble_eq_true rfl⟩ (by assumption) ⟨_, rfl, rfl⟩ (s_takeDelay hT hSR2 hb2 (by omega)) rfl rfl (Nat.le_of_ble_eq_true rfl) ⟨rfl, rfl⟩ ⟨Nat.zero_le _, Nat.zero_le _⟩ (fun I63 hP63 => ?_)
    rw [hde]
    have hSG3 := SG.row hSG2 hst hP63.1 hP63.2.2
    rw [sT_sT] at hSG3
    rw [show u1 (u1 (a.2.2 st) 7 (a.2.2 st 7 + 1)) 1 ((u1 (a.2.2 st) 7 (a.2.2 st 7 + 1) 1 + 1) % u1 (a.2.2 st) 7 (a.2.2 st 7 + 1) 0) = thruR (a.2.2 st) from u1_comm (by decide)] at hSG3
    have hF3 : FrS h I I63 := (FrS.o FrO.up (by omega) (by omega)).tr ((FrS.o FrO.up (by omega) (by omega)).tr (FrS.o hP63.2.2 (by omega) (by omega)))
    have hA3 : CA I63 h a.2.1 := hA.fr (fun q h1 h2 => by rw [hP63.2.2 q (by omega), FrO.up q (by omega), FrO.up q (by omega)])
    have hn3 : I63 h 3 = nI a.2.1.length := by rw [hP63.2.2 h (by omega), up2_o, if_neg (by decide), FrO.up h (by omega)]; exact hn
    have hW3 : CW I63 h (onWayN a) := hW.fr (fun s hs => by
      by_cases e : s = st
      · subst e; rw [hP63.2.1, FrO.up _ (by omega), up2_o, if_neg (by decide)]
      · rw [hP63.2.2 _ (by omega), FrO.up _ (by omega), FrO.up _ (by omega)])
    have hg3 : SK (u1 a.1 8 (a.1 8 + tr)) := hg
    have hb3 : RK (m + k) (sT a.2.2 st (thruR (a.2.2 st)) st) := by rw [sT_s]; exact hb.thru
    refine aw_istore (ls' := [(5, _), (4, _), (0, _), (1, _), (2, _), (3, _)]) dX1_ring_66 (by decide) rfl ?_
    refine aw_iload dX1_ring_68 rfl ?_
    refine aw_if_neN (tgt := 89) dX1_ring_70 (by decide) (by omega) (fun hc70 => ?_) (fun hc70 => ?_)
    · refine aw_aload_n dX1_ring_89 rfl ?_
      refine aw_iload_n dX1_ring_90 rfl ?_
      refine aw_iload dX1_ring_91 rfl ?_
      refine aw_iload dX1_ring_93 rfl ?_
      refine aw_vUp0 dX1_ring_95 cvX1_84 ⟨Nat.le_of_ble_eq_true rfl, Nat.le_of_ble_eq_true rfl⟩ (by assumption) ⟨_, rfl, rfl⟩ (c_sendOff (d := d) (tr := tr) (n := onWayN a) hL hSG3 hA3 hn3 hW3 hl hst) rfl rfl (Nat.le_of_ble_eq_true rfl) ⟨rfl, rfl⟩ ⟨Nat.zero_le _, Nat.zero_le _⟩ (fun I95 hP95 => ?_)
      refine aw_iload_n dX1_ring_98 rfl ?_
      refine aw_iret dX1_ring_99 rfl (Nat.zero_le _) (Nat.zero_le _) ?_
      first
      | (have hS83 := hP83.1
         have hF83 := hP83.2
         have hd0 : a.2.2 st (12 + a.2.2 st 1) = 0 := by rw [← hd]; exact hc70
         rw [hc70] at hS83
         rw [callA_0 (by simpa using hr) hd0]
         rw [sT_sT, sT_s] at hS83
         refine ⟨rfl, _, rfl, ⟨?_, hA3.fr (fun q h1 h2 => hF83.1 q (by omega)), by rw [hF83.2.1]; exact hn3, hW3.fr hF83.2.2⟩, hF3.tr hF83.s⟩
         unfold outA
         simp only [sT_sT, sT_s]
         rw [← htr2]
         exact hS83)
      | (have hd0 : a.2.2 st (12 + a.2.2 st 1) ≠ 0 := by rw [← hd]; exact hc70
         obtain ⟨q1, q2, q3, q4, q5⟩ := hP95
         rw [callA_1 (by simpa using hr) hd0]
         rw [sT_s] at q2
         rw [← htr2, ← hd]
         refine ⟨rfl, _, rfl, ⟨q1, q2, by rw [q3]; simp, ?_⟩, hF3.tr q5⟩
         rw [onWay_push]; exact q4)
    · refine aw_aload_n dX1_ring_73 rfl ?_
      refine aw_aload_n dX1_ring_74 rfl ?_
      refine aw_iload dX1_ring_75 rfl ?_
      refine aw_iload dX1_ring_77 rfl ?_
      refine aw_aload_n dX1_ring_79 rfl ?_
      refine aw_getI dX1_ring_80 flX1_77 rfl (by assumption) (show _ = nI (a.2.2 st 11) from hP63.1.2.2.2.2.2.2.1) ?_
      refine aw_vUp0 dX1_ring_83 cvX1_80 ⟨Nat.le_of_ble_eq_true rfl, Nat.le_of_ble_eq_true rfl⟩ (by assumption) ⟨_, rfl, rfl⟩ (c_settle (d := d) (tr := tr) (since := a.2.2 st 11) hL hSG3 hg3 hst hb3 hmk hd99 htr1 (by omega) (by rw [sT_s]; show a.2.2 st 9 ≤ _; omega) (by show a.1 7 ≤ _; omega)) rfl rfl (Nat.le_of_ble_eq_true rfl) ⟨rfl, rfl⟩ ⟨Nat.zero_le _, Nat.zero_le _⟩ (fun I83 hP83 => ?_)
      refine aw_goto (tgt := 98) dX1_ring_86 (by decide) ?_
      refine aw_iload_n dX1_ring_98 rfl ?_
      refine aw_iret dX1_ring_99 rfl (Nat.zero_le _) (Nat.zero_le _) ?_
      first
      | (have hS83 := hP83.1
         have hF83 := hP83.2
         have hd0 : a.2.2 st (12 + a.2.2 st 1) = 0 := by rw [← hd]; exact hc70
         rw [hc70] at hS83
         rw [callA_0 (by simpa using hr) hd0]
         rw [sT_sT, sT_s] at hS83
         refine ⟨rfl, _, rfl, ⟨?_, hA3.fr (fun q h1 h2 => hF83.1 q (by omega)), by rw [hF83.2.1]; exact hn3, hW3.fr hF83.2.2⟩, hF3.tr hF83.s⟩
         unfold outA
         simp only [sT_sT, sT_s]
         rw [← htr2]
         exact hS83)
      | (have hd0 : a.2.2 st (12 + a.2.2 st 1) ≠ 0 := by rw [← hd]; exact hc70
         obtain ⟨q1, q2, q3, q4, q5⟩ := hP95
         rw [callA_1 (by simpa using hr) hd0]
         rw [sT_s] at q2
         rw [← htr2, ← hd]
         refine ⟨rfl, _, rfl, ⟨q1, q2, by rw [q3]; simp, ?_⟩, hF3.tr q5⟩
         rw [onWay_push]; exact q4)
  refine run_of (ls := [(0, .ref (G.1 h)), (1, .int (nI st))]) (by decide +kernel) rfl rfl (Nat.le_of_ble_eq_true rfl) ?_
  refine aw_aload_n dX1_ring_0 rfl ?_
  refine aw_getR dX1_ring_1 flX1_11 rfl (by assumption) (by assumption) ?_
  refine aw_iload_n dX1_ring_4 rfl ?_
  refine aw_aald dX1_ring_5 (by assumption) (by omega) (by omega) rfl (by omega) (hsr st hst) ?_
  refine aw_astore_n (ls' := [(2, _), (0, _), (1, _)]) dX1_ring_6 (by decide) rfl ?_
  refine aw_aload_n dX1_ring_7 rfl ?_
  refine aw_iload_n dX1_ring_8 rfl ?_
  refine aw_vRd dX1_ring_9 cvX1_57 ⟨Nat.le_of_ble_eq_true rfl, Nat.le_of_ble_eq_true rfl⟩ (by assumption) ⟨_, rfl, rfl⟩ (ha) rfl rfl (Nat.le_of_ble_eq_true rfl) ⟨rfl, rfl⟩ ⟨Nat.zero_le _, Nat.zero_le _⟩ ?_
  refine aw_istore_n (ls' := [(3, _), (2, _), (0, _), (1, _)]) dX1_ring_12 (by decide) rfl ?_
  refine aw_iload_n dX1_ring_13 rfl ?_
  refine aw_if_neN (tgt := 29) dX1_ring_14 (by decide) (by omega) (fun hc14 => ?_) (fun hc14 => absurd hc14 (by omega))
  refine aw_aload_n dX1_ring_29 rfl ?_
  refine aw_dup dX1_ring_30 rfl ?_
  refine aw_getI dX1_ring_31 flX1_70 rfl (by assumption) s9 ?_
  refine aw_iconst (v := nI 1) dX1_ring_34 rfl ?_
  first | refine aw_iaddN dX1_ring_35 ?_ | refine aw_iadd dX1_ring_35 ?_
  refine aw_putI dX1_ring_36 flX1_70 rfl (by intro r hr; cases hr; rfl) (by assumption) (by omega) rfl rfl ?_
  refine aw_iload_n dX1_ring_39 rfl ?_
  refine aw_iconst (v := nI 2) dX1_ring_40 rfl ?_
  refine aw_icmp_neN (tgt := 48) dX1_ring_41 (by decide) (by omega) (by omega) (fun hc41 => ?_) (fun hc41 => ?_)
  · refine aw_iconst (v := nI 0) dX1_ring_48 rfl ?_
    first
    | exact aw_pick [2, 3, 1, 0] rfl (key 0 (by omega))
    | exact aw_pick [2, 3, 1, 0] rfl (key 1 (by omega))
  · refine aw_iconst (v := nI 1) dX1_ring_44 rfl ?_
    refine aw_goto (tgt := 49) dX1_ring_45 (by decide) ?_
    first
    | exact aw_pick [2, 3, 1, 0] rfl (key 0 (by omega))
    | exact aw_pick [2, 3, 1, 0] rfl (key 1 (by omega))
end CLASS5
