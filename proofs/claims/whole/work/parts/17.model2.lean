/-! THE REFERENCE: windows, outcomes -/
theorem sh_and : ∀ k, k < 32 → ((nI k &&& 31).toBitVec.smod 32).toNat = k := by decide
theorem shr1 {b k : Nat} (hb : b < 2 ^ 31) (hk : k < 32) : (nI b >>> (nI k &&& 31)) &&& nI 1 = nI (b / 2 ^ k % 2) := by
  rw [pk_shrN hb _ k (sh_and k hk), pk_andN (Nat.lt_trans (Nat.lt_of_le_of_lt (Nat.div_le_self _ _) hb) (by decide)) 1 (by decide)]
theorem ior_nI (a b : Nat) : nI a ||| nI b = nI (a ||| b) := by
  apply Int32.toBitVec_inj.mp
  show BitVec.ofNat 32 a ||| BitVec.ofNat 32 b = BitVec.ofNat 32 (a ||| b)
  rw [BitVec.ofNat_or]
theorem note_nI {b e : Nat} (hb : b < 65536) (he : e ≤ 1) : ((nI b <<< (nI 1 &&& 31)) ||| nI e) &&& 65535 = nI ((2 * b + e) % 65536) := by
  rw [pk_shlN _ 1 (by decide) (by omega), ior_nI]
  have h : b * 2 ^ 1 ||| e = 2 * b + e := by
    have := Nat.shiftLeft_add_eq_or_of_lt (a := b) (b := e) (i := 1) (by omega)
    rw [Nat.shiftLeft_eq] at this
    rw [← this]; omega
  rw [h]
  exact pk_andN (by omega) 16 (by decide)
section MODEL2
variable {G : GG} {K : Nat → Option (Nat × Nat)} {R : Nat → Nat → Value} {I : Nat → Nat → Int32} {J : Nat → Nat → Int64} {z : Nat} {σ : Sg} {a : AA} {m k : Nat}
theorem p2_16 {n : Nat} (h : n ≤ 16) : 2 ^ n ≤ 65536 := Nat.pow_le_pow_right (by decide) h
theorem bits_le (b : Nat) : ∀ n, bits b n ≤ n
  | 0 => Nat.le_refl 0
  | n + 1 => by
    have := bits_le b n
    show bits b n + b / 2 ^ n % 2 ≤ n + 1
    have := Nat.mod_lt (b / 2 ^ n) (show 0 < 2 by decide)
    omega
theorem r_inWindow (hL : LM G K R) (hM : RM (I 141) a) {st b : Nat} (hst : st < 4) (hg : SK a.1) (ht : RK b (a.2.2 st)) : Run G YX4_inWindow [.ref (G.1 140), .int (nI st)] (K, R, I, J, z) (Rd (K, R, I, J, z) (.int (nI (inWinR a.1 (a.2.2 st))))) := by
  obtain ⟨hk0, hr1, hk1, hr2, hk2, hr3, hk3, hr5, hk5, hr9, hk9⟩ := hL
  have h4 := ht.2.2.2.2.2.1
  have h2 := ht.2.2.2.1
  have hg1 := hg.2.1
  have hL : LM G K R := ⟨hk0, hr1, hk1, hr2, hk2, hr3, hk3, hr5, hk5, hr9, hk9⟩
  refine run_of (ls := [(0, .ref (G.1 140)), (1, .int (nI st))]) (by decide +kernel) rfl rfl (Nat.le_of_ble_eq_true rfl) ?_
  refine aw_aload_n dX4_inWindow_0 rfl ?_
  refine aw_iload_n dX4_inWindow_1 rfl ?_
  refine aw_iconst (v := nI 4) dX4_inWindow_2 rfl ?_
  refine aw_vRd dX4_inWindow_3 cvX4_40 ⟨Nat.le_of_ble_eq_true rfl, Nat.le_of_ble_eq_true rfl⟩ (by assumption) ⟨_, rfl, rfl⟩ (r_of (w := 4) hL hM hst (by decide)) rfl rfl (Nat.le_of_ble_eq_true rfl) ⟨rfl, rfl⟩ ⟨Nat.zero_le _, Nat.zero_le _⟩ ?_
  refine aw_istore_n (ls' := [(2, _), (0, _), (1, _)]) dX4_inWindow_6 (by decide) rfl ?_
  refine aw_aload_n dX4_inWindow_7 rfl ?_
  refine aw_iload_n dX4_inWindow_8 rfl ?_
  refine aw_iconst (v := nI 2) dX4_inWindow_9 rfl ?_
  refine aw_vRd dX4_inWindow_10 cvX4_40 ⟨Nat.le_of_ble_eq_true rfl, Nat.le_of_ble_eq_true rfl⟩ (by assumption) ⟨_, rfl, rfl⟩ (r_of (w := 2) hL hM hst (by decide)) rfl rfl (Nat.le_of_ble_eq_true rfl) ⟨rfl, rfl⟩ ⟨Nat.zero_le _, Nat.zero_le _⟩ ?_
  refine aw_if_eqN (tgt := 20) dX4_inWindow_13 (by decide) (by omega) (fun hc13 => ?_) (fun hc13 => ?_)
  · refine aw_iload_n dX4_inWindow_20 rfl ?_
    refine aw_aload_n dX4_inWindow_21 rfl ?_
    refine aw_getR dX4_inWindow_22 flX4_7 rfl (by assumption) (by assumption) ?_
    refine aw_iconst (v := nI 1) dX4_inWindow_25 rfl ?_
    refine aw_iald dX4_inWindow_26 (by assumption) (by omega) rfl (by omega) (hM.1 1 (by decide)) ?_
    refine aw_icmp_geN (tgt := 34) dX4_inWindow_27 (by decide) (by omega) (by omega) (fun hc27 => ?_) (fun hc27 => ?_)
    · refine aw_aload_n dX4_inWindow_34 rfl ?_
      refine aw_getR dX4_inWindow_35 flX4_7 rfl (by assumption) (by assumption) ?_
      refine aw_iconst (v := nI 1) dX4_inWindow_38 rfl ?_
      refine aw_iald dX4_inWindow_39 (by assumption) (by omega) rfl (by omega) (hM.1 1 (by decide)) ?_
      exact aw_iret dX4_inWindow_40 rfl (Nat.zero_le _) (Nat.zero_le _) ⟨by first | rw [inWinR, if_neg hc13] | rw [inWinR, if_pos hc13, Nat.min_eq_left (Nat.le_of_lt hc27)] | rw [inWinR, if_pos hc13, Nat.min_eq_right hc27], rfl⟩
    · refine aw_iload_n dX4_inWindow_30 rfl ?_
      refine aw_goto (tgt := 40) dX4_inWindow_31 (by decide) ?_
      exact aw_iret dX4_inWindow_40 rfl (Nat.zero_le _) (Nat.zero_le _) ⟨by first | rw [inWinR, if_neg hc13] | rw [inWinR, if_pos hc13, Nat.min_eq_left (Nat.le_of_lt hc27)] | rw [inWinR, if_pos hc13, Nat.min_eq_right hc27], rfl⟩
  · refine aw_iconst (v := nI 0) dX4_inWindow_16 rfl ?_
    refine aw_goto (tgt := 40) dX4_inWindow_17 (by decide) ?_
    exact aw_iret dX4_inWindow_40 rfl (Nat.zero_le _) (Nat.zero_le _) ⟨by first | rw [inWinR, if_neg hc13] | rw [inWinR, if_pos hc13, Nat.min_eq_left (Nat.le_of_lt hc27)] | rw [inWinR, if_pos hc13, Nat.min_eq_right hc27], rfl⟩
theorem r_badInWindow (hL : LM G K R) (hM : RM (I 141) a) {st b : Nat} (hst : st < 4) (hg : SK a.1) (ht : RK b (a.2.2 st)) : Run G YX4_badInWindow [.ref (G.1 140), .int (nI st)] (K, R, I, J, z) (Rd (K, R, I, J, z) (.int (nI (badWinR a.1 (a.2.2 st))))) := by
  obtain ⟨hk0, hr1, hk1, hr2, hk2, hr3, hk3, hr5, hk5, hr9, hk9⟩ := hL
  have hL : LM G K R := ⟨hk0, hr1, hk1, hr2, hk2, hr3, hk3, hr5, hk5, hr9, hk9⟩
  have h4 := ht.2.2.2.2.2.1
  have h3 : a.2.2 st 3 < 65536 := Nat.lt_of_lt_of_le ht.2.2.2.2.1 (p2_16 h4)
  have hw : inWinR a.1 (a.2.2 st) ≤ 16 := by unfold inWinR; split <;> omega
  generalize hW : inWinR a.1 (a.2.2 st) = w at hw
  have hbw : badWinR a.1 (a.2.2 st) = bits (a.2.2 st 3) w := by unfold badWinR; rw [hW]
  have loop : ∀ (d k : Nat), w - k = d → k ≤ w → AW G YX4_badInWindow (MZ G YX4_badInWindow (Rd (K, R, I, J, z) (.int (nI (badWinR a.1 (a.2.2 st)))))) 4 [(0, .ref (G.1 140)), (1, .int (nI st)), (2, .int (nI (bits (a.2.2 st 3) k))), (3, .int (nI k))] [] (K, R, I, J, z) 0 0 := by
    intro d
    induction d using Nat.strongRecOn with
    | _ d ih =>
    intro k hd hkw
    refine aw_iload_n dX4_badInWindow_4 rfl ?_
    refine aw_aload_n dX4_badInWindow_5 rfl ?_
    refine aw_iload_n dX4_badInWindow_6 rfl ?_
    refine aw_vRd dX4_badInWindow_7 cvX4_44 ⟨Nat.le_of_ble_eq_true rfl, Nat.le_of_ble_eq_true rfl⟩ (by assumption) ⟨_, rfl, rfl⟩ (r_inWindow hL hM hst hg ht) rfl rfl (Nat.le_of_ble_eq_true rfl) ⟨rfl, rfl⟩ ⟨Nat.zero_le _, Nat.zero_le _⟩ ?_
    rw [hW]
    refine aw_icmp_geN (tgt := 32) dX4_badInWindow_10 (by decide) (by omega) (by omega) (fun hc10 => ?_) (fun hc10 => ?_)
    · refine aw_iload_n dX4_badInWindow_32 rfl ?_
      exact aw_iret dX4_badInWindow_33 rfl (Nat.zero_le _) (Nat.zero_le _) ⟨by rw [hbw, show k = w by omega], rfl⟩
    · refine aw_iload_n dX4_badInWindow_13 rfl ?_
      refine aw_aload_n dX4_badInWindow_14 rfl ?_
      refine aw_iload_n dX4_badInWindow_15 rfl ?_
      refine aw_iconst (v := nI 3) dX4_badInWindow_16 rfl ?_
      refine aw_vRd dX4_badInWindow_17 cvX4_40 ⟨Nat.le_of_ble_eq_true rfl, Nat.le_of_ble_eq_true rfl⟩ (by assumption) ⟨_, rfl, rfl⟩ (r_of (w := 3) hL hM hst (by decide)) rfl rfl (Nat.le_of_ble_eq_true rfl) ⟨rfl, rfl⟩ ⟨Nat.zero_le _, Nat.zero_le _⟩ ?_
      refine aw_iload_n dX4_badInWindow_20 rfl ?_
      refine aw_ishr dX4_badInWindow_21 ?_
      refine aw_iconst (v := nI 1) dX4_badInWindow_22 rfl ?_
      refine aw_iand dX4_badInWindow_23 ?_
      refine aw_top (x' := nI (a.2.2 st 3 / 2 ^ k % 2)) (shr1 (by omega) (by omega)) ?_
      first | refine aw_iaddN dX4_badInWindow_24 ?_ | refine aw_iadd dX4_badInWindow_24 ?_
      refine aw_istore_n (ls' := [(2, _), (0, _), (1, _), (3, _)]) dX4_badInWindow_25 (by decide) rfl ?_
      refine aw_iincN (k := 1) (ls' := [(3, _), (2, _), (0, _), (1, _)]) dX4_badInWindow_26 rfl rfl (by decide) rfl ?_
      refine aw_goto (tgt := 4) dX4_badInWindow_29 (by decide) ?_
      exact aw_pick [2, 3, 1, 0] rfl (ih (w - (k + 1)) (by omega) (k + 1) rfl (by omega))
  refine run_of (ls := [(0, .ref (G.1 140)), (1, .int (nI st))]) (by decide +kernel) rfl rfl (Nat.le_of_ble_eq_true rfl) ?_
  refine aw_iconst (v := nI 0) dX4_badInWindow_0 rfl ?_
  refine aw_istore_n (ls' := [(2, _), (0, _), (1, _)]) dX4_badInWindow_1 (by decide) rfl ?_
  refine aw_iconst (v := nI 0) dX4_badInWindow_2 rfl ?_
  refine aw_istore_n (ls' := [(3, _), (2, _), (0, _), (1, _)]) dX4_badInWindow_3 (by decide) rfl ?_
  exact aw_pick [2, 3, 1, 0] rfl (loop w 0 rfl (Nat.zero_le _))
theorem sT_sT {T : Nat → Rw} {st : Nat} {t t' : Rw} : sT (sT T st t) st t' = sT T st t' := by
  funext s; unfold sT; split <;> rfl
theorem cutR_eq (n : Nat) (t : Rw) : u1 (u1 (u1 (u1 (u1 (u1 t 2 1) 3 0) 4 0) 5 n) 6 n) 10 (t 10 + 1) = cutR n t := by
  funext k; simp only [u1, cutR]
  by_cases h2 : k = 2
  · subst h2; simp
  by_cases h3 : k = 3
  · subst h3; simp
  by_cases h4 : k = 4
  · subst h4; simp
  by_cases h5 : k = 5
  · subst h5; simp
  by_cases h6 : k = 6
  · subst h6; simp
  simp [h2, h3, h4, h5, h6]
theorem closeR_eq (t : Rw) : u1 (u1 (u1 (u1 (u1 (u1 t 2 0) 3 0) 4 0) 5 0) 6 0) 11 (t 11 + 1) = closeR t := by
  funext k; simp only [u1, closeR]
  by_cases h2 : k = 2
  · subst h2; simp
  by_cases h3 : k = 3
  · subst h3; simp
  by_cases h4 : k = 4
  · subst h4; simp
  by_cases h5 : k = 5
  · subst h5; simp
  by_cases h6 : k = 6
  · subst h6; simp
  simp [h2, h3, h4, h5, h6]
theorem r_cutsOff (hL : LM G K R) (hM : RM (I 141) a) (h16 : a.2.1.length ≤ 16) {st n : Nat} (hst : st < 4) : Run G YX4_cutsOff [.ref (G.1 140), .int (nI st), .int (nI n)] (K, R, I, J, z) (Up K R J z none (fun I' => RM (I' 141) (a.1, a.2.1, sT a.2.2 st (cutR n (a.2.2 st))) ∧ FrO 141 I I')) := by
  obtain ⟨hk0, hr1, hk1, hr2, hk2, hr3, hk3, hr5, hk5, hr9, hk9⟩ := hL
  have hL : LM G K R := ⟨hk0, hr1, hk1, hr2, hk2, hr3, hk3, hr5, hk5, hr9, hk9⟩
  refine run_of (ls := [(0, .ref (G.1 140)), (1, .int (nI st)), (2, .int (nI n))]) (by decide +kernel) rfl rfl (Nat.le_of_ble_eq_true rfl) ?_
  refine aw_aload_n dX4_cutsOff_0 rfl ?_
  refine aw_iload_n dX4_cutsOff_1 rfl ?_
  refine aw_iconst (v := nI 2) dX4_cutsOff_2 rfl ?_
  refine aw_iconst (v := nI 1) dX4_cutsOff_3 rfl ?_
  refine aw_vUp0 dX4_cutsOff_4 cvX4_29 ⟨Nat.le_of_ble_eq_true rfl, Nat.le_of_ble_eq_true rfl⟩ (by assumption) ⟨_, rfl, rfl⟩ (r_lay (w := 2) (v := 1) hL hM h16 hst (by decide)) rfl rfl (Nat.le_of_ble_eq_true rfl) ⟨rfl, rfl⟩ ⟨Nat.zero_le _, Nat.zero_le _⟩ (fun I4 hP4 => ?_)
  refine aw_aload_n dX4_cutsOff_7 rfl ?_
  refine aw_iload_n dX4_cutsOff_8 rfl ?_
  refine aw_iconst (v := nI 3) dX4_cutsOff_9 rfl ?_
  refine aw_iconst (v := nI 0) dX4_cutsOff_10 rfl ?_
  refine aw_vUp0 dX4_cutsOff_11 cvX4_29 ⟨Nat.le_of_ble_eq_true rfl, Nat.le_of_ble_eq_true rfl⟩ (by assumption) ⟨_, rfl, rfl⟩ (r_lay (w := 3) (v := 0) hL hP4.1 h16 hst (by decide)) rfl rfl (Nat.le_of_ble_eq_true rfl) ⟨rfl, rfl⟩ ⟨Nat.zero_le _, Nat.zero_le _⟩ (fun I11 hP11 => ?_)
  refine aw_aload_n dX4_cutsOff_14 rfl ?_
  refine aw_iload_n dX4_cutsOff_15 rfl ?_
  refine aw_iconst (v := nI 4) dX4_cutsOff_16 rfl ?_
  refine aw_iconst (v := nI 0) dX4_cutsOff_17 rfl ?_
  refine aw_vUp0 dX4_cutsOff_18 cvX4_29 ⟨Nat.le_of_ble_eq_true rfl, Nat.le_of_ble_eq_true rfl⟩ (by assumption) ⟨_, rfl, rfl⟩ (r_lay (w := 4) (v := 0) hL hP11.1 h16 hst (by decide)) rfl rfl (Nat.le_of_ble_eq_true rfl) ⟨rfl, rfl⟩ ⟨Nat.zero_le _, Nat.zero_le _⟩ (fun I18 hP18 => ?_)
  refine aw_aload_n dX4_cutsOff_21 rfl ?_
  refine aw_iload_n dX4_cutsOff_22 rfl ?_
  refine aw_iconst (v := nI 5) dX4_cutsOff_23 rfl ?_
  refine aw_iload_n dX4_cutsOff_24 rfl ?_
  refine aw_vUp0 dX4_cutsOff_25 cvX4_29 ⟨Nat.le_of_ble_eq_true rfl, Nat.le_of_ble_eq_true rfl⟩ (by assumption) ⟨_, rfl, rfl⟩ (r_lay (w := 5) (v := n) hL hP18.1 h16 hst (by decide)) rfl rfl (Nat.le_of_ble_eq_true rfl) ⟨rfl, rfl⟩ ⟨Nat.zero_le _, Nat.zero_le _⟩ (fun I25 hP25 => ?_)
  refine aw_aload_n dX4_cutsOff_28 rfl ?_
  refine aw_iload_n dX4_cutsOff_29 rfl ?_
  refine aw_bipush (v := nI 6) dX4_cutsOff_30 rfl ?_
  refine aw_iload_n dX4_cutsOff_32 rfl ?_
  refine aw_vUp0 dX4_cutsOff_33 cvX4_29 ⟨Nat.le_of_ble_eq_true rfl, Nat.le_of_ble_eq_true rfl⟩ (by assumption) ⟨_, rfl, rfl⟩ (r_lay (w := 6) (v := n) hL hP25.1 h16 hst (by decide)) rfl rfl (Nat.le_of_ble_eq_true rfl) ⟨rfl, rfl⟩ ⟨Nat.zero_le _, Nat.zero_le _⟩ (fun I33 hP33 => ?_)
  refine aw_aload_n dX4_cutsOff_36 rfl ?_
  refine aw_iload_n dX4_cutsOff_37 rfl ?_
  refine aw_bipush (v := nI 10) dX4_cutsOff_38 rfl ?_
  refine aw_vUp0 dX4_cutsOff_40 cvX4_48 ⟨Nat.le_of_ble_eq_true rfl, Nat.le_of_ble_eq_true rfl⟩ (by assumption) ⟨_, rfl, rfl⟩ (r_adds (w := 10) hL hP33.1 h16 hst (by decide)) rfl rfl (Nat.le_of_ble_eq_true rfl) ⟨rfl, rfl⟩ ⟨Nat.zero_le _, Nat.zero_le _⟩ (fun I40 hP40 => ?_)
  exact aw_vret dX4_cutsOff_43 rfl (Nat.zero_le _) (Nat.zero_le _) ⟨rfl, I40, rfl, by have h := hP40.1; simp only [sT_sT, sT_s] at h; rw [← cutR_eq n (a.2.2 st)]; exact h, hP4.2.tr (hP11.2.tr (hP18.2.tr (hP25.2.tr (hP33.2.tr hP40.2))))⟩
theorem r_closes (hL : LM G K R) (hM : RM (I 141) a) (h16 : a.2.1.length ≤ 16) {st : Nat} (hst : st < 4) : Run G YX4_closes [.ref (G.1 140), .int (nI st)] (K, R, I, J, z) (Up K R J z none (fun I' => RM (I' 141) (a.1, a.2.1, sT a.2.2 st (closeR (a.2.2 st))) ∧ FrO 141 I I')) := by
  obtain ⟨hk0, hr1, hk1, hr2, hk2, hr3, hk3, hr5, hk5, hr9, hk9⟩ := hL
  have hL : LM G K R := ⟨hk0, hr1, hk1, hr2, hk2, hr3, hk3, hr5, hk5, hr9, hk9⟩
  refine run_of (ls := [(0, .ref (G.1 140)), (1, .int (nI st))]) (by decide +kernel) rfl rfl (Nat.le_of_ble_eq_true rfl) ?_
  refine aw_aload_n dX4_closes_0 rfl ?_
  refine aw_iload_n dX4_closes_1 rfl ?_
  refine aw_iconst (v := nI 2) dX4_closes_2 rfl ?_
  refine aw_iconst (v := nI 0) dX4_closes_3 rfl ?_
  refine aw_vUp0 dX4_closes_4 cvX4_29 ⟨Nat.le_of_ble_eq_true rfl, Nat.le_of_ble_eq_true rfl⟩ (by assumption) ⟨_, rfl, rfl⟩ (r_lay (w := 2) (v := 0) hL hM h16 hst (by decide)) rfl rfl (Nat.le_of_ble_eq_true rfl) ⟨rfl, rfl⟩ ⟨Nat.zero_le _, Nat.zero_le _⟩ (fun I4 hP4 => ?_)
  refine aw_aload_n dX4_closes_7 rfl ?_
  refine aw_iload_n dX4_closes_8 rfl ?_
  refine aw_iconst (v := nI 3) dX4_closes_9 rfl ?_
  refine aw_iconst (v := nI 0) dX4_closes_10 rfl ?_
  refine aw_vUp0 dX4_closes_11 cvX4_29 ⟨Nat.le_of_ble_eq_true rfl, Nat.le_of_ble_eq_true rfl⟩ (by assumption) ⟨_, rfl, rfl⟩ (r_lay (w := 3) (v := 0) hL hP4.1 h16 hst (by decide)) rfl rfl (Nat.le_of_ble_eq_true rfl) ⟨rfl, rfl⟩ ⟨Nat.zero_le _, Nat.zero_le _⟩ (fun I11 hP11 => ?_)
  refine aw_aload_n dX4_closes_14 rfl ?_
  refine aw_iload_n dX4_closes_15 rfl ?_
  refine aw_iconst (v := nI 4) dX4_closes_16 rfl ?_
  refine aw_iconst (v := nI 0) dX4_closes_17 rfl ?_
  refine aw_vUp0 dX4_closes_18 cvX4_29 ⟨Nat.le_of_ble_eq_true rfl, Nat.le_of_ble_eq_true rfl⟩ (by assumption) ⟨_, rfl, rfl⟩ (r_lay (w := 4) (v := 0) hL hP11.1 h16 hst (by decide)) rfl rfl (Nat.le_of_ble_eq_true rfl) ⟨rfl, rfl⟩ ⟨Nat.zero_le _, Nat.zero_le _⟩ (fun I18 hP18 => ?_)
  refine aw_aload_n dX4_closes_21 rfl ?_
  refine aw_iload_n dX4_closes_22 rfl ?_
  refine aw_iconst (v := nI 5) dX4_closes_23 rfl ?_
  refine aw_iconst (v := nI 0) dX4_closes_24 rfl ?_
  refine aw_vUp0 dX4_closes_25 cvX4_29 ⟨Nat.le_of_ble_eq_true rfl, Nat.le_of_ble_eq_true rfl⟩ (by assumption) ⟨_, rfl, rfl⟩ (r_lay (w := 5) (v := 0) hL hP18.1 h16 hst (by decide)) rfl rfl (Nat.le_of_ble_eq_true rfl) ⟨rfl, rfl⟩ ⟨Nat.zero_le _, Nat.zero_le _⟩ (fun I25 hP25 => ?_)
  refine aw_aload_n dX4_closes_28 rfl ?_
  refine aw_iload_n dX4_closes_29 rfl ?_
  refine aw_bipush (v := nI 6) dX4_closes_30 rfl ?_
  refine aw_iconst (v := nI 0) dX4_closes_32 rfl ?_
  refine aw_vUp0 dX4_closes_33 cvX4_29 ⟨Nat.le_of_ble_eq_true rfl, Nat.le_of_ble_eq_true rfl⟩ (by assumption) ⟨_, rfl, rfl⟩ (r_lay (w := 6) (v := 0) hL hP25.1 h16 hst (by decide)) rfl rfl (Nat.le_of_ble_eq_true rfl) ⟨rfl, rfl⟩ ⟨Nat.zero_le _, Nat.zero_le _⟩ (fun I33 hP33 => ?_)
  refine aw_aload_n dX4_closes_36 rfl ?_
  refine aw_iload_n dX4_closes_37 rfl ?_
  refine aw_bipush (v := nI 11) dX4_closes_38 rfl ?_
  refine aw_vUp0 dX4_closes_40 cvX4_48 ⟨Nat.le_of_ble_eq_true rfl, Nat.le_of_ble_eq_true rfl⟩ (by assumption) ⟨_, rfl, rfl⟩ (r_adds (w := 11) hL hP33.1 h16 hst (by decide)) rfl rfl (Nat.le_of_ble_eq_true rfl) ⟨rfl, rfl⟩ ⟨Nat.zero_le _, Nat.zero_le _⟩ (fun I40 hP40 => ?_)
  exact aw_vret dX4_closes_43 rfl (Nat.zero_le _) (Nat.zero_le _) ⟨rfl, I40, rfl, by have h := hP40.1; simp only [sT_sT, sT_s] at h; rw [← closeR_eq (a.2.2 st)]; exact h, hP4.2.tr (hP11.2.tr (hP18.2.tr (hP25.2.tr (hP33.2.tr hP40.2))))⟩
end MODEL2
