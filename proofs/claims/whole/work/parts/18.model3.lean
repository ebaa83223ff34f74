/-! THE REFERENCE: an outcome comes -/
theorem noteR_eq (e : Nat) (t : Rw) : u1 (u1 t 3 ((2 * t 3 + e) % 65536)) 4 (min (t 4 + 1) 16) = noteR e t := by
  funext k; simp only [u1, noteR]
  by_cases h3 : k = 3
  · subst h3; simp
  simp [h3]
theorem out_cut {a : AA} {st d tr since : Nat} (h1 : tr = 1) (h2 : badN a.1 d = 1) : outA a st d tr since = (outG a.1 d, a.2.1, sT a.2.2 st (cutR (min (2 * a.2.2 st 6) (a.1 4)) (u1 (a.2.2 st) 9 (a.2.2 st 9 + badN a.1 d)))) := by
  unfold outA outR; rw [if_pos h1, if_pos h2]
theorem out_close {a : AA} {st d tr since : Nat} (h1 : tr = 1) (h2 : badN a.1 d ≠ 1) : outA a st d tr since = (outG a.1 d, a.2.1, sT a.2.2 st (closeR (u1 (a.2.2 st) 9 (a.2.2 st 9 + badN a.1 d)))) := by
  unfold outA outR; rw [if_pos h1, if_neg h2]
theorem out_win {a : AA} {st d tr since : Nat} (h1 : tr ≠ 1) (h2 : a.2.2 st 2 = 0) (h3 : a.2.2 st 11 = since) : outA a st d tr since = (outG a.1 d, a.2.1, sT a.2.2 st (winR a.1 (noteR (badN a.1 d) (u1 (a.2.2 st) 9 (a.2.2 st 9 + badN a.1 d))))) := by
  unfold outA outR; rw [if_neg h1, if_pos ⟨h2, h3⟩]
theorem out_no {a : AA} {st d tr since : Nat} (h1 : tr ≠ 1) (h2 : ¬ (a.2.2 st 2 = 0 ∧ a.2.2 st 11 = since)) : outA a st d tr since = (outG a.1 d, a.2.1, sT a.2.2 st (u1 (a.2.2 st) 9 (a.2.2 st 9 + badN a.1 d))) := by
  unfold outA outR; rw [if_neg h1, if_neg h2]
section MODEL3
variable {G : GG} {K : Nat → Option (Nat × Nat)} {R : Nat → Nat → Value} {I : Nat → Nat → Int32} {J : Nat → Nat → Int64} {z : Nat} {σ : Sg} {a : AA} {m k : Nat}
theorem r_ofv {v : Nat} (hL : LM G K R) (hM : RM (I 141) a) {st w : Nat} (hst : st < 4) (hw : w < 32) (hv : a.2.2 st w = v) : Run G YX4_of [.ref (G.1 140), .int (nI st), .int (nI w)] (K, R, I, J, z) (Rd (K, R, I, J, z) (.int (nI v))) := by
  subst hv; exact r_of hL hM hst hw
theorem r_inWindowv {v : Nat} (hL : LM G K R) (hM : RM (I 141) a) {st b : Nat} (hst : st < 4) (hg : SK a.1) (ht : RK b (a.2.2 st)) (hv : inWinR a.1 (a.2.2 st) = v) : Run G YX4_inWindow [.ref (G.1 140), .int (nI st)] (K, R, I, J, z) (Rd (K, R, I, J, z) (.int (nI v))) := by
  subst hv; exact r_inWindow hL hM hst hg ht
theorem r_badInWindowv {v : Nat} (hL : LM G K R) (hM : RM (I 141) a) {st b : Nat} (hst : st < 4) (hg : SK a.1) (ht : RK b (a.2.2 st)) (hv : badWinR a.1 (a.2.2 st) = v) : Run G YX4_badInWindow [.ref (G.1 140), .int (nI st)] (K, R, I, J, z) (Rd (K, R, I, J, z) (.int (nI v))) := by
  subst hv; exact r_badInWindow hL hM hst hg ht
theorem cO_no {f : Nat → Int32} {st d tr since e : Nat} (he : e = badN a.1 d) (h1 : tr ≠ 1) (h2 : ¬ (a.2.2 st 2 = 0 ∧ a.2.2 st 11 = since)) (h : RM f (outG a.1 d, a.2.1, sT a.2.2 st (u1 (a.2.2 st) 9 (a.2.2 st 9 + e)))) : RM f (outA a st d tr since) := by
  rw [out_no h1 h2, ← he]; exact h
theorem cO_cut {f : Nat → Int32} {st d tr since e n : Nat} (he : e = badN a.1 d) (h1 : tr = 1) (h2 : e = 1) (hn : 2 * a.2.2 st 6 < a.1 4 ∧ n = 2 * a.2.2 st 6 ∨ a.1 4 ≤ 2 * a.2.2 st 6 ∧ n = a.1 4) (h : RM f (outG a.1 d, a.2.1, sT (sT a.2.2 st (u1 (a.2.2 st) 9 (a.2.2 st 9 + e))) st (cutR n (sT a.2.2 st (u1 (a.2.2 st) 9 (a.2.2 st 9 + e)) st)))) : RM f (outA a st d tr since) := by
  rw [out_cut h1 (he ▸ h2), ← he, show min (2 * a.2.2 st 6) (a.1 4) = n by omega]
  rw [sT_sT, sT_s] at h; exact h
theorem cO_close {f : Nat → Int32} {st d tr since e : Nat} (he : e = badN a.1 d) (he1 : e ≤ 1) (h1 : tr = 1) (h2 : e = 0) (h : RM f (outG a.1 d, a.2.1, sT (sT a.2.2 st (u1 (a.2.2 st) 9 (a.2.2 st 9 + e))) st (closeR (sT a.2.2 st (u1 (a.2.2 st) 9 (a.2.2 st 9 + e)) st)))) : RM f (outA a st d tr since) := by
  rw [out_close h1 (by omega), ← he]
  rw [sT_sT, sT_s] at h; exact h
theorem cO_w1 {f : Nat → Int32} {st d tr since e n : Nat} (he : e = badN a.1 d) (h1 : tr ≠ 1) (h2 : a.2.2 st 2 = 0) (h3 : a.2.2 st 11 = since) (hw : inWinR a.1 (noteR e (u1 (a.2.2 st) 9 (a.2.2 st 9 + e))) = a.1 1) (hb : a.1 2 ≤ badWinR a.1 (noteR e (u1 (a.2.2 st) 9 (a.2.2 st 9 + e)))) (hn : n = a.1 3)
    (h : RM f (outG a.1 d, a.2.1, sT (sT a.2.2 st (noteR e (u1 (a.2.2 st) 9 (a.2.2 st 9 + e)))) st (cutR n (sT a.2.2 st (noteR e (u1 (a.2.2 st) 9 (a.2.2 st 9 + e))) st)))) : RM f (outA a st d tr since) := by
  rw [out_win h1 h2 h3, ← he, winR, if_pos ⟨hw, hb⟩]
  rw [sT_sT, sT_s, hn] at h; exact h
theorem cO_w2 {f : Nat → Int32} {st d tr since e : Nat} (he : e = badN a.1 d) (h1 : tr ≠ 1) (h2 : a.2.2 st 2 = 0) (h3 : a.2.2 st 11 = since) (hn : ¬ (inWinR a.1 (noteR e (u1 (a.2.2 st) 9 (a.2.2 st 9 + e))) = a.1 1 ∧ a.1 2 ≤ badWinR a.1 (noteR e (u1 (a.2.2 st) 9 (a.2.2 st 9 + e)))))
    (h : RM f (outG a.1 d, a.2.1, sT a.2.2 st (noteR e (u1 (a.2.2 st) 9 (a.2.2 st 9 + e))))) : RM f (outA a st d tr since) := by
  rw [out_win h1 h2 h3, ← he, winR, if_neg hn]
  exact h
theorem ldX4_59 : Cond.constant RX4 59 65535 ∈ gT := gT_ix 787 (by decide +kernel) rfl
theorem r_comesOut (hL : LM G K R) (hM : RM (I 141) a) (h16 : a.2.1.length ≤ 16) {st d tr since b : Nat} (hst : st < 4) (hg : SK a.1) (ht : RK b (a.2.2 st)) (hd : d ≤ 99) (htr : tr ≤ 1) (hs : since ≤ 1000000000) (hb : b ≤ 1000000000) : Run G YX4_comesOut [.ref (G.1 140), .int (nI st), .int (nI d), .int (nI tr), .int (nI since)] (K, R, I, J, z) (Up K R J z none (fun I' => RM (I' 141) (outA a st d tr since) ∧ FrO 141 I I')) := by
  obtain ⟨hk0, hr1, hk1, hr2, hk2, hr3, hk3, hr5, hk5, hr9, hk9⟩ := hL
  have hL : LM G K R := ⟨hk0, hr1, hk1, hr2, hk2, hr3, hk3, hr5, hk5, hr9, hk9⟩
  obtain ⟨e, he⟩ : ∃ e, e = badN a.1 d := ⟨_, rfl⟩
  have he1 : e ≤ 1 := by rw [he]; exact badN_le _ _
  have h6 : a.2.2 st 6 ≤ 999 := ht.2.2.2.2.2.2.2.2.1
  have h4 : a.2.2 st 4 ≤ 16 := ht.2.2.2.2.2.1
  have h3 : a.2.2 st 3 < 65536 := Nat.lt_of_lt_of_le ht.2.2.2.2.1 (p2_16 h4)
  have h11 : a.2.2 st 11 ≤ b := ht.2.2.2.2.2.2.2.2.2.2.2.1
  have h2 : a.2.2 st 2 ≤ 2 := ht.2.2.2.1
  have hg4 : a.1 4 ≤ 999 := hg.2.2.2.2.2
  have hg1 : a.1 1 ≤ 16 := hg.2.1.2
  have hg2 : a.1 2 ≤ 16 := hg.2.2.1.2
  have hg0 : a.1 0 ≤ 99 := hg.1.2
  have key : AW G YX4_comesOut (MZ G YX4_comesOut (Up K R J z none (fun I' => RM (I' 141) (outA a st d tr since) ∧ FrO 141 I I'))) 19 [(0, .ref (G.1 140)), (1, .int (nI st)), (2, .int (nI d)), (3, .int (nI tr)), (4, .int (nI since))] [.int (nI e)] (K, R, I, J, z) 0 0 := by
    refine aw_istore (ls' := [(5, _), (0, _), (1, _), (2, _), (3, _), (4, _)]) dX4_comesOut_19 (by decide) rfl ?_
    refine aw_aload_n dX4_comesOut_21 rfl ?_
    refine aw_getR dX4_comesOut_22 flX4_7 rfl (by assumption) (by assumption) ?_
    refine aw_bipush (v := nI 6) dX4_comesOut_25 rfl ?_
    refine aw_dup2 dX4_comesOut_27 rfl rfl ?_
    refine aw_iald dX4_comesOut_28 (by assumption) (by omega) rfl (by omega) (hM.1 6 (by decide)) ?_
    refine aw_iload dX4_comesOut_29 rfl ?_
    refine aw_dia (tgt := 38) (jn := 39) (c1 := 1) (c0 := 0) dX4_comesOut_31 (by decide) dX4_comesOut_34 rfl dX4_comesOut_35 (by decide) dX4_comesOut_38 rfl rfl (by omega) (by rcases (show e = 0 ∨ e = 1 by omega) with h | h <;> rw [h] <;> rfl : nI (if e = 0 then 0 else 1) = nI e) ?_
    first | refine aw_iaddN dX4_comesOut_39 ?_ | refine aw_iadd dX4_comesOut_39 ?_
    refine aw_iast dX4_comesOut_40 (by assumption) (by omega) (by omega) rfl (by omega) ?_
    have hM1 : RM (up2 I 141 6 (nI (a.1 6 + e)) 141) (u1 a.1 6 (a.1 6 + e), a.2.1, a.2.2) := RM_g hM (by decide) (fun j => up2_o)
    have hF1 : FrO 141 I (up2 I 141 6 (nI (a.1 6 + e))) := FrO.up
    generalize up2 I 141 6 (nI (a.1 6 + e)) = I1 at hM1 hF1 ⊢
    refine aw_aload_n dX4_comesOut_41 rfl ?_
    refine aw_getR dX4_comesOut_42 flX4_7 rfl (by assumption) (by assumption) ?_
    refine aw_bipush (v := nI 7) dX4_comesOut_45 rfl ?_
    refine aw_dup2 dX4_comesOut_47 rfl rfl ?_
    refine aw_iald dX4_comesOut_48 (by assumption) (by omega) rfl (by omega) (show _ = nI (a.1 7) from hM1.1 7 (by decide)) ?_
    refine aw_iload dX4_comesOut_49 rfl ?_
    refine aw_dia (tgt := 58) (jn := 59) (c1 := 0) (c0 := 1) dX4_comesOut_51 (by decide) dX4_comesOut_54 rfl dX4_comesOut_55 (by decide) dX4_comesOut_58 rfl rfl (by omega) (by rcases (show e = 0 ∨ e = 1 by omega) with h | h <;> rw [h] <;> rfl : nI (if e = 0 then 1 else 0) = nI (1 - e)) ?_
    first | refine aw_iaddN dX4_comesOut_59 ?_ | refine aw_iadd dX4_comesOut_59 ?_
    refine aw_iast dX4_comesOut_60 (by assumption) (by omega) (by omega) rfl (by omega) ?_
    have hM2 : RM (up2 I1 141 7 (nI (a.1 7 + (1 - e))) 141) (outG a.1 d, a.2.1, a.2.2) := by
      have := RM_g (f' := up2 I1 141 7 (nI (a.1 7 + (1 - e))) 141) hM1 (k := 7) (v := a.1 7 + (1 - e)) (by decide) (fun j => up2_o)
      rw [he] at this ⊢
      exact this
    have hF2 : FrO 141 I (up2 I1 141 7 (nI (a.1 7 + (1 - e)))) := hF1.tr FrO.up
    generalize up2 I1 141 7 (nI (a.1 7 + (1 - e))) = I2 at hM2 hF2 ⊢
    refine aw_aload_n dX4_comesOut_61 rfl ?_
    refine aw_iload_n dX4_comesOut_62 rfl ?_
    refine aw_bipush (v := nI 9) dX4_comesOut_63 rfl ?_
    refine aw_aload_n dX4_comesOut_65 rfl ?_
    refine aw_iload_n dX4_comesOut_66 rfl ?_
    refine aw_bipush (v := nI 9) dX4_comesOut_67 rfl ?_
    refine aw_vRd dX4_comesOut_69 cvX4_40 ⟨Nat.le_of_ble_eq_true rfl, Nat.le_of_ble_eq_true rfl⟩ (by assumption) ⟨_, rfl, rfl⟩ (r_ofv (w := 9) (v := a.2.2 st 9) hL hM2 hst (by decide) rfl) rfl rfl (Nat.le_of_ble_eq_true rfl) ⟨rfl, rfl⟩ ⟨Nat.zero_le _, Nat.zero_le _⟩ ?_
    refine aw_iload dX4_comesOut_72 rfl ?_
    refine aw_dia (tgt := 81) (jn := 82) (c1 := 1) (c0 := 0) dX4_comesOut_74 (by decide) dX4_comesOut_77 rfl dX4_comesOut_78 (by decide) dX4_comesOut_81 rfl rfl (by omega) (by rcases (show e = 0 ∨ e = 1 by omega) with h | h <;> rw [h] <;> rfl : nI (if e = 0 then 0 else 1) = nI e) ?_
    first | refine aw_iaddN dX4_comesOut_82 ?_ | refine aw_iadd dX4_comesOut_82 ?_
    refine aw_vUp0 dX4_comesOut_83 cvX4_29 ⟨Nat.le_of_ble_eq_true rfl, Nat.le_of_ble_eq_true rfl⟩ (by assumption) ⟨_, rfl, rfl⟩ (r_lay (w := 9) hL hM2 h16 hst (by decide)) rfl rfl (Nat.le_of_ble_eq_true rfl) ⟨rfl, rfl⟩ ⟨Nat.zero_le _, Nat.zero_le _⟩ (fun I83 hP83 => ?_)
    have hM3 : RM (I83 141) (outG a.1 d, a.2.1, sT a.2.2 st (u1 (a.2.2 st) 9 (a.2.2 st 9 + e))) := hP83.1
    have hF3 : FrO 141 I I83 := hF2.tr hP83.2
    refine aw_iload_n dX4_comesOut_86 rfl ?_
    refine aw_if_eqN (tgt := 136) dX4_comesOut_87 (by decide) (by omega) (fun hc87 => ?_) (fun hc87 => ?_)
    · refine aw_iload_n dX4_comesOut_136 rfl ?_
      refine aw_if_eqN (tgt := 148) dX4_comesOut_137 (by decide) (by omega) (fun hc137 => ?_) (fun hc137 => ?_)
      · refine aw_aload_n dX4_comesOut_148 rfl ?_
        refine aw_iload_n dX4_comesOut_149 rfl ?_
        refine aw_iconst (v := nI 2) dX4_comesOut_150 rfl ?_
        refine aw_vRd dX4_comesOut_151 cvX4_40 ⟨Nat.le_of_ble_eq_true rfl, Nat.le_of_ble_eq_true rfl⟩ (by assumption) ⟨_, rfl, rfl⟩ (r_ofv (w := 2) (v := a.2.2 st 2) hL hP83.1 hst (by decide) (by simp [sT_s, u1])) rfl rfl (Nat.le_of_ble_eq_true rfl) ⟨rfl, rfl⟩ ⟨Nat.zero_le _, Nat.zero_le _⟩ ?_
        refine aw_if_neN (tgt := 266) dX4_comesOut_154 (by decide) (by omega) (fun hc154 => ?_) (fun hc154 => ?_)
        · refine aw_vret dX4_comesOut_266 rfl (Nat.zero_le _) (Nat.zero_le _) ?_
          first
          | exact ⟨rfl, I130, rfl, cO_cut he (by omega) (by omega) (by omega) hP130.1, hF3.tr hP130.2⟩
          | exact ⟨rfl, I142, rfl, cO_close he he1 (by omega) (by omega) hP142.1, hF3.tr hP142.2⟩
          | exact ⟨rfl, I263, rfl, cO_w1 he (by omega) (by omega) (by omega) hc238 hc252 rfl hP263.1, hF4.tr hP263.2⟩
          | exact ⟨rfl, I224, rfl, cO_w2 he (by omega) (by omega) (by omega) (fun q => by have := q.2; omega) hM4, hF4⟩
          | exact ⟨rfl, I224, rfl, cO_w2 he (by omega) (by omega) (by omega) (fun q => hc238 q.1) hM4, hF4⟩
          | exact ⟨rfl, I83, rfl, cO_no he (by omega) (fun q => by omega) hM3, hF3⟩
        · refine aw_aload_n dX4_comesOut_157 rfl ?_
          refine aw_iload_n dX4_comesOut_158 rfl ?_
          refine aw_bipush (v := nI 11) dX4_comesOut_159 rfl ?_
          refine aw_vRd dX4_comesOut_161 cvX4_40 ⟨Nat.le_of_ble_eq_true rfl, Nat.le_of_ble_eq_true rfl⟩ (by assumption) ⟨_, rfl, rfl⟩ (r_ofv (w := 11) (v := a.2.2 st 11) hL hP83.1 hst (by decide) (by simp [sT_s, u1])) rfl rfl (Nat.le_of_ble_eq_true rfl) ⟨rfl, rfl⟩ ⟨Nat.zero_le _, Nat.zero_le _⟩ ?_
          refine aw_iload dX4_comesOut_164 rfl ?_
          refine aw_icmp_neN (tgt := 266) dX4_comesOut_166 (by decide) (by omega) (by omega) (fun hc166 => ?_) (fun hc166 => ?_)
          · refine aw_vret dX4_comesOut_266 rfl (Nat.zero_le _) (Nat.zero_le _) ?_
            first
            | exact ⟨rfl, I130, rfl, cO_cut he (by omega) (by omega) (by omega) hP130.1, hF3.tr hP130.2⟩
            | exact ⟨rfl, I142, rfl, cO_close he he1 (by omega) (by omega) hP142.1, hF3.tr hP142.2⟩
            | exact ⟨rfl, I263, rfl, cO_w1 he (by omega) (by omega) (by omega) hc238 hc252 rfl hP263.1, hF4.tr hP263.2⟩
            | exact ⟨rfl, I224, rfl, cO_w2 he (by omega) (by omega) (by omega) (fun q => by have := q.2; omega) hM4, hF4⟩
            | exact ⟨rfl, I224, rfl, cO_w2 he (by omega) (by omega) (by omega) (fun q => hc238 q.1) hM4, hF4⟩
            | exact ⟨rfl, I83, rfl, cO_no he (by omega) (fun q => by omega) hM3, hF3⟩
          · refine aw_aload_n dX4_comesOut_169 rfl ?_
            refine aw_iload_n dX4_comesOut_170 rfl ?_
            refine aw_iconst (v := nI 3) dX4_comesOut_171 rfl ?_
            refine aw_aload_n dX4_comesOut_172 rfl ?_
            refine aw_iload_n dX4_comesOut_173 rfl ?_
            refine aw_iconst (v := nI 3) dX4_comesOut_174 rfl ?_
            refine aw_vRd dX4_comesOut_175 cvX4_40 ⟨Nat.le_of_ble_eq_true rfl, Nat.le_of_ble_eq_true rfl⟩ (by assumption) ⟨_, rfl, rfl⟩ (r_ofv (w := 3) (v := a.2.2 st 3) hL hP83.1 hst (by decide) (by simp [sT_s, u1])) rfl rfl (Nat.le_of_ble_eq_true rfl) ⟨rfl, rfl⟩ ⟨Nat.zero_le _, Nat.zero_le _⟩ ?_
            refine aw_iconst (v := nI 1) dX4_comesOut_178 rfl ?_
            refine aw_ishl dX4_comesOut_179 ?_
            refine aw_iload dX4_comesOut_180 rfl ?_
            refine aw_dia (tgt := 189) (jn := 190) (c1 := 1) (c0 := 0) dX4_comesOut_182 (by decide) dX4_comesOut_185 rfl dX4_comesOut_186 (by decide) dX4_comesOut_189 rfl rfl (by omega) (by rcases (show e = 0 ∨ e = 1 by omega) with h | h <;> rw [h] <;> rfl : nI (if e = 0 then 0 else 1) = nI e) ?_
            refine aw_ior dX4_comesOut_190 ?_
            refine aw_ldc dX4_comesOut_191 (v := 65535) ldX4_59 ?_
            refine aw_iand dX4_comesOut_193 ?_
            refine aw_top (note_nI h3 he1) ?_
            refine aw_vUp0 dX4_comesOut_194 cvX4_29 ⟨Nat.le_of_ble_eq_true rfl, Nat.le_of_ble_eq_true rfl⟩ (by assumption) ⟨_, rfl, rfl⟩ (r_lay (w := 3) (v := (2 * a.2.2 st 3 + e) % 65536) hL hM3 h16 hst (by decide)) rfl rfl (Nat.le_of_ble_eq_true rfl) ⟨rfl, rfl⟩ ⟨Nat.zero_le _, Nat.zero_le _⟩ (fun I194 hP194 => ?_)
            refine aw_aload_n dX4_comesOut_197 rfl ?_
            refine aw_iload_n dX4_comesOut_198 rfl ?_
            refine aw_iconst (v := nI 4) dX4_comesOut_199 rfl ?_
            refine aw_aload_n dX4_comesOut_200 rfl ?_
            refine aw_iload_n dX4_comesOut_201 rfl ?_
            refine aw_iconst (v := nI 4) dX4_comesOut_202 rfl ?_
            refine aw_vRd dX4_comesOut_203 cvX4_40 ⟨Nat.le_of_ble_eq_true rfl, Nat.le_of_ble_eq_true rfl⟩ (by assumption) ⟨_, rfl, rfl⟩ (r_ofv (w := 4) (v := a.2.2 st 4) hL hP194.1 hst (by decide) (by simp [sT_s, u1])) rfl rfl (Nat.le_of_ble_eq_true rfl) ⟨rfl, rfl⟩ ⟨Nat.zero_le _, Nat.zero_le _⟩ ?_
            refine aw_bipush (v := nI 16) dX4_comesOut_206 rfl ?_
            refine aw_icmp_geN (tgt := 222) dX4_comesOut_208 (by decide) (by omega) (by omega) (fun hc208 => ?_) (fun hc208 => ?_)
            · refine aw_bipush (v := nI 16) dX4_comesOut_222 rfl ?_
              refine aw_vUp0 dX4_comesOut_224 cvX4_29 ⟨Nat.le_of_ble_eq_true rfl, Nat.le_of_ble_eq_true rfl⟩ (by assumption) ⟨_, rfl, rfl⟩ (r_lay (w := 4) hL hP194.1 h16 hst (by decide)) rfl rfl (Nat.le_of_ble_eq_true rfl) ⟨rfl, rfl⟩ ⟨Nat.zero_le _, Nat.zero_le _⟩ (fun I224 hP224 => ?_)
              have hM4 : RM (I224 141) (outG a.1 d, a.2.1, sT a.2.2 st (noteR e (u1 (a.2.2 st) 9 (a.2.2 st 9 + e)))) := by
                have h := hP224.1
                simp only [sT_sT, sT_s] at h
                rw [← noteR_eq]
                first
                | (rw [show min (u1 (a.2.2 st) 9 (a.2.2 st 9 + e) 4 + 1) 16 = 16 from Nat.min_eq_right (by show 16 ≤ a.2.2 st 4 + 1; omega)]; exact h)
                | (rw [show min (u1 (a.2.2 st) 9 (a.2.2 st 9 + e) 4 + 1) 16 = a.2.2 st 4 + 1 from Nat.min_eq_left (by show a.2.2 st 4 + 1 ≤ 16; omega)]; exact h)
              have hF4 : FrO 141 I I224 := hF3.tr (hP194.2.tr hP224.2)
              have hg9 : SK (outG a.1 d) := hg.out
              have ht4 : RK b (sT a.2.2 st (noteR e (u1 (a.2.2 st) 9 (a.2.2 st 9 + e))) st) := by
                rw [sT_s]; exact RK.note ht.u9 he1 (by show a.2.2 st 2 = 0; omega)
              have hiw : inWinR a.1 (noteR e (u1 (a.2.2 st) 9 (a.2.2 st 9 + e))) ≤ 16 := by
                unfold inWinR; split
                · omega
                · omega
              have hbw : badWinR a.1 (noteR e (u1 (a.2.2 st) 9 (a.2.2 st 9 + e))) ≤ 16 := Nat.le_trans (bits_le _ _) hiw
              refine aw_aload_n dX4_comesOut_227 rfl ?_
              refine aw_iload_n dX4_comesOut_228 rfl ?_
              refine aw_vRd dX4_comesOut_229 cvX4_44 ⟨Nat.le_of_ble_eq_true rfl, Nat.le_of_ble_eq_true rfl⟩ (by assumption) ⟨_, rfl, rfl⟩ (r_inWindowv (v := inWinR a.1 (noteR e (u1 (a.2.2 st) 9 (a.2.2 st 9 + e)))) hL hM4 hst hg9 ht4 (show inWinR (outG a.1 d) (sT a.2.2 st (noteR e (u1 (a.2.2 st) 9 (a.2.2 st 9 + e))) st) = _ from by rw [sT_s]; rfl)) rfl rfl (Nat.le_of_ble_eq_true rfl) ⟨rfl, rfl⟩ ⟨Nat.zero_le _, Nat.zero_le _⟩ ?_
              refine aw_aload_n dX4_comesOut_232 rfl ?_
              refine aw_getR dX4_comesOut_233 flX4_7 rfl (by assumption) (by assumption) ?_
              refine aw_iconst (v := nI 1) dX4_comesOut_236 rfl ?_
              refine aw_iald dX4_comesOut_237 (by assumption) (by omega) rfl (by omega) (show _ = nI (a.1 1) from hM4.1 1 (by decide)) ?_
              refine aw_icmp_neN (tgt := 266) dX4_comesOut_238 (by decide) (by omega) (by omega) (fun hc238 => ?_) (fun hc238 => ?_)
              · refine aw_vret dX4_comesOut_266 rfl (Nat.zero_le _) (Nat.zero_le _) ?_
                first
                | exact ⟨rfl, I130, rfl, cO_cut he (by omega) (by omega) (by omega) hP130.1, hF3.tr hP130.2⟩
                | exact ⟨rfl, I142, rfl, cO_close he he1 (by omega) (by omega) hP142.1, hF3.tr hP142.2⟩
                | exact ⟨rfl, I263, rfl, cO_w1 he (by omega) (by omega) (by omega) hc238 hc252 rfl hP263.1, hF4.tr hP263.2⟩
                | exact ⟨rfl, I224, rfl, cO_w2 he (by omega) (by omega) (by omega) (fun q => by have := q.2; omega) hM4, hF4⟩
                | exact ⟨rfl, I224, rfl, cO_w2 he (by omega) (by omega) (by omega) (fun q => hc238 q.1) hM4, hF4⟩
                | exact ⟨rfl, I83, rfl, cO_no he (by omega) (fun q => by omega) hM3, hF3⟩
              · refine aw_aload_n dX4_comesOut_241 rfl ?_
                refine aw_iload_n dX4_comesOut_242 rfl ?_
                refine aw_vRd dX4_comesOut_243 cvX4_60 ⟨Nat.le_of_ble_eq_true rfl, Nat.le_of_ble_eq_true rfl⟩ (by assumption) ⟨_, rfl, rfl⟩ (r_badInWindowv (v := badWinR a.1 (noteR e (u1 (a.2.2 st) 9 (a.2.2 st 9 + e)))) hL hM4 hst hg9 ht4 (show badWinR (outG a.1 d) (sT a.2.2 st (noteR e (u1 (a.2.2 st) 9 (a.2.2 st 9 + e))) st) = _ from by rw [sT_s]; rfl)) rfl rfl (Nat.le_of_ble_eq_true rfl) ⟨rfl, rfl⟩ ⟨Nat.zero_le _, Nat.zero_le _⟩ ?_
                refine aw_aload_n dX4_comesOut_246 rfl ?_
                refine aw_getR dX4_comesOut_247 flX4_7 rfl (by assumption) (by assumption) ?_
                refine aw_iconst (v := nI 2) dX4_comesOut_250 rfl ?_
                refine aw_iald dX4_comesOut_251 (by assumption) (by omega) rfl (by omega) (show _ = nI (a.1 2) from hM4.1 2 (by decide)) ?_
                refine aw_icmp_ltN (tgt := 266) dX4_comesOut_252 (by decide) (by omega) (by omega) (fun hc252 => ?_) (fun hc252 => ?_)
                · refine aw_vret dX4_comesOut_266 rfl (Nat.zero_le _) (Nat.zero_le _) ?_
                  first
                  | exact ⟨rfl, I130, rfl, cO_cut he (by omega) (by omega) (by omega) hP130.1, hF3.tr hP130.2⟩
                  | exact ⟨rfl, I142, rfl, cO_close he he1 (by omega) (by omega) hP142.1, hF3.tr hP142.2⟩
                  | exact ⟨rfl, I263, rfl, cO_w1 he (by omega) (by omega) (by omega) hc238 hc252 rfl hP263.1, hF4.tr hP263.2⟩
                  | exact ⟨rfl, I224, rfl, cO_w2 he (by omega) (by omega) (by omega) (fun q => by have := q.2; omega) hM4, hF4⟩
                  | exact ⟨rfl, I224, rfl, cO_w2 he (by omega) (by omega) (by omega) (fun q => hc238 q.1) hM4, hF4⟩
                  | exact ⟨rfl, I83, rfl, cO_no he (by omega) (fun q => by omega) hM3, hF3⟩
                · refine aw_aload_n dX4_comesOut_255 rfl ?_
                  refine aw_iload_n dX4_comesOut_256 rfl ?_
                  refine aw_aload_n dX4_comesOut_257 rfl ?_
                  refine aw_getR dX4_comesOut_258 flX4_7 rfl (by assumption) (by assumption) ?_
                  refine aw_iconst (v := nI 3) dX4_comesOut_261 rfl ?_
                  refine aw_iald dX4_comesOut_262 (by assumption) (by omega) rfl (by omega) (show _ = nI (a.1 3) from hM4.1 3 (by decide)) ?_
                  refine aw_vUp0 dX4_comesOut_263 cvX4_52 ⟨Nat.le_of_ble_eq_true rfl, Nat.le_of_ble_eq_true rfl⟩ (by assumption) ⟨_, rfl, rfl⟩ (r_cutsOff hL hM4 h16 hst) rfl rfl (Nat.le_of_ble_eq_true rfl) ⟨rfl, rfl⟩ ⟨Nat.zero_le _, Nat.zero_le _⟩ (fun I263 hP263 => ?_)
                  refine aw_vret dX4_comesOut_266 rfl (Nat.zero_le _) (Nat.zero_le _) ?_
                  first
                  | exact ⟨rfl, I130, rfl, cO_cut he (by omega) (by omega) (by omega) hP130.1, hF3.tr hP130.2⟩
                  | exact ⟨rfl, I142, rfl, cO_close he he1 (by omega) (by omega) hP142.1, hF3.tr hP142.2⟩
                  | exact ⟨rfl, I263, rfl, cO_w1 he (by omega) (by omega) (by omega) hc238 hc252 rfl hP263.1, hF4.tr hP263.2⟩
                  | exact ⟨rfl, I224, rfl, cO_w2 he (by omega) (by omega) (by omega) (fun q => by have := q.2; omega) hM4, hF4⟩
                  | exact ⟨rfl, I224, rfl, cO_w2 he (by omega) (by omega) (by omega) (fun q => hc238 q.1) hM4, hF4⟩
                  | exact ⟨rfl, I83, rfl, cO_no he (by omega) (fun q => by omega) hM3, hF3⟩
            · refine aw_aload_n dX4_comesOut_211 rfl ?_
              refine aw_iload_n dX4_comesOut_212 rfl ?_
              refine aw_iconst (v := nI 4) dX4_comesOut_213 rfl ?_
              refine aw_vRd dX4_comesOut_214 cvX4_40 ⟨Nat.le_of_ble_eq_true rfl, Nat.le_of_ble_eq_true rfl⟩ (by assumption) ⟨_, rfl, rfl⟩ (r_ofv (w := 4) (v := a.2.2 st 4) hL hP194.1 hst (by decide) (by simp [sT_s, u1])) rfl rfl (Nat.le_of_ble_eq_true rfl) ⟨rfl, rfl⟩ ⟨Nat.zero_le _, Nat.zero_le _⟩ ?_
              refine aw_iconst (v := nI 1) dX4_comesOut_217 rfl ?_
              first | refine aw_iaddN dX4_comesOut_218 ?_ | refine aw_iadd dX4_comesOut_218 ?_
              refine aw_goto (tgt := 224) dX4_comesOut_219 (by decide) ?_
              refine aw_vUp0 dX4_comesOut_224 cvX4_29 ⟨Nat.le_of_ble_eq_true rfl, Nat.le_of_ble_eq_true rfl⟩ (by assumption) ⟨_, rfl, rfl⟩ (r_lay (w := 4) hL hP194.1 h16 hst (by decide)) rfl rfl (Nat.le_of_ble_eq_true rfl) ⟨rfl, rfl⟩ ⟨Nat.zero_le _, Nat.zero_le _⟩ (fun I224 hP224 => ?_)
              have hM4 : RM (I224 141) (outG a.1 d, a.2.1, sT a.2.2 st (noteR e (u1 (a.2.2 st) 9 (a.2.2 st 9 + e)))) := by
                have h := hP224.1
                simp only [sT_sT, sT_s] at h
                rw [← noteR_eq]
                first
                | (rw [show min (u1 (a.2.2 st) 9 (a.2.2 st 9 + e) 4 + 1) 16 = 16 from Nat.min_eq_right (by show 16 ≤ a.2.2 st 4 + 1; omega)]; exact h)
                | (rw [show min (u1 (a.2.2 st) 9 (a.2.2 st 9 + e) 4 + 1) 16 = a.2.2 st 4 + 1 from Nat.min_eq_left (by show a.2.2 st 4 + 1 ≤ 16; omega)]; exact h)
              have hF4 : FrO 141 I I224 := hF3.tr (hP194.2.tr hP224.2)
              have hg9 : SK (outG a.1 d) := hg.out
              have ht4 : RK b (sT a.2.2 st (noteR e (u1 (a.2.2 st) 9 (a.2.2 st 9 + e))) st) := by
                rw [sT_s]; exact RK.note ht.u9 he1 (by show a.2.2 st 2 = 0; omega)
              have hiw : inWinR a.1 (noteR e (u1 (a.2.2 st) 9 (a.2.2 st 9 + e))) ≤ 16 := by
                unfold inWinR; split
                · omega
                · omega
              have hbw : badWinR a.1 (noteR e (u1 (a.2.2 st) 9 (a.2.2 st 9 + e))) ≤ 16 := Nat.le_trans (bits_le _ _) hiw
              refine aw_aload_n dX4_comesOut_227 rfl ?_
              refine aw_iload_n dX4_comesOut_228 rfl ?_
              refine aw_vRd dX4_comesOut_229 cvX4_44 ⟨Nat.le_of_ble_eq_true rfl, Nat.le_of_ble_eq_true rfl⟩ (by assumption) ⟨_, rfl, rfl⟩ (r_inWindowv (v := inWinR a.1 (noteR e (u1 (a.2.2 st) 9 (a.2.2 st 9 + e)))) hL hM4 hst hg9 ht4 (show inWinR (outG a.1 d) (sT a.2.2 st (noteR e (u1 (a.2.2 st) 9 (a.2.2 st 9 + e))) st) = _ from by rw [sT_s]; rfl)) rfl rfl (Nat.le_of_ble_eq_true rfl) ⟨rfl, rfl⟩ ⟨Nat.zero_le _, Nat.zero_le _⟩ ?_
              refine aw_aload_n dX4_comesOut_232 rfl ?_
              refine aw_getR dX4_comesOut_233 flX4_7 rfl (by assumption) (by assumption) ?_
              refine aw_iconst (v := nI 1) dX4_comesOut_236 rfl ?_
              refine aw_iald dX4_comesOut_237 (by assumption) (by omega) rfl (by omega) (show _ = nI (a.1 1) from hM4.1 1 (by decide)) ?_
              refine aw_icmp_neN (tgt := 266) dX4_comesOut_238 (by decide) (by omega) (by omega) (fun hc238 => ?_) (fun hc238 => ?_)
              · refine aw_vret dX4_comesOut_266 rfl (Nat.zero_le _) (Nat.zero_le _) ?_
                first
                | exact ⟨rfl, I130, rfl, cO_cut he (by omega) (by omega) (by omega) hP130.1, hF3.tr hP130.2⟩
                | exact ⟨rfl, I142, rfl, cO_close he he1 (by omega) (by omega) hP142.1, hF3.tr hP142.2⟩
                | exact ⟨rfl, I263, rfl, cO_w1 he (by omega) (by omega) (by omega) hc238 hc252 rfl hP263.1, hF4.tr hP263.2⟩
                | exact ⟨rfl, I224, rfl, cO_w2 he (by omega) (by omega) (by omega) (fun q => by have := q.2; omega) hM4, hF4⟩
                | exact ⟨rfl, I224, rfl, cO_w2 he (by omega) (by omega) (by omega) (fun q => hc238 q.1) hM4, hF4⟩
                | exact ⟨rfl, I83, rfl, cO_no he (by omega) (fun q => by omega) hM3, hF3⟩
              · refine aw_aload_n dX4_comesOut_241 rfl ?_
                refine aw_iload_n dX4_comesOut_242 rfl ?_
                refine aw_vRd dX4_comesOut_243 cvX4_60 ⟨Nat.le_of_ble_eq_true rfl, Nat.le_of_ble_eq_true rfl⟩ (by assumption) ⟨_, rfl, rfl⟩ (r_badInWindowv (v := badWinR a.1 (noteR e (u1 (a.2.2 st) 9 (a.2.2 st 9 + e)))) hL hM4 hst hg9 ht4 (show badWinR (outG a.1 d) (sT a.2.2 st (noteR e (u1 (a.2.2 st) 9 (a.2.2 st 9 + e))) st) = _ from by rw [sT_s]; rfl)) rfl rfl (Nat.le_of_ble_eq_true rfl) ⟨rfl, rfl⟩ ⟨Nat.zero_le _, Nat.zero_le _⟩ ?_
                refine aw_aload_n dX4_comesOut_246 rfl ?_
                refine aw_getR dX4_comesOut_247 flX4_7 rfl (by assumption) (by assumption) ?_
                refine aw_iconst (v := nI 2) dX4_comesOut_250 rfl ?_
                refine aw_iald dX4_comesOut_251 (by assumption) (by omega) rfl (by omega) (show _ = nI (a.1 2) from hM4.1 2 (by decide)) ?_
                refine aw_icmp_ltN (tgt := 266) dX4_comesOut_252 (by decide) (by omega) (by omega) (fun hc252 => ?_) (fun hc252 => ?_)
                · refine aw_vret dX4_comesOut_266 rfl (Nat.zero_le _) (Nat.zero_le _) ?_
                  first
                  | exact ⟨rfl, I130, rfl, cO_cut he (by omega) (by omega) (by omega) hP130.1, hF3.tr hP130.2⟩
                  | exact ⟨rfl, I142, rfl, cO_close he he1 (by omega) (by omega) hP142.1, hF3.tr hP142.2⟩
                  | exact ⟨rfl, I263, rfl, cO_w1 he (by omega) (by omega) (by omega) hc238 hc252 rfl hP263.1, hF4.tr hP263.2⟩
                  | exact ⟨rfl, I224, rfl, cO_w2 he (by omega) (by omega) (by omega) (fun q => by have := q.2; omega) hM4, hF4⟩
                  | exact ⟨rfl, I224, rfl, cO_w2 he (by omega) (by omega) (by omega) (fun q => hc238 q.1) hM4, hF4⟩
                  | exact ⟨rfl, I83, rfl, cO_no he (by omega) (fun q => by omega) hM3, hF3⟩
                · refine aw_aload_n dX4_comesOut_255 rfl ?_
                  refine aw_iload_n dX4_comesOut_256 rfl ?_
                  refine aw_aload_n dX4_comesOut_257 rfl ?_
                  refine aw_getR dX4_comesOut_258 flX4_7 rfl (by assumption) (by assumption) ?_
                  refine aw_iconst (v := nI 3) dX4_comesOut_261 rfl ?_
                  refine aw_iald dX4_comesOut_262 (by assumption) (by omega) rfl (by omega) (show _ = nI (a.1 3) from hM4.1 3 (by decide)) ?_
                  refine aw_vUp0 dX4_comesOut_263 cvX4_52 ⟨Nat.le_of_ble_eq_true rfl, Nat.le_of_ble_eq_true rfl⟩ (by assumption) ⟨_, rfl, rfl⟩ (r_cutsOff hL hM4 h16 hst) rfl rfl (Nat.le_of_ble_eq_true rfl) ⟨rfl, rfl⟩ ⟨Nat.zero_le _, Nat.zero_le _⟩ (fun I263 hP263 => ?_)
                  refine aw_vret dX4_comesOut_266 rfl (Nat.zero_le _) (Nat.zero_le _) ?_
                  first
                  | exact ⟨rfl, I130, rfl, cO_cut he (by omega) (by omega) (by omega) hP130.1, hF3.tr hP130.2⟩
                  | exact ⟨rfl, I142, rfl, cO_close he he1 (by omega) (by omega) hP142.1, hF3.tr hP142.2⟩
                  | exact ⟨rfl, I263, rfl, cO_w1 he (by omega) (by omega) (by omega) hc238 hc252 rfl hP263.1, hF4.tr hP263.2⟩
                  | exact ⟨rfl, I224, rfl, cO_w2 he (by omega) (by omega) (by omega) (fun q => by have := q.2; omega) hM4, hF4⟩
                  | exact ⟨rfl, I224, rfl, cO_w2 he (by omega) (by omega) (by omega) (fun q => hc238 q.1) hM4, hF4⟩
                  | exact ⟨rfl, I83, rfl, cO_no he (by omega) (fun q => by omega) hM3, hF3⟩
      · refine aw_aload_n dX4_comesOut_140 rfl ?_
        refine aw_iload_n dX4_comesOut_141 rfl ?_
        refine aw_vUp0 dX4_comesOut_142 cvX4_55 ⟨Nat.le_of_ble_eq_true rfl, Nat.le_of_ble_eq_true rfl⟩ (by assumption) ⟨_, rfl, rfl⟩ (r_closes hL hM3 h16 hst) rfl rfl (Nat.le_of_ble_eq_true rfl) ⟨rfl, rfl⟩ ⟨Nat.zero_le _, Nat.zero_le _⟩ (fun I142 hP142 => ?_)
        refine aw_goto (tgt := 266) dX4_comesOut_145 (by decide) ?_
        refine aw_vret dX4_comesOut_266 rfl (Nat.zero_le _) (Nat.zero_le _) ?_
        first
        | exact ⟨rfl, I130, rfl, cO_cut he (by omega) (by omega) (by omega) hP130.1, hF3.tr hP130.2⟩
        | exact ⟨rfl, I142, rfl, cO_close he he1 (by omega) (by omega) hP142.1, hF3.tr hP142.2⟩
        | exact ⟨rfl, I263, rfl, cO_w1 he (by omega) (by omega) (by omega) hc238 hc252 rfl hP263.1, hF4.tr hP263.2⟩
        | exact ⟨rfl, I224, rfl, cO_w2 he (by omega) (by omega) (by omega) (fun q => by have := q.2; omega) hM4, hF4⟩
        | exact ⟨rfl, I224, rfl, cO_w2 he (by omega) (by omega) (by omega) (fun q => hc238 q.1) hM4, hF4⟩
        | exact ⟨rfl, I83, rfl, cO_no he (by omega) (fun q => by omega) hM3, hF3⟩
    · refine aw_iload dX4_comesOut_90 rfl ?_
      refine aw_if_eqN (tgt := 136) dX4_comesOut_92 (by decide) (by omega) (fun hc92 => ?_) (fun hc92 => ?_)
      · refine aw_iload_n dX4_comesOut_136 rfl ?_
        refine aw_if_eqN (tgt := 148) dX4_comesOut_137 (by decide) (by omega) (fun hc137 => ?_) (fun hc137 => ?_)
        · refine aw_aload_n dX4_comesOut_148 rfl ?_
          refine aw_iload_n dX4_comesOut_149 rfl ?_
          refine aw_iconst (v := nI 2) dX4_comesOut_150 rfl ?_
          refine aw_vRd dX4_comesOut_151 cvX4_40 ⟨Nat.le_of_ble_eq_true rfl, Nat.le_of_ble_eq_true rfl⟩ (by assumption) ⟨_, rfl, rfl⟩ (r_ofv (w := 2) (v := a.2.2 st 2) hL hP83.1 hst (by decide) (by simp [sT_s, u1])) rfl rfl (Nat.le_of_ble_eq_true rfl) ⟨rfl, rfl⟩ ⟨Nat.zero_le _, Nat.zero_le _⟩ ?_
          refine aw_if_neN (tgt := 266) dX4_comesOut_154 (by decide) (by omega) (fun hc154 => ?_) (fun hc154 => ?_)
          · refine aw_vret dX4_comesOut_266 rfl (Nat.zero_le _) (Nat.zero_le _) ?_
            first
            | exact ⟨rfl, I130, rfl, cO_cut he (by omega) (by omega) (by omega) hP130.1, hF3.tr hP130.2⟩
            | exact ⟨rfl, I142, rfl, cO_close he he1 (by omega) (by omega) hP142.1, hF3.tr hP142.2⟩
            | exact ⟨rfl, I263, rfl, cO_w1 he (by omega) (by omega) (by omega) hc238 hc252 rfl hP263.1, hF4.tr hP263.2⟩
            | exact ⟨rfl, I224, rfl, cO_w2 he (by omega) (by omega) (by omega) (fun q => by have := q.2; omega) hM4, hF4⟩
            | exact ⟨rfl, I224, rfl, cO_w2 he (by omega) (by omega) (by omega) (fun q => hc238 q.1) hM4, hF4⟩
            | exact ⟨rfl, I83, rfl, cO_no he (by omega) (fun q => by omega) hM3, hF3⟩
          · refine aw_aload_n dX4_comesOut_157 rfl ?_
            refine aw_iload_n dX4_comesOut_158 rfl ?_
            refine aw_bipush (v := nI 11) dX4_comesOut_159 rfl ?_
            refine aw_vRd dX4_comesOut_161 cvX4_40 ⟨Nat.le_of_ble_eq_true rfl, Nat.le_of_ble_eq_true rfl⟩ (by assumption) ⟨_, rfl, rfl⟩ (r_ofv (w := 11) (v := a.2.2 st 11) hL hP83.1 hst (by decide) (by simp [sT_s, u1])) rfl rfl (Nat.le_of_ble_eq_true rfl) ⟨rfl, rfl⟩ ⟨Nat.zero_le _, Nat.zero_le _⟩ ?_
            refine aw_iload dX4_comesOut_164 rfl ?_
            refine aw_icmp_neN (tgt := 266) dX4_comesOut_166 (by decide) (by omega) (by omega) (fun hc166 => ?_) (fun hc166 => ?_)
            · refine aw_vret dX4_comesOut_266 rfl (Nat.zero_le _) (Nat.zero_le _) ?_
              first
              | exact ⟨rfl, I130, rfl, cO_cut he (by omega) (by omega) (by omega) hP130.1, hF3.tr hP130.2⟩
              | exact ⟨rfl, I142, rfl, cO_close he he1 (by omega) (by omega) hP142.1, hF3.tr hP142.2⟩
              | exact ⟨rfl, I263, rfl, cO_w1 he (by omega) (by omega) (by omega) hc238 hc252 rfl hP263.1, hF4.tr hP263.2⟩
              | exact ⟨rfl, I224, rfl, cO_w2 he (by omega) (by omega) (by omega) (fun q => by have := q.2; omega) hM4, hF4⟩
              | exact ⟨rfl, I224, rfl, cO_w2 he (by omega) (by omega) (by omega) (fun q => hc238 q.1) hM4, hF4⟩
              | exact ⟨rfl, I83, rfl, cO_no he (by omega) (fun q => by omega) hM3, hF3⟩
            · refine aw_aload_n dX4_comesOut_169 rfl ?_
              refine aw_iload_n dX4_comesOut_170 rfl ?_
              refine aw_iconst (v := nI 3) dX4_comesOut_171 rfl ?_
              refine aw_aload_n dX4_comesOut_172 rfl ?_
              refine aw_iload_n dX4_comesOut_173 rfl ?_
              refine aw_iconst (v := nI 3) dX4_comesOut_174 rfl ?_
              refine aw_vRd dX4_comesOut_175 cvX4_40 ⟨Nat.le_of_ble_eq_true rfl, Nat.le_of_ble_eq_true rfl⟩ (by assumption) ⟨_, rfl, rfl⟩ (r_ofv (w := 3) (v := a.2.2 st 3) hL hP83.1 hst (by decide) (by simp [sT_s, u1])) rfl rfl (Nat.le_of_ble_eq_true rfl) ⟨rfl, rfl⟩ ⟨Nat.zero_le _, Nat.zero_le _⟩ ?_
              refine aw_iconst (v := nI 1) dX4_comesOut_178 rfl ?_
              refine aw_ishl dX4_comesOut_179 ?_
              refine aw_iload dX4_comesOut_180 rfl ?_
              refine aw_dia (tgt := 189) (jn := 190) (c1 := 1) (c0 := 0) dX4_comesOut_182 (by decide) dX4_comesOut_185 rfl dX4_comesOut_186 (by decide) dX4_comesOut_189 rfl rfl (by omega) (by rcases (show e = 0 ∨ e = 1 by omega) with h | h <;> rw [h] <;> rfl : nI (if e = 0 then 0 else 1) = nI e) ?_
              refine aw_ior dX4_comesOut_190 ?_
              refine aw_ldc dX4_comesOut_191 (v := 65535) ldX4_59 ?_
              refine aw_iand dX4_comesOut_193 ?_
              refine aw_top (note_nI h3 he1) ?_
              refine aw_vUp0 dX4_comesOut_194 cvX4_29 ⟨Nat.le_of_ble_eq_true rfl, Nat.le_of_ble_eq_true rfl⟩ (by assumption) ⟨_, rfl, rfl⟩ (r_lay (w := 3) (v := (2 * a.2.2 st 3 + e) % 65536) hL hM3 h16 hst (by decide)) rfl rfl (Nat.le_of_ble_eq_true rfl) ⟨rfl, rfl⟩ ⟨Nat.zero_le _, Nat.zero_le _⟩ (fun I194 hP194 => ?_)
              refine aw_aload_n dX4_comesOut_197 rfl ?_
              refine aw_iload_n dX4_comesOut_198 rfl ?_
              refine aw_iconst (v := nI 4) dX4_comesOut_199 rfl ?_
              refine aw_aload_n dX4_comesOut_200 rfl ?_
              refine aw_iload_n dX4_comesOut_201 rfl ?_
              refine aw_iconst (v := nI 4) dX4_comesOut_202 rfl ?_
              refine aw_vRd dX4_comesOut_203 cvX4_40 ⟨Nat.le_of_ble_eq_true rfl, Nat.le_of_ble_eq_true rfl⟩ (by assumption) ⟨_, rfl, rfl⟩ (r_ofv (w := 4) (v := a.2.2 st 4) hL hP194.1 hst (by decide) (by simp [sT_s, u1])) rfl rfl (Nat.le_of_ble_eq_true rfl) ⟨rfl, rfl⟩ ⟨Nat.zero_le _, Nat.zero_le _⟩ ?_
              refine aw_bipush (v := nI 16) dX4_comesOut_206 rfl ?_
              refine aw_icmp_geN (tgt := 222) dX4_comesOut_208 (by decide) (by omega) (by omega) (fun hc208 => ?_) (fun hc208 => ?_)
              · refine aw_bipush (v := nI 16) dX4_comesOut_222 rfl ?_
                refine aw_vUp0 dX4_comesOut_224 cvX4_29 ⟨Nat.le_of_ble_eq_true rfl, Nat.le_of_ble_eq_true rfl⟩ (by assumption) ⟨_, rfl, rfl⟩ (r_lay (w := 4) hL hP194.1 h16 hst (by decide)) rfl rfl (Nat.le_of_ble_eq_true rfl) ⟨rfl, rfl⟩ ⟨Nat.zero_le _, Nat.zero_le _⟩ (fun I224 hP224 => ?_)
                have hM4 : RM (I224 141) (outG a.1 d, a.2.1, sT a.2.2 st (noteR e (u1 (a.2.2 st) 9 (a.2.2 st 9 + e)))) := by
                  have h := hP224.1
                  simp only [sT_sT, sT_s] at h
                  rw [← noteR_eq]
                  first
                  | (rw [show min (u1 (a.2.2 st) 9 (a.2.2 st 9 + e) 4 + 1) 16 = 16 from Nat.min_eq_right (by show 16 ≤ a.2.2 st 4 + 1; omega)]; exact h)
                  | (rw [show min (u1 (a.2.2 st) 9 (a.2.2 st 9 + e) 4 + 1) 16 = a.2.2 st 4 + 1 from Nat.min_eq_left (by show a.2.2 st 4 + 1 ≤ 16; omega)]; exact h)
                have hF4 : FrO 141 I I224 := hF3.tr (hP194.2.tr hP224.2)
                have hg9 : SK (outG a.1 d) := hg.out
                have ht4 : RK b (sT a.2.2 st (noteR e (u1 (a.2.2 st) 9 (a.2.2 st 9 + e))) st) := by
                  rw [sT_s]; exact RK.note ht.u9 he1 (by show a.2.2 st 2 = 0; omega)
                have hiw : inWinR a.1 (noteR e (u1 (a.2.2 st) 9 (a.2.2 st 9 + e))) ≤ 16 := by
                  unfold inWinR; split
                  · omega
                  · omega
                have hbw : badWinR a.1 (noteR e (u1 (a.2.2 st) 9 (a.2.2 st 9 + e))) ≤ 16 := Nat.le_trans (bits_le _ _) hiw
                refine aw_aload_n dX4_comesOut_227 rfl ?_
                refine aw_iload_n dX4_comesOut_228 rfl ?_
                refine aw_vRd dX4_comesOut_229 cvX4_44 ⟨Nat.le_of_ble_eq_true rfl, Nat.le_of_ble_eq_true rfl⟩ (by assumption) ⟨_, rfl, rfl⟩ (r_inWindowv (v := inWinR a.1 (noteR e (u1 (a.2.2 st) 9 (a.2.2 st 9 + e)))) hL hM4 hst hg9 ht4 (show inWinR (outG a.1 d) (sT a.2.2 st (noteR e (u1 (a.2.2 st) 9 (a.2.2 st 9 + e))) st) = _ from by rw [sT_s]; rfl)) rfl rfl (Nat.le_of_ble_eq_true rfl) ⟨rfl, rfl⟩ ⟨Nat.zero_le _, Nat.zero_le _⟩ ?_
                refine aw_aload_n dX4_comesOut_232 rfl ?_
                refine aw_getR dX4_comesOut_233 flX4_7 rfl (by assumption) (by assumption) ?_
                refine aw_iconst (v := nI 1) dX4_comesOut_236 rfl ?_
                refine aw_iald dX4_comesOut_237 (by assumption) (by omega) rfl (by omega) (show _ = nI (a.1 1) from hM4.1 1 (by decide)) ?_
                refine aw_icmp_neN (tgt := 266) dX4_comesOut_238 (by decide) (by omega) (by omega) (fun hc238 => ?_) (fun hc238 => ?_)
                · refine aw_vret dX4_comesOut_266 rfl (Nat.zero_le _) (Nat.zero_le _) ?_
                  first
                  | exact ⟨rfl, I130, rfl, cO_cut he (by omega) (by omega) (by omega) hP130.1, hF3.tr hP130.2⟩
                  | exact ⟨rfl, I142, rfl, cO_close he he1 (by omega) (by omega) hP142.1, hF3.tr hP142.2⟩
                  | exact ⟨rfl, I263, rfl, cO_w1 he (by omega) (by omega) (by omega) hc238 hc252 rfl hP263.1, hF4.tr hP263.2⟩
                  | exact ⟨rfl, I224, rfl, cO_w2 he (by omega) (by omega) (by omega) (fun q => by have := q.2; omega) hM4, hF4⟩
                  | exact ⟨rfl, I224, rfl, cO_w2 he (by omega) (by omega) (by omega) (fun q => hc238 q.1) hM4, hF4⟩
                  | exact ⟨rfl, I83, rfl, cO_no he (by omega) (fun q => by omega) hM3, hF3⟩
                · refine aw_aload_n dX4_comesOut_241 rfl ?_
                  refine aw_iload_n dX4_comesOut_242 rfl ?_
                  refine aw_vRd dX4_comesOut_243 cvX4_60 ⟨Nat.le_of_ble_eq_true rfl, Nat.le_of_ble_eq_true rfl⟩ (by assumption) ⟨_, rfl, rfl⟩ (r_badInWindowv (v := badWinR a.1 (noteR e (u1 (a.2.2 st) 9 (a.2.2 st 9 + e)))) hL hM4 hst hg9 ht4 (show badWinR (outG a.1 d) (sT a.2.2 st (noteR e (u1 (a.2.2 st) 9 (a.2.2 st 9 + e))) st) = _ from by rw [sT_s]; rfl)) rfl rfl (Nat.le_of_ble_eq_true rfl) ⟨rfl, rfl⟩ ⟨Nat.zero_le _, Nat.zero_le _⟩ ?_
                  refine aw_aload_n dX4_comesOut_246 rfl ?_
                  refine aw_getR dX4_comesOut_247 flX4_7 rfl (by assumption) (by assumption) ?_
                  refine aw_iconst (v := nI 2) dX4_comesOut_250 rfl ?_
                  refine aw_iald dX4_comesOut_251 (by assumption) (by omega) rfl (by omega) (show _ = nI (a.1 2) from hM4.1 2 (by decide)) ?_
                  refine aw_icmp_ltN (tgt := 266) dX4_comesOut_252 (by decide) (by omega) (by omega) (fun hc252 => ?_) (fun hc252 => ?_)
                  · refine aw_vret dX4_comesOut_266 rfl (Nat.zero_le _) (Nat.zero_le _) ?_
                    first
                    | exact ⟨rfl, I130, rfl, cO_cut he (by omega) (by omega) (by omega) hP130.1, hF3.tr hP130.2⟩
                    | exact ⟨rfl, I142, rfl, cO_close he he1 (by omega) (by omega) hP142.1, hF3.tr hP142.2⟩
                    | exact ⟨rfl, I263, rfl, cO_w1 he (by omega) (by omega) (by omega) hc238 hc252 rfl hP263.1, hF4.tr hP263.2⟩
                    | exact ⟨rfl, I224, rfl, cO_w2 he (by omega) (by omega) (by omega) (fun q => by have := q.2; omega) hM4, hF4⟩
                    | exact ⟨rfl, I224, rfl, cO_w2 he (by omega) (by omega) (by omega) (fun q => hc238 q.1) hM4, hF4⟩
                    | exact ⟨rfl, I83, rfl, cO_no he (by omega) (fun q => by omega) hM3, hF3⟩
                  · refine aw_aload_n dX4_comesOut_255 rfl ?_
                    refine aw_iload_n dX4_comesOut_256 rfl ?_
                    refine aw_aload_n dX4_comesOut_257 rfl ?_
                    refine aw_getR dX4_comesOut_258 flX4_7 rfl (by assumption) (by assumption) ?_
                    refine aw_iconst (v := nI 3) dX4_comesOut_261 rfl ?_
                    refine aw_iald dX4_comesOut_262 (by assumption) (by omega) rfl (by omega) (show _ = nI (a.1 3) from hM4.1 3 (by decide)) ?_
                    refine aw_vUp0 dX4_comesOut_263 cvX4_52 ⟨Nat.le_of_ble_eq_true rfl, Nat.le_of_ble_eq_true rfl⟩ (by assumption) ⟨_, rfl, rfl⟩ (r_cutsOff hL hM4 h16 hst) rfl rfl (Nat.le_of_ble_eq_true rfl) ⟨rfl, rfl⟩ ⟨Nat.zero_le _, Nat.zero_le _⟩ (fun I263 hP263 => ?_)
                    refine aw_vret dX4_comesOut_266 rfl (Nat.zero_le _) (Nat.zero_le _) ?_
                    first
                    | exact ⟨rfl, I130, rfl, cO_cut he (by omega) (by omega) (by omega) hP130.1, hF3.tr hP130.2⟩
                    | exact ⟨rfl, I142, rfl, cO_close he he1 (by omega) (by omega) hP142.1, hF3.tr hP142.2⟩
                    | exact ⟨rfl, I263, rfl, cO_w1 he (by omega) (by omega) (by omega) hc238 hc252 rfl hP263.1, hF4.tr hP263.2⟩
                    | exact ⟨rfl, I224, rfl, cO_w2 he (by omega) (by omega) (by omega) (fun q => by have := q.2; omega) hM4, hF4⟩
                    | exact ⟨rfl, I224, rfl, cO_w2 he (by omega) (by omega) (by omega) (fun q => hc238 q.1) hM4, hF4⟩
                    | exact ⟨rfl, I83, rfl, cO_no he (by omega) (fun q => by omega) hM3, hF3⟩
              · refine aw_aload_n dX4_comesOut_211 rfl ?_
                refine aw_iload_n dX4_comesOut_212 rfl ?_
                refine aw_iconst (v := nI 4) dX4_comesOut_213 rfl ?_
                refine aw_vRd dX4_comesOut_214 cvX4_40 ⟨Nat.le_of_ble_eq_true rfl, Nat.le_of_ble_eq_true rfl⟩ (by assumption) ⟨_, rfl, rfl⟩ (r_ofv (w := 4) (v := a.2.2 st 4) hL hP194.1 hst (by decide) (by simp [sT_s, u1])) rfl rfl (Nat.le_of_ble_eq_true rfl) ⟨rfl, rfl⟩ ⟨Nat.zero_le _, Nat.zero_le _⟩ ?_
                refine aw_iconst (v := nI 1) dX4_comesOut_217 rfl ?_
                first | refine aw_iaddN dX4_comesOut_218 ?_ | refine aw_iadd dX4_comesOut_218 ?_
                refine aw_goto (tgt := 224) dX4_comesOut_219 (by decide) ?_
                refine aw_vUp0 dX4_comesOut_224 cvX4_29 ⟨Nat.le_of_ble_eq_true rfl, Nat.le_of_ble_eq_true rfl⟩ (by assumption) ⟨_, rfl, rfl⟩ (r_lay (w := 4) hL hP194.1 h16 hst (by decide)) rfl rfl (Nat.le_of_ble_eq_true rfl) ⟨rfl, rfl⟩ ⟨Nat.zero_le _, Nat.zero_le _⟩ (fun I224 hP224 => ?_)
                have hM4 : RM (I224 141) (outG a.1 d, a.2.1, sT a.2.2 st (noteR e (u1 (a.2.2 st) 9 (a.2.2 st 9 + e)))) := by
                  have h := hP224.1
                  simp only [sT_sT, sT_s] at h
                  rw [← noteR_eq]
                  first
                  | (rw [show min (u1 (a.2.2 st) 9 (a.2.2 st 9 + e) 4 + 1) 16 = 16 from Nat.min_eq_right (by show 16 ≤ a.2.2 st 4 + 1; omega)]; exact h)
                  | (rw [show min (u1 (a.2.2 st) 9 (a.2.2 st 9 + e) 4 + 1) 16 = a.2.2 st 4 + 1 from Nat.min_eq_left (by show a.2.2 st 4 + 1 ≤ 16; omega)]; exact h)
                have hF4 : FrO 141 I I224 := hF3.tr (hP194.2.tr hP224.2)
                have hg9 : SK (outG a.1 d) := hg.out
                have ht4 : RK b (sT a.2.2 st (noteR e (u1 (a.2.2 st) 9 (a.2.2 st 9 + e))) st) := by
                  rw [sT_s]; exact RK.note ht.u9 he1 (by show a.2.2 st 2 = 0; omega)
                have hiw : inWinR a.1 (noteR e (u1 (a.2.2 st) 9 (a.2.2 st 9 + e))) ≤ 16 := by
                  unfold inWinR; split
                  · omega
                  · omega
                have hbw : badWinR a.1 (noteR e (u1 (a.2.2 st) 9 (a.2.2 st 9 + e))) ≤ 16 := Nat.le_trans (bits_le _ _) hiw
                refine aw_aload_n dX4_comesOut_227 rfl ?_
                refine aw_iload_n dX4_comesOut_228 rfl ?_
                refine aw_vRd dX4_comesOut_229 cvX4_44 ⟨Nat.le_of_ble_eq_true rfl, Nat.le_of_ble_eq_true rfl⟩ (by assumption) ⟨_, rfl, rfl⟩ (r_inWindowv (v := inWinR a.1 (noteR e (u1 (a.2.2 st) 9 (a.2.2 st 9 + e)))) hL hM4 hst hg9 ht4 (show inWinR (outG a.1 d) (sT a.2.2 st (noteR e (u1 (a.2.2 st) 9 (a.2.2 st 9 + e))) st) = _ from by rw [sT_s]; rfl)) rfl rfl (Nat.le_of_ble_eq_true rfl) ⟨rfl, rfl⟩ ⟨Nat.zero_le _, Nat.zero_le _⟩ ?_
                refine aw_aload_n dX4_comesOut_232 rfl ?_
                refine aw_getR dX4_comesOut_233 flX4_7 rfl (by assumption) (by assumption) ?_
                refine aw_iconst (v := nI 1) dX4_comesOut_236 rfl ?_
                refine aw_iald dX4_comesOut_237 (by assumption) (by omega) rfl (by omega) (show _ = nI (a.1 1) from hM4.1 1 (by decide)) ?_
                refine aw_icmp_neN (tgt := 266) dX4_comesOut_238 (by decide) (by omega) (by omega) (fun hc238 => ?_) (fun hc238 => ?_)
                · refine aw_vret dX4_comesOut_266 rfl (Nat.zero_le _) (Nat.zero_le _) ?_
                  first
                  | exact ⟨rfl, I130, rfl, cO_cut he (by omega) (by omega) (by omega) hP130.1, hF3.tr hP130.2⟩
                  | exact ⟨rfl, I142, rfl, cO_close he he1 (by omega) (by omega) hP142.1, hF3.tr hP142.2⟩
                  | exact ⟨rfl, I263, rfl, cO_w1 he (by omega) (by omega) (by omega) hc238 hc252 rfl hP263.1, hF4.tr hP263.2⟩
                  | exact ⟨rfl, I224, rfl, cO_w2 he (by omega) (by omega) (by omega) (fun q => by have := q.2; omega) hM4, hF4⟩
                  | exact ⟨rfl, I224, rfl, cO_w2 he (by omega) (by omega) (by omega) (fun q => hc238 q.1) hM4, hF4⟩
                  | exact ⟨rfl, I83, rfl, cO_no he (by omega) (fun q => by omega) hM3, hF3⟩
                · refine aw_aload_n dX4_comesOut_241 rfl ?_
                  refine aw_iload_n dX4_comesOut_242 rfl ?_
                  refine aw_vRd dX4_comesOut_243 cvX4_60 ⟨Nat.le_of_ble_eq_true rfl, Nat.le_of_ble_eq_true rfl⟩ (by assumption) ⟨_, rfl, rfl⟩ (r_badInWindowv (v := badWinR a.1 (noteR e (u1 (a.2.2 st) 9 (a.2.2 st 9 + e)))) hL hM4 hst hg9 ht4 (show badWinR (outG a.1 d) (sT a.2.2 st (noteR e (u1 (a.2.2 st) 9 (a.2.2 st 9 + e))) st) = _ from by rw [sT_s]; rfl)) rfl rfl (Nat.le_of_ble_eq_true rfl) ⟨rfl, rfl⟩ ⟨Nat.zero_le _, Nat.zero_le _⟩ ?_
                  refine aw_aload_n dX4_comesOut_246 rfl ?_
                  refine aw_getR dX4_comesOut_247 flX4_7 rfl (by assumption) (by assumption) ?_
                  refine aw_iconst (v := nI 2) dX4_comesOut_250 rfl ?_
                  refine aw_iald dX4_comesOut_251 (by assumption) (by omega) rfl (by omega) (show _ = nI (a.1 2) from hM4.1 2 (by decide)) ?_
                  refine aw_icmp_ltN (tgt := 266) dX4_comesOut_252 (by decide) (by omega) (by omega) (fun hc252 => ?_) (fun hc252 => ?_)
                  · refine aw_vret dX4_comesOut_266 rfl (Nat.zero_le _) (Nat.zero_le _) ?_
                    first
                    | exact ⟨rfl, I130, rfl, cO_cut he (by omega) (by omega) (by omega) hP130.1, hF3.tr hP130.2⟩
                    | exact ⟨rfl, I142, rfl, cO_close he he1 (by omega) (by omega) hP142.1, hF3.tr hP142.2⟩
                    | exact ⟨rfl, I263, rfl, cO_w1 he (by omega) (by omega) (by omega) hc238 hc252 rfl hP263.1, hF4.tr hP263.2⟩
                    | exact ⟨rfl, I224, rfl, cO_w2 he (by omega) (by omega) (by omega) (fun q => by have := q.2; omega) hM4, hF4⟩
                    | exact ⟨rfl, I224, rfl, cO_w2 he (by omega) (by omega) (by omega) (fun q => hc238 q.1) hM4, hF4⟩
                    | exact ⟨rfl, I83, rfl, cO_no he (by omega) (fun q => by omega) hM3, hF3⟩
                  · refine aw_aload_n dX4_comesOut_255 rfl ?_
                    refine aw_iload_n dX4_comesOut_256 rfl ?_
                    refine aw_aload_n dX4_comesOut_257 rfl ?_
                    refine aw_getR dX4_comesOut_258 flX4_7 rfl (by assumption) (by assumption) ?_
                    refine aw_iconst (v := nI 3) dX4_comesOut_261 rfl ?_
                    refine aw_iald dX4_comesOut_262 (by assumption) (by omega) rfl (by omega) (show _ = nI (a.1 3) from hM4.1 3 (by decide)) ?_
                    refine aw_vUp0 dX4_comesOut_263 cvX4_52 ⟨Nat.le_of_ble_eq_true rfl, Nat.le_of_ble_eq_true rfl⟩ (by assumption) ⟨_, rfl, rfl⟩ (r_cutsOff hL hM4 h16 hst) rfl rfl (Nat.le_of_ble_eq_true rfl) ⟨rfl, rfl⟩ ⟨Nat.zero_le _, Nat.zero_le _⟩ (fun I263 hP263 => ?_)
                    refine aw_vret dX4_comesOut_266 rfl (Nat.zero_le _) (Nat.zero_le _) ?_
                    first
                    | exact ⟨rfl, I130, rfl, cO_cut he (by omega) (by omega) (by omega) hP130.1, hF3.tr hP130.2⟩
                    | exact ⟨rfl, I142, rfl, cO_close he he1 (by omega) (by omega) hP142.1, hF3.tr hP142.2⟩
                    | exact ⟨rfl, I263, rfl, cO_w1 he (by omega) (by omega) (by omega) hc238 hc252 rfl hP263.1, hF4.tr hP263.2⟩
                    | exact ⟨rfl, I224, rfl, cO_w2 he (by omega) (by omega) (by omega) (fun q => by have := q.2; omega) hM4, hF4⟩
                    | exact ⟨rfl, I224, rfl, cO_w2 he (by omega) (by omega) (by omega) (fun q => hc238 q.1) hM4, hF4⟩
                    | exact ⟨rfl, I83, rfl, cO_no he (by omega) (fun q => by omega) hM3, hF3⟩
        · refine aw_aload_n dX4_comesOut_140 rfl ?_
          refine aw_iload_n dX4_comesOut_141 rfl ?_
          refine aw_vUp0 dX4_comesOut_142 cvX4_55 ⟨Nat.le_of_ble_eq_true rfl, Nat.le_of_ble_eq_true rfl⟩ (by assumption) ⟨_, rfl, rfl⟩ (r_closes hL hM3 h16 hst) rfl rfl (Nat.le_of_ble_eq_true rfl) ⟨rfl, rfl⟩ ⟨Nat.zero_le _, Nat.zero_le _⟩ (fun I142 hP142 => ?_)
          refine aw_goto (tgt := 266) dX4_comesOut_145 (by decide) ?_
          refine aw_vret dX4_comesOut_266 rfl (Nat.zero_le _) (Nat.zero_le _) ?_
          first
          | exact ⟨rfl, I130, rfl, cO_cut he (by omega) (by omega) (by omega) hP130.1, hF3.tr hP130.2⟩
          | exact ⟨rfl, I142, rfl, cO_close he he1 (by omega) (by omega) hP142.1, hF3.tr hP142.2⟩
          | exact ⟨rfl, I263, rfl, cO_w1 he (by omega) (by omega) (by omega) hc238 hc252 rfl hP263.1, hF4.tr hP263.2⟩
          | exact ⟨rfl, I224, rfl, cO_w2 he (by omega) (by omega) (by omega) (fun q => by have := q.2; omega) hM4, hF4⟩
          | exact ⟨rfl, I224, rfl, cO_w2 he (by omega) (by omega) (by omega) (fun q => hc238 q.1) hM4, hF4⟩
          | exact ⟨rfl, I83, rfl, cO_no he (by omega) (fun q => by omega) hM3, hF3⟩
      · refine aw_iconst (v := nI 2) dX4_comesOut_95 rfl ?_
        refine aw_aload_n dX4_comesOut_96 rfl ?_
        refine aw_iload_n dX4_comesOut_97 rfl ?_
        refine aw_bipush (v := nI 6) dX4_comesOut_98 rfl ?_
        refine aw_vRd dX4_comesOut_100 cvX4_40 ⟨Nat.le_of_ble_eq_true rfl, Nat.le_of_ble_eq_true rfl⟩ (by assumption) ⟨_, rfl, rfl⟩ (r_ofv (w := 6) (v := a.2.2 st 6) hL hP83.1 hst (by decide) (by simp [sT_s, u1])) rfl rfl (Nat.le_of_ble_eq_true rfl) ⟨rfl, rfl⟩ ⟨Nat.zero_le _, Nat.zero_le _⟩ ?_
        first | refine aw_imulN dX4_comesOut_103 ?_ | refine aw_imul dX4_comesOut_103 ?_
        refine aw_istore (ls' := [(6, _), (5, _), (0, _), (1, _), (2, _), (3, _), (4, _)]) dX4_comesOut_104 (by decide) rfl ?_
        refine aw_aload_n dX4_comesOut_106 rfl ?_
        refine aw_iload_n dX4_comesOut_107 rfl ?_
        refine aw_iload dX4_comesOut_108 rfl ?_
        refine aw_aload_n dX4_comesOut_110 rfl ?_
        refine aw_getR dX4_comesOut_111 flX4_7 rfl (by assumption) (by assumption) ?_
        refine aw_iconst (v := nI 4) dX4_comesOut_114 rfl ?_
        refine aw_iald dX4_comesOut_115 (by assumption) (by omega) rfl (by omega) (show _ = nI (a.1 4) from hM3.1 4 (by decide)) ?_
        refine aw_icmp_geN (tgt := 124) dX4_comesOut_116 (by decide) (by omega) (by omega) (fun hc116 => ?_) (fun hc116 => ?_)
        · refine aw_aload_n dX4_comesOut_124 rfl ?_
          refine aw_getR dX4_comesOut_125 flX4_7 rfl (by assumption) (by assumption) ?_
          refine aw_iconst (v := nI 4) dX4_comesOut_128 rfl ?_
          refine aw_iald dX4_comesOut_129 (by assumption) (by omega) rfl (by omega) (show _ = nI (a.1 4) from hM3.1 4 (by decide)) ?_
          refine aw_vUp0 dX4_comesOut_130 cvX4_52 ⟨Nat.le_of_ble_eq_true rfl, Nat.le_of_ble_eq_true rfl⟩ (by assumption) ⟨_, rfl, rfl⟩ (r_cutsOff hL hM3 h16 hst) rfl rfl (Nat.le_of_ble_eq_true rfl) ⟨rfl, rfl⟩ ⟨Nat.zero_le _, Nat.zero_le _⟩ (fun I130 hP130 => ?_)
          refine aw_goto (tgt := 266) dX4_comesOut_133 (by decide) ?_
          refine aw_vret dX4_comesOut_266 rfl (Nat.zero_le _) (Nat.zero_le _) ?_
          first
          | exact ⟨rfl, I130, rfl, cO_cut he (by omega) (by omega) (by omega) hP130.1, hF3.tr hP130.2⟩
          | exact ⟨rfl, I142, rfl, cO_close he he1 (by omega) (by omega) hP142.1, hF3.tr hP142.2⟩
          | exact ⟨rfl, I263, rfl, cO_w1 he (by omega) (by omega) (by omega) hc238 hc252 rfl hP263.1, hF4.tr hP263.2⟩
          | exact ⟨rfl, I224, rfl, cO_w2 he (by omega) (by omega) (by omega) (fun q => by have := q.2; omega) hM4, hF4⟩
          | exact ⟨rfl, I224, rfl, cO_w2 he (by omega) (by omega) (by omega) (fun q => hc238 q.1) hM4, hF4⟩
          | exact ⟨rfl, I83, rfl, cO_no he (by omega) (fun q => by omega) hM3, hF3⟩
        · refine aw_iload dX4_comesOut_119 rfl ?_
          refine aw_goto (tgt := 130) dX4_comesOut_121 (by decide) ?_
          refine aw_vUp0 dX4_comesOut_130 cvX4_52 ⟨Nat.le_of_ble_eq_true rfl, Nat.le_of_ble_eq_true rfl⟩ (by assumption) ⟨_, rfl, rfl⟩ (r_cutsOff hL hM3 h16 hst) rfl rfl (Nat.le_of_ble_eq_true rfl) ⟨rfl, rfl⟩ ⟨Nat.zero_le _, Nat.zero_le _⟩ (fun I130 hP130 => ?_)
          refine aw_goto (tgt := 266) dX4_comesOut_133 (by decide) ?_
          refine aw_vret dX4_comesOut_266 rfl (Nat.zero_le _) (Nat.zero_le _) ?_
          first
          | exact ⟨rfl, I130, rfl, cO_cut he (by omega) (by omega) (by omega) hP130.1, hF3.tr hP130.2⟩
          | exact ⟨rfl, I142, rfl, cO_close he he1 (by omega) (by omega) hP142.1, hF3.tr hP142.2⟩
          | exact ⟨rfl, I263, rfl, cO_w1 he (by omega) (by omega) (by omega) hc238 hc252 rfl hP263.1, hF4.tr hP263.2⟩
          | exact ⟨rfl, I224, rfl, cO_w2 he (by omega) (by omega) (by omega) (fun q => by have := q.2; omega) hM4, hF4⟩
          | exact ⟨rfl, I224, rfl, cO_w2 he (by omega) (by omega) (by omega) (fun q => hc238 q.1) hM4, hF4⟩
          | exact ⟨rfl, I83, rfl, cO_no he (by omega) (fun q => by omega) hM3, hF3⟩
  refine run_of (ls := [(0, .ref (G.1 140)), (1, .int (nI st)), (2, .int (nI d)), (3, .int (nI tr)), (4, .int (nI since))]) (by decide +kernel) rfl rfl (Nat.le_of_ble_eq_true rfl) ?_
  refine aw_iload_n dX4_comesOut_0 rfl ?_
  refine aw_if_eqN (tgt := 14) dX4_comesOut_1 (by decide) (by omega) (fun hc1 => ?_) (fun hc1 => ?_)
  · refine aw_iconst (v := nI 1) dX4_comesOut_14 rfl ?_
    refine aw_goto (tgt := 19) dX4_comesOut_15 (by decide) ?_
    first
    | exact aw_top (congrArg nI (by rw [he]; unfold badN; first | rw [if_pos (by omega)] | rw [if_neg (by omega)])) key
  · refine aw_iload_n dX4_comesOut_4 rfl ?_
    refine aw_aload_n dX4_comesOut_5 rfl ?_
    refine aw_getR dX4_comesOut_6 flX4_7 rfl (by assumption) (by assumption) ?_
    refine aw_iconst (v := nI 0) dX4_comesOut_9 rfl ?_
    refine aw_iald dX4_comesOut_10 (by assumption) (by omega) rfl (by omega) (hM.1 0 (by decide)) ?_
    refine aw_icmp_leN (tgt := 18) dX4_comesOut_11 (by decide) (by omega) (by omega) (fun hc11 => ?_) (fun hc11 => ?_)
    · refine aw_iconst (v := nI 0) dX4_comesOut_18 rfl ?_
      first
      | exact aw_top (congrArg nI (by rw [he]; unfold badN; first | rw [if_pos (by omega)] | rw [if_neg (by omega)])) key
    · refine aw_iconst (v := nI 1) dX4_comesOut_14 rfl ?_
      refine aw_goto (tgt := 19) dX4_comesOut_15 (by decide) ?_
      first
      | exact aw_top (congrArg nI (by rw [he]; unfold badN; first | rw [if_pos (by omega)] | rw [if_neg (by omega)])) key
end MODEL3
