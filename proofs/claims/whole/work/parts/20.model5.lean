/-! THE REFERENCE: a call -/
/-- behind the calls on their way anything may lie -/
theorem RM_sl {f f' : Nat → Int32} {a : AA} {i : Nat} {v : Int32} (hM : RM f a) (hi : 10 + 5 * a.2.1.length ≤ i) (hi2 : i < 90) (hf : ∀ j, f' j = if j = i then v else f j) : RM f' a := by
  obtain ⟨h1, h2, h3, h4⟩ := hM
  refine ⟨fun k hk => ?_, ?_, fun p c hp w hw => ?_, fun s hs w hw => ?_⟩
  · rw [hf, if_neg (by omega)]; exact h1 k hk
  · rw [hf, if_neg (by omega)]; exact h2
  · have hpl := (List.getElem?_eq_some_iff.mp hp).1
    rw [hf, if_neg (by omega)]; exact h3 p c hp w hw
  · rw [hf, if_neg (by omega)]; exact h4 s hs w hw
theorem RM_push {f f' : Nat → Int32} {a : AA} {c : Cl} (hM : RM f a) (hl : a.2.1.length < 16) (hc : ∀ w, w < 5 → f (10 + 5 * a.2.1.length + w) = nI (c w)) (hf : ∀ j, f' j = if j = 9 then nI (a.2.1.length + 1) else f j) : RM f' (a.1, a.2.1 ++ [c], a.2.2) := by
  obtain ⟨h1, h2, h3, h4⟩ := hM
  refine ⟨fun k hk => ?_, ?_, fun p c' hp w hw => ?_, fun s hs w hw => ?_⟩
  · rw [hf, if_neg (by omega)]; exact h1 k hk
  · rw [hf, if_pos rfl]; simp
  · rw [hf, if_neg (by omega)]
    have hp : (a.2.1 ++ [c])[p]? = some c' := hp
    by_cases e : p < a.2.1.length
    · rw [List.getElem?_append_left e] at hp
      exact h3 p c' hp w hw
    · rw [List.getElem?_append_right (by omega)] at hp
      have hz : p - a.2.1.length < 1 := (List.getElem?_eq_some_iff.mp hp).1
      have hpe : p = a.2.1.length := by omega
      subst hpe
      rw [Nat.sub_self] at hp
      cases hp
      exact hc w hw
  · rw [hf, if_neg (by omega)]; exact h4 s hs w hw
theorem callA_r {a : AA} {st : Nat} (h : refd a st = true) : callA a st = (a.1, a.2.1, sT a.2.2 st (u1 (a.2.2 st) 8 (a.2.2 st 8 + 1))) := by unfold callA; rw [if_pos h]
theorem callA_0 {a : AA} {st : Nat} (h : refd a st = false) (hd : a.2.2 st (12 + a.2.2 st 1) = 0) : callA a st = outA (u1 a.1 8 (a.1 8 + trN a st), a.2.1, sT a.2.2 st (thruR (a.2.2 st))) st 0 (trN a st) (a.2.2 st 11) := by
  unfold callA; rw [if_neg (by simp [h]), if_pos hd]
theorem callA_1 {a : AA} {st : Nat} (h : refd a st = false) (hd : a.2.2 st (12 + a.2.2 st 1) ≠ 0) : callA a st = (u1 a.1 8 (a.1 8 + trN a st), a.2.1 ++ [mkC st (a.2.2 st (12 + a.2.2 st 1)) (trN a st) (a.2.2 st 11)], sT a.2.2 st (thruR (a.2.2 st))) := by
  unfold callA; rw [if_neg (by simp [h]), if_neg hd]
theorem callN_r {a : AA} {st : Nat} (h : refd a st = true) : callN a st = 0 := by unfold callN; rw [if_pos h]
theorem callN_t {a : AA} {st : Nat} (h : refd a st = false) : callN a st = trN a st + 1 := by unfold callN; rw [if_neg (by simp [h])]
theorem trN_le (a : AA) (st : Nat) : trN a st ≤ 1 := by unfold trN; split <;> omega
theorem RK.thru {b : Nat} {t : Rw} (h : RK b t) : RK b (thruR t) := by
  obtain ⟨h0, h1, h2, h3, h4, h5, h6, h7, h8, h9, h10, h11, h12⟩ := h
  refine ⟨h0, h1, Nat.mod_lt _ h0, h3, h4, h5, h6, h7, h8, h9, h10, h11, fun j hj => ?_⟩
  show u1 (u1 t 1 _) 7 _ (12 + j) ≤ 99
  rw [u1_n (by omega), u1_n (by omega)]; exact h12 j hj
theorem cN_eq {a : AA} {st : Nat} (h : refd a st = false) : (if trN a st = 0 then 1 else 2) = callN a st := by
  rw [callN_t h]
  have := trN_le a st
  rcases (show trN a st = 0 ∨ trN a st = 1 by omega) with q | q <;> rw [q] <;> rfl
section MODEL5
variable {G : GG} {K : Nat → Option (Nat × Nat)} {R : Nat → Nat → Value} {I : Nat → Nat → Int32} {J : Nat → Nat → Int64} {z : Nat} {σ : Sg} {a : AA} {m k : Nat}
theorem r_calls (hL : LM G K R) (hM : RM (I 141) a) {st b : Nat} (hst : st < 4) (hg : SK a.1) (h16 : a.2.1.length ≤ 16) (hroom : refd a st = true ∨ a.2.1.length < 16) (hC : ∀ c ∈ a.2.1, c 0 < 4 ∧ c 3 ≤ 1) (ht : RK b (a.2.2 st)) (hb : b ≤ 1000000000) : Run G YX4_calls [.ref (G.1 140), .int (nI st)] (K, R, I, J, z) (Up K R J z (some (.int (nI (callN a st)))) (fun I' => RM (I' 141) (callA a st) ∧ FrO 141 I I')) := by
  obtain ⟨hk0, hr1, hk1, hr2, hk2, hr3, hk3, hr5, hk5, hr9, hk9⟩ := hL
  have hL : LM G K R := ⟨hk0, hr1, hk1, hr2, hk2, hr3, hk3, hr5, hk5, hr9, hk9⟩
  have h2 : a.2.2 st 2 ≤ 2 := ht.2.2.2.1
  have h0 : 1 ≤ a.2.2 st 0 := ht.1
  have h0' : a.2.2 st 0 ≤ 20 := ht.2.1
  have h1 : a.2.2 st 1 < a.2.2 st 0 := ht.2.2.1
  have h11 : a.2.2 st 11 ≤ b := ht.2.2.2.2.2.2.2.2.2.2.2.1
  have hdel : a.2.2 st (12 + a.2.2 st 1) ≤ 99 := ht.2.2.2.2.2.2.2.2.2.2.2.2 _ (by omega)
  have hb1 := b2_le (refd a st)
  have htr := trN_le a st
  have key : refd a st = false → AW G YX4_calls (MZ G YX4_calls (Up K R J z (some (.int (nI (callN a st)))) (fun I' => RM (I' 141) (callA a st) ∧ FrO 141 I I'))) 33 [(0, .ref (G.1 140)), (1, .int (nI st)), (2, .int (nI (trN a st)))] [] (K, R, I, J, z) 0 0 := by
    intro hrf
    have hl : a.2.1.length < 16 := by
      rcases hroom with q | q
      · rw [hrf] at q; cases q
      · exact q
    refine aw_aload_n dX4_calls_33 rfl ?_
    refine aw_iload_n dX4_calls_34 rfl ?_
    refine aw_bipush (v := nI 12) dX4_calls_35 rfl ?_
    refine aw_aload_n dX4_calls_37 rfl ?_
    refine aw_iload_n dX4_calls_38 rfl ?_
    refine aw_iconst (v := nI 1) dX4_calls_39 rfl ?_
    refine aw_vRd dX4_calls_40 cvX4_40 ⟨Nat.le_of_ble_eq_true rfl, Nat.le_of_ble_eq_true rfl⟩ (by assumption) ⟨_, rfl, rfl⟩ (r_of (w := 1) hL hM hst (by decide)) rfl rfl (Nat.le_of_ble_eq_true rfl) ⟨rfl, rfl⟩ ⟨Nat.zero_le _, Nat.zero_le _⟩ ?_
    first | refine aw_iaddN dX4_calls_43 ?_ | refine aw_iadd dX4_calls_43 ?_
    refine aw_vRd dX4_calls_44 cvX4_40 ⟨Nat.le_of_ble_eq_true rfl, Nat.le_of_ble_eq_true rfl⟩ (by assumption) ⟨_, rfl, rfl⟩ (r_of (w := 12 + a.2.2 st 1) hL hM hst (by omega)) rfl rfl (Nat.le_of_ble_eq_true rfl) ⟨rfl, rfl⟩ ⟨Nat.zero_le _, Nat.zero_le _⟩ ?_
    refine aw_istore_n (ls' := [(3, _), (0, _), (1, _), (2, _)]) dX4_calls_47 (by decide) rfl ?_
    refine aw_aload_n dX4_calls_48 rfl ?_
    refine aw_iload_n dX4_calls_49 rfl ?_
    refine aw_iconst (v := nI 1) dX4_calls_50 rfl ?_
    refine aw_aload_n dX4_calls_51 rfl ?_
    refine aw_iload_n dX4_calls_52 rfl ?_
    refine aw_iconst (v := nI 1) dX4_calls_53 rfl ?_
    refine aw_vRd dX4_calls_54 cvX4_40 ⟨Nat.le_of_ble_eq_true rfl, Nat.le_of_ble_eq_true rfl⟩ (by assumption) ⟨_, rfl, rfl⟩ (r_of (w := 1) hL hM hst (by decide)) rfl rfl (Nat.le_of_ble_eq_true rfl) ⟨rfl, rfl⟩ ⟨Nat.zero_le _, Nat.zero_le _⟩ ?_
    refine aw_iconst (v := nI 1) dX4_calls_57 rfl ?_
    first | refine aw_iaddN dX4_calls_58 ?_ | refine aw_iadd dX4_calls_58 ?_
    refine aw_aload_n dX4_calls_59 rfl ?_
    refine aw_iload_n dX4_calls_60 rfl ?_
    refine aw_iconst (v := nI 0) dX4_calls_61 rfl ?_
    refine aw_vRd dX4_calls_62 cvX4_40 ⟨Nat.le_of_ble_eq_true rfl, Nat.le_of_ble_eq_true rfl⟩ (by assumption) ⟨_, rfl, rfl⟩ (r_of (w := 0) hL hM hst (by decide)) rfl rfl (Nat.le_of_ble_eq_true rfl) ⟨rfl, rfl⟩ ⟨Nat.zero_le _, Nat.zero_le _⟩ ?_
    refine aw_iremN dX4_calls_65 (by omega) (by omega) (by omega) ?_
    refine aw_vUp0 dX4_calls_66 cvX4_29 ⟨Nat.le_of_ble_eq_true rfl, Nat.le_of_ble_eq_true rfl⟩ (by assumption) ⟨_, rfl, rfl⟩ (r_lay (w := 1) hL hM h16 hst (by decide)) rfl rfl (Nat.le_of_ble_eq_true rfl) ⟨rfl, rfl⟩ ⟨Nat.zero_le _, Nat.zero_le _⟩ (fun I66 hP66 => ?_)
    refine aw_aload_n dX4_calls_69 rfl ?_
    refine aw_iload_n dX4_calls_70 rfl ?_
    refine aw_bipush (v := nI 7) dX4_calls_71 rfl ?_
    refine aw_vUp0 dX4_calls_73 cvX4_48 ⟨Nat.le_of_ble_eq_true rfl, Nat.le_of_ble_eq_true rfl⟩ (by assumption) ⟨_, rfl, rfl⟩ (r_adds (w := 7) hL hP66.1 h16 hst (by decide)) rfl rfl (Nat.le_of_ble_eq_true rfl) ⟨rfl, rfl⟩ ⟨Nat.zero_le _, Nat.zero_le _⟩ (fun I73 hP73 => ?_)
    have hM7 : RM (I73 141) (a.1, a.2.1, sT a.2.2 st (thruR (a.2.2 st))) := by
      have h := hP73.1
      simp only [sT_sT, sT_s] at h
      exact h
    have hF7 : FrO 141 I I73 := hP66.2.tr hP73.2
    refine aw_aload_n dX4_calls_76 rfl ?_
    refine aw_getR dX4_calls_77 flX4_7 rfl (by assumption) (by assumption) ?_
    refine aw_bipush (v := nI 8) dX4_calls_80 rfl ?_
    refine aw_dup2 dX4_calls_82 rfl rfl ?_
    refine aw_iald dX4_calls_83 (by assumption) (by omega) rfl (by omega) (hM7.1 8 (by decide)) ?_
    refine aw_iload_n dX4_calls_84 rfl ?_
    refine aw_dia (tgt := 92) (jn := 93) (c1 := 1) (c0 := 0) dX4_calls_85 (by decide) dX4_calls_88 rfl dX4_calls_89 (by decide) dX4_calls_92 rfl rfl (by omega) (dia01 htr) ?_
    first | refine aw_iaddN dX4_calls_93 ?_ | refine aw_iadd dX4_calls_93 ?_
    refine aw_iast dX4_calls_94 (by assumption) (by omega) (by omega) rfl (by omega) ?_
    have hM8 : RM (up2 I73 141 8 (nI (a.1 8 + trN a st)) 141) (u1 a.1 8 (a.1 8 + trN a st), a.2.1, sT a.2.2 st (thruR (a.2.2 st))) := RM_g hM7 (by decide) (fun j => up2_o)
    have hF8 : FrO 141 I (up2 I73 141 8 (nI (a.1 8 + trN a st))) := hF7.tr FrO.up
    generalize up2 I73 141 8 (nI (a.1 8 + trN a st)) = I8 at hM8 hF8 ⊢
    have hg8 : SK (u1 a.1 8 (a.1 8 + trN a st)) := hg
    have ht8 : RK b (sT a.2.2 st (thruR (a.2.2 st)) st) := by rw [sT_s]; exact ht.thru
    have hrow11 : sT a.2.2 st (thruR (a.2.2 st)) st 11 = a.2.2 st 11 := by rw [sT_s]; rfl
    refine aw_iload_n dX4_calls_95 rfl ?_
    refine aw_if_neN (tgt := 116) dX4_calls_96 (by decide) (by omega) (fun hc96 => ?_) (fun hc96 => ?_)
    · refine aw_bipush (v := nI 10) dX4_calls_116 rfl ?_
      refine aw_iconst (v := nI 5) dX4_calls_118 rfl ?_
      refine aw_aload_n dX4_calls_119 rfl ?_
      refine aw_getR dX4_calls_120 flX4_7 rfl (by assumption) (by assumption) ?_
      refine aw_bipush (v := nI 9) dX4_calls_123 rfl ?_
      refine aw_iald dX4_calls_125 (by assumption) (by omega) rfl (by omega) (show _ = nI a.2.1.length from hM8.2.1) ?_
      first | refine aw_imulN dX4_calls_126 ?_ | refine aw_imul dX4_calls_126 ?_
      first | refine aw_iaddN dX4_calls_127 ?_ | refine aw_iadd dX4_calls_127 ?_
      refine aw_istore (ls' := [(4, _), (3, _), (0, _), (1, _), (2, _)]) dX4_calls_128 (by decide) rfl ?_
      refine aw_aload_n dX4_calls_130 rfl ?_
      refine aw_getR dX4_calls_131 flX4_7 rfl (by assumption) (by assumption) ?_
      refine aw_iload dX4_calls_134 rfl ?_
      refine aw_iconst (v := nI 0) dX4_calls_136 rfl ?_
      first | refine aw_iaddN dX4_calls_137 ?_ | refine aw_iadd dX4_calls_137 ?_
      refine aw_iload_n dX4_calls_138 rfl ?_
      refine aw_iast dX4_calls_139 (by assumption) (by omega) (by omega) rfl (by omega) ?_
      refine aw_aload_n dX4_calls_140 rfl ?_
      refine aw_getR dX4_calls_141 flX4_7 rfl (by assumption) (by assumption) ?_
      refine aw_iload dX4_calls_144 rfl ?_
      refine aw_iconst (v := nI 1) dX4_calls_146 rfl ?_
      first | refine aw_iaddN dX4_calls_147 ?_ | refine aw_iadd dX4_calls_147 ?_
      refine aw_iload_n dX4_calls_148 rfl ?_
      refine aw_iast dX4_calls_149 (by assumption) (by omega) (by omega) rfl (by omega) ?_
      refine aw_aload_n dX4_calls_150 rfl ?_
      refine aw_getR dX4_calls_151 flX4_7 rfl (by assumption) (by assumption) ?_
      refine aw_iload dX4_calls_154 rfl ?_
      refine aw_iconst (v := nI 2) dX4_calls_156 rfl ?_
      first | refine aw_iaddN dX4_calls_157 ?_ | refine aw_iadd dX4_calls_157 ?_
      refine aw_iload_n dX4_calls_158 rfl ?_
      refine aw_iast dX4_calls_159 (by assumption) (by omega) (by omega) rfl (by omega) ?_
      refine aw_aload_n dX4_calls_160 rfl ?_
      refine aw_getR dX4_calls_161 flX4_7 rfl (by assumption) (by assumption) ?_
      refine aw_iload dX4_calls_164 rfl ?_
      refine aw_iconst (v := nI 3) dX4_calls_166 rfl ?_
      first | refine aw_iaddN dX4_calls_167 ?_ | refine aw_iadd dX4_calls_167 ?_
      refine aw_iload_n dX4_calls_168 rfl ?_
      refine aw_dia (tgt := 176) (jn := 177) (c1 := 1) (c0 := 0) dX4_calls_169 (by decide) dX4_calls_172 rfl dX4_calls_173 (by decide) dX4_calls_176 rfl rfl (by omega) (dia01 htr) ?_
      refine aw_iast dX4_calls_177 (by assumption) (by omega) (by omega) rfl (by omega) ?_
      have q1 := RM_sl (f' := up2 I8 141 (10 + 5 * a.2.1.length + 0) (nI st) 141) hM8 (by show 10 + 5 * a.2.1.length ≤ _; omega) (by omega) (fun j => up2_o)
      have q2 := RM_sl (f' := up2 (up2 I8 141 (10 + 5 * a.2.1.length + 0) (nI st)) 141 (10 + 5 * a.2.1.length + 1) (nI (a.2.2 st (12 + a.2.2 st 1))) 141) q1 (by show 10 + 5 * a.2.1.length ≤ _; omega) (by omega) (fun j => up2_o)
      have q3 := RM_sl (f' := up2 (up2 (up2 I8 141 (10 + 5 * a.2.1.length + 0) (nI st)) 141 (10 + 5 * a.2.1.length + 1) (nI (a.2.2 st (12 + a.2.2 st 1)))) 141 (10 + 5 * a.2.1.length + 2) (nI (a.2.2 st (12 + a.2.2 st 1))) 141) q2 (by show 10 + 5 * a.2.1.length ≤ _; omega) (by omega) (fun j => up2_o)
      have hM9 := RM_sl (f' := up2 (up2 (up2 (up2 I8 141 (10 + 5 * a.2.1.length + 0) (nI st)) 141 (10 + 5 * a.2.1.length + 1) (nI (a.2.2 st (12 + a.2.2 st 1)))) 141 (10 + 5 * a.2.1.length + 2) (nI (a.2.2 st (12 + a.2.2 st 1)))) 141 (10 + 5 * a.2.1.length + 3) (nI (trN a st)) 141) q3 (by show 10 + 5 * a.2.1.length ≤ _; omega) (by omega) (fun j => up2_o)
      have hw9 : ∀ w, w < 4 → up2 (up2 (up2 (up2 I8 141 (10 + 5 * a.2.1.length + 0) (nI st)) 141 (10 + 5 * a.2.1.length + 1) (nI (a.2.2 st (12 + a.2.2 st 1)))) 141 (10 + 5 * a.2.1.length + 2) (nI (a.2.2 st (12 + a.2.2 st 1)))) 141 (10 + 5 * a.2.1.length + 3) (nI (trN a st)) 141 (10 + 5 * a.2.1.length + w) = nI (mkC st (a.2.2 st (12 + a.2.2 st 1)) (trN a st) (a.2.2 st 11) w) := by
        intro w hw
        rcases (show w = 0 ∨ w = 1 ∨ w = 2 ∨ w = 3 by omega) with rfl | rfl | rfl | rfl <;> simp [up2, mkC]
      have hF9 : FrO 141 I (up2 (up2 (up2 (up2 I8 141 (10 + 5 * a.2.1.length + 0) (nI st)) 141 (10 + 5 * a.2.1.length + 1) (nI (a.2.2 st (12 + a.2.2 st 1)))) 141 (10 + 5 * a.2.1.length + 2) (nI (a.2.2 st (12 + a.2.2 st 1)))) 141 (10 + 5 * a.2.1.length + 3) (nI (trN a st))) := hF8.tr (FrO.up.tr (FrO.up.tr (FrO.up.tr FrO.up)))
      generalize up2 (up2 (up2 (up2 I8 141 (10 + 5 * a.2.1.length + 0) (nI st)) 141 (10 + 5 * a.2.1.length + 1) (nI (a.2.2 st (12 + a.2.2 st 1)))) 141 (10 + 5 * a.2.1.length + 2) (nI (a.2.2 st (12 + a.2.2 st 1)))) 141 (10 + 5 * a.2.1.length + 3) (nI (trN a st)) = I9 at hM9 hw9 hF9 ⊢
      clear q1 q2 q3
      refine aw_aload_n dX4_calls_178 rfl ?_
      refine aw_getR dX4_calls_179 flX4_7 rfl (by assumption) (by assumption) ?_
      refine aw_iload dX4_calls_182 rfl ?_
      refine aw_iconst (v := nI 4) dX4_calls_184 rfl ?_
      first | refine aw_iaddN dX4_calls_185 ?_ | refine aw_iadd dX4_calls_185 ?_
      refine aw_aload_n dX4_calls_186 rfl ?_
      refine aw_iload_n dX4_calls_187 rfl ?_
      refine aw_bipush (v := nI 11) dX4_calls_188 rfl ?_
      refine aw_vRd dX4_calls_190 cvX4_40 ⟨Nat.le_of_ble_eq_true rfl, Nat.le_of_ble_eq_true rfl⟩ (by assumption) ⟨_, rfl, rfl⟩ (r_ofv (w := 11) (v := a.2.2 st 11) hL hM9 hst (by decide) hrow11) rfl rfl (Nat.le_of_ble_eq_true rfl) ⟨rfl, rfl⟩ ⟨Nat.zero_le _, Nat.zero_le _⟩ ?_
      refine aw_iast dX4_calls_193 (by assumption) (by omega) (by omega) rfl (by omega) ?_
      have hM10 := RM_sl (f' := up2 I9 141 (10 + 5 * a.2.1.length + 4) (nI (a.2.2 st 11)) 141) hM9 (by show 10 + 5 * a.2.1.length ≤ _; omega) (by omega) (fun j => up2_o)
      have hw10 : ∀ w, w < 5 → up2 I9 141 (10 + 5 * a.2.1.length + 4) (nI (a.2.2 st 11)) 141 (10 + 5 * a.2.1.length + w) = nI (mkC st (a.2.2 st (12 + a.2.2 st 1)) (trN a st) (a.2.2 st 11) w) := by
        intro w hw
        rw [up2_o]
        by_cases e : w = 4
        · subst e; rw [if_pos rfl]; rfl
        · rw [if_neg (by omega)]; exact hw9 w (by omega)
      have hF10 : FrO 141 I (up2 I9 141 (10 + 5 * a.2.1.length + 4) (nI (a.2.2 st 11))) := hF9.tr FrO.up
      generalize up2 I9 141 (10 + 5 * a.2.1.length + 4) (nI (a.2.2 st 11)) = I10 at hM10 hw10 hF10 ⊢
      refine aw_aload_n dX4_calls_194 rfl ?_
      refine aw_getR dX4_calls_195 flX4_7 rfl (by assumption) (by assumption) ?_
      refine aw_bipush (v := nI 9) dX4_calls_198 rfl ?_
      refine aw_dup2 dX4_calls_200 rfl rfl ?_
      refine aw_iald dX4_calls_201 (by assumption) (by omega) rfl (by omega) (show _ = nI a.2.1.length from hM10.2.1) ?_
      refine aw_iconst (v := nI 1) dX4_calls_202 rfl ?_
      first | refine aw_iaddN dX4_calls_203 ?_ | refine aw_iadd dX4_calls_203 ?_
      refine aw_iast dX4_calls_204 (by assumption) (by omega) (by omega) rfl (by omega) ?_
      refine aw_iload_n dX4_calls_205 rfl ?_
      refine aw_dia (tgt := 213) (jn := 214) (c1 := 2) (c0 := 1) dX4_calls_206 (by decide) dX4_calls_209 rfl dX4_calls_210 (by decide) dX4_calls_213 rfl rfl (by omega) rfl ?_
      refine aw_iret dX4_calls_214 rfl (Nat.zero_le _) (Nat.zero_le _) ?_
      first
      | exact ⟨congrArg (fun n => (Sum.inl (some (Value.int (nI n))) : RT)) (cN_eq hrf), _, rfl, by rw [callA_1 hrf hc96]; exact RM_push hM10 hl hw10 (fun j => up2_o), hF10.tr FrO.up⟩
      | exact ⟨congrArg (fun n => (Sum.inl (some (Value.int (nI n))) : RT)) (cN_eq hrf), I110, rfl, by rw [callA_0 hrf hc96]; exact hP110.1, hF8.tr hP110.2⟩
    · refine aw_aload_n dX4_calls_99 rfl ?_
      refine aw_iload_n dX4_calls_100 rfl ?_
      refine aw_iconst (v := nI 0) dX4_calls_101 rfl ?_
      refine aw_iload_n dX4_calls_102 rfl ?_
      refine aw_aload_n dX4_calls_103 rfl ?_
      refine aw_iload_n dX4_calls_104 rfl ?_
      refine aw_bipush (v := nI 11) dX4_calls_105 rfl ?_
      refine aw_vRd dX4_calls_107 cvX4_40 ⟨Nat.le_of_ble_eq_true rfl, Nat.le_of_ble_eq_true rfl⟩ (by assumption) ⟨_, rfl, rfl⟩ (r_ofv (w := 11) (v := a.2.2 st 11) hL hM8 hst (by decide) hrow11) rfl rfl (Nat.le_of_ble_eq_true rfl) ⟨rfl, rfl⟩ ⟨Nat.zero_le _, Nat.zero_le _⟩ ?_
      refine aw_vUp0 dX4_calls_110 cvX4_73 ⟨Nat.le_of_ble_eq_true rfl, Nat.le_of_ble_eq_true rfl⟩ (by assumption) ⟨_, rfl, rfl⟩ (r_comesOut (b := b) (d := 0) (tr := trN a st) (since := a.2.2 st 11) hL hM8 h16 hst hg8 ht8 (by decide) htr (by omega) hb) rfl rfl (Nat.le_of_ble_eq_true rfl) ⟨rfl, rfl⟩ ⟨Nat.zero_le _, Nat.zero_le _⟩ (fun I110 hP110 => ?_)
      refine aw_goto (tgt := 205) dX4_calls_113 (by decide) ?_
      refine aw_iload_n dX4_calls_205 rfl ?_
      refine aw_dia (tgt := 213) (jn := 214) (c1 := 2) (c0 := 1) dX4_calls_206 (by decide) dX4_calls_209 rfl dX4_calls_210 (by decide) dX4_calls_213 rfl rfl (by omega) rfl ?_
      refine aw_iret dX4_calls_214 rfl (Nat.zero_le _) (Nat.zero_le _) ?_
      first
      | exact ⟨congrArg (fun n => (Sum.inl (some (Value.int (nI n))) : RT)) (cN_eq hrf), _, rfl, by rw [callA_1 hrf hc96]; exact RM_push hM10 hl hw10 (fun j => up2_o), hF10.tr FrO.up⟩
      | exact ⟨congrArg (fun n => (Sum.inl (some (Value.int (nI n))) : RT)) (cN_eq hrf), I110, rfl, by rw [callA_0 hrf hc96]; exact hP110.1, hF8.tr hP110.2⟩
  refine run_of (ls := [(0, .ref (G.1 140)), (1, .int (nI st))]) (by decide +kernel) rfl rfl (Nat.le_of_ble_eq_true rfl) ?_
  refine aw_aload_n dX4_calls_0 rfl ?_
  refine aw_iload_n dX4_calls_1 rfl ?_
  refine aw_vRd dX4_calls_2 cvX4_70 ⟨Nat.le_of_ble_eq_true rfl, Nat.le_of_ble_eq_true rfl⟩ (by assumption) ⟨_, rfl, rfl⟩ (r_isRefused hL hM hst h16 hC ht) rfl rfl (Nat.le_of_ble_eq_true rfl) ⟨rfl, rfl⟩ ⟨Nat.zero_le _, Nat.zero_le _⟩ ?_
  refine aw_if_eqN (tgt := 17) dX4_calls_5 (by decide) (by omega) (fun hc5 => ?_) (fun hc5 => ?_)
  · refine aw_aload_n dX4_calls_17 rfl ?_
    refine aw_iload_n dX4_calls_18 rfl ?_
    refine aw_iconst (v := nI 2) dX4_calls_19 rfl ?_
    refine aw_vRd dX4_calls_20 cvX4_40 ⟨Nat.le_of_ble_eq_true rfl, Nat.le_of_ble_eq_true rfl⟩ (by assumption) ⟨_, rfl, rfl⟩ (r_of (w := 2) hL hM hst (by decide)) rfl rfl (Nat.le_of_ble_eq_true rfl) ⟨rfl, rfl⟩ ⟨Nat.zero_le _, Nat.zero_le _⟩ ?_
    refine aw_iconst (v := nI 2) dX4_calls_23 rfl ?_
    refine aw_icmp_neN (tgt := 31) dX4_calls_24 (by decide) (by omega) (by omega) (fun hc24 => ?_) (fun hc24 => ?_)
    · refine aw_iconst (v := nI 0) dX4_calls_31 rfl ?_
      refine aw_top (x' := nI (trN a st)) (congrArg nI (by unfold trN; first | rw [if_pos hc24] | rw [if_neg hc24])) ?_
      refine aw_istore_n (ls' := [(2, _), (0, _), (1, _)]) dX4_calls_32 (by decide) rfl ?_
      exact aw_pick [1, 2, 0] rfl (key (b2_0.mp hc5))
    · refine aw_iconst (v := nI 1) dX4_calls_27 rfl ?_
      refine aw_goto (tgt := 32) dX4_calls_28 (by decide) ?_
      refine aw_top (x' := nI (trN a st)) (congrArg nI (by unfold trN; first | rw [if_pos hc24] | rw [if_neg hc24])) ?_
      refine aw_istore_n (ls' := [(2, _), (0, _), (1, _)]) dX4_calls_32 (by decide) rfl ?_
      exact aw_pick [1, 2, 0] rfl (key (b2_0.mp hc5))
  · refine aw_aload_n dX4_calls_8 rfl ?_
    refine aw_iload_n dX4_calls_9 rfl ?_
    refine aw_bipush (v := nI 8) dX4_calls_10 rfl ?_
    refine aw_vUp0 dX4_calls_12 cvX4_48 ⟨Nat.le_of_ble_eq_true rfl, Nat.le_of_ble_eq_true rfl⟩ (by assumption) ⟨_, rfl, rfl⟩ (r_adds (w := 8) hL hM h16 hst (by decide)) rfl rfl (Nat.le_of_ble_eq_true rfl) ⟨rfl, rfl⟩ ⟨Nat.zero_le _, Nat.zero_le _⟩ (fun I12 hP12 => ?_)
    refine aw_iconst (v := nI 0) dX4_calls_15 rfl ?_
    have hrf : refd a st = true := by
      cases hq : refd a st
      · exact absurd (b2_f hq) hc5
      · rfl
    exact aw_iret dX4_calls_16 rfl (Nat.zero_le _) (Nat.zero_le _) ⟨congrArg (fun n => (Sum.inl (some (Value.int (nI n))) : RT)) (callN_r hrf).symm, I12, rfl, by rw [callA_r hrf]; exact hP12.1, hP12.2⟩
end MODEL5
