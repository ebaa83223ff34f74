/-! THE CLASS: its stores -/
theorem shr_and : ∀ k, k < 32 → (((nI k).toUInt32 &&& Int32.toUInt32 31).toBitVec.toNat) = k := by decide
theorem iand_nI (a b : Nat) : nI a &&& nI b = nI (a &&& b) := by
  apply Int32.toBitVec_inj.mp
  show BitVec.ofNat 32 a &&& BitVec.ofNat 32 b = BitVec.ofNat 32 (a &&& b)
  rw [BitVec.ofNat_and]
theorem ushr_nI {a k : Nat} (ha : a < 2 ^ 31) (hk : k < 32) : ((nI a).toUInt32 >>> ((nI k).toUInt32 &&& Int32.toUInt32 31)).toInt32 = nI (a / 2 ^ k) := by
  apply Int32.toBitVec_inj.mp
  show (BitVec.ofNat 32 a) >>> (((nI k).toUInt32 &&& Int32.toUInt32 31).toBitVec % 32#32) = BitVec.ofNat 32 (a / 2 ^ k)
  have h := shr_and k hk
  apply BitVec.eq_of_toNat_eq
  rw [BitVec.ushiftRight_eq', BitVec.toNat_ushiftRight, BitVec.toNat_umod, h, BitVec.toNat_ofNat, BitVec.toNat_ofNat]
  have e2 : (BitVec.ofNat 32 (a / 2 ^ k)).toNat = a / 2 ^ k := by rw [BitVec.toNat_ofNat]; exact Nat.mod_eq_of_lt (Nat.lt_of_le_of_lt (Nat.div_le_self _ _) (Nat.lt_trans ha (by decide)))
  rw [show k % (32 % 2 ^ 32) = k from Nat.mod_eq_of_lt hk, Nat.shiftRight_eq_div_pow, Nat.mod_eq_of_lt (Nat.lt_trans ha (by decide)), e2]
theorem bits_mod (n w : Nat) : ∀ j, bits (n % 2 ^ w) j = bits n (min j w)
  | 0 => by rw [Nat.zero_min]; rfl
  | j + 1 => by
    rw [bits, bits_mod n w j]
    rcases Nat.lt_or_ge j w with h | h
    · rw [Nat.min_eq_left (by omega), Nat.min_eq_left (by omega), bits]
      congr 1
      have h1 : (n % 2 ^ w) / 2 ^ j % 2 = n / 2 ^ j % 2 := by
        have := Nat.testBit_mod_two_pow n w j
        rw [Nat.testBit_eq_decide_div_mod_eq, Nat.testBit_eq_decide_div_mod_eq, decide_eq_true h, Bool.true_and] at this
        have h2 : (n % 2 ^ w / 2 ^ j % 2 = 1) ↔ (n / 2 ^ j % 2 = 1) := by simpa using this
        omega
      exact h1
    · rw [Nat.min_eq_right (by omega), Nat.min_eq_right (by omega)]
      have h1 : n % 2 ^ w / 2 ^ j = 0 := Nat.div_eq_of_lt (Nat.lt_of_lt_of_le (Nat.mod_lt _ (Nat.two_pow_pos w)) (Nat.pow_le_pow_right (by decide) h))
      rw [h1]; rfl
theorem bits_hi {n k : Nat} (h : n < 2 ^ k) : ∀ j, k ≤ j → bits n j = bits n k := by
  intro j hj
  have := bits_mod n k j
  rw [Nat.mod_eq_of_lt h, Nat.min_eq_right hj] at this
  exact this
/-- a store: its object and its row -/
def LT (K : Nat → Option (Nat × Nat)) (R : Nat → Nat → Value) (G : GG) (o : Nat) : Prop := K o = some (2, 14) ∧ R o 0 = .ref (G.1 (o + 1)) ∧ K (o + 1) = some (10, 20) ∧ o < 900
/-- its ints and its row's hold t; what is on its way is counted apart -/
def SR (f r : Nat → Int32) (t : Rw) : Prop :=
  (∀ j, j < 20 → r j = nI (t (12 + j))) ∧ f 1 = nI (t 0) ∧ (∃ x, f 2 = nI x ∧ x ≤ 20 ∧ (if x < t 0 then x else 0) = t 1) ∧ f 3 = nI (t 2) ∧ f 4 = nI (t 5) ∧ f 5 = nI (t 6) ∧ f 6 = nI (t 11) ∧ (t 2 = 0 → f 7 = nI (t 3) ∧ f 8 = nI (t 4)) ∧ f 9 = nI (t 7) ∧ f 10 = nI (t 8) ∧ f 11 = nI (t 9) ∧ f 13 = nI (t 10)
section CLASS2
variable {G : GG} {K : Nat → Option (Nat × Nat)} {R : Nat → Nat → Value} {I : Nat → Nat → Int32} {J : Nat → Nat → Int64} {z : Nat} {σ : Sg} {a : AA} {m k : Nat}
variable {o b : Nat} {t : Rw}
theorem aw_min {y : YY} {Z : ZT} {pc : Nat} {ls : List (Nat × Value)} {st : List Value} {cu su : Nat} {idx a b : Nat} (hd : decode y.2.1 pc = .ok (.invokestatic idx, 3)) (hl : Cond.methodLink y.1.cls idx Lib.Math.min.name ∈ gT) (ha : a < 2 ^ 31) (hb : b < 2 ^ 31) (hf : 1 ≤ y.2.2.2.2.1.frames) (hlo : (st.map fun v => v.category).sum + 13 ≤ y.2.2.2.2.1.locals) (hroom : cu ≤ y.2.2.2.2.1.cells ∧ su ≤ y.2.2.2.2.1.slots)
    (kk : AW G y Z (pc + 3) ls (.int (nI (min a b)) :: st) σ cu su) : AW G y Z pc ls (.int (nI b) :: .int (nI a) :: st) σ cu su := by
  intro p e_ s m args below meth c0 H locs lsa C V S L
  obtain ⟨hx, hbb, hml, hret, hlk, hts, hown, hE, hnm, htb⟩ := id C
  refine va_mmin hx hbb (by rw [hml]; exact L.1.symm) hown (hts _ hl) (hts _ (gT_ix 286 (by decide +kernel) rfl)) (hts _ (gT_ix 13 (by decide +kernel) rfl)) (hts _ (gT_ix 287 (by decide +kernel) rfl)) hf hlo hroom.1 hroom.2 hd ?_
  have e : (if nI b < nI a then nI b else nI a) = nI (min a b) := by
    by_cases q : b < a
    · rw [if_pos ((nI_ltI hb ha).mpr q), Nat.min_eq_right (by omega)]
    · rw [if_neg (fun w => q ((nI_ltI hb ha).mp w)), Nat.min_eq_left (by omega)]
  rw [e]
  exact kk p e_ s m args below meth c0 H locs lsa C V S L
theorem lkX2_71 : Cond.methodLink RX2 71 Lib.Math.min.name ∈ gT := gT_ix 285 (by decide +kernel) rfl
theorem lkX1_135 : Cond.methodLink RX1 135 Lib.Math.min.name ∈ gT := gT_ix 475 (by decide +kernel) rfl
theorem lkX0_37 : Cond.methodLink RX0 37 Lib.Math.min.name ∈ gT := gT_ix 418 (by decide +kernel) rfl
theorem s_bitCount {x : Nat} (hx : x < 65536) : Run G YJ6_bitCount_0f7a4 [.int (nI x)] σ (Rd σ (.int (nI (bits x 16)))) := by
  rw [← b16_bits, ← bcN_16 hx]
  unfold bcN
  simp only
  have g1 : (x / 2) &&& 1431655765 ≤ x := Nat.le_trans Nat.and_le_left (Nat.div_le_self _ _)
  obtain ⟨x1, h1⟩ : ∃ y, y = x - ((x / 2) &&& 1431655765) := ⟨_, rfl⟩
  rw [← h1]
  have l1 : x1 ≤ x := by omega
  have q1 : x1 &&& 858993459 ≤ x1 := Nat.and_le_left
  have q2 : (x1 / 4) &&& 858993459 ≤ x1 / 4 := Nat.and_le_left
  obtain ⟨x2, h2⟩ : ∃ y, y = (x1 &&& 858993459) + ((x1 / 4) &&& 858993459) := ⟨_, rfl⟩
  rw [← h2]
  have l2 : x2 ≤ 2 * 65536 := by omega
  obtain ⟨x3, h3⟩ : ∃ y, y = (x2 + x2 / 16) &&& 252645135 := ⟨_, rfl⟩
  rw [← h3]
  have l3 : x3 ≤ 4 * 65536 := by rw [h3]; exact Nat.le_trans Nat.and_le_left (by omega)
  refine run_of (ls := [(0, .int (nI x))]) (by decide +kernel) rfl rfl (Nat.le_of_ble_eq_true rfl) ?_
  refine aw_iload_n dJ6_bitCount_0f7a4_0 rfl ?_
  refine aw_iload_n dJ6_bitCount_0f7a4_1 rfl ?_
  refine aw_iconst (v := nI 1) dJ6_bitCount_0f7a4_2 rfl ?_
  refine aw_iushr dJ6_bitCount_0f7a4_3 ?_
  rw [ushr_nI (k := 1) (by omega) (by decide)]
  refine aw_ldcw dJ6_bitCount_0f7a4_4 ldJ6_265 ?_
  refine aw_iand dJ6_bitCount_0f7a4_7 ?_
  rw [show (1431655765 : Int32) = nI 1431655765 from rfl, iand_nI]
  first | refine aw_isubN dJ6_bitCount_0f7a4_8 (by omega) ?_ | refine aw_isub dJ6_bitCount_0f7a4_8 ?_
  rw [show (x / 2 ^ 1) = x / 2 from rfl, ← h1]
  refine aw_istore_n (ls' := [(0, _)]) dJ6_bitCount_0f7a4_9 (by decide) rfl ?_
  refine aw_iload_n dJ6_bitCount_0f7a4_10 rfl ?_
  refine aw_ldcw dJ6_bitCount_0f7a4_11 ldJ6_266 ?_
  refine aw_iand dJ6_bitCount_0f7a4_14 ?_
  rw [show (858993459 : Int32) = nI 858993459 from rfl, iand_nI]
  refine aw_iload_n dJ6_bitCount_0f7a4_15 rfl ?_
  refine aw_iconst (v := nI 2) dJ6_bitCount_0f7a4_16 rfl ?_
  refine aw_iushr dJ6_bitCount_0f7a4_17 ?_
  rw [ushr_nI (k := 2) (by omega) (by decide)]
  refine aw_ldcw dJ6_bitCount_0f7a4_18 ldJ6_266 ?_
  refine aw_iand dJ6_bitCount_0f7a4_21 ?_
  rw [show (858993459 : Int32) = nI 858993459 from rfl, iand_nI]
  first | refine aw_iaddN dJ6_bitCount_0f7a4_22 ?_ | refine aw_iadd dJ6_bitCount_0f7a4_22 ?_
  rw [show (x1 / 2 ^ 2) = x1 / 4 from rfl, ← h2]
  refine aw_istore_n (ls' := [(0, _)]) dJ6_bitCount_0f7a4_23 (by decide) rfl ?_
  refine aw_iload_n dJ6_bitCount_0f7a4_24 rfl ?_
  refine aw_iload_n dJ6_bitCount_0f7a4_25 rfl ?_
  refine aw_iconst (v := nI 4) dJ6_bitCount_0f7a4_26 rfl ?_
  refine aw_iushr dJ6_bitCount_0f7a4_27 ?_
  rw [ushr_nI (k := 4) (by omega) (by decide)]
  first | refine aw_iaddN dJ6_bitCount_0f7a4_28 ?_ | refine aw_iadd dJ6_bitCount_0f7a4_28 ?_
  refine aw_ldcw dJ6_bitCount_0f7a4_29 ldJ6_267 ?_
  refine aw_iand dJ6_bitCount_0f7a4_32 ?_
  rw [show (252645135 : Int32) = nI 252645135 from rfl, iand_nI, show (x2 / 2 ^ 4) = x2 / 16 from rfl, ← h3]
  refine aw_istore_n (ls' := [(0, _)]) dJ6_bitCount_0f7a4_33 (by decide) rfl ?_
  refine aw_iload_n dJ6_bitCount_0f7a4_34 rfl ?_
  refine aw_iload_n dJ6_bitCount_0f7a4_35 rfl ?_
  refine aw_bipush (v := nI 8) dJ6_bitCount_0f7a4_36 rfl ?_
  refine aw_iushr dJ6_bitCount_0f7a4_38 ?_
  rw [ushr_nI (k := 8) (by omega) (by decide)]
  first | refine aw_iaddN dJ6_bitCount_0f7a4_39 ?_ | refine aw_iadd dJ6_bitCount_0f7a4_39 ?_
  refine aw_istore_n (ls' := [(0, _)]) dJ6_bitCount_0f7a4_40 (by decide) rfl ?_
  refine aw_iload_n dJ6_bitCount_0f7a4_41 rfl ?_
  refine aw_iload_n dJ6_bitCount_0f7a4_42 rfl ?_
  refine aw_bipush (v := nI 16) dJ6_bitCount_0f7a4_43 rfl ?_
  refine aw_iushr dJ6_bitCount_0f7a4_45 ?_
  rw [ushr_nI (k := 16) (by omega) (by decide)]
  first | refine aw_iaddN dJ6_bitCount_0f7a4_46 ?_ | refine aw_iadd dJ6_bitCount_0f7a4_46 ?_
  refine aw_istore_n (ls' := [(0, _)]) dJ6_bitCount_0f7a4_47 (by decide) rfl ?_
  refine aw_iload_n dJ6_bitCount_0f7a4_48 rfl ?_
  refine aw_bipush (v := nI 63) dJ6_bitCount_0f7a4_49 rfl ?_
  refine aw_iand dJ6_bitCount_0f7a4_51 ?_
  rw [iand_nI]
  exact aw_iret dJ6_bitCount_0f7a4_52 rfl (Nat.zero_le _) (Nat.zero_le _) ⟨rfl, rfl⟩
theorem s_nextPlace (hT : LT K R G o) (hS : SR (I o) (I (o + 1)) t) (hb : RK b t) (hbb : b ≤ 1000000000) : Run G YX2_nextPlace [.ref (G.1 o)] (K, R, I, J, z) (Rd (K, R, I, J, z) (.int (nI (t 1)))) := by
  obtain ⟨hk0, hr0, hk1, ho⟩ := hT
  have hT : LT K R G o := ⟨hk0, hr0, hk1, ho⟩
  obtain ⟨s0, s1, ⟨nx, s2, s2a, s2b⟩, s3, s4, s5, s6, s78, s9, s10, s11, s13⟩ := id hS
  obtain ⟨b0, b1, b2', b3, b4, b5, b6, b7, b8, b9, b10, b11, b12⟩ := id hb
  refine run_of (ls := [(0, .ref (G.1 o))]) (by decide +kernel) rfl rfl (Nat.le_of_ble_eq_true rfl) ?_
  refine aw_aload_n dX2_nextPlace_0 rfl ?_
  refine aw_getI dX2_nextPlace_1 flX2_28 rfl (by assumption) s2 ?_
  refine aw_aload_n dX2_nextPlace_4 rfl ?_
  refine aw_getI dX2_nextPlace_5 flX2_15 rfl (by assumption) s1 ?_
  refine aw_icmp_geN (tgt := 18) dX2_nextPlace_8 (by decide) (by omega) (by omega) (fun hc8 => ?_) (fun hc8 => ?_)
  · refine aw_iconst (v := nI 0) dX2_nextPlace_18 rfl ?_
    exact aw_iret dX2_nextPlace_19 rfl (Nat.zero_le _) (Nat.zero_le _) ⟨by first | (rw [if_pos hc8] at s2b; rw [s2b]) | (rw [if_neg (by omega)] at s2b; rw [← s2b]), rfl⟩
  · refine aw_aload_n dX2_nextPlace_11 rfl ?_
    refine aw_getI dX2_nextPlace_12 flX2_28 rfl (by assumption) s2 ?_
    refine aw_goto (tgt := 19) dX2_nextPlace_15 (by decide) ?_
    exact aw_iret dX2_nextPlace_19 rfl (Nat.zero_le _) (Nat.zero_le _) ⟨by first | (rw [if_pos hc8] at s2b; rw [s2b]) | (rw [if_neg (by omega)] at s2b; rw [← s2b]), rfl⟩
theorem s_takeDelay (hT : LT K R G o) (hS : SR (I o) (I (o + 1)) t) (hb : RK b t) (hbb : b ≤ 1000000000) : Run G YX2_takeDelay [.ref (G.1 o)] (K, R, I, J, z) (Up K R J z (some (.int (nI (t (12 + t 1))))) (fun I' => SR (I' o) (I' (o + 1)) (u1 t 1 ((t 1 + 1) % t 0)) ∧ I' o 12 = I o 12 ∧ FrO o I I')) := by
  obtain ⟨hk0, hr0, hk1, ho⟩ := hT
  have hT : LT K R G o := ⟨hk0, hr0, hk1, ho⟩
  obtain ⟨s0, s1, ⟨nx, s2, s2a, s2b⟩, s3, s4, s5, s6, s78, s9, s10, s11, s13⟩ := id hS
  obtain ⟨b0, b1, b2', b3, b4, b5, b6, b7, b8, b9, b10, b11, b12⟩ := id hb
  refine run_of (ls := [(0, .ref (G.1 o))]) (by decide +kernel) rfl rfl (Nat.le_of_ble_eq_true rfl) ?_
  refine aw_aload_n dX2_takeDelay_0 rfl ?_
  refine aw_vRd dX2_takeDelay_1 cvX2_67 ⟨Nat.le_of_ble_eq_true rfl, Nat.le_of_ble_eq_true rfl⟩ (by assumption) ⟨_, rfl, rfl⟩ (s_nextPlace hT hS hb hbb) rfl rfl (Nat.le_of_ble_eq_true rfl) ⟨rfl, rfl⟩ ⟨Nat.zero_le _, Nat.zero_le _⟩ ?_
  refine aw_istore_n (ls' := [(1, _), (0, _)]) dX2_takeDelay_4 (by decide) rfl ?_
  refine aw_aload_n dX2_takeDelay_5 rfl ?_
  refine aw_iload_n dX2_takeDelay_6 rfl ?_
  refine aw_iconst (v := nI 1) dX2_takeDelay_7 rfl ?_
  first | refine aw_iaddN dX2_takeDelay_8 ?_ | refine aw_iadd dX2_takeDelay_8 ?_
  refine aw_putI dX2_takeDelay_9 flX2_28 rfl (by intro r hr; cases hr; rfl) (by assumption) (by omega) rfl rfl ?_
  refine aw_aload_n dX2_takeDelay_12 rfl ?_
  refine aw_getR dX2_takeDelay_13 flX2_9 rfl (by assumption) (by assumption) ?_
  refine aw_iload_n dX2_takeDelay_16 rfl ?_
  refine aw_iald dX2_takeDelay_17 (by assumption) (by omega) rfl (by omega) (show _ = nI (t (12 + t 1)) by rw [FrO.up (o + 1) (by omega)]; exact s0 _ (by omega)) ?_
  refine aw_iret dX2_takeDelay_18 rfl (Nat.zero_le _) (Nat.zero_le _) ?_
  refine ⟨rfl, _, rfl, ?_, by simp [up2], FrO.up⟩
  rw [show up2 I o 2 (nI (t 1 + 1)) (o + 1) = I (o + 1) from FrO.up (o + 1) (by omega)]
  refine ⟨fun j hj => by rw [u1_n (by omega)]; exact s0 j hj, by simp [up2, u1, s1], ⟨t 1 + 1, by simp [up2], by omega, ?_⟩, by simp [up2, u1, s3], by simp [up2, u1, s4], by simp [up2, u1, s5], by simp [up2, u1, s6], fun q => ?_, by simp [up2, u1, s9], by simp [up2, u1, s10], by simp [up2, u1, s11], by simp [up2, u1, s13]⟩
  · rw [u1_s, u1_n (by decide)]
    by_cases e : t 1 + 1 < t 0
    · rw [if_pos e, Nat.mod_eq_of_lt e]
    · rw [if_neg e, show t 1 + 1 = t 0 by omega, Nat.mod_self]
  · have := s78 q
    exact ⟨by simp [up2, u1, this.1], by simp [up2, u1, this.2]⟩
theorem s_windowSize (hT : LT K R G o) (hS : SR (I o) (I (o + 1)) t) (hb : RK b t) (hbb : b ≤ 1000000000) {g : Nat → Nat} (hg : SK g) : Run G YX2_windowSize [.ref (G.1 o), .int (nI (g 1))] (K, R, I, J, z) (Rd (K, R, I, J, z) (.int (nI (inWinR g t)))) := by
  obtain ⟨hk0, hr0, hk1, ho⟩ := hT
  have hT : LT K R G o := ⟨hk0, hr0, hk1, ho⟩
  obtain ⟨s0, s1, ⟨nx, s2, s2a, s2b⟩, s3, s4, s5, s6, s78, s9, s10, s11, s13⟩ := id hS
  obtain ⟨b0, b1, b2', b3, b4, b5, b6, b7, b8, b9, b10, b11, b12⟩ := id hb
  obtain ⟨hg1, hg2⟩ := hg.2.1
  refine run_of (ls := [(0, .ref (G.1 o)), (1, .int (nI (g 1)))]) (by decide +kernel) rfl rfl (Nat.le_of_ble_eq_true rfl) ?_
  refine aw_aload_n dX2_windowSize_0 rfl ?_
  refine aw_getI dX2_windowSize_1 flX2_19 rfl (by assumption) s3 ?_
  refine aw_if_neN (tgt := 18) dX2_windowSize_4 (by decide) (by omega) (fun hc4 => ?_) (fun hc4 => ?_)
  · refine aw_iconst (v := nI 0) dX2_windowSize_18 rfl ?_
    exact aw_iret dX2_windowSize_19 rfl (Nat.zero_le _) (Nat.zero_le _) ⟨by first | rw [inWinR, if_pos hc4] | rw [inWinR, if_neg hc4], rfl⟩
  · refine aw_aload_n dX2_windowSize_7 rfl ?_
    refine aw_getI dX2_windowSize_8 flX2_43 rfl (by assumption) (s78 hc4).2 ?_
    refine aw_iload_n dX2_windowSize_11 rfl ?_
    refine aw_min dX2_windowSize_12 lkX2_71 (by omega) (by omega) (Nat.le_of_ble_eq_true rfl) (Nat.le_of_ble_eq_true rfl) ⟨Nat.zero_le _, Nat.zero_le _⟩ ?_
    refine aw_goto (tgt := 19) dX2_windowSize_15 (by decide) ?_
    exact aw_iret dX2_windowSize_19 rfl (Nat.zero_le _) (Nat.zero_le _) ⟨by first | rw [inWinR, if_pos hc4] | rw [inWinR, if_neg hc4], rfl⟩
theorem s_badInWindow (hT : LT K R G o) (hS : SR (I o) (I (o + 1)) t) (hb : RK b t) (hbb : b ≤ 1000000000) {g : Nat → Nat} (hg : SK g) : Run G YX2_badInWindow [.ref (G.1 o), .int (nI (g 1))] (K, R, I, J, z) (Rd (K, R, I, J, z) (.int (nI (badWinR g t)))) := by
  obtain ⟨hk0, hr0, hk1, ho⟩ := hT
  have hT : LT K R G o := ⟨hk0, hr0, hk1, ho⟩
  obtain ⟨s0, s1, ⟨nx, s2, s2a, s2b⟩, s3, s4, s5, s6, s78, s9, s10, s11, s13⟩ := id hS
  obtain ⟨b0, b1, b2', b3, b4, b5, b6, b7, b8, b9, b10, b11, b12⟩ := id hb
  obtain ⟨hg1, hg2⟩ := hg.2.1
  have h3 : t 3 < 65536 := Nat.lt_of_lt_of_le b4 (p2_16 b5)
  have hm : t 3 % 2 ^ g 1 < 65536 := Nat.lt_of_le_of_lt (Nat.mod_le _ _) h3
  have hp1 : 1 ≤ 2 ^ g 1 := Nat.two_pow_pos _
  have hp2 : 2 ^ g 1 ≤ 65536 := p2_16 (by omega)
  refine run_of (ls := [(0, .ref (G.1 o)), (1, .int (nI (g 1)))]) (by decide +kernel) rfl rfl (Nat.le_of_ble_eq_true rfl) ?_
  refine aw_aload_n dX2_badInWindow_0 rfl ?_
  refine aw_getI dX2_badInWindow_1 flX2_19 rfl (by assumption) s3 ?_
  refine aw_if_neN (tgt := 23) dX2_badInWindow_4 (by decide) (by omega) (fun hc4 => ?_) (fun hc4 => ?_)
  · refine aw_iconst (v := nI 0) dX2_badInWindow_23 rfl ?_
    refine aw_iret dX2_badInWindow_24 rfl (Nat.zero_le _) (Nat.zero_le _) ?_
    refine ⟨?_, rfl⟩
    first
    | (unfold badWinR inWinR; rw [if_pos hc4, bits_mod, Nat.min_eq_right (show g 1 ≤ 16 by omega)]
       rcases Nat.le_total (t 4) (g 1) with q | q
       · rw [Nat.min_eq_left q, bits_hi b4 _ q]
       · rw [Nat.min_eq_right q])
    | (unfold badWinR inWinR; rw [if_neg hc4]; rfl)
  · refine aw_aload_n dX2_badInWindow_7 rfl ?_
    refine aw_getI dX2_badInWindow_8 flX2_40 rfl (by assumption) (s78 hc4).1 ?_
    refine aw_iconst (v := nI 1) dX2_badInWindow_11 rfl ?_
    refine aw_iload_n dX2_badInWindow_12 rfl ?_
    refine aw_ishl dX2_badInWindow_13 ?_
    rw [pk_shlN _ (g 1) (sh_and _ (by omega)) (by omega), Nat.one_mul]
    refine aw_iconst (v := nI 1) dX2_badInWindow_14 rfl ?_
    first | refine aw_isubN dX2_badInWindow_15 (by omega) ?_ | refine aw_isub dX2_badInWindow_15 ?_
    refine aw_iand dX2_badInWindow_16 ?_
    rw [iand_nI, Nat.and_two_pow_sub_one_eq_mod]
    refine aw_sRd dX2_badInWindow_17 cvX2_77 ⟨Nat.le_of_ble_eq_true rfl, Nat.le_of_ble_eq_true rfl⟩ (s_bitCount hm) rfl rfl (Nat.le_of_ble_eq_true rfl) ⟨rfl, rfl⟩ ⟨Nat.zero_le _, Nat.zero_le _⟩ ?_
    refine aw_goto (tgt := 24) dX2_badInWindow_20 (by decide) ?_
    refine aw_iret dX2_badInWindow_24 rfl (Nat.zero_le _) (Nat.zero_le _) ?_
    refine ⟨?_, rfl⟩
    first
    | (unfold badWinR inWinR; rw [if_pos hc4, bits_mod, Nat.min_eq_right (show g 1 ≤ 16 by omega)]
       rcases Nat.le_total (t 4) (g 1) with q | q
       · rw [Nat.min_eq_left q, bits_hi b4 _ q]
       · rw [Nat.min_eq_right q])
    | (unfold badWinR inWinR; rw [if_neg hc4]; rfl)
theorem s_noteOutcome (hT : LT K R G o) (hS : SR (I o) (I (o + 1)) t) (hb : RK b t) (hbb : b ≤ 1000000000) {e : Nat} (he : e ≤ 1) (h2t : t 2 = 0) : Run G YX2_noteOutcome [.ref (G.1 o), .int (nI e)] (K, R, I, J, z) (Up K R J z none (fun I' => SR (I' o) (I' (o + 1)) (noteR e t) ∧ I' o 12 = I o 12 ∧ FrO o I I')) := by
  obtain ⟨hk0, hr0, hk1, ho⟩ := hT
  have hT : LT K R G o := ⟨hk0, hr0, hk1, ho⟩
  obtain ⟨s0, s1, ⟨nx, s2, s2a, s2b⟩, s3, s4, s5, s6, s78, s9, s10, s11, s13⟩ := id hS
  obtain ⟨b0, b1, b2', b3, b4, b5, b6, b7, b8, b9, b10, b11, b12⟩ := id hb
  have h3 : t 3 < 65536 := Nat.lt_of_lt_of_le b4 (p2_16 b5)
  refine run_of (ls := [(0, .ref (G.1 o)), (1, .int (nI e))]) (by decide +kernel) rfl rfl (Nat.le_of_ble_eq_true rfl) ?_
  refine aw_aload_n dX2_noteOutcome_0 rfl ?_
  refine aw_aload_n dX2_noteOutcome_1 rfl ?_
  refine aw_getI dX2_noteOutcome_2 flX2_40 rfl (by assumption) (s78 h2t).1 ?_
  refine aw_iconst (v := nI 1) dX2_noteOutcome_5 rfl ?_
  refine aw_ishl dX2_noteOutcome_6 ?_
  refine aw_iload_n dX2_noteOutcome_7 rfl ?_
  refine aw_dia (tgt := 15) (jn := 16) (c1 := 1) (c0 := 0) dX2_noteOutcome_8 (by decide) dX2_noteOutcome_11 rfl dX2_noteOutcome_12 (by decide) dX2_noteOutcome_15 rfl rfl (by omega) (by rcases (show e = 0 ∨ e = 1 by omega) with h | h <;> rw [h] <;> rfl : nI (if e = 0 then 0 else 1) = nI e) ?_
  refine aw_ior dX2_noteOutcome_16 ?_
  refine aw_ldc dX2_noteOutcome_17 ldX2_83 ?_
  refine aw_iand dX2_noteOutcome_19 ?_
  rw [note_nI h3 he]
  refine aw_putI dX2_noteOutcome_20 flX2_40 rfl (by intro r hr; cases hr; rfl) (by assumption) (by omega) rfl rfl ?_
  refine aw_aload_n dX2_noteOutcome_23 rfl ?_
  refine aw_aload_n dX2_noteOutcome_24 rfl ?_
  refine aw_getI dX2_noteOutcome_25 flX2_43 rfl (by assumption) (show _ = nI (t 4) by simp [up2]; exact (s78 h2t).2) ?_
  refine aw_iconst (v := nI 1) dX2_noteOutcome_28 rfl ?_
  first | refine aw_iaddN dX2_noteOutcome_29 ?_ | refine aw_iadd dX2_noteOutcome_29 ?_
  refine aw_bipush (v := nI 16) dX2_noteOutcome_30 rfl ?_
  refine aw_min dX2_noteOutcome_32 lkX2_71 (by omega) (by omega) (Nat.le_of_ble_eq_true rfl) (Nat.le_of_ble_eq_true rfl) ⟨Nat.zero_le _, Nat.zero_le _⟩ ?_
  refine aw_putI dX2_noteOutcome_35 flX2_43 rfl (by intro r hr; cases hr; rfl) (by assumption) (by omega) rfl rfl ?_
  refine aw_vret dX2_noteOutcome_38 rfl (Nat.zero_le _) (Nat.zero_le _) ?_
  refine ⟨rfl, _, rfl, ?_, by simp [up2], fun q hq => by funext j; simp [up2, hq]⟩
  have hr : ∀ x y, up2 (up2 I o 7 x) o 8 y (o + 1) = I (o + 1) := fun x y => by rw [FrO.up (o + 1) (by omega), FrO.up (o + 1) (by omega)]
  refine ⟨fun j hj => ?_, by simp [up2, noteR, s1], ⟨nx, by simp [up2, s2], s2a, by simp [noteR]; exact s2b⟩, by simp [up2, noteR, s3], by simp [up2, noteR, s4], by simp [up2, noteR, s5], by simp [up2, noteR, s6], fun q => ⟨by simp [up2, noteR], by simp [up2, noteR]⟩, by simp [up2, noteR, s9], by simp [up2, noteR, s10], by simp [up2, noteR, s11], by simp [up2, noteR, s13]⟩
  rw [hr, s0 j hj]; unfold noteR; rw [if_neg (by omega), if_neg (by omega)]
theorem s_shut (hT : LT K R G o) (hS : SR (I o) (I (o + 1)) t) (hb : RK b t) (hbb : b ≤ 1000000000) : Run G YX2_shut [.ref (G.1 o)] (K, R, I, J, z) (Up K R J z none (fun I' => SR (I' o) (I' (o + 1)) (closeR t) ∧ I' o 12 = I o 12 ∧ FrO o I I')) := by
  obtain ⟨hk0, hr0, hk1, ho⟩ := hT
  have hT : LT K R G o := ⟨hk0, hr0, hk1, ho⟩
  obtain ⟨s0, s1, ⟨nx, s2, s2a, s2b⟩, s3, s4, s5, s6, s78, s9, s10, s11, s13⟩ := id hS
  obtain ⟨b0, b1, b2', b3, b4, b5, b6, b7, b8, b9, b10, b11, b12⟩ := id hb
  refine run_of (ls := [(0, .ref (G.1 o))]) (by decide +kernel) rfl rfl (Nat.le_of_ble_eq_true rfl) ?_
  refine aw_aload_n dX2_shut_0 rfl ?_
  refine aw_iconst (v := nI 0) dX2_shut_1 rfl ?_
  refine aw_putI dX2_shut_2 flX2_19 rfl (by intro r hr; cases hr; rfl) (by assumption) (by omega) rfl rfl ?_
  refine aw_aload_n dX2_shut_5 rfl ?_
  refine aw_iconst (v := nI 0) dX2_shut_6 rfl ?_
  refine aw_putI dX2_shut_7 flX2_31 rfl (by intro r hr; cases hr; rfl) (by assumption) (by omega) rfl rfl ?_
  refine aw_aload_n dX2_shut_10 rfl ?_
  refine aw_iconst (v := nI 0) dX2_shut_11 rfl ?_
  refine aw_putI dX2_shut_12 flX2_34 rfl (by intro r hr; cases hr; rfl) (by assumption) (by omega) rfl rfl ?_
  refine aw_aload_n dX2_shut_15 rfl ?_
  refine aw_dup dX2_shut_16 rfl ?_
  refine aw_getI dX2_shut_17 flX2_37 rfl (by assumption) (show _ = nI (t 11) by simp [up2]; exact s6) ?_
  refine aw_iconst (v := nI 1) dX2_shut_20 rfl ?_
  first | refine aw_iaddN dX2_shut_21 ?_ | refine aw_iadd dX2_shut_21 ?_
  refine aw_putI dX2_shut_22 flX2_37 rfl (by intro r hr; cases hr; rfl) (by assumption) (by omega) rfl rfl ?_
  refine aw_aload_n dX2_shut_25 rfl ?_
  refine aw_iconst (v := nI 0) dX2_shut_26 rfl ?_
  refine aw_putI dX2_shut_27 flX2_40 rfl (by intro r hr; cases hr; rfl) (by assumption) (by omega) rfl rfl ?_
  refine aw_aload_n dX2_shut_30 rfl ?_
  refine aw_iconst (v := nI 0) dX2_shut_31 rfl ?_
  refine aw_putI dX2_shut_32 flX2_43 rfl (by intro r hr; cases hr; rfl) (by assumption) (by omega) rfl rfl ?_
  refine aw_vret dX2_shut_35 rfl (Nat.zero_le _) (Nat.zero_le _) ?_
  refine ⟨rfl, _, rfl, ?_, by simp [up2], fun q hq => by funext j; simp [up2, hq]⟩
  refine ⟨fun j hj => ?_, by simp [up2, closeR, s1], ⟨nx, by simp [up2, s2], s2a, by simp [closeR]; exact s2b⟩, by simp [up2, closeR], by simp [up2, closeR], by simp [up2, closeR], by simp [up2, closeR], fun q => ⟨by simp [up2, closeR], by simp [up2, closeR]⟩, by simp [up2, closeR, s9], by simp [up2, closeR, s10], by simp [up2, closeR, s11], by simp [up2, closeR, s13]⟩
  have : closeR t (12 + j) = t (12 + j) := by
    unfold closeR
    rw [if_neg (by omega), if_neg (by omega), if_neg (by omega), if_neg (by omega), if_neg (by omega), if_neg (by omega)]
  rw [this, ← s0 j hj]; simp [up2]
theorem s_cutOff (hT : LT K R G o) (hS : SR (I o) (I (o + 1)) t) (hb : RK b t) (hbb : b ≤ 1000000000) {n : Nat} : Run G YX2_cutOff [.ref (G.1 o), .int (nI n)] (K, R, I, J, z) (Up K R J z none (fun I' => SR (I' o) (I' (o + 1)) (cutR n t) ∧ I' o 12 = I o 12 ∧ FrO o I I')) := by
  obtain ⟨hk0, hr0, hk1, ho⟩ := hT
  have hT : LT K R G o := ⟨hk0, hr0, hk1, ho⟩
  obtain ⟨s0, s1, ⟨nx, s2, s2a, s2b⟩, s3, s4, s5, s6, s78, s9, s10, s11, s13⟩ := id hS
  obtain ⟨b0, b1, b2', b3, b4, b5, b6, b7, b8, b9, b10, b11, b12⟩ := id hb
  refine run_of (ls := [(0, .ref (G.1 o)), (1, .int (nI n))]) (by decide +kernel) rfl rfl (Nat.le_of_ble_eq_true rfl) ?_
  refine aw_aload_n dX2_cutOff_0 rfl ?_
  refine aw_iconst (v := nI 1) dX2_cutOff_1 rfl ?_
  refine aw_putI dX2_cutOff_2 flX2_19 rfl (by intro r hr; cases hr; rfl) (by assumption) (by omega) rfl rfl ?_
  refine aw_aload_n dX2_cutOff_5 rfl ?_
  refine aw_iload_n dX2_cutOff_6 rfl ?_
  refine aw_putI dX2_cutOff_7 flX2_31 rfl (by intro r hr; cases hr; rfl) (by assumption) (by omega) rfl rfl ?_
  refine aw_aload_n dX2_cutOff_10 rfl ?_
  refine aw_iload_n dX2_cutOff_11 rfl ?_
  refine aw_putI dX2_cutOff_12 flX2_34 rfl (by intro r hr; cases hr; rfl) (by assumption) (by omega) rfl rfl ?_
  refine aw_aload_n dX2_cutOff_15 rfl ?_
  refine aw_dup dX2_cutOff_16 rfl ?_
  refine aw_getI dX2_cutOff_17 flX2_58 rfl (by assumption) (show _ = nI (t 10) by simp [up2]; exact s13) ?_
  refine aw_iconst (v := nI 1) dX2_cutOff_20 rfl ?_
  first | refine aw_iaddN dX2_cutOff_21 ?_ | refine aw_iadd dX2_cutOff_21 ?_
  refine aw_putI dX2_cutOff_22 flX2_58 rfl (by intro r hr; cases hr; rfl) (by assumption) (by omega) rfl rfl ?_
  refine aw_vret dX2_cutOff_25 rfl (Nat.zero_le _) (Nat.zero_le _) ?_
  refine ⟨rfl, _, rfl, ?_, by simp [up2], fun q hq => by funext j; simp [up2, hq]⟩
  refine ⟨fun j hj => ?_, by simp [up2, cutR, s1], ⟨nx, by simp [up2, s2], s2a, by simp [cutR]; exact s2b⟩, by simp [up2, cutR], by simp [up2, cutR], by simp [up2, cutR], by simp [up2, cutR, s6], fun q => by simp [cutR] at q, by simp [up2, cutR, s9], by simp [up2, cutR, s10], by simp [up2, cutR, s11], by simp [up2, cutR]⟩
  have : cutR n t (12 + j) = t (12 + j) := by
    unfold cutR
    rw [if_neg (by omega), if_neg (by omega), if_neg (by omega), if_neg (by omega), if_neg (by omega), if_neg (by omega)]
  rw [this, ← s0 j hj]; simp [up2]
theorem s_waitATick (hT : LT K R G o) (hS : SR (I o) (I (o + 1)) t) (hb : RK b t) (hbb : b ≤ 1000000000) : Run G YX2_waitATick [.ref (G.1 o)] (K, R, I, J, z) (Up K R J z none (fun I' => SR (I' o) (I' (o + 1)) (waitR t) ∧ I' o 12 = I o 12 ∧ FrO o I I')) := by
  obtain ⟨hk0, hr0, hk1, ho⟩ := hT
  have hT : LT K R G o := ⟨hk0, hr0, hk1, ho⟩
  obtain ⟨s0, s1, ⟨nx, s2, s2a, s2b⟩, s3, s4, s5, s6, s78, s9, s10, s11, s13⟩ := id hS
  obtain ⟨b0, b1, b2', b3, b4, b5, b6, b7, b8, b9, b10, b11, b12⟩ := id hb
  have h51 := b6.mp
  refine run_of (ls := [(0, .ref (G.1 o))]) (by decide +kernel) rfl rfl (Nat.le_of_ble_eq_true rfl) ?_
  refine aw_aload_n dX2_waitATick_0 rfl ?_
  refine aw_getI dX2_waitATick_1 flX2_19 rfl (by assumption) s3 ?_
  refine aw_iconst (v := nI 1) dX2_waitATick_4 rfl ?_
  refine aw_icmp_eqN (tgt := 9) dX2_waitATick_5 (by decide) (by omega) (by omega) (fun hc5 => ?_) (fun hc5 => ?_)
  · refine aw_aload_n dX2_waitATick_9 rfl ?_
    refine aw_dup dX2_waitATick_10 rfl ?_
    refine aw_getI dX2_waitATick_11 flX2_31 rfl (by assumption) s4 ?_
    refine aw_iconst (v := nI 1) dX2_waitATick_14 rfl ?_
    first | refine aw_isubN dX2_waitATick_15 (by omega) ?_ | refine aw_isub dX2_waitATick_15 ?_
    refine aw_putI dX2_waitATick_16 flX2_31 rfl (by intro r hr; cases hr; rfl) (by assumption) (by omega) rfl rfl ?_
    refine aw_aload_n dX2_waitATick_19 rfl ?_
    refine aw_getI dX2_waitATick_20 flX2_31 rfl (by assumption) (show _ = nI (t 5 - 1) by simp [up2]) ?_
    refine aw_if_gtN (tgt := 31) dX2_waitATick_23 (by decide) (by omega) (fun hc23 => ?_) (fun hc23 => ?_)
    · refine aw_vret dX2_waitATick_31 rfl (Nat.zero_le _) (Nat.zero_le _) ?_
      first
      | (refine ⟨rfl, I, rfl, ?_, rfl, FrO.rf⟩
         rw [waitR, if_neg hc5]; exact hS)
      | (refine ⟨rfl, _, rfl, ?_, by simp [up2], fun q hq => by funext j; simp [up2, hq]⟩
         rw [waitR, if_pos hc5, if_pos hc23]
         refine ⟨fun j hj => ?_, by simp [up2, u1, s1], ⟨nx, by simp [up2, s2], s2a, by simp [u1]; exact s2b⟩, by simp [up2, u1], by simp [up2, u1], by simp [up2, u1, s5], by simp [up2, u1, s6], fun q => by simp [u1] at q, by simp [up2, u1, s9], by simp [up2, u1, s10], by simp [up2, u1, s11], by simp [up2, u1, s13]⟩
         rw [u1_n (by omega), u1_n (by omega), ← s0 j hj]; simp [up2])
      | (refine ⟨rfl, _, rfl, ?_, by simp [up2], fun q hq => by funext j; simp [up2, hq]⟩
         rw [waitR, if_pos hc5, if_neg (by omega)]
         refine ⟨fun j hj => ?_, by simp [up2, u1, s1], ⟨nx, by simp [up2, s2], s2a, by simp [u1]; exact s2b⟩, by simp [up2, u1, s3, hc5], by simp [up2, u1], by simp [up2, u1, s5], by simp [up2, u1, s6], fun q => by simp [u1] at q, by simp [up2, u1, s9], by simp [up2, u1, s10], by simp [up2, u1, s11], by simp [up2, u1, s13]⟩
         rw [u1_n (by omega), u1_n (by omega), ← s0 j hj]; simp [up2])
    · refine aw_aload_n dX2_waitATick_26 rfl ?_
      refine aw_iconst (v := nI 2) dX2_waitATick_27 rfl ?_
      refine aw_putI dX2_waitATick_28 flX2_19 rfl (by intro r hr; cases hr; rfl) (by assumption) (by omega) rfl rfl ?_
      refine aw_vret dX2_waitATick_31 rfl (Nat.zero_le _) (Nat.zero_le _) ?_
      first
      | (refine ⟨rfl, I, rfl, ?_, rfl, FrO.rf⟩
         rw [waitR, if_neg hc5]; exact hS)
      | (refine ⟨rfl, _, rfl, ?_, by simp [up2], fun q hq => by funext j; simp [up2, hq]⟩
         rw [waitR, if_pos hc5, if_pos hc23]
         refine ⟨fun j hj => ?_, by simp [up2, u1, s1], ⟨nx, by simp [up2, s2], s2a, by simp [u1]; exact s2b⟩, by simp [up2, u1], by simp [up2, u1], by simp [up2, u1, s5], by simp [up2, u1, s6], fun q => by simp [u1] at q, by simp [up2, u1, s9], by simp [up2, u1, s10], by simp [up2, u1, s11], by simp [up2, u1, s13]⟩
         rw [u1_n (by omega), u1_n (by omega), ← s0 j hj]; simp [up2])
      | (refine ⟨rfl, _, rfl, ?_, by simp [up2], fun q hq => by funext j; simp [up2, hq]⟩
         rw [waitR, if_pos hc5, if_neg (by omega)]
         refine ⟨fun j hj => ?_, by simp [up2, u1, s1], ⟨nx, by simp [up2, s2], s2a, by simp [u1]; exact s2b⟩, by simp [up2, u1, s3, hc5], by simp [up2, u1], by simp [up2, u1, s5], by simp [up2, u1, s6], fun q => by simp [u1] at q, by simp [up2, u1, s9], by simp [up2, u1, s10], by simp [up2, u1, s11], by simp [up2, u1, s13]⟩
         rw [u1_n (by omega), u1_n (by omega), ← s0 j hj]; simp [up2])
  · refine aw_vret dX2_waitATick_8 rfl (Nat.zero_le _) (Nat.zero_le _) ?_
    first
    | (refine ⟨rfl, I, rfl, ?_, rfl, FrO.rf⟩
       rw [waitR, if_neg hc5]; exact hS)
    | (refine ⟨rfl, _, rfl, ?_, by simp [up2], fun q hq => by funext j; simp [up2, hq]⟩
       rw [waitR, if_pos hc5, if_pos hc23]
       refine ⟨fun j hj => ?_, by simp [up2, u1, s1], ⟨nx, by simp [up2, s2], s2a, by simp [u1]; exact s2b⟩, by simp [up2, u1], by simp [up2, u1], by simp [up2, u1, s5], by simp [up2, u1, s6], fun q => by simp [u1] at q, by simp [up2, u1, s9], by simp [up2, u1, s10], by simp [up2, u1, s11], by simp [up2, u1, s13]⟩
       rw [u1_n (by omega), u1_n (by omega), ← s0 j hj]; simp [up2])
    | (refine ⟨rfl, _, rfl, ?_, by simp [up2], fun q hq => by funext j; simp [up2, hq]⟩
       rw [waitR, if_pos hc5, if_neg (by omega)]
       refine ⟨fun j hj => ?_, by simp [up2, u1, s1], ⟨nx, by simp [up2, s2], s2a, by simp [u1]; exact s2b⟩, by simp [up2, u1, s3, hc5], by simp [up2, u1], by simp [up2, u1, s5], by simp [up2, u1, s6], fun q => by simp [u1] at q, by simp [up2, u1, s9], by simp [up2, u1, s10], by simp [up2, u1, s11], by simp [up2, u1, s13]⟩
       rw [u1_n (by omega), u1_n (by omega), ← s0 j hj]; simp [up2])
end CLASS2
