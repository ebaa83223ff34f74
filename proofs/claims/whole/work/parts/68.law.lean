/-! THE LAW: its frame, its calls -/
abbrev YLw (nm : String) (tb : List (Nat × Nat × Nat × Nat)) : YY := (⟨RL, nm, "([I)Z"⟩, cL_law, 9, ret, room_1, tb)
theorem lg_self (x : Int64) : lg_cmp x x = nI 0 := by
  unfold lg_cmp
  simp
  rfl
theorem and31 (x : Int32) : ∃ j, j < 32 ∧ x &&& 31 = nI j := by
  refine ⟨x.toBitVec.toNat % 32, Nat.mod_lt _ (by decide), ?_⟩
  apply Int32.toBitVec_inj.mp
  apply BitVec.eq_of_toNat_eq
  show (x.toBitVec &&& (31 : Int32).toBitVec).toNat = (BitVec.ofNat 32 (x.toBitVec.toNat % 32)).toNat
  rw [BitVec.toNat_and, BitVec.toNat_ofNat, show ((31 : Int32).toBitVec).toNat = 2 ^ 5 - 1 from rfl, Nat.and_two_pow_sub_one_eq_mod]
  omega
theorem MS.keep {I I' : Nat → Nat → Int32} {s : ST} (h : MS I s) (hF : ∀ q, 140 ≤ q → q ≤ 145 → I' q = I q) : MS I' s :=
  ⟨by rw [hF 141 (by decide) (by decide)]; exact h.1, h.2.1.fr (hF 143 (by decide) (by decide)) (by rw [hF 140 (by decide) (by decide)]), h.2.2.fr2 (hF 144 (by decide) (by decide)) (by rw [hF 140 (by decide) (by decide)])⟩
theorem XS.keep {I I' : Nat → Nat → Int32} {s : ST} (h : XS I s) (hF : ∀ q, q < 140 → I' q = I q) : XS I' s :=
  ⟨h.1.fr (fun q a1 a2 => hF q (by omega)), h.2.1.fr (hF 0 (by decide)) (fun q a1 a2 => hF q (by omega)), h.2.2.fr (hF 36 (by decide)) (hF 37 (by decide))⟩
section LAWS
variable {G : GG} {K : Nat → Option (Nat × Nat)} {R : Nat → Nat → Value} {I : Nat → Nat → Int32} {J : Nat → Nat → Int64} {z : Nat} {s : ST}
variable {nm : String} {tb : List (Nat × Nat × Nat × Nat)} {Z : ZT} {L t cu su : Nat} {xs : Nat → Int32}
/-- what lies there in every turn -/
def IV0 (G : GG) (K : Nat → Option (Nat × Nat)) (R : Nat → Nat → Value) (L : Nat) (xs : Nat → Int32) (I : Nat → Nat → Int32) : Prop :=
  LX G K R ∧ LM G K R ∧ K 146 = some (11, 1) ∧ K 1000 = some (10, L) ∧ SC K I ∧ ∀ j, j < L → I 1000 j = xs j
theorem IV0.fr {I' : Nat → Nat → Int32} (h : IV0 G K R L xs I) (hF : ∀ q, 146 ≤ q → I' q = I q) : IV0 G K R L xs I' := by
  obtain ⟨h1, h2, h3, h4, ⟨h5, h6, h7, h8⟩, h9⟩ := h
  exact ⟨h1, h2, h3, h4, ⟨h5, by rw [hF 1002 (by decide)]; exact h6, h7, by rw [hF 1003 (by decide)]; exact h8⟩, by rw [hF 1000 (by decide)]; exact h9⟩
abbrev LLs (G : GG) (t : Nat) : List (Nat × Value) := [(0, .ref (G.1 1000)), (1, .ref (G.1 0)), (2, .ref (G.1 140)), (3, .ref (G.1 146)), (4, .int (nI (5 * t)))]
/-- turn t begins at pc -/
def LH (G : GG) (y : YY) (Z : ZT) (K : Nat → Option (Nat × Nat)) (R : Nat → Nat → Value) (L : Nat) (xs : Nat → Int32) (t : Nat) : Prop := ∀ (I : Nat → Nat → Int32) (J : Nat → Nat → Int64) (z : Nat) (s : ST) (cu su : Nat), IV0 G K R L xs I → XS I s → MS I s → GI (50 * t) t s → cu ≤ 147 + 4 * t → su ≤ 3807 + 24 * t → AW G y Z 23 (LLs G t) [] (K, R, I, J, z) cu su

theorem sCall_le (v1 : Int32) : (sCall v1 s).1 < 2 ^ 31 := by
  unfold sCall
  repeat' split
  all_goals exact Nat.le_of_ble_eq_true rfl
theorem sOften_le (v1 : Int32) (v2 : Int32) (v3 : Int32) : (sOften v1 v2 v3 s).1 < 2 ^ 31 := by
  unfold sOften
  repeat' split
  all_goals exact Nat.le_of_ble_eq_true rfl
theorem sBest_le : (sBest  s).1 < 2 ^ 31 := by
  unfold sBest
  repeat' split
  all_goals exact Nat.le_of_ble_eq_true rfl
theorem sClose_le (v1 : Int32) : (sClose v1 s).1 < 2 ^ 31 := by
  unfold sClose
  repeat' split
  all_goals exact Nat.le_of_ble_eq_true rfl
theorem sSet_le (v1 : Int32) (v2 : Int32) : (sSet v1 v2 s).1 < 2 ^ 31 := by
  unfold sSet
  repeat' split
  all_goals exact Nat.le_of_ble_eq_true rfl
theorem sPass_le (v1 : Int32) : (sPass v1 s).1 < 2 ^ 31 := by
  unfold sPass
  repeat' split
  all_goals exact Nat.le_of_ble_eq_true rfl
theorem sAppend_le (v1 : Int32) : (sAppend v1 s).1 < 2 ^ 31 := by
  unfold sAppend
  repeat' split
  all_goals exact Nat.le_of_ble_eq_true rfl
theorem sClear_le : (sClear  s).1 < 2 ^ 31 := by
  unfold sClear
  repeat' split
  all_goals exact Nat.le_of_ble_eq_true rfl
theorem sError_le : (sError  s).1 < 2 ^ 31 := by
  unfold sError
  repeat' split
  all_goals exact Nat.le_of_ble_eq_true rfl
theorem sError_st : (sError  s).2.2 = s := by
  unfold sError
  repeat' split
  all_goals rfl
theorem sDelays_le (v1 : Int32) : (sDelays v1 s).1 < 2 ^ 31 := by
  unfold sDelays
  repeat' split
  all_goals exact Nat.le_of_ble_eq_true rfl
theorem sUndo_le : (sUndo  s).1 < 2 ^ 31 := by
  unfold sUndo
  repeat' split
  all_goals exact Nat.le_of_ble_eq_true rfl
theorem sStore_le (v1 : Int32) (v2 : Int32) : (sStore v1 v2 s).1 < 2 ^ 31 := by
  unfold sStore
  repeat' split
  all_goals exact Nat.le_of_ble_eq_true rfl
theorem sStore_st (v1 : Int32) (v2 : Int32) : (sStore v1 v2 s).2.2 = s := by
  unfold sStore
  repeat' split
  all_goals rfl
theorem sDelay_le (v1 : Int32) (v2 : Int32) : (sDelay v1 v2 s).1 < 2 ^ 31 := by
  unfold sDelay
  repeat' split
  all_goals exact Nat.le_of_ble_eq_true rfl
theorem sDelay_st (v1 : Int32) (v2 : Int32) : (sDelay v1 v2 s).2.2 = s := by
  unfold sDelay
  repeat' split
  all_goals rfl
theorem sOnWay_le (v1 : Int32) (v2 : Int32) : (sOnWay v1 v2 s).1 < 2 ^ 31 := by
  unfold sOnWay
  repeat' split
  all_goals exact Nat.le_of_ble_eq_true rfl
theorem sOnWay_st (v1 : Int32) (v2 : Int32) : (sOnWay v1 v2 s).2.2 = s := by
  unfold sOnWay
  repeat' split
  all_goals rfl
theorem sCount_le (v1 : Int32) : (sCount v1 s).1 < 2 ^ 31 := by
  unfold sCount
  repeat' split
  all_goals exact Nat.le_of_ble_eq_true rfl
theorem sCount_st (v1 : Int32) : (sCount v1 s).2.2 = s := by
  unfold sCount
  repeat' split
  all_goals rfl
theorem sSetting_le (v1 : Int32) : (sSetting v1 s).1 < 2 ^ 31 := by
  unfold sSetting
  repeat' split
  all_goals exact Nat.le_of_ble_eq_true rfl
theorem sSetting_st (v1 : Int32) : (sSetting v1 s).2.2 = s := by
  unfold sSetting
  repeat' split
  all_goals rfl
theorem sIf_le (v1 : Int32) (v2 : Int32) (v3 : Int32) (v4 : Int32) : (sIf v1 v2 v3 v4 s).1 < 2 ^ 31 := by
  unfold sIf
  repeat' split
  all_goals exact Nat.le_of_ble_eq_true rfl
theorem sIf_st (v1 : Int32) (v2 : Int32) (v3 : Int32) (v4 : Int32) : (sIf v1 v2 v3 v4 s).2.2 = s := by
  unfold sIf
  repeat' split
  all_goals rfl
theorem sFree_le (v1 : Int32) : (sFree v1 s).1 < 2 ^ 31 := by
  unfold sFree
  repeat' split
  all_goals exact Nat.le_of_ble_eq_true rfl
theorem sFree_st (v1 : Int32) : (sFree v1 s).2.2 = s := by
  unfold sFree
  repeat' split
  all_goals rfl
theorem sHealthiest_le : (sHealthiest  s).1 < 2 ^ 31 := by
  unfold sHealthiest
  repeat' split
  all_goals exact Nat.le_of_ble_eq_true rfl
theorem sHealthiest_st : (sHealthiest  s).2.2 = s := by
  unfold sHealthiest
  repeat' split
  all_goals rfl
theorem LLs_s : LLs G (t + 1) = [(0, .ref (G.1 1000)), (1, .ref (G.1 0)), (2, .ref (G.1 140)), (3, .ref (G.1 146)), (4, .int (nI (5 * t + 5)))] := by
  rw [show 5 * t + 5 = 5 * (t + 1) by omega]
theorem law_call (h0 : IV0 G K R L xs I) (hX : XS I s) (hM : MS I s) (hG : GI (50 * t) t s) (hc : cu ≤ 147 + 4 * t) (hs : su ≤ 3807 + 24 * t) (ht : t ≤ 511) (hL5 : 5 * t + 5 ≤ L) (hLm : L ≤ 2560) (nx : LH G (YLw nm tb) Z K R L xs (t + 1)) : AW G (YLw nm tb) Z 136 (LLs G t) [] (K, R, I, J, z) cu su := by
  obtain ⟨hLX, hLM, hO, hK, hSC, hxs⟩ := id h0
  have hk0 : K 0 = some (3, 6) := hLX.1
  have hk140 : K 140 = some (4, 12) := hLM.1
  obtain ⟨a, st, B⟩ := s
  have hI : IV (50 * t) t a := hG.1.1
  have hl1 : L1 a := hG.1.2.1
  have hIS : ISv a := hG.1.2.2
  obtain ⟨x, hx⟩ : ∃ x, x = sCall (I 1000 (5 * t + 1)) (a, st, B) := ⟨_, rfl⟩
  have hx2 : x.1 < 2 ^ 31 := by rw [hx]; exact sCall_le _
  have hg : GI (50 * (t + 1)) (t + 1) x.2.2 := by rw [hx, show 50 * (t + 1) = 50 * t + 50 by omega]; exact hG.kCall
  have hMM : ∀ (I' : Nat → Nat → Int32) (J' : Nat → Nat → Int64) (z' : Nat), MS I' (a, st, B) → Run G YX4_call [.ref (G.1 140), .int (I 1000 (5 * t + 1))] (K, R, I', J', z') (MP K R J' z' I' x) := by
    intro I' J' z' h
    rw [hx]
    exact M_call hLM h hI hl1 (by omega) (I 1000 (5 * t + 1))
  have hW : RunH G YL_call [.ref (G.1 0), .int (I 1000 (5 * t + 1)), .ref (G.1 146)] (K, R, I, J, z) (WP K R J z I x) := by
    rw [hx]
    exact W_call (J := J) (z := z) hLX hX hI hl1 (by omega) (I 1000 (5 * t + 1)) hO (sCall_same _)
  refine aw_aload_n dL_law_136 rfl ?_
  refine aw_aload_n dL_law_137 rfl ?_
  refine aw_iload dL_law_138 rfl ?_
  refine aw_iconst (v := nI 1) dL_law_140 rfl ?_
  first | refine aw_iaddN dL_law_141 ?_ | refine aw_iadd dL_law_141 ?_
  refine aw_iald dL_law_142 (by assumption) (by omega) rfl (by omega) rfl ?_
  refine aw_aload_n dL_law_143 rfl ?_
  refine aw_invSH dL_law_144 cvL_72 ⟨Nat.le_of_ble_eq_true rfl, Nat.le_of_ble_eq_true rfl⟩ (As := [.ref (G.1 0), .int (I 1000 (5 * t + 1)), .ref (G.1 146)]) rfl rfl (Nat.le_of_ble_eq_true rfl) ⟨by show cu + 2 ≤ 601024; omega, by show su + 12 ≤ 7293034; omega⟩ hW (fun E σ' q => by cases q.1) (fun r σ' q => ?_)
  obtain ⟨q1, I', J', z', hz, rfl, hX', hF, hJ, -⟩ := q
  cases q1
  refine aw_istore (ls' := [(5, _), (0, _), (1, _), (2, _), (3, _), (4, _)]) dL_law_147 (Nat.le_of_ble_eq_true rfl) rfl ?_
  refine aw_aload_n dL_law_149 rfl ?_
  refine aw_aload_n dL_law_150 rfl ?_
  refine aw_iload dL_law_151 rfl ?_
  refine aw_iconst (v := nI 1) dL_law_153 rfl ?_
  first | refine aw_iaddN dL_law_154 ?_ | refine aw_iadd dL_law_154 ?_
  refine aw_iald dL_law_155 (by assumption) (by omega) rfl (by omega) (congrFun (hF 1000 (by decide)) _) ?_
  refine aw_vUp dL_law_156 cvL_77 ⟨Nat.le_of_ble_eq_true rfl, Nat.le_of_ble_eq_true rfl⟩ hk140 ⟨_, rfl, rfl⟩ (hMM I' J' z' (hM.keep (fun q h1 h2 => hF q (by omega)))) rfl rfl (Nat.le_of_ble_eq_true rfl) ⟨rfl, rfl⟩ ⟨by show cu + 2 ≤ 601024; omega, by show su + 12 ≤ 7293034; omega⟩ (fun I2 hP => ?_)
  obtain ⟨hMn, hth, hE⟩ := hP
  have hXn : XS I2 x.2.2 := hX'.keep (fun q hq => hE q (by omega))
  refine aw_istore (ls' := [(6, _), (5, _), (0, _), (1, _), (2, _), (3, _), (4, _)]) dL_law_159 (Nat.le_of_ble_eq_true rfl) rfl ?_
  refine aw_aload_n dL_law_161 rfl ?_
  refine aw_vRd dL_law_162 cvL_78 ⟨Nat.le_of_ble_eq_true rfl, Nat.le_of_ble_eq_true rfl⟩ hk140 ⟨_, rfl, rfl⟩ (r_thrown hLM hth) rfl rfl (Nat.le_of_ble_eq_true rfl) ⟨rfl, rfl⟩ ⟨by show cu + 2 ≤ 601024; omega, by show su + 12 ≤ 7293034; omega⟩ ?_
  refine aw_iload dL_law_165 rfl ?_
  refine aw_icmp_eq (tgt := 172) dL_law_167 (by decide) (fun hc167 => ?_) (fun hc167 => absurd rfl hc167)
  refine aw_iload dL_law_172 rfl ?_
  refine aw_if_neN (tgt := 189) dL_law_174 (by decide) hx2 (fun hc174 => ?_) (fun hc174 => ?_)
  · refine aw_goto (tgt := 1210) dL_law_189 (by decide) ?_
    refine aw_iincN (k := 5) (ls' := [(4, _), (6, _), (5, _), (0, _), (1, _), (2, _), (3, _)]) dL_law_1210 rfl rfl (Nat.le_of_ble_eq_true rfl) rfl ?_
    refine aw_goto (tgt := 23) dL_law_1213 (by decide) ?_
    have e0 := nx I2 J' z' x.2.2 _ _ (h0.fr (fun q hq => by rw [hE q (by omega), hF q (by omega)])) hXn hMn hg (show cu + 2 ≤ 147 + 4 * (t + 1) by omega) (show su + 12 ≤ 3807 + 24 * (t + 1) by omega)
    rw [LLs_s] at e0
    exact aw_pick [3, 4, 5, 6, 0] rfl e0
  · refine aw_aload_n dL_law_177 rfl ?_
    refine aw_iconst (v := nI 0) dL_law_178 rfl ?_
    refine aw_lald dL_law_179 (by assumption) (by omega) rfl (by omega) (hJ hc174) ?_
    refine aw_iload dL_law_180 rfl ?_
    refine aw_i2l dL_law_182 ?_
    refine aw_lcmp dL_law_183 ?_
    rw [lg_self]
    refine aw_if_eq (tgt := 189) dL_law_184 (by decide) (fun hc184 => ?_) (fun hc184 => absurd rfl hc184)
    refine aw_goto (tgt := 1210) dL_law_189 (by decide) ?_
    refine aw_iincN (k := 5) (ls' := [(4, _), (6, _), (5, _), (0, _), (1, _), (2, _), (3, _)]) dL_law_1210 rfl rfl (Nat.le_of_ble_eq_true rfl) rfl ?_
    refine aw_goto (tgt := 23) dL_law_1213 (by decide) ?_
    have e0 := nx I2 J' z' x.2.2 _ _ (h0.fr (fun q hq => by rw [hE q (by omega), hF q (by omega)])) hXn hMn hg (show cu + 2 ≤ 147 + 4 * (t + 1) by omega) (show su + 12 ≤ 3807 + 24 * (t + 1) by omega)
    rw [LLs_s] at e0
    exact aw_pick [3, 4, 5, 6, 0] rfl e0
theorem law_callOften (h0 : IV0 G K R L xs I) (hX : XS I s) (hM : MS I s) (hG : GI (50 * t) t s) (hc : cu ≤ 147 + 4 * t) (hs : su ≤ 3807 + 24 * t) (ht : t ≤ 511) (hL5 : 5 * t + 5 ≤ L) (hLm : L ≤ 2560) (nx : LH G (YLw nm tb) Z K R L xs (t + 1)) : AW G (YLw nm tb) Z 192 (LLs G t) [] (K, R, I, J, z) cu su := by
  obtain ⟨hLX, hLM, hO, hK, hSC, hxs⟩ := id h0
  have hk0 : K 0 = some (3, 6) := hLX.1
  have hk140 : K 140 = some (4, 12) := hLM.1
  obtain ⟨a, st, B⟩ := s
  have hI : IV (50 * t) t a := hG.1.1
  have hl1 : L1 a := hG.1.2.1
  have hIS : ISv a := hG.1.2.2
  obtain ⟨x, hx⟩ : ∃ x, x = sOften (I 1000 (5 * t + 1)) (I 1000 (5 * t + 2)) (I 1000 (5 * t + 3)) (a, st, B) := ⟨_, rfl⟩
  have hx2 : x.1 < 2 ^ 31 := by rw [hx]; exact sOften_le _ _ _
  have hg : GI (50 * (t + 1)) (t + 1) x.2.2 := by rw [hx, show 50 * (t + 1) = 50 * t + 50 by omega]; exact hG.kOften
  have hMM : ∀ (I' : Nat → Nat → Int32) (J' : Nat → Nat → Int64) (z' : Nat), MS I' (a, st, B) → Run G YX4_callOften [.ref (G.1 140), .int (I 1000 (5 * t + 1)), .int (I 1000 (5 * t + 2)), .int (I 1000 (5 * t + 3))] (K, R, I', J', z') (MP K R J' z' I' x) := by
    intro I' J' z' h
    rw [hx]
    exact M_callOften hLM h hI hl1 (by omega) (I 1000 (5 * t + 1)) (I 1000 (5 * t + 2)) (I 1000 (5 * t + 3))
  have hW : RunH G YL_callOften [.ref (G.1 0), .int (I 1000 (5 * t + 1)), .int (I 1000 (5 * t + 2)), .int (I 1000 (5 * t + 3)), .ref (G.1 146)] (K, R, I, J, z) (WP K R J z I x) := by
    rw [hx]
    exact W_callOften (J := J) (z := z) hLX hX hI hl1 (by omega) (I 1000 (5 * t + 1)) (I 1000 (5 * t + 2)) (I 1000 (5 * t + 3)) hO (sOften_same _ _ _)
  refine aw_aload_n dL_law_192 rfl ?_
  refine aw_aload_n dL_law_193 rfl ?_
  refine aw_iload dL_law_194 rfl ?_
  refine aw_iconst (v := nI 1) dL_law_196 rfl ?_
  first | refine aw_iaddN dL_law_197 ?_ | refine aw_iadd dL_law_197 ?_
  refine aw_iald dL_law_198 (by assumption) (by omega) rfl (by omega) rfl ?_
  refine aw_aload_n dL_law_199 rfl ?_
  refine aw_iload dL_law_200 rfl ?_
  refine aw_iconst (v := nI 2) dL_law_202 rfl ?_
  first | refine aw_iaddN dL_law_203 ?_ | refine aw_iadd dL_law_203 ?_
  refine aw_iald dL_law_204 (by assumption) (by omega) rfl (by omega) rfl ?_
  refine aw_aload_n dL_law_205 rfl ?_
  refine aw_iload dL_law_206 rfl ?_
  refine aw_iconst (v := nI 3) dL_law_208 rfl ?_
  first | refine aw_iaddN dL_law_209 ?_ | refine aw_iadd dL_law_209 ?_
  refine aw_iald dL_law_210 (by assumption) (by omega) rfl (by omega) rfl ?_
  refine aw_aload_n dL_law_211 rfl ?_
  refine aw_invSH dL_law_212 cvL_81 ⟨Nat.le_of_ble_eq_true rfl, Nat.le_of_ble_eq_true rfl⟩ (As := [.ref (G.1 0), .int (I 1000 (5 * t + 1)), .int (I 1000 (5 * t + 2)), .int (I 1000 (5 * t + 3)), .ref (G.1 146)]) rfl rfl (Nat.le_of_ble_eq_true rfl) ⟨by show cu + 3 ≤ 601024; omega, by show su + 18 ≤ 7293034; omega⟩ hW (fun E σ' q => by cases q.1) (fun r σ' q => ?_)
  obtain ⟨q1, I', J', z', hz, rfl, hX', hF, hJ, -⟩ := q
  cases q1
  refine aw_istore (ls' := [(5, _), (0, _), (1, _), (2, _), (3, _), (4, _)]) dL_law_215 (Nat.le_of_ble_eq_true rfl) rfl ?_
  refine aw_aload_n dL_law_217 rfl ?_
  refine aw_aload_n dL_law_218 rfl ?_
  refine aw_iload dL_law_219 rfl ?_
  refine aw_iconst (v := nI 1) dL_law_221 rfl ?_
  first | refine aw_iaddN dL_law_222 ?_ | refine aw_iadd dL_law_222 ?_
  refine aw_iald dL_law_223 (by assumption) (by omega) rfl (by omega) (congrFun (hF 1000 (by decide)) _) ?_
  refine aw_aload_n dL_law_224 rfl ?_
  refine aw_iload dL_law_225 rfl ?_
  refine aw_iconst (v := nI 2) dL_law_227 rfl ?_
  first | refine aw_iaddN dL_law_228 ?_ | refine aw_iadd dL_law_228 ?_
  refine aw_iald dL_law_229 (by assumption) (by omega) rfl (by omega) (congrFun (hF 1000 (by decide)) _) ?_
  refine aw_aload_n dL_law_230 rfl ?_
  refine aw_iload dL_law_231 rfl ?_
  refine aw_iconst (v := nI 3) dL_law_233 rfl ?_
  first | refine aw_iaddN dL_law_234 ?_ | refine aw_iadd dL_law_234 ?_
  refine aw_iald dL_law_235 (by assumption) (by omega) rfl (by omega) (congrFun (hF 1000 (by decide)) _) ?_
  refine aw_vUp dL_law_236 cvL_84 ⟨Nat.le_of_ble_eq_true rfl, Nat.le_of_ble_eq_true rfl⟩ hk140 ⟨_, rfl, rfl⟩ (hMM I' J' z' (hM.keep (fun q h1 h2 => hF q (by omega)))) rfl rfl (Nat.le_of_ble_eq_true rfl) ⟨rfl, rfl⟩ ⟨by show cu + 3 ≤ 601024; omega, by show su + 18 ≤ 7293034; omega⟩ (fun I2 hP => ?_)
  obtain ⟨hMn, hth, hE⟩ := hP
  have hXn : XS I2 x.2.2 := hX'.keep (fun q hq => hE q (by omega))
  refine aw_istore (ls' := [(6, _), (5, _), (0, _), (1, _), (2, _), (3, _), (4, _)]) dL_law_239 (Nat.le_of_ble_eq_true rfl) rfl ?_
  refine aw_aload_n dL_law_241 rfl ?_
  refine aw_vRd dL_law_242 cvL_78 ⟨Nat.le_of_ble_eq_true rfl, Nat.le_of_ble_eq_true rfl⟩ hk140 ⟨_, rfl, rfl⟩ (r_thrown hLM hth) rfl rfl (Nat.le_of_ble_eq_true rfl) ⟨rfl, rfl⟩ ⟨by show cu + 3 ≤ 601024; omega, by show su + 18 ≤ 7293034; omega⟩ ?_
  refine aw_iload dL_law_245 rfl ?_
  refine aw_icmp_eq (tgt := 252) dL_law_247 (by decide) (fun hc247 => ?_) (fun hc247 => absurd rfl hc247)
  refine aw_iload dL_law_252 rfl ?_
  refine aw_if_neN (tgt := 269) dL_law_254 (by decide) hx2 (fun hc254 => ?_) (fun hc254 => ?_)
  · refine aw_goto (tgt := 1210) dL_law_269 (by decide) ?_
    refine aw_iincN (k := 5) (ls' := [(4, _), (6, _), (5, _), (0, _), (1, _), (2, _), (3, _)]) dL_law_1210 rfl rfl (Nat.le_of_ble_eq_true rfl) rfl ?_
    refine aw_goto (tgt := 23) dL_law_1213 (by decide) ?_
    have e0 := nx I2 J' z' x.2.2 _ _ (h0.fr (fun q hq => by rw [hE q (by omega), hF q (by omega)])) hXn hMn hg (show cu + 3 ≤ 147 + 4 * (t + 1) by omega) (show su + 18 ≤ 3807 + 24 * (t + 1) by omega)
    rw [LLs_s] at e0
    exact aw_pick [3, 4, 5, 6, 0] rfl e0
  · refine aw_aload_n dL_law_257 rfl ?_
    refine aw_iconst (v := nI 0) dL_law_258 rfl ?_
    refine aw_lald dL_law_259 (by assumption) (by omega) rfl (by omega) (hJ hc254) ?_
    refine aw_iload dL_law_260 rfl ?_
    refine aw_i2l dL_law_262 ?_
    refine aw_lcmp dL_law_263 ?_
    rw [lg_self]
    refine aw_if_eq (tgt := 269) dL_law_264 (by decide) (fun hc264 => ?_) (fun hc264 => absurd rfl hc264)
    refine aw_goto (tgt := 1210) dL_law_269 (by decide) ?_
    refine aw_iincN (k := 5) (ls' := [(4, _), (6, _), (5, _), (0, _), (1, _), (2, _), (3, _)]) dL_law_1210 rfl rfl (Nat.le_of_ble_eq_true rfl) rfl ?_
    refine aw_goto (tgt := 23) dL_law_1213 (by decide) ?_
    have e0 := nx I2 J' z' x.2.2 _ _ (h0.fr (fun q hq => by rw [hE q (by omega), hF q (by omega)])) hXn hMn hg (show cu + 3 ≤ 147 + 4 * (t + 1) by omega) (show su + 18 ≤ 3807 + 24 * (t + 1) by omega)
    rw [LLs_s] at e0
    exact aw_pick [3, 4, 5, 6, 0] rfl e0
theorem law_callHealthiest (h0 : IV0 G K R L xs I) (hX : XS I s) (hM : MS I s) (hG : GI (50 * t) t s) (hc : cu ≤ 147 + 4 * t) (hs : su ≤ 3807 + 24 * t) (ht : t ≤ 511) (hL5 : 5 * t + 5 ≤ L) (hLm : L ≤ 2560) (nx : LH G (YLw nm tb) Z K R L xs (t + 1)) : AW G (YLw nm tb) Z 272 (LLs G t) [] (K, R, I, J, z) cu su := by
  obtain ⟨hLX, hLM, hO, hK, hSC, hxs⟩ := id h0
  have hk0 : K 0 = some (3, 6) := hLX.1
  have hk140 : K 140 = some (4, 12) := hLM.1
  obtain ⟨a, st, B⟩ := s
  have hI : IV (50 * t) t a := hG.1.1
  have hl1 : L1 a := hG.1.2.1
  have hIS : ISv a := hG.1.2.2
  obtain ⟨x, hx⟩ : ∃ x, x = sBest (a, st, B) := ⟨_, rfl⟩
  have hx2 : x.1 < 2 ^ 31 := by rw [hx]; exact sBest_le
  have hg : GI (50 * (t + 1)) (t + 1) x.2.2 := by rw [hx, show 50 * (t + 1) = 50 * t + 50 by omega]; exact hG.kBest
  have hMM : ∀ (I' : Nat → Nat → Int32) (J' : Nat → Nat → Int64) (z' : Nat), MS I' (a, st, B) → Run G YX4_callHealthiest [.ref (G.1 140)] (K, R, I', J', z') (MP K R J' z' I' x) := by
    intro I' J' z' h
    rw [hx]
    exact M_callHealthiest hLM h hI hl1 (by omega)
  have hW : RunH G YL_callHealthiest [.ref (G.1 0), .ref (G.1 146)] (K, R, I, J, z) (WP K R J z I x) := by
    rw [hx]
    exact W_callHealthiest (J := J) (z := z) hLX hX hI hl1 (by omega) hO (sBest_same) (sBest_no)
  refine aw_aload_n dL_law_272 rfl ?_
  refine aw_aload_n dL_law_273 rfl ?_
  refine aw_invSH dL_law_274 cvL_85 ⟨Nat.le_of_ble_eq_true rfl, Nat.le_of_ble_eq_true rfl⟩ (As := [.ref (G.1 0), .ref (G.1 146)]) rfl rfl (Nat.le_of_ble_eq_true rfl) ⟨by show cu + 1 ≤ 601024; omega, by show su + 6 ≤ 7293034; omega⟩ hW (fun E σ' q => by cases q.1) (fun r σ' q => ?_)
  obtain ⟨q1, I', J', z', hz, rfl, hX', hF, hJ, -⟩ := q
  cases q1
  refine aw_istore (ls' := [(5, _), (0, _), (1, _), (2, _), (3, _), (4, _)]) dL_law_277 (Nat.le_of_ble_eq_true rfl) rfl ?_
  refine aw_aload_n dL_law_279 rfl ?_
  refine aw_vUp dL_law_280 cvL_88 ⟨Nat.le_of_ble_eq_true rfl, Nat.le_of_ble_eq_true rfl⟩ hk140 ⟨_, rfl, rfl⟩ (hMM I' J' z' (hM.keep (fun q h1 h2 => hF q (by omega)))) rfl rfl (Nat.le_of_ble_eq_true rfl) ⟨rfl, rfl⟩ ⟨by show cu + 1 ≤ 601024; omega, by show su + 6 ≤ 7293034; omega⟩ (fun I2 hP => ?_)
  obtain ⟨hMn, hth, hE⟩ := hP
  have hXn : XS I2 x.2.2 := hX'.keep (fun q hq => hE q (by omega))
  refine aw_istore (ls' := [(6, _), (5, _), (0, _), (1, _), (2, _), (3, _), (4, _)]) dL_law_283 (Nat.le_of_ble_eq_true rfl) rfl ?_
  refine aw_aload_n dL_law_285 rfl ?_
  refine aw_vRd dL_law_286 cvL_78 ⟨Nat.le_of_ble_eq_true rfl, Nat.le_of_ble_eq_true rfl⟩ hk140 ⟨_, rfl, rfl⟩ (r_thrown hLM hth) rfl rfl (Nat.le_of_ble_eq_true rfl) ⟨rfl, rfl⟩ ⟨by show cu + 1 ≤ 601024; omega, by show su + 6 ≤ 7293034; omega⟩ ?_
  refine aw_iload dL_law_289 rfl ?_
  refine aw_icmp_eq (tgt := 296) dL_law_291 (by decide) (fun hc291 => ?_) (fun hc291 => absurd rfl hc291)
  refine aw_iload dL_law_296 rfl ?_
  refine aw_if_neN (tgt := 313) dL_law_298 (by decide) hx2 (fun hc298 => ?_) (fun hc298 => ?_)
  · refine aw_goto (tgt := 1210) dL_law_313 (by decide) ?_
    refine aw_iincN (k := 5) (ls' := [(4, _), (6, _), (5, _), (0, _), (1, _), (2, _), (3, _)]) dL_law_1210 rfl rfl (Nat.le_of_ble_eq_true rfl) rfl ?_
    refine aw_goto (tgt := 23) dL_law_1213 (by decide) ?_
    have e0 := nx I2 J' z' x.2.2 _ _ (h0.fr (fun q hq => by rw [hE q (by omega), hF q (by omega)])) hXn hMn hg (show cu + 1 ≤ 147 + 4 * (t + 1) by omega) (show su + 6 ≤ 3807 + 24 * (t + 1) by omega)
    rw [LLs_s] at e0
    exact aw_pick [3, 4, 5, 6, 0] rfl e0
  · refine aw_aload_n dL_law_301 rfl ?_
    refine aw_iconst (v := nI 0) dL_law_302 rfl ?_
    refine aw_lald dL_law_303 (by assumption) (by omega) rfl (by omega) (hJ hc298) ?_
    refine aw_iload dL_law_304 rfl ?_
    refine aw_i2l dL_law_306 ?_
    refine aw_lcmp dL_law_307 ?_
    rw [lg_self]
    refine aw_if_eq (tgt := 313) dL_law_308 (by decide) (fun hc308 => ?_) (fun hc308 => absurd rfl hc308)
    refine aw_goto (tgt := 1210) dL_law_313 (by decide) ?_
    refine aw_iincN (k := 5) (ls' := [(4, _), (6, _), (5, _), (0, _), (1, _), (2, _), (3, _)]) dL_law_1210 rfl rfl (Nat.le_of_ble_eq_true rfl) rfl ?_
    refine aw_goto (tgt := 23) dL_law_1213 (by decide) ?_
    have e0 := nx I2 J' z' x.2.2 _ _ (h0.fr (fun q hq => by rw [hE q (by omega), hF q (by omega)])) hXn hMn hg (show cu + 1 ≤ 147 + 4 * (t + 1) by omega) (show su + 6 ≤ 3807 + 24 * (t + 1) by omega)
    rw [LLs_s] at e0
    exact aw_pick [3, 4, 5, 6, 0] rfl e0
theorem law_close (h0 : IV0 G K R L xs I) (hX : XS I s) (hM : MS I s) (hG : GI (50 * t) t s) (hc : cu ≤ 147 + 4 * t) (hs : su ≤ 3807 + 24 * t) (ht : t ≤ 511) (hL5 : 5 * t + 5 ≤ L) (hLm : L ≤ 2560) (nx : LH G (YLw nm tb) Z K R L xs (t + 1)) : AW G (YLw nm tb) Z 316 (LLs G t) [] (K, R, I, J, z) cu su := by
  obtain ⟨hLX, hLM, hO, hK, hSC, hxs⟩ := id h0
  have hk0 : K 0 = some (3, 6) := hLX.1
  have hk140 : K 140 = some (4, 12) := hLM.1
  obtain ⟨a, st, B⟩ := s
  have hI : IV (50 * t) t a := hG.1.1
  have hl1 : L1 a := hG.1.2.1
  have hIS : ISv a := hG.1.2.2
  obtain ⟨x, hx⟩ : ∃ x, x = sClose (I 1000 (5 * t + 1)) (a, st, B) := ⟨_, rfl⟩
  have hx2 : x.1 < 2 ^ 31 := by rw [hx]; exact sClose_le _
  have hg : GI (50 * (t + 1)) (t + 1) x.2.2 := by rw [hx, show 50 * (t + 1) = 50 * t + 50 by omega]; exact hG.kClose
  have hMM : ∀ (I' : Nat → Nat → Int32) (J' : Nat → Nat → Int64) (z' : Nat), MS I' (a, st, B) → Run G YX4_close [.ref (G.1 140), .int (I 1000 (5 * t + 1))] (K, R, I', J', z') (MP K R J' z' I' x) := by
    intro I' J' z' h
    rw [hx]
    exact M_close hLM h hI hl1 (by omega) (I 1000 (5 * t + 1))
  have hW : RunH G YL_close [.ref (G.1 0), .int (I 1000 (5 * t + 1)), .ref (G.1 146)] (K, R, I, J, z) (WP K R J z I x) := by
    rw [hx]
    exact W_close (J := J) (z := z) hLX hX hI hl1 (by omega) (I 1000 (5 * t + 1)) hO (sClose_same _) (sClose_no _)
  refine aw_aload_n dL_law_316 rfl ?_
  refine aw_aload_n dL_law_317 rfl ?_
  refine aw_iload dL_law_318 rfl ?_
  refine aw_iconst (v := nI 1) dL_law_320 rfl ?_
  first | refine aw_iaddN dL_law_321 ?_ | refine aw_iadd dL_law_321 ?_
  refine aw_iald dL_law_322 (by assumption) (by omega) rfl (by omega) rfl ?_
  refine aw_aload_n dL_law_323 rfl ?_
  refine aw_invSH dL_law_324 cvL_89 ⟨Nat.le_of_ble_eq_true rfl, Nat.le_of_ble_eq_true rfl⟩ (As := [.ref (G.1 0), .int (I 1000 (5 * t + 1)), .ref (G.1 146)]) rfl rfl (Nat.le_of_ble_eq_true rfl) ⟨by show cu + 1 ≤ 601024; omega, by show su + 6 ≤ 7293034; omega⟩ hW (fun E σ' q => by cases q.1) (fun r σ' q => ?_)
  obtain ⟨q1, I', J', z', hz, rfl, hX', hF, hJ, -⟩ := q
  cases q1
  refine aw_istore (ls' := [(5, _), (0, _), (1, _), (2, _), (3, _), (4, _)]) dL_law_327 (Nat.le_of_ble_eq_true rfl) rfl ?_
  refine aw_aload_n dL_law_329 rfl ?_
  refine aw_aload_n dL_law_330 rfl ?_
  refine aw_iload dL_law_331 rfl ?_
  refine aw_iconst (v := nI 1) dL_law_333 rfl ?_
  first | refine aw_iaddN dL_law_334 ?_ | refine aw_iadd dL_law_334 ?_
  refine aw_iald dL_law_335 (by assumption) (by omega) rfl (by omega) (congrFun (hF 1000 (by decide)) _) ?_
  refine aw_vUp dL_law_336 cvL_91 ⟨Nat.le_of_ble_eq_true rfl, Nat.le_of_ble_eq_true rfl⟩ hk140 ⟨_, rfl, rfl⟩ (hMM I' J' z' (hM.keep (fun q h1 h2 => hF q (by omega)))) rfl rfl (Nat.le_of_ble_eq_true rfl) ⟨rfl, rfl⟩ ⟨by show cu + 1 ≤ 601024; omega, by show su + 6 ≤ 7293034; omega⟩ (fun I2 hP => ?_)
  obtain ⟨hMn, hth, hE⟩ := hP
  have hXn : XS I2 x.2.2 := hX'.keep (fun q hq => hE q (by omega))
  refine aw_istore (ls' := [(6, _), (5, _), (0, _), (1, _), (2, _), (3, _), (4, _)]) dL_law_339 (Nat.le_of_ble_eq_true rfl) rfl ?_
  refine aw_aload_n dL_law_341 rfl ?_
  refine aw_vRd dL_law_342 cvL_78 ⟨Nat.le_of_ble_eq_true rfl, Nat.le_of_ble_eq_true rfl⟩ hk140 ⟨_, rfl, rfl⟩ (r_thrown hLM hth) rfl rfl (Nat.le_of_ble_eq_true rfl) ⟨rfl, rfl⟩ ⟨by show cu + 1 ≤ 601024; omega, by show su + 6 ≤ 7293034; omega⟩ ?_
  refine aw_iload dL_law_345 rfl ?_
  refine aw_icmp_eq (tgt := 352) dL_law_347 (by decide) (fun hc347 => ?_) (fun hc347 => absurd rfl hc347)
  refine aw_iload dL_law_352 rfl ?_
  refine aw_if_neN (tgt := 369) dL_law_354 (by decide) hx2 (fun hc354 => ?_) (fun hc354 => ?_)
  · refine aw_goto (tgt := 1210) dL_law_369 (by decide) ?_
    refine aw_iincN (k := 5) (ls' := [(4, _), (6, _), (5, _), (0, _), (1, _), (2, _), (3, _)]) dL_law_1210 rfl rfl (Nat.le_of_ble_eq_true rfl) rfl ?_
    refine aw_goto (tgt := 23) dL_law_1213 (by decide) ?_
    have e0 := nx I2 J' z' x.2.2 _ _ (h0.fr (fun q hq => by rw [hE q (by omega), hF q (by omega)])) hXn hMn hg (show cu + 1 ≤ 147 + 4 * (t + 1) by omega) (show su + 6 ≤ 3807 + 24 * (t + 1) by omega)
    rw [LLs_s] at e0
    exact aw_pick [3, 4, 5, 6, 0] rfl e0
  · refine aw_aload_n dL_law_357 rfl ?_
    refine aw_iconst (v := nI 0) dL_law_358 rfl ?_
    refine aw_lald dL_law_359 (by assumption) (by omega) rfl (by omega) (hJ hc354) ?_
    refine aw_iload dL_law_360 rfl ?_
    refine aw_i2l dL_law_362 ?_
    refine aw_lcmp dL_law_363 ?_
    rw [lg_self]
    refine aw_if_eq (tgt := 369) dL_law_364 (by decide) (fun hc364 => ?_) (fun hc364 => absurd rfl hc364)
    refine aw_goto (tgt := 1210) dL_law_369 (by decide) ?_
    refine aw_iincN (k := 5) (ls' := [(4, _), (6, _), (5, _), (0, _), (1, _), (2, _), (3, _)]) dL_law_1210 rfl rfl (Nat.le_of_ble_eq_true rfl) rfl ?_
    refine aw_goto (tgt := 23) dL_law_1213 (by decide) ?_
    have e0 := nx I2 J' z' x.2.2 _ _ (h0.fr (fun q hq => by rw [hE q (by omega), hF q (by omega)])) hXn hMn hg (show cu + 1 ≤ 147 + 4 * (t + 1) by omega) (show su + 6 ≤ 3807 + 24 * (t + 1) by omega)
    rw [LLs_s] at e0
    exact aw_pick [3, 4, 5, 6, 0] rfl e0
theorem law_set (h0 : IV0 G K R L xs I) (hX : XS I s) (hM : MS I s) (hG : GI (50 * t) t s) (hc : cu ≤ 147 + 4 * t) (hs : su ≤ 3807 + 24 * t) (ht : t ≤ 511) (hL5 : 5 * t + 5 ≤ L) (hLm : L ≤ 2560) (nx : LH G (YLw nm tb) Z K R L xs (t + 1)) : AW G (YLw nm tb) Z 372 (LLs G t) [] (K, R, I, J, z) cu su := by
  obtain ⟨hLX, hLM, hO, hK, hSC, hxs⟩ := id h0
  have hk0 : K 0 = some (3, 6) := hLX.1
  have hk140 : K 140 = some (4, 12) := hLM.1
  obtain ⟨a, st, B⟩ := s
  have hI : IV (50 * t) t a := hG.1.1
  have hl1 : L1 a := hG.1.2.1
  have hIS : ISv a := hG.1.2.2
  obtain ⟨x, hx⟩ : ∃ x, x = sSet (I 1000 (5 * t + 1)) (I 1000 (5 * t + 2)) (a, st, B) := ⟨_, rfl⟩
  have hx2 : x.1 < 2 ^ 31 := by rw [hx]; exact sSet_le _ _
  have hg : GI (50 * (t + 1)) (t + 1) x.2.2 := by rw [hx, show 50 * (t + 1) = 50 * t + 50 by omega]; exact hG.kSet
  have hMM : ∀ (I' : Nat → Nat → Int32) (J' : Nat → Nat → Int64) (z' : Nat), MS I' (a, st, B) → Run G YX4_set [.ref (G.1 140), .int (I 1000 (5 * t + 1)), .int (I 1000 (5 * t + 2))] (K, R, I', J', z') (MP K R J' z' I' x) := by
    intro I' J' z' h
    rw [hx]
    exact M_set hLM h hI hl1 (by omega) (I 1000 (5 * t + 1)) (I 1000 (5 * t + 2))
  have hW : RunH G YL_set [.ref (G.1 0), .int (I 1000 (5 * t + 1)), .int (I 1000 (5 * t + 2)), .ref (G.1 146)] (K, R, I, J, z) (WP K R J z I x) := by
    rw [hx]
    exact W_set (J := J) (z := z) hLX hX hI hl1 (by omega) hSC (I 1000 (5 * t + 1)) (I 1000 (5 * t + 2)) hO (sSet_same _ _)
  refine aw_aload_n dL_law_372 rfl ?_
  refine aw_aload_n dL_law_373 rfl ?_
  refine aw_iload dL_law_374 rfl ?_
  refine aw_iconst (v := nI 1) dL_law_376 rfl ?_
  first | refine aw_iaddN dL_law_377 ?_ | refine aw_iadd dL_law_377 ?_
  refine aw_iald dL_law_378 (by assumption) (by omega) rfl (by omega) rfl ?_
  refine aw_aload_n dL_law_379 rfl ?_
  refine aw_iload dL_law_380 rfl ?_
  refine aw_iconst (v := nI 2) dL_law_382 rfl ?_
  first | refine aw_iaddN dL_law_383 ?_ | refine aw_iadd dL_law_383 ?_
  refine aw_iald dL_law_384 (by assumption) (by omega) rfl (by omega) rfl ?_
  refine aw_aload_n dL_law_385 rfl ?_
  refine aw_invSH dL_law_386 cvL_92 ⟨Nat.le_of_ble_eq_true rfl, Nat.le_of_ble_eq_true rfl⟩ (As := [.ref (G.1 0), .int (I 1000 (5 * t + 1)), .int (I 1000 (5 * t + 2)), .ref (G.1 146)]) rfl rfl (Nat.le_of_ble_eq_true rfl) ⟨by show cu + 2 ≤ 601024; omega, by show su + 12 ≤ 7293034; omega⟩ hW (fun E σ' q => by cases q.1) (fun r σ' q => ?_)
  obtain ⟨q1, I', J', z', hz, rfl, hX', hF, hJ, -⟩ := q
  cases q1
  refine aw_istore (ls' := [(5, _), (0, _), (1, _), (2, _), (3, _), (4, _)]) dL_law_389 (Nat.le_of_ble_eq_true rfl) rfl ?_
  refine aw_aload_n dL_law_391 rfl ?_
  refine aw_aload_n dL_law_392 rfl ?_
  refine aw_iload dL_law_393 rfl ?_
  refine aw_iconst (v := nI 1) dL_law_395 rfl ?_
  first | refine aw_iaddN dL_law_396 ?_ | refine aw_iadd dL_law_396 ?_
  refine aw_iald dL_law_397 (by assumption) (by omega) rfl (by omega) (congrFun (hF 1000 (by decide)) _) ?_
  refine aw_aload_n dL_law_398 rfl ?_
  refine aw_iload dL_law_399 rfl ?_
  refine aw_iconst (v := nI 2) dL_law_401 rfl ?_
  first | refine aw_iaddN dL_law_402 ?_ | refine aw_iadd dL_law_402 ?_
  refine aw_iald dL_law_403 (by assumption) (by omega) rfl (by omega) (congrFun (hF 1000 (by decide)) _) ?_
  refine aw_vUp dL_law_404 cvL_95 ⟨Nat.le_of_ble_eq_true rfl, Nat.le_of_ble_eq_true rfl⟩ hk140 ⟨_, rfl, rfl⟩ (hMM I' J' z' (hM.keep (fun q h1 h2 => hF q (by omega)))) rfl rfl (Nat.le_of_ble_eq_true rfl) ⟨rfl, rfl⟩ ⟨by show cu + 2 ≤ 601024; omega, by show su + 12 ≤ 7293034; omega⟩ (fun I2 hP => ?_)
  obtain ⟨hMn, hth, hE⟩ := hP
  have hXn : XS I2 x.2.2 := hX'.keep (fun q hq => hE q (by omega))
  refine aw_istore (ls' := [(6, _), (5, _), (0, _), (1, _), (2, _), (3, _), (4, _)]) dL_law_407 (Nat.le_of_ble_eq_true rfl) rfl ?_
  refine aw_aload_n dL_law_409 rfl ?_
  refine aw_vRd dL_law_410 cvL_78 ⟨Nat.le_of_ble_eq_true rfl, Nat.le_of_ble_eq_true rfl⟩ hk140 ⟨_, rfl, rfl⟩ (r_thrown hLM hth) rfl rfl (Nat.le_of_ble_eq_true rfl) ⟨rfl, rfl⟩ ⟨by show cu + 2 ≤ 601024; omega, by show su + 12 ≤ 7293034; omega⟩ ?_
  refine aw_iload dL_law_413 rfl ?_
  refine aw_icmp_eq (tgt := 420) dL_law_415 (by decide) (fun hc415 => ?_) (fun hc415 => absurd rfl hc415)
  refine aw_iload dL_law_420 rfl ?_
  refine aw_if_neN (tgt := 437) dL_law_422 (by decide) hx2 (fun hc422 => ?_) (fun hc422 => ?_)
  · refine aw_goto (tgt := 1210) dL_law_437 (by decide) ?_
    refine aw_iincN (k := 5) (ls' := [(4, _), (6, _), (5, _), (0, _), (1, _), (2, _), (3, _)]) dL_law_1210 rfl rfl (Nat.le_of_ble_eq_true rfl) rfl ?_
    refine aw_goto (tgt := 23) dL_law_1213 (by decide) ?_
    have e0 := nx I2 J' z' x.2.2 _ _ (h0.fr (fun q hq => by rw [hE q (by omega), hF q (by omega)])) hXn hMn hg (show cu + 2 ≤ 147 + 4 * (t + 1) by omega) (show su + 12 ≤ 3807 + 24 * (t + 1) by omega)
    rw [LLs_s] at e0
    exact aw_pick [3, 4, 5, 6, 0] rfl e0
  · refine aw_aload_n dL_law_425 rfl ?_
    refine aw_iconst (v := nI 0) dL_law_426 rfl ?_
    refine aw_lald dL_law_427 (by assumption) (by omega) rfl (by omega) (hJ hc422) ?_
    refine aw_iload dL_law_428 rfl ?_
    refine aw_i2l dL_law_430 ?_
    refine aw_lcmp dL_law_431 ?_
    rw [lg_self]
    refine aw_if_eq (tgt := 437) dL_law_432 (by decide) (fun hc432 => ?_) (fun hc432 => absurd rfl hc432)
    refine aw_goto (tgt := 1210) dL_law_437 (by decide) ?_
    refine aw_iincN (k := 5) (ls' := [(4, _), (6, _), (5, _), (0, _), (1, _), (2, _), (3, _)]) dL_law_1210 rfl rfl (Nat.le_of_ble_eq_true rfl) rfl ?_
    refine aw_goto (tgt := 23) dL_law_1213 (by decide) ?_
    have e0 := nx I2 J' z' x.2.2 _ _ (h0.fr (fun q hq => by rw [hE q (by omega), hF q (by omega)])) hXn hMn hg (show cu + 2 ≤ 147 + 4 * (t + 1) by omega) (show su + 12 ≤ 3807 + 24 * (t + 1) by omega)
    rw [LLs_s] at e0
    exact aw_pick [3, 4, 5, 6, 0] rfl e0
theorem law_pass (h0 : IV0 G K R L xs I) (hX : XS I s) (hM : MS I s) (hG : GI (50 * t) t s) (hc : cu ≤ 147 + 4 * t) (hs : su ≤ 3807 + 24 * t) (ht : t ≤ 511) (hL5 : 5 * t + 5 ≤ L) (hLm : L ≤ 2560) (nx : LH G (YLw nm tb) Z K R L xs (t + 1)) : AW G (YLw nm tb) Z 440 (LLs G t) [] (K, R, I, J, z) cu su := by
  obtain ⟨hLX, hLM, hO, hK, hSC, hxs⟩ := id h0
  have hk0 : K 0 = some (3, 6) := hLX.1
  have hk140 : K 140 = some (4, 12) := hLM.1
  obtain ⟨a, st, B⟩ := s
  have hI : IV (50 * t) t a := hG.1.1
  have hl1 : L1 a := hG.1.2.1
  have hIS : ISv a := hG.1.2.2
  obtain ⟨x, hx⟩ : ∃ x, x = sPass (I 1000 (5 * t + 1)) (a, st, B) := ⟨_, rfl⟩
  have hx2 : x.1 < 2 ^ 31 := by rw [hx]; exact sPass_le _
  have hg : GI (50 * (t + 1)) (t + 1) x.2.2 := by rw [hx, show 50 * (t + 1) = 50 * t + 50 by omega]; exact hG.kPass
  have hMM : ∀ (I' : Nat → Nat → Int32) (J' : Nat → Nat → Int64) (z' : Nat), MS I' (a, st, B) → Run G YX4_pass [.ref (G.1 140), .int (I 1000 (5 * t + 1))] (K, R, I', J', z') (MP K R J' z' I' x) := by
    intro I' J' z' h
    rw [hx]
    exact M_pass hLM h hI hl1 (by omega) (I 1000 (5 * t + 1))
  have hW : RunH G YL_pass [.ref (G.1 0), .int (I 1000 (5 * t + 1)), .ref (G.1 146)] (K, R, I, J, z) (WP K R J z I x) := by
    rw [hx]
    exact W_pass (J := J) (z := z) hLX hX hI hl1 (by omega) (I 1000 (5 * t + 1)) hO (sPass_same _) (sPass_no _)
  refine aw_aload_n dL_law_440 rfl ?_
  refine aw_aload_n dL_law_441 rfl ?_
  refine aw_iload dL_law_442 rfl ?_
  refine aw_iconst (v := nI 1) dL_law_444 rfl ?_
  first | refine aw_iaddN dL_law_445 ?_ | refine aw_iadd dL_law_445 ?_
  refine aw_iald dL_law_446 (by assumption) (by omega) rfl (by omega) rfl ?_
  refine aw_aload_n dL_law_447 rfl ?_
  refine aw_invSH dL_law_448 cvL_96 ⟨Nat.le_of_ble_eq_true rfl, Nat.le_of_ble_eq_true rfl⟩ (As := [.ref (G.1 0), .int (I 1000 (5 * t + 1)), .ref (G.1 146)]) rfl rfl (Nat.le_of_ble_eq_true rfl) ⟨by show cu + 1 ≤ 601024; omega, by show su + 6 ≤ 7293034; omega⟩ hW (fun E σ' q => by cases q.1) (fun r σ' q => ?_)
  obtain ⟨q1, I', J', z', hz, rfl, hX', hF, hJ, -⟩ := q
  cases q1
  refine aw_istore (ls' := [(5, _), (0, _), (1, _), (2, _), (3, _), (4, _)]) dL_law_451 (Nat.le_of_ble_eq_true rfl) rfl ?_
  refine aw_aload_n dL_law_453 rfl ?_
  refine aw_aload_n dL_law_454 rfl ?_
  refine aw_iload dL_law_455 rfl ?_
  refine aw_iconst (v := nI 1) dL_law_457 rfl ?_
  first | refine aw_iaddN dL_law_458 ?_ | refine aw_iadd dL_law_458 ?_
  refine aw_iald dL_law_459 (by assumption) (by omega) rfl (by omega) (congrFun (hF 1000 (by decide)) _) ?_
  refine aw_vUp dL_law_460 cvL_98 ⟨Nat.le_of_ble_eq_true rfl, Nat.le_of_ble_eq_true rfl⟩ hk140 ⟨_, rfl, rfl⟩ (hMM I' J' z' (hM.keep (fun q h1 h2 => hF q (by omega)))) rfl rfl (Nat.le_of_ble_eq_true rfl) ⟨rfl, rfl⟩ ⟨by show cu + 1 ≤ 601024; omega, by show su + 6 ≤ 7293034; omega⟩ (fun I2 hP => ?_)
  obtain ⟨hMn, hth, hE⟩ := hP
  have hXn : XS I2 x.2.2 := hX'.keep (fun q hq => hE q (by omega))
  refine aw_istore (ls' := [(6, _), (5, _), (0, _), (1, _), (2, _), (3, _), (4, _)]) dL_law_463 (Nat.le_of_ble_eq_true rfl) rfl ?_
  refine aw_aload_n dL_law_465 rfl ?_
  refine aw_vRd dL_law_466 cvL_78 ⟨Nat.le_of_ble_eq_true rfl, Nat.le_of_ble_eq_true rfl⟩ hk140 ⟨_, rfl, rfl⟩ (r_thrown hLM hth) rfl rfl (Nat.le_of_ble_eq_true rfl) ⟨rfl, rfl⟩ ⟨by show cu + 1 ≤ 601024; omega, by show su + 6 ≤ 7293034; omega⟩ ?_
  refine aw_iload dL_law_469 rfl ?_
  refine aw_icmp_eq (tgt := 476) dL_law_471 (by decide) (fun hc471 => ?_) (fun hc471 => absurd rfl hc471)
  refine aw_iload dL_law_476 rfl ?_
  refine aw_if_neN (tgt := 493) dL_law_478 (by decide) hx2 (fun hc478 => ?_) (fun hc478 => ?_)
  · refine aw_goto (tgt := 1210) dL_law_493 (by decide) ?_
    refine aw_iincN (k := 5) (ls' := [(4, _), (6, _), (5, _), (0, _), (1, _), (2, _), (3, _)]) dL_law_1210 rfl rfl (Nat.le_of_ble_eq_true rfl) rfl ?_
    refine aw_goto (tgt := 23) dL_law_1213 (by decide) ?_
    have e0 := nx I2 J' z' x.2.2 _ _ (h0.fr (fun q hq => by rw [hE q (by omega), hF q (by omega)])) hXn hMn hg (show cu + 1 ≤ 147 + 4 * (t + 1) by omega) (show su + 6 ≤ 3807 + 24 * (t + 1) by omega)
    rw [LLs_s] at e0
    exact aw_pick [3, 4, 5, 6, 0] rfl e0
  · refine aw_aload_n dL_law_481 rfl ?_
    refine aw_iconst (v := nI 0) dL_law_482 rfl ?_
    refine aw_lald dL_law_483 (by assumption) (by omega) rfl (by omega) (hJ hc478) ?_
    refine aw_iload dL_law_484 rfl ?_
    refine aw_i2l dL_law_486 ?_
    refine aw_lcmp dL_law_487 ?_
    rw [lg_self]
    refine aw_if_eq (tgt := 493) dL_law_488 (by decide) (fun hc488 => ?_) (fun hc488 => absurd rfl hc488)
    refine aw_goto (tgt := 1210) dL_law_493 (by decide) ?_
    refine aw_iincN (k := 5) (ls' := [(4, _), (6, _), (5, _), (0, _), (1, _), (2, _), (3, _)]) dL_law_1210 rfl rfl (Nat.le_of_ble_eq_true rfl) rfl ?_
    refine aw_goto (tgt := 23) dL_law_1213 (by decide) ?_
    have e0 := nx I2 J' z' x.2.2 _ _ (h0.fr (fun q hq => by rw [hE q (by omega), hF q (by omega)])) hXn hMn hg (show cu + 1 ≤ 147 + 4 * (t + 1) by omega) (show su + 6 ≤ 3807 + 24 * (t + 1) by omega)
    rw [LLs_s] at e0
    exact aw_pick [3, 4, 5, 6, 0] rfl e0
theorem law_append (h0 : IV0 G K R L xs I) (hX : XS I s) (hM : MS I s) (hG : GI (50 * t) t s) (hc : cu ≤ 147 + 4 * t) (hs : su ≤ 3807 + 24 * t) (ht : t ≤ 511) (hL5 : 5 * t + 5 ≤ L) (hLm : L ≤ 2560) (nx : LH G (YLw nm tb) Z K R L xs (t + 1)) : AW G (YLw nm tb) Z 496 (LLs G t) [] (K, R, I, J, z) cu su := by
  obtain ⟨hLX, hLM, hO, hK, hSC, hxs⟩ := id h0
  have hk0 : K 0 = some (3, 6) := hLX.1
  have hk140 : K 140 = some (4, 12) := hLM.1
  obtain ⟨a, st, B⟩ := s
  have hI : IV (50 * t) t a := hG.1.1
  have hl1 : L1 a := hG.1.2.1
  have hIS : ISv a := hG.1.2.2
  obtain ⟨x, hx⟩ : ∃ x, x = sAppend (I 1000 (5 * t + 1)) (a, st, B) := ⟨_, rfl⟩
  have hx2 : x.1 < 2 ^ 31 := by rw [hx]; exact sAppend_le _
  have hg : GI (50 * (t + 1)) (t + 1) x.2.2 := by rw [hx, show 50 * (t + 1) = 50 * t + 50 by omega]; exact hG.kAppend
  have hMM : ∀ (I' : Nat → Nat → Int32) (J' : Nat → Nat → Int64) (z' : Nat), MS I' (a, st, B) → Run G YX4_append [.ref (G.1 140), .int (I 1000 (5 * t + 1))] (K, R, I', J', z') (MP K R J' z' I' x) := by
    intro I' J' z' h
    rw [hx]
    exact M_append hLM h hI hl1 (by omega) (I 1000 (5 * t + 1))
  have hW : RunH G YL_append [.ref (G.1 0), .int (I 1000 (5 * t + 1)), .ref (G.1 146)] (K, R, I, J, z) (WP K R J z I x) := by
    rw [hx]
    exact W_append (J := J) (z := z) hLX hX hI hl1 (by omega) (I 1000 (5 * t + 1)) hO (sAppend_same _)
  refine aw_aload_n dL_law_496 rfl ?_
  refine aw_aload_n dL_law_497 rfl ?_
  refine aw_iload dL_law_498 rfl ?_
  refine aw_iconst (v := nI 1) dL_law_500 rfl ?_
  first | refine aw_iaddN dL_law_501 ?_ | refine aw_iadd dL_law_501 ?_
  refine aw_iald dL_law_502 (by assumption) (by omega) rfl (by omega) rfl ?_
  refine aw_aload_n dL_law_503 rfl ?_
  refine aw_invSH dL_law_504 cvL_99 ⟨Nat.le_of_ble_eq_true rfl, Nat.le_of_ble_eq_true rfl⟩ (As := [.ref (G.1 0), .int (I 1000 (5 * t + 1)), .ref (G.1 146)]) rfl rfl (Nat.le_of_ble_eq_true rfl) ⟨by show cu + 2 ≤ 601024; omega, by show su + 12 ≤ 7293034; omega⟩ hW (fun E σ' q => by cases q.1) (fun r σ' q => ?_)
  obtain ⟨q1, I', J', z', hz, rfl, hX', hF, hJ, -⟩ := q
  cases q1
  refine aw_istore (ls' := [(5, _), (0, _), (1, _), (2, _), (3, _), (4, _)]) dL_law_507 (Nat.le_of_ble_eq_true rfl) rfl ?_
  refine aw_aload_n dL_law_509 rfl ?_
  refine aw_aload_n dL_law_510 rfl ?_
  refine aw_iload dL_law_511 rfl ?_
  refine aw_iconst (v := nI 1) dL_law_513 rfl ?_
  first | refine aw_iaddN dL_law_514 ?_ | refine aw_iadd dL_law_514 ?_
  refine aw_iald dL_law_515 (by assumption) (by omega) rfl (by omega) (congrFun (hF 1000 (by decide)) _) ?_
  refine aw_vUp dL_law_516 cvL_101 ⟨Nat.le_of_ble_eq_true rfl, Nat.le_of_ble_eq_true rfl⟩ hk140 ⟨_, rfl, rfl⟩ (hMM I' J' z' (hM.keep (fun q h1 h2 => hF q (by omega)))) rfl rfl (Nat.le_of_ble_eq_true rfl) ⟨rfl, rfl⟩ ⟨by show cu + 2 ≤ 601024; omega, by show su + 12 ≤ 7293034; omega⟩ (fun I2 hP => ?_)
  obtain ⟨hMn, hth, hE⟩ := hP
  have hXn : XS I2 x.2.2 := hX'.keep (fun q hq => hE q (by omega))
  refine aw_istore (ls' := [(6, _), (5, _), (0, _), (1, _), (2, _), (3, _), (4, _)]) dL_law_519 (Nat.le_of_ble_eq_true rfl) rfl ?_
  refine aw_aload_n dL_law_521 rfl ?_
  refine aw_vRd dL_law_522 cvL_78 ⟨Nat.le_of_ble_eq_true rfl, Nat.le_of_ble_eq_true rfl⟩ hk140 ⟨_, rfl, rfl⟩ (r_thrown hLM hth) rfl rfl (Nat.le_of_ble_eq_true rfl) ⟨rfl, rfl⟩ ⟨by show cu + 2 ≤ 601024; omega, by show su + 12 ≤ 7293034; omega⟩ ?_
  refine aw_iload dL_law_525 rfl ?_
  refine aw_icmp_eq (tgt := 532) dL_law_527 (by decide) (fun hc527 => ?_) (fun hc527 => absurd rfl hc527)
  refine aw_iload dL_law_532 rfl ?_
  refine aw_if_neN (tgt := 549) dL_law_534 (by decide) hx2 (fun hc534 => ?_) (fun hc534 => ?_)
  · refine aw_goto (tgt := 1210) dL_law_549 (by decide) ?_
    refine aw_iincN (k := 5) (ls' := [(4, _), (6, _), (5, _), (0, _), (1, _), (2, _), (3, _)]) dL_law_1210 rfl rfl (Nat.le_of_ble_eq_true rfl) rfl ?_
    refine aw_goto (tgt := 23) dL_law_1213 (by decide) ?_
    have e0 := nx I2 J' z' x.2.2 _ _ (h0.fr (fun q hq => by rw [hE q (by omega), hF q (by omega)])) hXn hMn hg (show cu + 2 ≤ 147 + 4 * (t + 1) by omega) (show su + 12 ≤ 3807 + 24 * (t + 1) by omega)
    rw [LLs_s] at e0
    exact aw_pick [3, 4, 5, 6, 0] rfl e0
  · refine aw_aload_n dL_law_537 rfl ?_
    refine aw_iconst (v := nI 0) dL_law_538 rfl ?_
    refine aw_lald dL_law_539 (by assumption) (by omega) rfl (by omega) (hJ hc534) ?_
    refine aw_iload dL_law_540 rfl ?_
    refine aw_i2l dL_law_542 ?_
    refine aw_lcmp dL_law_543 ?_
    rw [lg_self]
    refine aw_if_eq (tgt := 549) dL_law_544 (by decide) (fun hc544 => ?_) (fun hc544 => absurd rfl hc544)
    refine aw_goto (tgt := 1210) dL_law_549 (by decide) ?_
    refine aw_iincN (k := 5) (ls' := [(4, _), (6, _), (5, _), (0, _), (1, _), (2, _), (3, _)]) dL_law_1210 rfl rfl (Nat.le_of_ble_eq_true rfl) rfl ?_
    refine aw_goto (tgt := 23) dL_law_1213 (by decide) ?_
    have e0 := nx I2 J' z' x.2.2 _ _ (h0.fr (fun q hq => by rw [hE q (by omega), hF q (by omega)])) hXn hMn hg (show cu + 2 ≤ 147 + 4 * (t + 1) by omega) (show su + 12 ≤ 3807 + 24 * (t + 1) by omega)
    rw [LLs_s] at e0
    exact aw_pick [3, 4, 5, 6, 0] rfl e0
theorem law_clearBuffer (h0 : IV0 G K R L xs I) (hX : XS I s) (hM : MS I s) (hG : GI (50 * t) t s) (hc : cu ≤ 147 + 4 * t) (hs : su ≤ 3807 + 24 * t) (ht : t ≤ 511) (hL5 : 5 * t + 5 ≤ L) (hLm : L ≤ 2560) (nx : LH G (YLw nm tb) Z K R L xs (t + 1)) : AW G (YLw nm tb) Z 552 (LLs G t) [] (K, R, I, J, z) cu su := by
  obtain ⟨hLX, hLM, hO, hK, hSC, hxs⟩ := id h0
  have hk0 : K 0 = some (3, 6) := hLX.1
  have hk140 : K 140 = some (4, 12) := hLM.1
  obtain ⟨a, st, B⟩ := s
  have hI : IV (50 * t) t a := hG.1.1
  have hl1 : L1 a := hG.1.2.1
  have hIS : ISv a := hG.1.2.2
  obtain ⟨x, hx⟩ : ∃ x, x = sClear (a, st, B) := ⟨_, rfl⟩
  have hx2 : x.1 < 2 ^ 31 := by rw [hx]; exact sClear_le
  have hg : GI (50 * (t + 1)) (t + 1) x.2.2 := by rw [hx, show 50 * (t + 1) = 50 * t + 50 by omega]; exact hG.kClear
  have hMM : ∀ (I' : Nat → Nat → Int32) (J' : Nat → Nat → Int64) (z' : Nat), MS I' (a, st, B) → Run G YX4_clearBuffer [.ref (G.1 140)] (K, R, I', J', z') (MP K R J' z' I' x) := by
    intro I' J' z' h
    rw [hx]
    exact M_clearBuffer hLM h hI hl1 (by omega)
  have hx0 : x.1 = 0 := by rw [hx]; rfl
  have hW : Run G YX3_clearBuffer [.ref (G.1 0)] (K, R, I, J, z) (CP K R J z I XT XT x) := by
    rw [hx]
    exact X_clearBuffer hLX hX hI hl1 (by omega)
  refine aw_aload_n dL_law_552 rfl ?_
  refine aw_invV dL_law_553 cvL_102 ⟨Nat.le_of_ble_eq_true rfl, Nat.le_of_ble_eq_true rfl⟩ hk0 ⟨_, rfl, rfl⟩ (As := []) rfl rfl (Nat.le_of_ble_eq_true rfl) ⟨by show cu + 0 ≤ 601024; omega, by show su + 0 ≤ 7293034; omega⟩ hW (fun E σ' q => ?_) (fun r σ' q => ?_)
  · rcases q with ⟨q1, q2, -⟩ | ⟨q1, q2, -⟩ | ⟨q1, q2, -⟩
    · cases q2
    · omega
    · omega
  rcases q with ⟨q1, q2, I', rfl, hX', hF⟩ | ⟨q1, q2, -⟩ | ⟨q1, q2, -⟩
  rotate_left
  · cases q2
  · cases q2
  cases q2
  have hz' : ∃ z' : Nat, z' = z := ⟨_, rfl⟩
  refine aw_aload_n dL_law_556 rfl ?_
  refine aw_vUp dL_law_557 cvL_105 ⟨Nat.le_of_ble_eq_true rfl, Nat.le_of_ble_eq_true rfl⟩ hk140 ⟨_, rfl, rfl⟩ (hMM I' J z (hM.keep (fun q h1 h2 => hF q (by omega)))) rfl rfl (Nat.le_of_ble_eq_true rfl) ⟨rfl, rfl⟩ ⟨by show cu + 0 ≤ 601024; omega, by show su + 0 ≤ 7293034; omega⟩ (fun I2 hP => ?_)
  obtain ⟨hMn, hth, hE⟩ := hP
  have hXn : XS I2 x.2.2 := hX'.keep (fun q hq => hE q (by omega))
  refine aw_icmp_eq (tgt := 1210) dL_law_560 (by decide) (fun hc560 => ?_) (fun hc560 => absurd rfl hc560)
  refine aw_iincN (k := 5) (ls' := [(4, _), (0, _), (1, _), (2, _), (3, _)]) dL_law_1210 rfl rfl (Nat.le_of_ble_eq_true rfl) rfl ?_
  refine aw_goto (tgt := 23) dL_law_1213 (by decide) ?_
  have e0 := nx I2 J z x.2.2 _ _ (h0.fr (fun q hq => by rw [hE q (by omega), hF q (by omega)])) hXn hMn hg (show cu + 0 ≤ 147 + 4 * (t + 1) by omega) (show su + 0 ≤ 3807 + 24 * (t + 1) by omega)
  rw [LLs_s] at e0
  exact aw_pick [1, 2, 3, 4, 0] rfl e0
theorem law_firstError (h0 : IV0 G K R L xs I) (hX : XS I s) (hM : MS I s) (hG : GI (50 * t) t s) (hc : cu ≤ 147 + 4 * t) (hs : su ≤ 3807 + 24 * t) (ht : t ≤ 511) (hL5 : 5 * t + 5 ≤ L) (hLm : L ≤ 2560) (nx : LH G (YLw nm tb) Z K R L xs (t + 1)) : AW G (YLw nm tb) Z 565 (LLs G t) [] (K, R, I, J, z) cu su := by
  obtain ⟨hLX, hLM, hO, hK, hSC, hxs⟩ := id h0
  have hk0 : K 0 = some (3, 6) := hLX.1
  have hk140 : K 140 = some (4, 12) := hLM.1
  obtain ⟨a, st, B⟩ := s
  have hI : IV (50 * t) t a := hG.1.1
  have hl1 : L1 a := hG.1.2.1
  have hIS : ISv a := hG.1.2.2
  obtain ⟨x, hx⟩ : ∃ x, x = sError (a, st, B) := ⟨_, rfl⟩
  have hx2 : x.1 < 2 ^ 31 := by rw [hx]; exact sError_le
  have hg : GI (50 * (t + 1)) (t + 1) x.2.2 := by rw [hx, show 50 * (t + 1) = 50 * t + 50 by omega]; exact (by rw [sError_st]; exact hG.mono (by omega) (by omega))
  have hMM : ∀ (I' : Nat → Nat → Int32) (J' : Nat → Nat → Int64) (z' : Nat), MS I' (a, st, B) → Run G YX4_firstError [.ref (G.1 140)] (K, R, I', J', z') (MP K R J' z' I' x) := by
    intro I' J' z' h
    rw [hx]
    exact M_firstError hLM h hI hl1 (by omega)
  have hx0 : x.1 = 0 := by rw [hx]; rfl
  have hW : Run G YX3_firstError [.ref (G.1 0)] (K, R, I, J, z) (CP K R J z I XT XT x) := by
    rw [hx]
    exact X_firstError hLX hX hI hl1 (by omega)
  refine aw_aload_n dL_law_565 rfl ?_
  refine aw_invV dL_law_566 cvL_106 ⟨Nat.le_of_ble_eq_true rfl, Nat.le_of_ble_eq_true rfl⟩ hk0 ⟨_, rfl, rfl⟩ (As := []) rfl rfl (Nat.le_of_ble_eq_true rfl) ⟨by show cu + 0 ≤ 601024; omega, by show su + 0 ≤ 7293034; omega⟩ hW (fun E σ' q => ?_) (fun r σ' q => ?_)
  · rcases q with ⟨q1, q2, -⟩ | ⟨q1, q2, -⟩ | ⟨q1, q2, -⟩
    · cases q2
    · omega
    · omega
  rcases q with ⟨q1, q2, I', rfl, hX', hF⟩ | ⟨q1, q2, -⟩ | ⟨q1, q2, -⟩
  rotate_left
  · cases q2
  · cases q2
  cases q2
  have hz' : ∃ z' : Nat, z' = z := ⟨_, rfl⟩
  refine aw_aload_n dL_law_569 rfl ?_
  refine aw_vUp dL_law_570 cvL_109 ⟨Nat.le_of_ble_eq_true rfl, Nat.le_of_ble_eq_true rfl⟩ hk140 ⟨_, rfl, rfl⟩ (hMM I' J z (hM.keep (fun q h1 h2 => hF q (by omega)))) rfl rfl (Nat.le_of_ble_eq_true rfl) ⟨rfl, rfl⟩ ⟨by show cu + 0 ≤ 601024; omega, by show su + 0 ≤ 7293034; omega⟩ (fun I2 hP => ?_)
  obtain ⟨hMn, hth, hE⟩ := hP
  have hXn : XS I2 x.2.2 := hX'.keep (fun q hq => hE q (by omega))
  refine aw_icmp_eq (tgt := 1210) dL_law_573 (by decide) (fun hc573 => ?_) (fun hc573 => absurd rfl hc573)
  refine aw_iincN (k := 5) (ls' := [(4, _), (0, _), (1, _), (2, _), (3, _)]) dL_law_1210 rfl rfl (Nat.le_of_ble_eq_true rfl) rfl ?_
  refine aw_goto (tgt := 23) dL_law_1213 (by decide) ?_
  have e0 := nx I2 J z x.2.2 _ _ (h0.fr (fun q hq => by rw [hE q (by omega), hF q (by omega)])) hXn hMn hg (show cu + 0 ≤ 147 + 4 * (t + 1) by omega) (show su + 0 ≤ 3807 + 24 * (t + 1) by omega)
  rw [LLs_s] at e0
  exact aw_pick [1, 2, 3, 4, 0] rfl e0
theorem law_delays (h0 : IV0 G K R L xs I) (hX : XS I s) (hM : MS I s) (hG : GI (50 * t) t s) (hc : cu ≤ 147 + 4 * t) (hs : su ≤ 3807 + 24 * t) (ht : t ≤ 511) (hL5 : 5 * t + 5 ≤ L) (hLm : L ≤ 2560) (nx : LH G (YLw nm tb) Z K R L xs (t + 1)) : AW G (YLw nm tb) Z 578 (LLs G t) [] (K, R, I, J, z) cu su := by
  obtain ⟨hLX, hLM, hO, hK, hSC, hxs⟩ := id h0
  have hk0 : K 0 = some (3, 6) := hLX.1
  have hk140 : K 140 = some (4, 12) := hLM.1
  obtain ⟨a, st, B⟩ := s
  have hI : IV (50 * t) t a := hG.1.1
  have hl1 : L1 a := hG.1.2.1
  have hIS : ISv a := hG.1.2.2
  obtain ⟨x, hx⟩ : ∃ x, x = sDelays (I 1000 (5 * t + 1)) (a, st, B) := ⟨_, rfl⟩
  have hx2 : x.1 < 2 ^ 31 := by rw [hx]; exact sDelays_le _
  have hg : GI (50 * (t + 1)) (t + 1) x.2.2 := by rw [hx, show 50 * (t + 1) = 50 * t + 50 by omega]; exact hG.kDelays
  have hMM : ∀ (I' : Nat → Nat → Int32) (J' : Nat → Nat → Int64) (z' : Nat), MS I' (a, st, B) → Run G YX4_delays [.ref (G.1 140), .int (I 1000 (5 * t + 1))] (K, R, I', J', z') (MP K R J' z' I' x) := by
    intro I' J' z' h
    rw [hx]
    exact M_delays hLM h hI hl1 (by omega) (I 1000 (5 * t + 1))
  have hW : RunH G YL_delays [.ref (G.1 0), .int (I 1000 (5 * t + 1)), .ref (G.1 146)] (K, R, I, J, z) (WP K R J z I x) := by
    rw [hx]
    exact W_delays (J := J) (z := z) hLX hX hI hl1 (by omega) (I 1000 (5 * t + 1)) hO (sDelays_same _)
  refine aw_aload_n dL_law_578 rfl ?_
  refine aw_aload_n dL_law_579 rfl ?_
  refine aw_iload dL_law_580 rfl ?_
  refine aw_iconst (v := nI 1) dL_law_582 rfl ?_
  first | refine aw_iaddN dL_law_583 ?_ | refine aw_iadd dL_law_583 ?_
  refine aw_iald dL_law_584 (by assumption) (by omega) rfl (by omega) rfl ?_
  refine aw_aload_n dL_law_585 rfl ?_
  refine aw_invSH dL_law_586 cvL_110 ⟨Nat.le_of_ble_eq_true rfl, Nat.le_of_ble_eq_true rfl⟩ (As := [.ref (G.1 0), .int (I 1000 (5 * t + 1)), .ref (G.1 146)]) rfl rfl (Nat.le_of_ble_eq_true rfl) ⟨by show cu + 2 ≤ 601024; omega, by show su + 12 ≤ 7293034; omega⟩ hW (fun E σ' q => by cases q.1) (fun r σ' q => ?_)
  obtain ⟨q1, I', J', z', hz, rfl, hX', hF, hJ, -⟩ := q
  cases q1
  refine aw_istore (ls' := [(5, _), (0, _), (1, _), (2, _), (3, _), (4, _)]) dL_law_589 (Nat.le_of_ble_eq_true rfl) rfl ?_
  refine aw_aload_n dL_law_591 rfl ?_
  refine aw_aload_n dL_law_592 rfl ?_
  refine aw_iload dL_law_593 rfl ?_
  refine aw_iconst (v := nI 1) dL_law_595 rfl ?_
  first | refine aw_iaddN dL_law_596 ?_ | refine aw_iadd dL_law_596 ?_
  refine aw_iald dL_law_597 (by assumption) (by omega) rfl (by omega) (congrFun (hF 1000 (by decide)) _) ?_
  refine aw_vUp dL_law_598 cvL_112 ⟨Nat.le_of_ble_eq_true rfl, Nat.le_of_ble_eq_true rfl⟩ hk140 ⟨_, rfl, rfl⟩ (hMM I' J' z' (hM.keep (fun q h1 h2 => hF q (by omega)))) rfl rfl (Nat.le_of_ble_eq_true rfl) ⟨rfl, rfl⟩ ⟨by show cu + 2 ≤ 601024; omega, by show su + 12 ≤ 7293034; omega⟩ (fun I2 hP => ?_)
  obtain ⟨hMn, hth, hE⟩ := hP
  have hXn : XS I2 x.2.2 := hX'.keep (fun q hq => hE q (by omega))
  refine aw_istore (ls' := [(6, _), (5, _), (0, _), (1, _), (2, _), (3, _), (4, _)]) dL_law_601 (Nat.le_of_ble_eq_true rfl) rfl ?_
  refine aw_aload_n dL_law_603 rfl ?_
  refine aw_vRd dL_law_604 cvL_78 ⟨Nat.le_of_ble_eq_true rfl, Nat.le_of_ble_eq_true rfl⟩ hk140 ⟨_, rfl, rfl⟩ (r_thrown hLM hth) rfl rfl (Nat.le_of_ble_eq_true rfl) ⟨rfl, rfl⟩ ⟨by show cu + 2 ≤ 601024; omega, by show su + 12 ≤ 7293034; omega⟩ ?_
  refine aw_iload dL_law_607 rfl ?_
  refine aw_icmp_eq (tgt := 614) dL_law_609 (by decide) (fun hc609 => ?_) (fun hc609 => absurd rfl hc609)
  refine aw_iload dL_law_614 rfl ?_
  refine aw_if_neN (tgt := 631) dL_law_616 (by decide) hx2 (fun hc616 => ?_) (fun hc616 => ?_)
  · refine aw_goto (tgt := 1210) dL_law_631 (by decide) ?_
    refine aw_iincN (k := 5) (ls' := [(4, _), (6, _), (5, _), (0, _), (1, _), (2, _), (3, _)]) dL_law_1210 rfl rfl (Nat.le_of_ble_eq_true rfl) rfl ?_
    refine aw_goto (tgt := 23) dL_law_1213 (by decide) ?_
    have e0 := nx I2 J' z' x.2.2 _ _ (h0.fr (fun q hq => by rw [hE q (by omega), hF q (by omega)])) hXn hMn hg (show cu + 2 ≤ 147 + 4 * (t + 1) by omega) (show su + 12 ≤ 3807 + 24 * (t + 1) by omega)
    rw [LLs_s] at e0
    exact aw_pick [3, 4, 5, 6, 0] rfl e0
  · refine aw_aload_n dL_law_619 rfl ?_
    refine aw_iconst (v := nI 0) dL_law_620 rfl ?_
    refine aw_lald dL_law_621 (by assumption) (by omega) rfl (by omega) (hJ hc616) ?_
    refine aw_iload dL_law_622 rfl ?_
    refine aw_i2l dL_law_624 ?_
    refine aw_lcmp dL_law_625 ?_
    rw [lg_self]
    refine aw_if_eq (tgt := 631) dL_law_626 (by decide) (fun hc626 => ?_) (fun hc626 => absurd rfl hc626)
    refine aw_goto (tgt := 1210) dL_law_631 (by decide) ?_
    refine aw_iincN (k := 5) (ls' := [(4, _), (6, _), (5, _), (0, _), (1, _), (2, _), (3, _)]) dL_law_1210 rfl rfl (Nat.le_of_ble_eq_true rfl) rfl ?_
    refine aw_goto (tgt := 23) dL_law_1213 (by decide) ?_
    have e0 := nx I2 J' z' x.2.2 _ _ (h0.fr (fun q hq => by rw [hE q (by omega), hF q (by omega)])) hXn hMn hg (show cu + 2 ≤ 147 + 4 * (t + 1) by omega) (show su + 12 ≤ 3807 + 24 * (t + 1) by omega)
    rw [LLs_s] at e0
    exact aw_pick [3, 4, 5, 6, 0] rfl e0
theorem law_undo (h0 : IV0 G K R L xs I) (hX : XS I s) (hM : MS I s) (hG : GI (50 * t) t s) (hc : cu ≤ 147 + 4 * t) (hs : su ≤ 3807 + 24 * t) (ht : t ≤ 511) (hL5 : 5 * t + 5 ≤ L) (hLm : L ≤ 2560) (nx : LH G (YLw nm tb) Z K R L xs (t + 1)) : AW G (YLw nm tb) Z 634 (LLs G t) [] (K, R, I, J, z) cu su := by
  obtain ⟨hLX, hLM, hO, hK, hSC, hxs⟩ := id h0
  have hk0 : K 0 = some (3, 6) := hLX.1
  have hk140 : K 140 = some (4, 12) := hLM.1
  obtain ⟨a, st, B⟩ := s
  have hI : IV (50 * t) t a := hG.1.1
  have hl1 : L1 a := hG.1.2.1
  have hIS : ISv a := hG.1.2.2
  obtain ⟨x, hx⟩ : ∃ x, x = sUndo (a, st, B) := ⟨_, rfl⟩
  have hx2 : x.1 < 2 ^ 31 := by rw [hx]; exact sUndo_le
  have hg : GI (50 * (t + 1)) (t + 1) x.2.2 := by rw [hx, show 50 * (t + 1) = 50 * t + 50 by omega]; exact hG.kUndo
  have hMM : ∀ (I' : Nat → Nat → Int32) (J' : Nat → Nat → Int64) (z' : Nat), MS I' (a, st, B) → Run G YX4_undo [.ref (G.1 140)] (K, R, I', J', z') (MP K R J' z' I' x) := by
    intro I' J' z' h
    rw [hx]
    exact M_undo hLM h hI hl1 (by omega)
  have hW : RunH G YL_undo [.ref (G.1 0), .ref (G.1 146)] (K, R, I, J, z) (WP K R J z I x) := by
    rw [hx]
    exact W_undo (J := J) (z := z) hLX hX hI hl1 (by omega) hO (sUndo_same) (sUndo_no)
  refine aw_aload_n dL_law_634 rfl ?_
  refine aw_aload_n dL_law_635 rfl ?_
  refine aw_invSH dL_law_636 cvL_113 ⟨Nat.le_of_ble_eq_true rfl, Nat.le_of_ble_eq_true rfl⟩ (As := [.ref (G.1 0), .ref (G.1 146)]) rfl rfl (Nat.le_of_ble_eq_true rfl) ⟨by show cu + 1 ≤ 601024; omega, by show su + 6 ≤ 7293034; omega⟩ hW (fun E σ' q => by cases q.1) (fun r σ' q => ?_)
  obtain ⟨q1, I', J', z', hz, rfl, hX', hF, hJ, -⟩ := q
  cases q1
  refine aw_istore (ls' := [(5, _), (0, _), (1, _), (2, _), (3, _), (4, _)]) dL_law_639 (Nat.le_of_ble_eq_true rfl) rfl ?_
  refine aw_aload_n dL_law_641 rfl ?_
  refine aw_vUp dL_law_642 cvL_115 ⟨Nat.le_of_ble_eq_true rfl, Nat.le_of_ble_eq_true rfl⟩ hk140 ⟨_, rfl, rfl⟩ (hMM I' J' z' (hM.keep (fun q h1 h2 => hF q (by omega)))) rfl rfl (Nat.le_of_ble_eq_true rfl) ⟨rfl, rfl⟩ ⟨by show cu + 1 ≤ 601024; omega, by show su + 6 ≤ 7293034; omega⟩ (fun I2 hP => ?_)
  obtain ⟨hMn, hth, hE⟩ := hP
  have hXn : XS I2 x.2.2 := hX'.keep (fun q hq => hE q (by omega))
  refine aw_istore (ls' := [(6, _), (5, _), (0, _), (1, _), (2, _), (3, _), (4, _)]) dL_law_645 (Nat.le_of_ble_eq_true rfl) rfl ?_
  refine aw_aload_n dL_law_647 rfl ?_
  refine aw_vRd dL_law_648 cvL_78 ⟨Nat.le_of_ble_eq_true rfl, Nat.le_of_ble_eq_true rfl⟩ hk140 ⟨_, rfl, rfl⟩ (r_thrown hLM hth) rfl rfl (Nat.le_of_ble_eq_true rfl) ⟨rfl, rfl⟩ ⟨by show cu + 1 ≤ 601024; omega, by show su + 6 ≤ 7293034; omega⟩ ?_
  refine aw_iload dL_law_651 rfl ?_
  refine aw_icmp_eq (tgt := 658) dL_law_653 (by decide) (fun hc653 => ?_) (fun hc653 => absurd rfl hc653)
  refine aw_iload dL_law_658 rfl ?_
  refine aw_if_neN (tgt := 675) dL_law_660 (by decide) hx2 (fun hc660 => ?_) (fun hc660 => ?_)
  · refine aw_goto (tgt := 1210) dL_law_675 (by decide) ?_
    refine aw_iincN (k := 5) (ls' := [(4, _), (6, _), (5, _), (0, _), (1, _), (2, _), (3, _)]) dL_law_1210 rfl rfl (Nat.le_of_ble_eq_true rfl) rfl ?_
    refine aw_goto (tgt := 23) dL_law_1213 (by decide) ?_
    have e0 := nx I2 J' z' x.2.2 _ _ (h0.fr (fun q hq => by rw [hE q (by omega), hF q (by omega)])) hXn hMn hg (show cu + 1 ≤ 147 + 4 * (t + 1) by omega) (show su + 6 ≤ 3807 + 24 * (t + 1) by omega)
    rw [LLs_s] at e0
    exact aw_pick [3, 4, 5, 6, 0] rfl e0
  · refine aw_aload_n dL_law_663 rfl ?_
    refine aw_iconst (v := nI 0) dL_law_664 rfl ?_
    refine aw_lald dL_law_665 (by assumption) (by omega) rfl (by omega) (hJ hc660) ?_
    refine aw_iload dL_law_666 rfl ?_
    refine aw_i2l dL_law_668 ?_
    refine aw_lcmp dL_law_669 ?_
    rw [lg_self]
    refine aw_if_eq (tgt := 675) dL_law_670 (by decide) (fun hc670 => ?_) (fun hc670 => absurd rfl hc670)
    refine aw_goto (tgt := 1210) dL_law_675 (by decide) ?_
    refine aw_iincN (k := 5) (ls' := [(4, _), (6, _), (5, _), (0, _), (1, _), (2, _), (3, _)]) dL_law_1210 rfl rfl (Nat.le_of_ble_eq_true rfl) rfl ?_
    refine aw_goto (tgt := 23) dL_law_1213 (by decide) ?_
    have e0 := nx I2 J' z' x.2.2 _ _ (h0.fr (fun q hq => by rw [hE q (by omega), hF q (by omega)])) hXn hMn hg (show cu + 1 ≤ 147 + 4 * (t + 1) by omega) (show su + 6 ≤ 3807 + 24 * (t + 1) by omega)
    rw [LLs_s] at e0
    exact aw_pick [3, 4, 5, 6, 0] rfl e0
theorem law_store (h0 : IV0 G K R L xs I) (hX : XS I s) (hM : MS I s) (hG : GI (50 * t) t s) (hc : cu ≤ 147 + 4 * t) (hs : su ≤ 3807 + 24 * t) (ht : t ≤ 511) (hL5 : 5 * t + 5 ≤ L) (hLm : L ≤ 2560) (nx : LH G (YLw nm tb) Z K R L xs (t + 1)) : AW G (YLw nm tb) Z 678 (LLs G t) [] (K, R, I, J, z) cu su := by
  obtain ⟨hLX, hLM, hO, hK, hSC, hxs⟩ := id h0
  have hk0 : K 0 = some (3, 6) := hLX.1
  have hk140 : K 140 = some (4, 12) := hLM.1
  obtain ⟨a, st, B⟩ := s
  have hI : IV (50 * t) t a := hG.1.1
  have hl1 : L1 a := hG.1.2.1
  have hIS : ISv a := hG.1.2.2
  obtain ⟨x, hx⟩ : ∃ x, x = sStore (I 1000 (5 * t + 1)) (I 1000 (5 * t + 2)) (a, st, B) := ⟨_, rfl⟩
  have hx2 : x.1 < 2 ^ 31 := by rw [hx]; exact sStore_le _ _
  have hg : GI (50 * (t + 1)) (t + 1) x.2.2 := by rw [hx, show 50 * (t + 1) = 50 * t + 50 by omega]; exact (by rw [sStore_st]; exact hG.mono (by omega) (by omega))
  have hMM : ∀ (I' : Nat → Nat → Int32) (J' : Nat → Nat → Int64) (z' : Nat), MS I' (a, st, B) → Run G YX4_store [.ref (G.1 140), .int (I 1000 (5 * t + 1)), .int (I 1000 (5 * t + 2))] (K, R, I', J', z') (MP K R J' z' I' x) := by
    intro I' J' z' h
    rw [hx]
    exact M_store hLM h hI hl1 (by omega) (I 1000 (5 * t + 1)) (I 1000 (5 * t + 2))
  have hW : RunH G YL_store [.ref (G.1 0), .int (I 1000 (5 * t + 1)), .int (I 1000 (5 * t + 2)), .ref (G.1 146)] (K, R, I, J, z) (WP K R J z I x) := by
    rw [hx]
    exact W_store (J := J) (z := z) hLX hX hI hl1 (by omega) (I 1000 (5 * t + 1)) (I 1000 (5 * t + 2)) hO (sStore_same _ _)
  refine aw_aload_n dL_law_678 rfl ?_
  refine aw_aload_n dL_law_679 rfl ?_
  refine aw_iload dL_law_680 rfl ?_
  refine aw_iconst (v := nI 1) dL_law_682 rfl ?_
  first | refine aw_iaddN dL_law_683 ?_ | refine aw_iadd dL_law_683 ?_
  refine aw_iald dL_law_684 (by assumption) (by omega) rfl (by omega) rfl ?_
  refine aw_aload_n dL_law_685 rfl ?_
  refine aw_iload dL_law_686 rfl ?_
  refine aw_iconst (v := nI 2) dL_law_688 rfl ?_
  first | refine aw_iaddN dL_law_689 ?_ | refine aw_iadd dL_law_689 ?_
  refine aw_iald dL_law_690 (by assumption) (by omega) rfl (by omega) rfl ?_
  refine aw_aload_n dL_law_691 rfl ?_
  refine aw_invSH dL_law_692 cvL_116 ⟨Nat.le_of_ble_eq_true rfl, Nat.le_of_ble_eq_true rfl⟩ (As := [.ref (G.1 0), .int (I 1000 (5 * t + 1)), .int (I 1000 (5 * t + 2)), .ref (G.1 146)]) rfl rfl (Nat.le_of_ble_eq_true rfl) ⟨by show cu + 2 ≤ 601024; omega, by show su + 12 ≤ 7293034; omega⟩ hW (fun E σ' q => by cases q.1) (fun r σ' q => ?_)
  obtain ⟨q1, I', J', z', hz, rfl, hX', hF, hJ, -⟩ := q
  cases q1
  refine aw_istore (ls' := [(5, _), (0, _), (1, _), (2, _), (3, _), (4, _)]) dL_law_695 (Nat.le_of_ble_eq_true rfl) rfl ?_
  refine aw_aload_n dL_law_697 rfl ?_
  refine aw_aload_n dL_law_698 rfl ?_
  refine aw_iload dL_law_699 rfl ?_
  refine aw_iconst (v := nI 1) dL_law_701 rfl ?_
  first | refine aw_iaddN dL_law_702 ?_ | refine aw_iadd dL_law_702 ?_
  refine aw_iald dL_law_703 (by assumption) (by omega) rfl (by omega) (congrFun (hF 1000 (by decide)) _) ?_
  refine aw_aload_n dL_law_704 rfl ?_
  refine aw_iload dL_law_705 rfl ?_
  refine aw_iconst (v := nI 2) dL_law_707 rfl ?_
  first | refine aw_iaddN dL_law_708 ?_ | refine aw_iadd dL_law_708 ?_
  refine aw_iald dL_law_709 (by assumption) (by omega) rfl (by omega) (congrFun (hF 1000 (by decide)) _) ?_
  refine aw_vUp dL_law_710 cvL_118 ⟨Nat.le_of_ble_eq_true rfl, Nat.le_of_ble_eq_true rfl⟩ hk140 ⟨_, rfl, rfl⟩ (hMM I' J' z' (hM.keep (fun q h1 h2 => hF q (by omega)))) rfl rfl (Nat.le_of_ble_eq_true rfl) ⟨rfl, rfl⟩ ⟨by show cu + 2 ≤ 601024; omega, by show su + 12 ≤ 7293034; omega⟩ (fun I2 hP => ?_)
  obtain ⟨hMn, hth, hE⟩ := hP
  have hXn : XS I2 x.2.2 := hX'.keep (fun q hq => hE q (by omega))
  refine aw_istore (ls' := [(6, _), (5, _), (0, _), (1, _), (2, _), (3, _), (4, _)]) dL_law_713 (Nat.le_of_ble_eq_true rfl) rfl ?_
  refine aw_aload_n dL_law_715 rfl ?_
  refine aw_vRd dL_law_716 cvL_78 ⟨Nat.le_of_ble_eq_true rfl, Nat.le_of_ble_eq_true rfl⟩ hk140 ⟨_, rfl, rfl⟩ (r_thrown hLM hth) rfl rfl (Nat.le_of_ble_eq_true rfl) ⟨rfl, rfl⟩ ⟨by show cu + 2 ≤ 601024; omega, by show su + 12 ≤ 7293034; omega⟩ ?_
  refine aw_iload dL_law_719 rfl ?_
  refine aw_icmp_eq (tgt := 726) dL_law_721 (by decide) (fun hc721 => ?_) (fun hc721 => absurd rfl hc721)
  refine aw_iload dL_law_726 rfl ?_
  refine aw_if_neN (tgt := 743) dL_law_728 (by decide) hx2 (fun hc728 => ?_) (fun hc728 => ?_)
  · refine aw_goto (tgt := 1210) dL_law_743 (by decide) ?_
    refine aw_iincN (k := 5) (ls' := [(4, _), (6, _), (5, _), (0, _), (1, _), (2, _), (3, _)]) dL_law_1210 rfl rfl (Nat.le_of_ble_eq_true rfl) rfl ?_
    refine aw_goto (tgt := 23) dL_law_1213 (by decide) ?_
    have e0 := nx I2 J' z' x.2.2 _ _ (h0.fr (fun q hq => by rw [hE q (by omega), hF q (by omega)])) hXn hMn hg (show cu + 2 ≤ 147 + 4 * (t + 1) by omega) (show su + 12 ≤ 3807 + 24 * (t + 1) by omega)
    rw [LLs_s] at e0
    exact aw_pick [3, 4, 5, 6, 0] rfl e0
  · refine aw_aload_n dL_law_731 rfl ?_
    refine aw_iconst (v := nI 0) dL_law_732 rfl ?_
    refine aw_lald dL_law_733 (by assumption) (by omega) rfl (by omega) (hJ hc728) ?_
    refine aw_iload dL_law_734 rfl ?_
    refine aw_i2l dL_law_736 ?_
    refine aw_lcmp dL_law_737 ?_
    rw [lg_self]
    refine aw_if_eq (tgt := 743) dL_law_738 (by decide) (fun hc738 => ?_) (fun hc738 => absurd rfl hc738)
    refine aw_goto (tgt := 1210) dL_law_743 (by decide) ?_
    refine aw_iincN (k := 5) (ls' := [(4, _), (6, _), (5, _), (0, _), (1, _), (2, _), (3, _)]) dL_law_1210 rfl rfl (Nat.le_of_ble_eq_true rfl) rfl ?_
    refine aw_goto (tgt := 23) dL_law_1213 (by decide) ?_
    have e0 := nx I2 J' z' x.2.2 _ _ (h0.fr (fun q hq => by rw [hE q (by omega), hF q (by omega)])) hXn hMn hg (show cu + 2 ≤ 147 + 4 * (t + 1) by omega) (show su + 12 ≤ 3807 + 24 * (t + 1) by omega)
    rw [LLs_s] at e0
    exact aw_pick [3, 4, 5, 6, 0] rfl e0
theorem law_delay (h0 : IV0 G K R L xs I) (hX : XS I s) (hM : MS I s) (hG : GI (50 * t) t s) (hc : cu ≤ 147 + 4 * t) (hs : su ≤ 3807 + 24 * t) (ht : t ≤ 511) (hL5 : 5 * t + 5 ≤ L) (hLm : L ≤ 2560) (nx : LH G (YLw nm tb) Z K R L xs (t + 1)) : AW G (YLw nm tb) Z 746 (LLs G t) [] (K, R, I, J, z) cu su := by
  obtain ⟨hLX, hLM, hO, hK, hSC, hxs⟩ := id h0
  have hk0 : K 0 = some (3, 6) := hLX.1
  have hk140 : K 140 = some (4, 12) := hLM.1
  obtain ⟨a, st, B⟩ := s
  have hI : IV (50 * t) t a := hG.1.1
  have hl1 : L1 a := hG.1.2.1
  have hIS : ISv a := hG.1.2.2
  obtain ⟨x, hx⟩ : ∃ x, x = sDelay (I 1000 (5 * t + 1)) (I 1000 (5 * t + 2)) (a, st, B) := ⟨_, rfl⟩
  have hx2 : x.1 < 2 ^ 31 := by rw [hx]; exact sDelay_le _ _
  have hg : GI (50 * (t + 1)) (t + 1) x.2.2 := by rw [hx, show 50 * (t + 1) = 50 * t + 50 by omega]; exact (by rw [sDelay_st]; exact hG.mono (by omega) (by omega))
  have hMM : ∀ (I' : Nat → Nat → Int32) (J' : Nat → Nat → Int64) (z' : Nat), MS I' (a, st, B) → Run G YX4_delay [.ref (G.1 140), .int (I 1000 (5 * t + 1)), .int (I 1000 (5 * t + 2))] (K, R, I', J', z') (MP K R J' z' I' x) := by
    intro I' J' z' h
    rw [hx]
    exact M_delay hLM h hI hl1 (by omega) (I 1000 (5 * t + 1)) (I 1000 (5 * t + 2))
  have hW : RunH G YL_delay [.ref (G.1 0), .int (I 1000 (5 * t + 1)), .int (I 1000 (5 * t + 2)), .ref (G.1 146)] (K, R, I, J, z) (WP K R J z I x) := by
    rw [hx]
    exact W_delay (J := J) (z := z) hLX hX hI hl1 (by omega) (I 1000 (5 * t + 1)) (I 1000 (5 * t + 2)) hO (sDelay_same _ _)
  refine aw_aload_n dL_law_746 rfl ?_
  refine aw_aload_n dL_law_747 rfl ?_
  refine aw_iload dL_law_748 rfl ?_
  refine aw_iconst (v := nI 1) dL_law_750 rfl ?_
  first | refine aw_iaddN dL_law_751 ?_ | refine aw_iadd dL_law_751 ?_
  refine aw_iald dL_law_752 (by assumption) (by omega) rfl (by omega) rfl ?_
  refine aw_aload_n dL_law_753 rfl ?_
  refine aw_iload dL_law_754 rfl ?_
  refine aw_iconst (v := nI 2) dL_law_756 rfl ?_
  first | refine aw_iaddN dL_law_757 ?_ | refine aw_iadd dL_law_757 ?_
  refine aw_iald dL_law_758 (by assumption) (by omega) rfl (by omega) rfl ?_
  refine aw_aload_n dL_law_759 rfl ?_
  refine aw_invSH dL_law_760 cvL_119 ⟨Nat.le_of_ble_eq_true rfl, Nat.le_of_ble_eq_true rfl⟩ (As := [.ref (G.1 0), .int (I 1000 (5 * t + 1)), .int (I 1000 (5 * t + 2)), .ref (G.1 146)]) rfl rfl (Nat.le_of_ble_eq_true rfl) ⟨by show cu + 2 ≤ 601024; omega, by show su + 12 ≤ 7293034; omega⟩ hW (fun E σ' q => by cases q.1) (fun r σ' q => ?_)
  obtain ⟨q1, I', J', z', hz, rfl, hX', hF, hJ, -⟩ := q
  cases q1
  refine aw_istore (ls' := [(5, _), (0, _), (1, _), (2, _), (3, _), (4, _)]) dL_law_763 (Nat.le_of_ble_eq_true rfl) rfl ?_
  refine aw_aload_n dL_law_765 rfl ?_
  refine aw_aload_n dL_law_766 rfl ?_
  refine aw_iload dL_law_767 rfl ?_
  refine aw_iconst (v := nI 1) dL_law_769 rfl ?_
  first | refine aw_iaddN dL_law_770 ?_ | refine aw_iadd dL_law_770 ?_
  refine aw_iald dL_law_771 (by assumption) (by omega) rfl (by omega) (congrFun (hF 1000 (by decide)) _) ?_
  refine aw_aload_n dL_law_772 rfl ?_
  refine aw_iload dL_law_773 rfl ?_
  refine aw_iconst (v := nI 2) dL_law_775 rfl ?_
  first | refine aw_iaddN dL_law_776 ?_ | refine aw_iadd dL_law_776 ?_
  refine aw_iald dL_law_777 (by assumption) (by omega) rfl (by omega) (congrFun (hF 1000 (by decide)) _) ?_
  refine aw_vUp dL_law_778 cvL_121 ⟨Nat.le_of_ble_eq_true rfl, Nat.le_of_ble_eq_true rfl⟩ hk140 ⟨_, rfl, rfl⟩ (hMM I' J' z' (hM.keep (fun q h1 h2 => hF q (by omega)))) rfl rfl (Nat.le_of_ble_eq_true rfl) ⟨rfl, rfl⟩ ⟨by show cu + 2 ≤ 601024; omega, by show su + 12 ≤ 7293034; omega⟩ (fun I2 hP => ?_)
  obtain ⟨hMn, hth, hE⟩ := hP
  have hXn : XS I2 x.2.2 := hX'.keep (fun q hq => hE q (by omega))
  refine aw_istore (ls' := [(6, _), (5, _), (0, _), (1, _), (2, _), (3, _), (4, _)]) dL_law_781 (Nat.le_of_ble_eq_true rfl) rfl ?_
  refine aw_aload_n dL_law_783 rfl ?_
  refine aw_vRd dL_law_784 cvL_78 ⟨Nat.le_of_ble_eq_true rfl, Nat.le_of_ble_eq_true rfl⟩ hk140 ⟨_, rfl, rfl⟩ (r_thrown hLM hth) rfl rfl (Nat.le_of_ble_eq_true rfl) ⟨rfl, rfl⟩ ⟨by show cu + 2 ≤ 601024; omega, by show su + 12 ≤ 7293034; omega⟩ ?_
  refine aw_iload dL_law_787 rfl ?_
  refine aw_icmp_eq (tgt := 794) dL_law_789 (by decide) (fun hc789 => ?_) (fun hc789 => absurd rfl hc789)
  refine aw_iload dL_law_794 rfl ?_
  refine aw_if_neN (tgt := 811) dL_law_796 (by decide) hx2 (fun hc796 => ?_) (fun hc796 => ?_)
  · refine aw_goto (tgt := 1210) dL_law_811 (by decide) ?_
    refine aw_iincN (k := 5) (ls' := [(4, _), (6, _), (5, _), (0, _), (1, _), (2, _), (3, _)]) dL_law_1210 rfl rfl (Nat.le_of_ble_eq_true rfl) rfl ?_
    refine aw_goto (tgt := 23) dL_law_1213 (by decide) ?_
    have e0 := nx I2 J' z' x.2.2 _ _ (h0.fr (fun q hq => by rw [hE q (by omega), hF q (by omega)])) hXn hMn hg (show cu + 2 ≤ 147 + 4 * (t + 1) by omega) (show su + 12 ≤ 3807 + 24 * (t + 1) by omega)
    rw [LLs_s] at e0
    exact aw_pick [3, 4, 5, 6, 0] rfl e0
  · refine aw_aload_n dL_law_799 rfl ?_
    refine aw_iconst (v := nI 0) dL_law_800 rfl ?_
    refine aw_lald dL_law_801 (by assumption) (by omega) rfl (by omega) (hJ hc796) ?_
    refine aw_iload dL_law_802 rfl ?_
    refine aw_i2l dL_law_804 ?_
    refine aw_lcmp dL_law_805 ?_
    rw [lg_self]
    refine aw_if_eq (tgt := 811) dL_law_806 (by decide) (fun hc806 => ?_) (fun hc806 => absurd rfl hc806)
    refine aw_goto (tgt := 1210) dL_law_811 (by decide) ?_
    refine aw_iincN (k := 5) (ls' := [(4, _), (6, _), (5, _), (0, _), (1, _), (2, _), (3, _)]) dL_law_1210 rfl rfl (Nat.le_of_ble_eq_true rfl) rfl ?_
    refine aw_goto (tgt := 23) dL_law_1213 (by decide) ?_
    have e0 := nx I2 J' z' x.2.2 _ _ (h0.fr (fun q hq => by rw [hE q (by omega), hF q (by omega)])) hXn hMn hg (show cu + 2 ≤ 147 + 4 * (t + 1) by omega) (show su + 12 ≤ 3807 + 24 * (t + 1) by omega)
    rw [LLs_s] at e0
    exact aw_pick [3, 4, 5, 6, 0] rfl e0
theorem law_onWay (h0 : IV0 G K R L xs I) (hX : XS I s) (hM : MS I s) (hG : GI (50 * t) t s) (hc : cu ≤ 147 + 4 * t) (hs : su ≤ 3807 + 24 * t) (ht : t ≤ 511) (hL5 : 5 * t + 5 ≤ L) (hLm : L ≤ 2560) (nx : LH G (YLw nm tb) Z K R L xs (t + 1)) : AW G (YLw nm tb) Z 814 (LLs G t) [] (K, R, I, J, z) cu su := by
  obtain ⟨hLX, hLM, hO, hK, hSC, hxs⟩ := id h0
  have hk0 : K 0 = some (3, 6) := hLX.1
  have hk140 : K 140 = some (4, 12) := hLM.1
  obtain ⟨a, st, B⟩ := s
  have hI : IV (50 * t) t a := hG.1.1
  have hl1 : L1 a := hG.1.2.1
  have hIS : ISv a := hG.1.2.2
  obtain ⟨x, hx⟩ : ∃ x, x = sOnWay (I 1000 (5 * t + 1)) (I 1000 (5 * t + 2)) (a, st, B) := ⟨_, rfl⟩
  have hx2 : x.1 < 2 ^ 31 := by rw [hx]; exact sOnWay_le _ _
  have hg : GI (50 * (t + 1)) (t + 1) x.2.2 := by rw [hx, show 50 * (t + 1) = 50 * t + 50 by omega]; exact (by rw [sOnWay_st]; exact hG.mono (by omega) (by omega))
  have hMM : ∀ (I' : Nat → Nat → Int32) (J' : Nat → Nat → Int64) (z' : Nat), MS I' (a, st, B) → Run G YX4_onWay [.ref (G.1 140), .int (I 1000 (5 * t + 1)), .int (I 1000 (5 * t + 2))] (K, R, I', J', z') (MP K R J' z' I' x) := by
    intro I' J' z' h
    rw [hx]
    exact M_onWay hLM h hI hl1 (by omega) (I 1000 (5 * t + 1)) (I 1000 (5 * t + 2))
  have hW : RunH G YL_onWay [.ref (G.1 0), .int (I 1000 (5 * t + 1)), .int (I 1000 (5 * t + 2)), .ref (G.1 146)] (K, R, I, J, z) (WP K R J z I x) := by
    rw [hx]
    exact W_onWay (J := J) (z := z) hLX hX hI hl1 (by omega) (I 1000 (5 * t + 1)) (I 1000 (5 * t + 2)) hO (sOnWay_same _ _) (sOnWay_no _ _)
  refine aw_aload_n dL_law_814 rfl ?_
  refine aw_aload_n dL_law_815 rfl ?_
  refine aw_iload dL_law_816 rfl ?_
  refine aw_iconst (v := nI 1) dL_law_818 rfl ?_
  first | refine aw_iaddN dL_law_819 ?_ | refine aw_iadd dL_law_819 ?_
  refine aw_iald dL_law_820 (by assumption) (by omega) rfl (by omega) rfl ?_
  refine aw_aload_n dL_law_821 rfl ?_
  refine aw_iload dL_law_822 rfl ?_
  refine aw_iconst (v := nI 2) dL_law_824 rfl ?_
  first | refine aw_iaddN dL_law_825 ?_ | refine aw_iadd dL_law_825 ?_
  refine aw_iald dL_law_826 (by assumption) (by omega) rfl (by omega) rfl ?_
  refine aw_aload_n dL_law_827 rfl ?_
  refine aw_invSH dL_law_828 cvL_122 ⟨Nat.le_of_ble_eq_true rfl, Nat.le_of_ble_eq_true rfl⟩ (As := [.ref (G.1 0), .int (I 1000 (5 * t + 1)), .int (I 1000 (5 * t + 2)), .ref (G.1 146)]) rfl rfl (Nat.le_of_ble_eq_true rfl) ⟨by show cu + 2 ≤ 601024; omega, by show su + 12 ≤ 7293034; omega⟩ hW (fun E σ' q => by cases q.1) (fun r σ' q => ?_)
  obtain ⟨q1, I', J', z', hz, rfl, hX', hF, hJ, -⟩ := q
  cases q1
  refine aw_istore (ls' := [(5, _), (0, _), (1, _), (2, _), (3, _), (4, _)]) dL_law_831 (Nat.le_of_ble_eq_true rfl) rfl ?_
  refine aw_aload_n dL_law_833 rfl ?_
  refine aw_aload_n dL_law_834 rfl ?_
  refine aw_iload dL_law_835 rfl ?_
  refine aw_iconst (v := nI 1) dL_law_837 rfl ?_
  first | refine aw_iaddN dL_law_838 ?_ | refine aw_iadd dL_law_838 ?_
  refine aw_iald dL_law_839 (by assumption) (by omega) rfl (by omega) (congrFun (hF 1000 (by decide)) _) ?_
  refine aw_aload_n dL_law_840 rfl ?_
  refine aw_iload dL_law_841 rfl ?_
  refine aw_iconst (v := nI 2) dL_law_843 rfl ?_
  first | refine aw_iaddN dL_law_844 ?_ | refine aw_iadd dL_law_844 ?_
  refine aw_iald dL_law_845 (by assumption) (by omega) rfl (by omega) (congrFun (hF 1000 (by decide)) _) ?_
  refine aw_vUp dL_law_846 cvL_124 ⟨Nat.le_of_ble_eq_true rfl, Nat.le_of_ble_eq_true rfl⟩ hk140 ⟨_, rfl, rfl⟩ (hMM I' J' z' (hM.keep (fun q h1 h2 => hF q (by omega)))) rfl rfl (Nat.le_of_ble_eq_true rfl) ⟨rfl, rfl⟩ ⟨by show cu + 2 ≤ 601024; omega, by show su + 12 ≤ 7293034; omega⟩ (fun I2 hP => ?_)
  obtain ⟨hMn, hth, hE⟩ := hP
  have hXn : XS I2 x.2.2 := hX'.keep (fun q hq => hE q (by omega))
  refine aw_istore (ls' := [(6, _), (5, _), (0, _), (1, _), (2, _), (3, _), (4, _)]) dL_law_849 (Nat.le_of_ble_eq_true rfl) rfl ?_
  refine aw_aload_n dL_law_851 rfl ?_
  refine aw_vRd dL_law_852 cvL_78 ⟨Nat.le_of_ble_eq_true rfl, Nat.le_of_ble_eq_true rfl⟩ hk140 ⟨_, rfl, rfl⟩ (r_thrown hLM hth) rfl rfl (Nat.le_of_ble_eq_true rfl) ⟨rfl, rfl⟩ ⟨by show cu + 2 ≤ 601024; omega, by show su + 12 ≤ 7293034; omega⟩ ?_
  refine aw_iload dL_law_855 rfl ?_
  refine aw_icmp_eq (tgt := 862) dL_law_857 (by decide) (fun hc857 => ?_) (fun hc857 => absurd rfl hc857)
  refine aw_iload dL_law_862 rfl ?_
  refine aw_if_neN (tgt := 879) dL_law_864 (by decide) hx2 (fun hc864 => ?_) (fun hc864 => ?_)
  · refine aw_goto (tgt := 1210) dL_law_879 (by decide) ?_
    refine aw_iincN (k := 5) (ls' := [(4, _), (6, _), (5, _), (0, _), (1, _), (2, _), (3, _)]) dL_law_1210 rfl rfl (Nat.le_of_ble_eq_true rfl) rfl ?_
    refine aw_goto (tgt := 23) dL_law_1213 (by decide) ?_
    have e0 := nx I2 J' z' x.2.2 _ _ (h0.fr (fun q hq => by rw [hE q (by omega), hF q (by omega)])) hXn hMn hg (show cu + 2 ≤ 147 + 4 * (t + 1) by omega) (show su + 12 ≤ 3807 + 24 * (t + 1) by omega)
    rw [LLs_s] at e0
    exact aw_pick [3, 4, 5, 6, 0] rfl e0
  · refine aw_aload_n dL_law_867 rfl ?_
    refine aw_iconst (v := nI 0) dL_law_868 rfl ?_
    refine aw_lald dL_law_869 (by assumption) (by omega) rfl (by omega) (hJ hc864) ?_
    refine aw_iload dL_law_870 rfl ?_
    refine aw_i2l dL_law_872 ?_
    refine aw_lcmp dL_law_873 ?_
    rw [lg_self]
    refine aw_if_eq (tgt := 879) dL_law_874 (by decide) (fun hc874 => ?_) (fun hc874 => absurd rfl hc874)
    refine aw_goto (tgt := 1210) dL_law_879 (by decide) ?_
    refine aw_iincN (k := 5) (ls' := [(4, _), (6, _), (5, _), (0, _), (1, _), (2, _), (3, _)]) dL_law_1210 rfl rfl (Nat.le_of_ble_eq_true rfl) rfl ?_
    refine aw_goto (tgt := 23) dL_law_1213 (by decide) ?_
    have e0 := nx I2 J' z' x.2.2 _ _ (h0.fr (fun q hq => by rw [hE q (by omega), hF q (by omega)])) hXn hMn hg (show cu + 2 ≤ 147 + 4 * (t + 1) by omega) (show su + 12 ≤ 3807 + 24 * (t + 1) by omega)
    rw [LLs_s] at e0
    exact aw_pick [3, 4, 5, 6, 0] rfl e0
theorem law_count (h0 : IV0 G K R L xs I) (hX : XS I s) (hM : MS I s) (hG : GI (50 * t) t s) (hc : cu ≤ 147 + 4 * t) (hs : su ≤ 3807 + 24 * t) (ht : t ≤ 511) (hL5 : 5 * t + 5 ≤ L) (hLm : L ≤ 2560) (nx : LH G (YLw nm tb) Z K R L xs (t + 1)) : AW G (YLw nm tb) Z 882 (LLs G t) [] (K, R, I, J, z) cu su := by
  obtain ⟨hLX, hLM, hO, hK, hSC, hxs⟩ := id h0
  have hk0 : K 0 = some (3, 6) := hLX.1
  have hk140 : K 140 = some (4, 12) := hLM.1
  obtain ⟨a, st, B⟩ := s
  have hI : IV (50 * t) t a := hG.1.1
  have hl1 : L1 a := hG.1.2.1
  have hIS : ISv a := hG.1.2.2
  obtain ⟨x, hx⟩ : ∃ x, x = sCount (I 1000 (5 * t + 1)) (a, st, B) := ⟨_, rfl⟩
  have hx2 : x.1 < 2 ^ 31 := by rw [hx]; exact sCount_le _
  have hg : GI (50 * (t + 1)) (t + 1) x.2.2 := by rw [hx, show 50 * (t + 1) = 50 * t + 50 by omega]; exact (by rw [sCount_st]; exact hG.mono (by omega) (by omega))
  have hMM : ∀ (I' : Nat → Nat → Int32) (J' : Nat → Nat → Int64) (z' : Nat), MS I' (a, st, B) → Run G YX4_count [.ref (G.1 140), .int (I 1000 (5 * t + 1))] (K, R, I', J', z') (MP K R J' z' I' x) := by
    intro I' J' z' h
    rw [hx]
    exact M_count hLM h hI hl1 (by omega) (I 1000 (5 * t + 1))
  have hW : RunH G YL_count [.ref (G.1 0), .int (I 1000 (5 * t + 1)), .ref (G.1 146)] (K, R, I, J, z) (WP K R J z I x) := by
    rw [hx]
    exact W_count (J := J) (z := z) hLX hX hI hl1 (by omega) (I 1000 (5 * t + 1)) hO (sCount_same _) (sCount_no _)
  refine aw_aload_n dL_law_882 rfl ?_
  refine aw_aload_n dL_law_883 rfl ?_
  refine aw_iload dL_law_884 rfl ?_
  refine aw_iconst (v := nI 1) dL_law_886 rfl ?_
  first | refine aw_iaddN dL_law_887 ?_ | refine aw_iadd dL_law_887 ?_
  refine aw_iald dL_law_888 (by assumption) (by omega) rfl (by omega) rfl ?_
  refine aw_aload_n dL_law_889 rfl ?_
  refine aw_invSH dL_law_890 cvL_125 ⟨Nat.le_of_ble_eq_true rfl, Nat.le_of_ble_eq_true rfl⟩ (As := [.ref (G.1 0), .int (I 1000 (5 * t + 1)), .ref (G.1 146)]) rfl rfl (Nat.le_of_ble_eq_true rfl) ⟨by show cu + 1 ≤ 601024; omega, by show su + 6 ≤ 7293034; omega⟩ hW (fun E σ' q => by cases q.1) (fun r σ' q => ?_)
  obtain ⟨q1, I', J', z', hz, rfl, hX', hF, hJ, -⟩ := q
  cases q1
  refine aw_istore (ls' := [(5, _), (0, _), (1, _), (2, _), (3, _), (4, _)]) dL_law_893 (Nat.le_of_ble_eq_true rfl) rfl ?_
  refine aw_aload_n dL_law_895 rfl ?_
  refine aw_aload_n dL_law_896 rfl ?_
  refine aw_iload dL_law_897 rfl ?_
  refine aw_iconst (v := nI 1) dL_law_899 rfl ?_
  first | refine aw_iaddN dL_law_900 ?_ | refine aw_iadd dL_law_900 ?_
  refine aw_iald dL_law_901 (by assumption) (by omega) rfl (by omega) (congrFun (hF 1000 (by decide)) _) ?_
  refine aw_vUp dL_law_902 cvL_127 ⟨Nat.le_of_ble_eq_true rfl, Nat.le_of_ble_eq_true rfl⟩ hk140 ⟨_, rfl, rfl⟩ (hMM I' J' z' (hM.keep (fun q h1 h2 => hF q (by omega)))) rfl rfl (Nat.le_of_ble_eq_true rfl) ⟨rfl, rfl⟩ ⟨by show cu + 1 ≤ 601024; omega, by show su + 6 ≤ 7293034; omega⟩ (fun I2 hP => ?_)
  obtain ⟨hMn, hth, hE⟩ := hP
  have hXn : XS I2 x.2.2 := hX'.keep (fun q hq => hE q (by omega))
  refine aw_istore (ls' := [(6, _), (5, _), (0, _), (1, _), (2, _), (3, _), (4, _)]) dL_law_905 (Nat.le_of_ble_eq_true rfl) rfl ?_
  refine aw_aload_n dL_law_907 rfl ?_
  refine aw_vRd dL_law_908 cvL_78 ⟨Nat.le_of_ble_eq_true rfl, Nat.le_of_ble_eq_true rfl⟩ hk140 ⟨_, rfl, rfl⟩ (r_thrown hLM hth) rfl rfl (Nat.le_of_ble_eq_true rfl) ⟨rfl, rfl⟩ ⟨by show cu + 1 ≤ 601024; omega, by show su + 6 ≤ 7293034; omega⟩ ?_
  refine aw_iload dL_law_911 rfl ?_
  refine aw_icmp_eq (tgt := 918) dL_law_913 (by decide) (fun hc913 => ?_) (fun hc913 => absurd rfl hc913)
  refine aw_iload dL_law_918 rfl ?_
  refine aw_if_neN (tgt := 935) dL_law_920 (by decide) hx2 (fun hc920 => ?_) (fun hc920 => ?_)
  · refine aw_goto (tgt := 1210) dL_law_935 (by decide) ?_
    refine aw_iincN (k := 5) (ls' := [(4, _), (6, _), (5, _), (0, _), (1, _), (2, _), (3, _)]) dL_law_1210 rfl rfl (Nat.le_of_ble_eq_true rfl) rfl ?_
    refine aw_goto (tgt := 23) dL_law_1213 (by decide) ?_
    have e0 := nx I2 J' z' x.2.2 _ _ (h0.fr (fun q hq => by rw [hE q (by omega), hF q (by omega)])) hXn hMn hg (show cu + 1 ≤ 147 + 4 * (t + 1) by omega) (show su + 6 ≤ 3807 + 24 * (t + 1) by omega)
    rw [LLs_s] at e0
    exact aw_pick [3, 4, 5, 6, 0] rfl e0
  · refine aw_aload_n dL_law_923 rfl ?_
    refine aw_iconst (v := nI 0) dL_law_924 rfl ?_
    refine aw_lald dL_law_925 (by assumption) (by omega) rfl (by omega) (hJ hc920) ?_
    refine aw_iload dL_law_926 rfl ?_
    refine aw_i2l dL_law_928 ?_
    refine aw_lcmp dL_law_929 ?_
    rw [lg_self]
    refine aw_if_eq (tgt := 935) dL_law_930 (by decide) (fun hc930 => ?_) (fun hc930 => absurd rfl hc930)
    refine aw_goto (tgt := 1210) dL_law_935 (by decide) ?_
    refine aw_iincN (k := 5) (ls' := [(4, _), (6, _), (5, _), (0, _), (1, _), (2, _), (3, _)]) dL_law_1210 rfl rfl (Nat.le_of_ble_eq_true rfl) rfl ?_
    refine aw_goto (tgt := 23) dL_law_1213 (by decide) ?_
    have e0 := nx I2 J' z' x.2.2 _ _ (h0.fr (fun q hq => by rw [hE q (by omega), hF q (by omega)])) hXn hMn hg (show cu + 1 ≤ 147 + 4 * (t + 1) by omega) (show su + 6 ≤ 3807 + 24 * (t + 1) by omega)
    rw [LLs_s] at e0
    exact aw_pick [3, 4, 5, 6, 0] rfl e0
theorem law_setting (h0 : IV0 G K R L xs I) (hX : XS I s) (hM : MS I s) (hG : GI (50 * t) t s) (hc : cu ≤ 147 + 4 * t) (hs : su ≤ 3807 + 24 * t) (ht : t ≤ 511) (hL5 : 5 * t + 5 ≤ L) (hLm : L ≤ 2560) (nx : LH G (YLw nm tb) Z K R L xs (t + 1)) : AW G (YLw nm tb) Z 938 (LLs G t) [] (K, R, I, J, z) cu su := by
  obtain ⟨hLX, hLM, hO, hK, hSC, hxs⟩ := id h0
  have hk0 : K 0 = some (3, 6) := hLX.1
  have hk140 : K 140 = some (4, 12) := hLM.1
  obtain ⟨a, st, B⟩ := s
  have hI : IV (50 * t) t a := hG.1.1
  have hl1 : L1 a := hG.1.2.1
  have hIS : ISv a := hG.1.2.2
  obtain ⟨x, hx⟩ : ∃ x, x = sSetting (I 1000 (5 * t + 1)) (a, st, B) := ⟨_, rfl⟩
  have hx2 : x.1 < 2 ^ 31 := by rw [hx]; exact sSetting_le _
  have hg : GI (50 * (t + 1)) (t + 1) x.2.2 := by rw [hx, show 50 * (t + 1) = 50 * t + 50 by omega]; exact (by rw [sSetting_st]; exact hG.mono (by omega) (by omega))
  have hMM : ∀ (I' : Nat → Nat → Int32) (J' : Nat → Nat → Int64) (z' : Nat), MS I' (a, st, B) → Run G YX4_setting [.ref (G.1 140), .int (I 1000 (5 * t + 1))] (K, R, I', J', z') (MP K R J' z' I' x) := by
    intro I' J' z' h
    rw [hx]
    exact M_setting hLM h hI hl1 (by omega) (I 1000 (5 * t + 1))
  have hW : RunH G YL_setting [.ref (G.1 0), .int (I 1000 (5 * t + 1)), .ref (G.1 146)] (K, R, I, J, z) (WP K R J z I x) := by
    rw [hx]
    exact W_setting (J := J) (z := z) hLX hX hI hl1 (by omega) (I 1000 (5 * t + 1)) hO (sSetting_same _) (sSetting_no _)
  refine aw_aload_n dL_law_938 rfl ?_
  refine aw_aload_n dL_law_939 rfl ?_
  refine aw_iload dL_law_940 rfl ?_
  refine aw_iconst (v := nI 1) dL_law_942 rfl ?_
  first | refine aw_iaddN dL_law_943 ?_ | refine aw_iadd dL_law_943 ?_
  refine aw_iald dL_law_944 (by assumption) (by omega) rfl (by omega) rfl ?_
  refine aw_aload_n dL_law_945 rfl ?_
  refine aw_invSH dL_law_946 cvL_128 ⟨Nat.le_of_ble_eq_true rfl, Nat.le_of_ble_eq_true rfl⟩ (As := [.ref (G.1 0), .int (I 1000 (5 * t + 1)), .ref (G.1 146)]) rfl rfl (Nat.le_of_ble_eq_true rfl) ⟨by show cu + 1 ≤ 601024; omega, by show su + 6 ≤ 7293034; omega⟩ hW (fun E σ' q => by cases q.1) (fun r σ' q => ?_)
  obtain ⟨q1, I', J', z', hz, rfl, hX', hF, hJ, -⟩ := q
  cases q1
  refine aw_istore (ls' := [(5, _), (0, _), (1, _), (2, _), (3, _), (4, _)]) dL_law_949 (Nat.le_of_ble_eq_true rfl) rfl ?_
  refine aw_aload_n dL_law_951 rfl ?_
  refine aw_aload_n dL_law_952 rfl ?_
  refine aw_iload dL_law_953 rfl ?_
  refine aw_iconst (v := nI 1) dL_law_955 rfl ?_
  first | refine aw_iaddN dL_law_956 ?_ | refine aw_iadd dL_law_956 ?_
  refine aw_iald dL_law_957 (by assumption) (by omega) rfl (by omega) (congrFun (hF 1000 (by decide)) _) ?_
  refine aw_vUp dL_law_958 cvL_130 ⟨Nat.le_of_ble_eq_true rfl, Nat.le_of_ble_eq_true rfl⟩ hk140 ⟨_, rfl, rfl⟩ (hMM I' J' z' (hM.keep (fun q h1 h2 => hF q (by omega)))) rfl rfl (Nat.le_of_ble_eq_true rfl) ⟨rfl, rfl⟩ ⟨by show cu + 1 ≤ 601024; omega, by show su + 6 ≤ 7293034; omega⟩ (fun I2 hP => ?_)
  obtain ⟨hMn, hth, hE⟩ := hP
  have hXn : XS I2 x.2.2 := hX'.keep (fun q hq => hE q (by omega))
  refine aw_istore (ls' := [(6, _), (5, _), (0, _), (1, _), (2, _), (3, _), (4, _)]) dL_law_961 (Nat.le_of_ble_eq_true rfl) rfl ?_
  refine aw_aload_n dL_law_963 rfl ?_
  refine aw_vRd dL_law_964 cvL_78 ⟨Nat.le_of_ble_eq_true rfl, Nat.le_of_ble_eq_true rfl⟩ hk140 ⟨_, rfl, rfl⟩ (r_thrown hLM hth) rfl rfl (Nat.le_of_ble_eq_true rfl) ⟨rfl, rfl⟩ ⟨by show cu + 1 ≤ 601024; omega, by show su + 6 ≤ 7293034; omega⟩ ?_
  refine aw_iload dL_law_967 rfl ?_
  refine aw_icmp_eq (tgt := 974) dL_law_969 (by decide) (fun hc969 => ?_) (fun hc969 => absurd rfl hc969)
  refine aw_iload dL_law_974 rfl ?_
  refine aw_if_neN (tgt := 991) dL_law_976 (by decide) hx2 (fun hc976 => ?_) (fun hc976 => ?_)
  · refine aw_goto (tgt := 1210) dL_law_991 (by decide) ?_
    refine aw_iincN (k := 5) (ls' := [(4, _), (6, _), (5, _), (0, _), (1, _), (2, _), (3, _)]) dL_law_1210 rfl rfl (Nat.le_of_ble_eq_true rfl) rfl ?_
    refine aw_goto (tgt := 23) dL_law_1213 (by decide) ?_
    have e0 := nx I2 J' z' x.2.2 _ _ (h0.fr (fun q hq => by rw [hE q (by omega), hF q (by omega)])) hXn hMn hg (show cu + 1 ≤ 147 + 4 * (t + 1) by omega) (show su + 6 ≤ 3807 + 24 * (t + 1) by omega)
    rw [LLs_s] at e0
    exact aw_pick [3, 4, 5, 6, 0] rfl e0
  · refine aw_aload_n dL_law_979 rfl ?_
    refine aw_iconst (v := nI 0) dL_law_980 rfl ?_
    refine aw_lald dL_law_981 (by assumption) (by omega) rfl (by omega) (hJ hc976) ?_
    refine aw_iload dL_law_982 rfl ?_
    refine aw_i2l dL_law_984 ?_
    refine aw_lcmp dL_law_985 ?_
    rw [lg_self]
    refine aw_if_eq (tgt := 991) dL_law_986 (by decide) (fun hc986 => ?_) (fun hc986 => absurd rfl hc986)
    refine aw_goto (tgt := 1210) dL_law_991 (by decide) ?_
    refine aw_iincN (k := 5) (ls' := [(4, _), (6, _), (5, _), (0, _), (1, _), (2, _), (3, _)]) dL_law_1210 rfl rfl (Nat.le_of_ble_eq_true rfl) rfl ?_
    refine aw_goto (tgt := 23) dL_law_1213 (by decide) ?_
    have e0 := nx I2 J' z' x.2.2 _ _ (h0.fr (fun q hq => by rw [hE q (by omega), hF q (by omega)])) hXn hMn hg (show cu + 1 ≤ 147 + 4 * (t + 1) by omega) (show su + 6 ≤ 3807 + 24 * (t + 1) by omega)
    rw [LLs_s] at e0
    exact aw_pick [3, 4, 5, 6, 0] rfl e0
theorem law_ifCalled (h0 : IV0 G K R L xs I) (hX : XS I s) (hM : MS I s) (hG : GI (50 * t) t s) (hc : cu ≤ 147 + 4 * t) (hs : su ≤ 3807 + 24 * t) (ht : t ≤ 511) (hL5 : 5 * t + 5 ≤ L) (hLm : L ≤ 2560) (nx : LH G (YLw nm tb) Z K R L xs (t + 1)) : AW G (YLw nm tb) Z 994 (LLs G t) [] (K, R, I, J, z) cu su := by
  obtain ⟨hLX, hLM, hO, hK, hSC, hxs⟩ := id h0
  have hk0 : K 0 = some (3, 6) := hLX.1
  have hk140 : K 140 = some (4, 12) := hLM.1
  obtain ⟨a, st, B⟩ := s
  have hI : IV (50 * t) t a := hG.1.1
  have hl1 : L1 a := hG.1.2.1
  have hIS : ISv a := hG.1.2.2
  obtain ⟨x, hx⟩ : ∃ x, x = sIf (I 1000 (5 * t + 1)) (I 1000 (5 * t + 2)) (I 1000 (5 * t + 3)) (I 1000 (5 * t + 4)) (a, st, B) := ⟨_, rfl⟩
  have hx2 : x.1 < 2 ^ 31 := by rw [hx]; exact sIf_le _ _ _ _
  have hg : GI (50 * (t + 1)) (t + 1) x.2.2 := by rw [hx, show 50 * (t + 1) = 50 * t + 50 by omega]; exact (by rw [sIf_st]; exact hG.mono (by omega) (by omega))
  have hMM : ∀ (I' : Nat → Nat → Int32) (J' : Nat → Nat → Int64) (z' : Nat), MS I' (a, st, B) → Run G YX4_ifCalled [.ref (G.1 140), .int (I 1000 (5 * t + 1)), .int (I 1000 (5 * t + 2)), .int (I 1000 (5 * t + 3)), .int (I 1000 (5 * t + 4))] (K, R, I', J', z') (MP K R J' z' I' x) := by
    intro I' J' z' h
    rw [hx]
    exact M_ifCalled hLM h hI hl1 (by omega) (I 1000 (5 * t + 1)) (I 1000 (5 * t + 2)) (I 1000 (5 * t + 3)) (I 1000 (5 * t + 4))
  have hW : RunH G YL_ifCalled [.ref (G.1 0), .int (I 1000 (5 * t + 1)), .int (I 1000 (5 * t + 2)), .int (I 1000 (5 * t + 3)), .int (I 1000 (5 * t + 4)), .ref (G.1 146)] (K, R, I, J, z) (WP K R J z I x) := by
    rw [hx]
    exact W_ifCalled (J := J) (z := z) hLX hX hI hl1 (by omega) (I 1000 (5 * t + 1)) (I 1000 (5 * t + 2)) (I 1000 (5 * t + 3)) (I 1000 (5 * t + 4)) hO (sIf_same _ _ _ _)
  refine aw_aload_n dL_law_994 rfl ?_
  refine aw_aload_n dL_law_995 rfl ?_
  refine aw_iload dL_law_996 rfl ?_
  refine aw_iconst (v := nI 1) dL_law_998 rfl ?_
  first | refine aw_iaddN dL_law_999 ?_ | refine aw_iadd dL_law_999 ?_
  refine aw_iald dL_law_1000 (by assumption) (by omega) rfl (by omega) rfl ?_
  refine aw_aload_n dL_law_1001 rfl ?_
  refine aw_iload dL_law_1002 rfl ?_
  refine aw_iconst (v := nI 2) dL_law_1004 rfl ?_
  first | refine aw_iaddN dL_law_1005 ?_ | refine aw_iadd dL_law_1005 ?_
  refine aw_iald dL_law_1006 (by assumption) (by omega) rfl (by omega) rfl ?_
  refine aw_aload_n dL_law_1007 rfl ?_
  refine aw_iload dL_law_1008 rfl ?_
  refine aw_iconst (v := nI 3) dL_law_1010 rfl ?_
  first | refine aw_iaddN dL_law_1011 ?_ | refine aw_iadd dL_law_1011 ?_
  refine aw_iald dL_law_1012 (by assumption) (by omega) rfl (by omega) rfl ?_
  refine aw_aload_n dL_law_1013 rfl ?_
  refine aw_iload dL_law_1014 rfl ?_
  refine aw_iconst (v := nI 4) dL_law_1016 rfl ?_
  first | refine aw_iaddN dL_law_1017 ?_ | refine aw_iadd dL_law_1017 ?_
  refine aw_iald dL_law_1018 (by assumption) (by omega) rfl (by omega) rfl ?_
  refine aw_aload_n dL_law_1019 rfl ?_
  refine aw_invSH dL_law_1020 cvL_131 ⟨Nat.le_of_ble_eq_true rfl, Nat.le_of_ble_eq_true rfl⟩ (As := [.ref (G.1 0), .int (I 1000 (5 * t + 1)), .int (I 1000 (5 * t + 2)), .int (I 1000 (5 * t + 3)), .int (I 1000 (5 * t + 4)), .ref (G.1 146)]) rfl rfl (Nat.le_of_ble_eq_true rfl) ⟨by show cu + 4 ≤ 601024; omega, by show su + 24 ≤ 7293034; omega⟩ hW (fun E σ' q => by cases q.1) (fun r σ' q => ?_)
  obtain ⟨q1, I', J', z', hz, rfl, hX', hF, hJ, -⟩ := q
  cases q1
  refine aw_istore (ls' := [(5, _), (0, _), (1, _), (2, _), (3, _), (4, _)]) dL_law_1023 (Nat.le_of_ble_eq_true rfl) rfl ?_
  refine aw_aload_n dL_law_1025 rfl ?_
  refine aw_aload_n dL_law_1026 rfl ?_
  refine aw_iload dL_law_1027 rfl ?_
  refine aw_iconst (v := nI 1) dL_law_1029 rfl ?_
  first | refine aw_iaddN dL_law_1030 ?_ | refine aw_iadd dL_law_1030 ?_
  refine aw_iald dL_law_1031 (by assumption) (by omega) rfl (by omega) (congrFun (hF 1000 (by decide)) _) ?_
  refine aw_aload_n dL_law_1032 rfl ?_
  refine aw_iload dL_law_1033 rfl ?_
  refine aw_iconst (v := nI 2) dL_law_1035 rfl ?_
  first | refine aw_iaddN dL_law_1036 ?_ | refine aw_iadd dL_law_1036 ?_
  refine aw_iald dL_law_1037 (by assumption) (by omega) rfl (by omega) (congrFun (hF 1000 (by decide)) _) ?_
  refine aw_aload_n dL_law_1038 rfl ?_
  refine aw_iload dL_law_1039 rfl ?_
  refine aw_iconst (v := nI 3) dL_law_1041 rfl ?_
  first | refine aw_iaddN dL_law_1042 ?_ | refine aw_iadd dL_law_1042 ?_
  refine aw_iald dL_law_1043 (by assumption) (by omega) rfl (by omega) (congrFun (hF 1000 (by decide)) _) ?_
  refine aw_aload_n dL_law_1044 rfl ?_
  refine aw_iload dL_law_1045 rfl ?_
  refine aw_iconst (v := nI 4) dL_law_1047 rfl ?_
  first | refine aw_iaddN dL_law_1048 ?_ | refine aw_iadd dL_law_1048 ?_
  refine aw_iald dL_law_1049 (by assumption) (by omega) rfl (by omega) (congrFun (hF 1000 (by decide)) _) ?_
  refine aw_vUp dL_law_1050 cvL_134 ⟨Nat.le_of_ble_eq_true rfl, Nat.le_of_ble_eq_true rfl⟩ hk140 ⟨_, rfl, rfl⟩ (hMM I' J' z' (hM.keep (fun q h1 h2 => hF q (by omega)))) rfl rfl (Nat.le_of_ble_eq_true rfl) ⟨rfl, rfl⟩ ⟨by show cu + 4 ≤ 601024; omega, by show su + 24 ≤ 7293034; omega⟩ (fun I2 hP => ?_)
  obtain ⟨hMn, hth, hE⟩ := hP
  have hXn : XS I2 x.2.2 := hX'.keep (fun q hq => hE q (by omega))
  refine aw_istore (ls' := [(6, _), (5, _), (0, _), (1, _), (2, _), (3, _), (4, _)]) dL_law_1053 (Nat.le_of_ble_eq_true rfl) rfl ?_
  refine aw_aload_n dL_law_1055 rfl ?_
  refine aw_vRd dL_law_1056 cvL_78 ⟨Nat.le_of_ble_eq_true rfl, Nat.le_of_ble_eq_true rfl⟩ hk140 ⟨_, rfl, rfl⟩ (r_thrown hLM hth) rfl rfl (Nat.le_of_ble_eq_true rfl) ⟨rfl, rfl⟩ ⟨by show cu + 4 ≤ 601024; omega, by show su + 24 ≤ 7293034; omega⟩ ?_
  refine aw_iload dL_law_1059 rfl ?_
  refine aw_icmp_eq (tgt := 1066) dL_law_1061 (by decide) (fun hc1061 => ?_) (fun hc1061 => absurd rfl hc1061)
  refine aw_iload dL_law_1066 rfl ?_
  refine aw_if_neN (tgt := 1083) dL_law_1068 (by decide) hx2 (fun hc1068 => ?_) (fun hc1068 => ?_)
  · refine aw_goto (tgt := 1210) dL_law_1083 (by decide) ?_
    refine aw_iincN (k := 5) (ls' := [(4, _), (6, _), (5, _), (0, _), (1, _), (2, _), (3, _)]) dL_law_1210 rfl rfl (Nat.le_of_ble_eq_true rfl) rfl ?_
    refine aw_goto (tgt := 23) dL_law_1213 (by decide) ?_
    have e0 := nx I2 J' z' x.2.2 _ _ (h0.fr (fun q hq => by rw [hE q (by omega), hF q (by omega)])) hXn hMn hg (show cu + 4 ≤ 147 + 4 * (t + 1) by omega) (show su + 24 ≤ 3807 + 24 * (t + 1) by omega)
    rw [LLs_s] at e0
    exact aw_pick [3, 4, 5, 6, 0] rfl e0
  · refine aw_aload_n dL_law_1071 rfl ?_
    refine aw_iconst (v := nI 0) dL_law_1072 rfl ?_
    refine aw_lald dL_law_1073 (by assumption) (by omega) rfl (by omega) (hJ hc1068) ?_
    refine aw_iload dL_law_1074 rfl ?_
    refine aw_i2l dL_law_1076 ?_
    refine aw_lcmp dL_law_1077 ?_
    rw [lg_self]
    refine aw_if_eq (tgt := 1083) dL_law_1078 (by decide) (fun hc1078 => ?_) (fun hc1078 => absurd rfl hc1078)
    refine aw_goto (tgt := 1210) dL_law_1083 (by decide) ?_
    refine aw_iincN (k := 5) (ls' := [(4, _), (6, _), (5, _), (0, _), (1, _), (2, _), (3, _)]) dL_law_1210 rfl rfl (Nat.le_of_ble_eq_true rfl) rfl ?_
    refine aw_goto (tgt := 23) dL_law_1213 (by decide) ?_
    have e0 := nx I2 J' z' x.2.2 _ _ (h0.fr (fun q hq => by rw [hE q (by omega), hF q (by omega)])) hXn hMn hg (show cu + 4 ≤ 147 + 4 * (t + 1) by omega) (show su + 24 ≤ 3807 + 24 * (t + 1) by omega)
    rw [LLs_s] at e0
    exact aw_pick [3, 4, 5, 6, 0] rfl e0
theorem law_freeIn (h0 : IV0 G K R L xs I) (hX : XS I s) (hM : MS I s) (hG : GI (50 * t) t s) (hc : cu ≤ 147 + 4 * t) (hs : su ≤ 3807 + 24 * t) (ht : t ≤ 511) (hL5 : 5 * t + 5 ≤ L) (hLm : L ≤ 2560) (nx : LH G (YLw nm tb) Z K R L xs (t + 1)) : AW G (YLw nm tb) Z 1086 (LLs G t) [] (K, R, I, J, z) cu su := by
  obtain ⟨hLX, hLM, hO, hK, hSC, hxs⟩ := id h0
  have hk0 : K 0 = some (3, 6) := hLX.1
  have hk140 : K 140 = some (4, 12) := hLM.1
  obtain ⟨a, st, B⟩ := s
  have hI : IV (50 * t) t a := hG.1.1
  have hl1 : L1 a := hG.1.2.1
  have hIS : ISv a := hG.1.2.2
  obtain ⟨x, hx⟩ : ∃ x, x = sFree (I 1000 (5 * t + 1)) (a, st, B) := ⟨_, rfl⟩
  have hx2 : x.1 < 2 ^ 31 := by rw [hx]; exact sFree_le _
  have hg : GI (50 * (t + 1)) (t + 1) x.2.2 := by rw [hx, show 50 * (t + 1) = 50 * t + 50 by omega]; exact (by rw [sFree_st]; exact hG.mono (by omega) (by omega))
  have hMM : ∀ (I' : Nat → Nat → Int32) (J' : Nat → Nat → Int64) (z' : Nat), MS I' (a, st, B) → Run G YX4_freeIn [.ref (G.1 140), .int (I 1000 (5 * t + 1))] (K, R, I', J', z') (MP K R J' z' I' x) := by
    intro I' J' z' h
    rw [hx]
    exact M_freeIn hLM h hI hl1 (by omega) (I 1000 (5 * t + 1))
  have hW : RunH G YL_freeIn [.ref (G.1 0), .int (I 1000 (5 * t + 1)), .ref (G.1 146)] (K, R, I, J, z) (WP K R J z I x) := by
    rw [hx]
    exact W_freeIn (J := J) (z := z) hLX hX hI hl1 (by omega) hIS (I 1000 (5 * t + 1)) hO (sFree_same _) (sFree_no _)
  refine aw_aload_n dL_law_1086 rfl ?_
  refine aw_aload_n dL_law_1087 rfl ?_
  refine aw_iload dL_law_1088 rfl ?_
  refine aw_iconst (v := nI 1) dL_law_1090 rfl ?_
  first | refine aw_iaddN dL_law_1091 ?_ | refine aw_iadd dL_law_1091 ?_
  refine aw_iald dL_law_1092 (by assumption) (by omega) rfl (by omega) rfl ?_
  refine aw_aload_n dL_law_1093 rfl ?_
  refine aw_invSH dL_law_1094 cvL_135 ⟨Nat.le_of_ble_eq_true rfl, Nat.le_of_ble_eq_true rfl⟩ (As := [.ref (G.1 0), .int (I 1000 (5 * t + 1)), .ref (G.1 146)]) rfl rfl (Nat.le_of_ble_eq_true rfl) ⟨by show cu + 1 ≤ 601024; omega, by show su + 6 ≤ 7293034; omega⟩ hW (fun E σ' q => by cases q.1) (fun r σ' q => ?_)
  obtain ⟨q1, I', J', z', hz, rfl, hX', hF, hJ, -⟩ := q
  cases q1
  refine aw_istore (ls' := [(5, _), (0, _), (1, _), (2, _), (3, _), (4, _)]) dL_law_1097 (Nat.le_of_ble_eq_true rfl) rfl ?_
  refine aw_aload_n dL_law_1099 rfl ?_
  refine aw_aload_n dL_law_1100 rfl ?_
  refine aw_iload dL_law_1101 rfl ?_
  refine aw_iconst (v := nI 1) dL_law_1103 rfl ?_
  first | refine aw_iaddN dL_law_1104 ?_ | refine aw_iadd dL_law_1104 ?_
  refine aw_iald dL_law_1105 (by assumption) (by omega) rfl (by omega) (congrFun (hF 1000 (by decide)) _) ?_
  refine aw_vUp dL_law_1106 cvL_137 ⟨Nat.le_of_ble_eq_true rfl, Nat.le_of_ble_eq_true rfl⟩ hk140 ⟨_, rfl, rfl⟩ (hMM I' J' z' (hM.keep (fun q h1 h2 => hF q (by omega)))) rfl rfl (Nat.le_of_ble_eq_true rfl) ⟨rfl, rfl⟩ ⟨by show cu + 1 ≤ 601024; omega, by show su + 6 ≤ 7293034; omega⟩ (fun I2 hP => ?_)
  obtain ⟨hMn, hth, hE⟩ := hP
  have hXn : XS I2 x.2.2 := hX'.keep (fun q hq => hE q (by omega))
  refine aw_istore (ls' := [(6, _), (5, _), (0, _), (1, _), (2, _), (3, _), (4, _)]) dL_law_1109 (Nat.le_of_ble_eq_true rfl) rfl ?_
  refine aw_aload_n dL_law_1111 rfl ?_
  refine aw_vRd dL_law_1112 cvL_78 ⟨Nat.le_of_ble_eq_true rfl, Nat.le_of_ble_eq_true rfl⟩ hk140 ⟨_, rfl, rfl⟩ (r_thrown hLM hth) rfl rfl (Nat.le_of_ble_eq_true rfl) ⟨rfl, rfl⟩ ⟨by show cu + 1 ≤ 601024; omega, by show su + 6 ≤ 7293034; omega⟩ ?_
  refine aw_iload dL_law_1115 rfl ?_
  refine aw_icmp_eq (tgt := 1122) dL_law_1117 (by decide) (fun hc1117 => ?_) (fun hc1117 => absurd rfl hc1117)
  refine aw_iload dL_law_1122 rfl ?_
  refine aw_if_neN (tgt := 1139) dL_law_1124 (by decide) hx2 (fun hc1124 => ?_) (fun hc1124 => ?_)
  · refine aw_goto (tgt := 1210) dL_law_1139 (by decide) ?_
    refine aw_iincN (k := 5) (ls' := [(4, _), (6, _), (5, _), (0, _), (1, _), (2, _), (3, _)]) dL_law_1210 rfl rfl (Nat.le_of_ble_eq_true rfl) rfl ?_
    refine aw_goto (tgt := 23) dL_law_1213 (by decide) ?_
    have e0 := nx I2 J' z' x.2.2 _ _ (h0.fr (fun q hq => by rw [hE q (by omega), hF q (by omega)])) hXn hMn hg (show cu + 1 ≤ 147 + 4 * (t + 1) by omega) (show su + 6 ≤ 3807 + 24 * (t + 1) by omega)
    rw [LLs_s] at e0
    exact aw_pick [3, 4, 5, 6, 0] rfl e0
  · refine aw_aload_n dL_law_1127 rfl ?_
    refine aw_iconst (v := nI 0) dL_law_1128 rfl ?_
    refine aw_lald dL_law_1129 (by assumption) (by omega) rfl (by omega) (hJ hc1124) ?_
    refine aw_iload dL_law_1130 rfl ?_
    refine aw_i2l dL_law_1132 ?_
    refine aw_lcmp dL_law_1133 ?_
    rw [lg_self]
    refine aw_if_eq (tgt := 1139) dL_law_1134 (by decide) (fun hc1134 => ?_) (fun hc1134 => absurd rfl hc1134)
    refine aw_goto (tgt := 1210) dL_law_1139 (by decide) ?_
    refine aw_iincN (k := 5) (ls' := [(4, _), (6, _), (5, _), (0, _), (1, _), (2, _), (3, _)]) dL_law_1210 rfl rfl (Nat.le_of_ble_eq_true rfl) rfl ?_
    refine aw_goto (tgt := 23) dL_law_1213 (by decide) ?_
    have e0 := nx I2 J' z' x.2.2 _ _ (h0.fr (fun q hq => by rw [hE q (by omega), hF q (by omega)])) hXn hMn hg (show cu + 1 ≤ 147 + 4 * (t + 1) by omega) (show su + 6 ≤ 3807 + 24 * (t + 1) by omega)
    rw [LLs_s] at e0
    exact aw_pick [3, 4, 5, 6, 0] rfl e0
theorem law_healthiest (h0 : IV0 G K R L xs I) (hX : XS I s) (hM : MS I s) (hG : GI (50 * t) t s) (hc : cu ≤ 147 + 4 * t) (hs : su ≤ 3807 + 24 * t) (ht : t ≤ 511) (hL5 : 5 * t + 5 ≤ L) (hLm : L ≤ 2560) (nx : LH G (YLw nm tb) Z K R L xs (t + 1)) : AW G (YLw nm tb) Z 1142 (LLs G t) [] (K, R, I, J, z) cu su := by
  obtain ⟨hLX, hLM, hO, hK, hSC, hxs⟩ := id h0
  have hk0 : K 0 = some (3, 6) := hLX.1
  have hk140 : K 140 = some (4, 12) := hLM.1
  obtain ⟨a, st, B⟩ := s
  have hI : IV (50 * t) t a := hG.1.1
  have hl1 : L1 a := hG.1.2.1
  have hIS : ISv a := hG.1.2.2
  obtain ⟨x, hx⟩ : ∃ x, x = sHealthiest (a, st, B) := ⟨_, rfl⟩
  have hx2 : x.1 < 2 ^ 31 := by rw [hx]; exact sHealthiest_le
  have hg : GI (50 * (t + 1)) (t + 1) x.2.2 := by rw [hx, show 50 * (t + 1) = 50 * t + 50 by omega]; exact (by rw [sHealthiest_st]; exact hG.mono (by omega) (by omega))
  have hMM : ∀ (I' : Nat → Nat → Int32) (J' : Nat → Nat → Int64) (z' : Nat), MS I' (a, st, B) → Run G YX4_healthiest [.ref (G.1 140)] (K, R, I', J', z') (MP K R J' z' I' x) := by
    intro I' J' z' h
    rw [hx]
    exact M_healthiest hLM h hI hl1 (by omega)
  have hx0 : x.1 = 0 := by rw [hx]; rfl
  have hW : Run G YX3_healthiest [.ref (G.1 0)] (K, R, I, J, z) (CP K R J z I XT XT x) := by
    rw [hx]
    exact X_healthiest hLX hX hI hl1 (by omega)
  refine aw_aload_n dL_law_1142 rfl ?_
  refine aw_invV dL_law_1143 cvL_138 ⟨Nat.le_of_ble_eq_true rfl, Nat.le_of_ble_eq_true rfl⟩ hk0 ⟨_, rfl, rfl⟩ (As := []) rfl rfl (Nat.le_of_ble_eq_true rfl) ⟨by show cu + 0 ≤ 601024; omega, by show su + 0 ≤ 7293034; omega⟩ hW (fun E σ' q => ?_) (fun r σ' q => ?_)
  · rcases q with ⟨q1, q2, -⟩ | ⟨q1, q2, -⟩ | ⟨q1, q2, -⟩
    · cases q2
    · omega
    · omega
  rcases q with ⟨q1, q2, I', rfl, hX', hF⟩ | ⟨q1, q2, -⟩ | ⟨q1, q2, -⟩
  rotate_left
  · cases q2
  · cases q2
  cases q2
  have hz' : ∃ z' : Nat, z' = z := ⟨_, rfl⟩
  refine aw_aload_n dL_law_1146 rfl ?_
  refine aw_vUp dL_law_1147 cvL_141 ⟨Nat.le_of_ble_eq_true rfl, Nat.le_of_ble_eq_true rfl⟩ hk140 ⟨_, rfl, rfl⟩ (hMM I' J z (hM.keep (fun q h1 h2 => hF q (by omega)))) rfl rfl (Nat.le_of_ble_eq_true rfl) ⟨rfl, rfl⟩ ⟨by show cu + 0 ≤ 601024; omega, by show su + 0 ≤ 7293034; omega⟩ (fun I2 hP => ?_)
  obtain ⟨hMn, hth, hE⟩ := hP
  have hXn : XS I2 x.2.2 := hX'.keep (fun q hq => hE q (by omega))
  refine aw_icmp_eq (tgt := 1210) dL_law_1150 (by decide) (fun hc1150 => ?_) (fun hc1150 => absurd rfl hc1150)
  refine aw_iincN (k := 5) (ls' := [(4, _), (0, _), (1, _), (2, _), (3, _)]) dL_law_1210 rfl rfl (Nat.le_of_ble_eq_true rfl) rfl ?_
  refine aw_goto (tgt := 23) dL_law_1213 (by decide) ?_
  have e0 := nx I2 J z x.2.2 _ _ (h0.fr (fun q hq => by rw [hE q (by omega), hF q (by omega)])) hXn hMn hg (show cu + 0 ≤ 147 + 4 * (t + 1) by omega) (show su + 0 ≤ 3807 + 24 * (t + 1) by omega)
  rw [LLs_s] at e0
  exact aw_pick [1, 2, 3, 4, 0] rfl e0
theorem law_health (h0 : IV0 G K R L xs I) (hX : XS I s) (hM : MS I s) (hG : GI (50 * t) t s) (hc : cu ≤ 147 + 4 * t) (hs : su ≤ 3807 + 24 * t) (ht : t ≤ 511) (hL5 : 5 * t + 5 ≤ L) (hLm : L ≤ 2560) (nx : LH G (YLw nm tb) Z K R L xs (t + 1)) : AW G (YLw nm tb) Z 1155 (LLs G t) [] (K, R, I, J, z) cu su := by
  obtain ⟨hLX, hLM, hO, hK, hSC, hxs⟩ := id h0
  have hk0 : K 0 = some (3, 6) := hLX.1
  have hk140 : K 140 = some (4, 12) := hLM.1
  obtain ⟨a, st, B⟩ := s
  have hI : IV (50 * t) t a := hG.1.1
  have hl1 : L1 a := hG.1.2.1
  have hIS : ISv a := hG.1.2.2
  have hg : GI (50 * (t + 1)) (t + 1) (a, st, B) := hG.mono (by omega) (by omega)
  have hF : ∀ q, 140 ≤ q → I q = I q := fun _ _ => rfl
  have hsh : Shp (shareD a) := share_shp (by have := hI.2.2.2.2.2.2; omega)
  have hcm : Op.cmpValue (FP.dcmp (shareD a) (shareD a)) .l = nI 0 := by
    rw [show FP.dcmp (shareD a) (shareD a) = some .eq from FP.Core.dcmp_self hsh.ne]; rfl
  refine aw_aload_n dL_law_1155 rfl ?_
  refine aw_vRd dL_law_1156 cvL_142 ⟨Nat.le_of_ble_eq_true rfl, Nat.le_of_ble_eq_true rfl⟩ hk0 ⟨_, rfl, rfl⟩ (X_health hLX hX hI hl1 (by omega)) rfl rfl (Nat.le_of_ble_eq_true rfl) ⟨rfl, rfl⟩ ⟨by show cu + 0 ≤ 601024; omega, by show su + 0 ≤ 7293034; omega⟩ ?_
  refine aw_dstore (ls' := [(5, _), (0, _), (1, _), (2, _), (3, _), (4, _)]) dL_law_1159 (Nat.le_of_ble_eq_true rfl) rfl ?_
  refine aw_aload_n dL_law_1161 rfl ?_
  refine aw_invV dL_law_1162 cvL_146 ⟨Nat.le_of_ble_eq_true rfl, Nat.le_of_ble_eq_true rfl⟩ hk140 ⟨_, rfl, rfl⟩ (As := []) rfl rfl (Nat.le_of_ble_eq_true rfl) ⟨by show cu + 0 ≤ 601024; omega, by show su + 0 ≤ 7293034; omega⟩ (M_health hLM hM hI (by omega)) (fun E σ' q => by cases q.1) (fun r σ' q => ?_)
  obtain ⟨q1, I2, rfl, hMn, -, hE⟩ := q
  cases q1
  have hXn : XS I2 (a, st, B) := hX.keep (fun q hq => hE q (by omega))
  refine aw_dstore (ls' := [(7, _), (5, _), (0, _), (1, _), (2, _), (3, _), (4, _)]) dL_law_1165 (Nat.le_of_ble_eq_true rfl) rfl ?_
  refine aw_dload dL_law_1167 rfl ?_
  refine aw_dload dL_law_1169 rfl ?_
  refine aw_dcmp dL_law_1171 ?_
  rw [hcm]
  refine aw_if_eq (tgt := 1193) dL_law_1172 (by decide) (fun hc1172 => ?_) (fun hc1172 => absurd rfl hc1172)
  refine aw_goto (tgt := 1210) dL_law_1193 (by decide) ?_
  refine aw_iincN (k := 5) (ls' := [(4, _), (7, _), (5, _), (0, _), (1, _), (2, _), (3, _)]) dL_law_1210 rfl rfl (Nat.le_of_ble_eq_true rfl) rfl ?_
  refine aw_goto (tgt := 23) dL_law_1213 (by decide) ?_
  have e0 := nx I2 J z (a, st, B) _ _ (h0.fr (fun q hq => by rw [hE q (by omega), hF q (by omega)])) hXn hMn hg (show cu + 0 ≤ 147 + 4 * (t + 1) by omega) (show su + 0 ≤ 3807 + 24 * (t + 1) by omega)
  rw [LLs_s] at e0
  exact aw_pick [3, 4, 5, 6, 0] rfl e0
theorem law_digest (h0 : IV0 G K R L xs I) (hX : XS I s) (hM : MS I s) (hG : GI (50 * t) t s) (hc : cu ≤ 147 + 4 * t) (hs : su ≤ 3807 + 24 * t) (ht : t ≤ 511) (hL5 : 5 * t + 5 ≤ L) (hLm : L ≤ 2560) (nx : LH G (YLw nm tb) Z K R L xs (t + 1)) : AW G (YLw nm tb) Z 1196 (LLs G t) [] (K, R, I, J, z) cu su := by
  obtain ⟨hLX, hLM, hO, hK, hSC, hxs⟩ := id h0
  have hk0 : K 0 = some (3, 6) := hLX.1
  have hk140 : K 140 = some (4, 12) := hLM.1
  obtain ⟨a, st, B⟩ := s
  have hI : IV (50 * t) t a := hG.1.1
  have hl1 : L1 a := hG.1.2.1
  have hIS : ISv a := hG.1.2.2
  have hg : GI (50 * (t + 1)) (t + 1) (a, st, B) := hG.mono (by omega) (by omega)
  refine aw_aload_n dL_law_1196 rfl ?_
  refine aw_vUp dL_law_1197 cvL_147 ⟨Nat.le_of_ble_eq_true rfl, Nat.le_of_ble_eq_true rfl⟩ hk0 ⟨_, rfl, rfl⟩ (X_digest hLX hX hI hl1 (by omega) hIS) rfl rfl (Nat.le_of_ble_eq_true rfl) ⟨rfl, rfl⟩ ⟨by show cu + 0 ≤ 601024; omega, by show su + 0 ≤ 7293034; omega⟩ (fun I' hP => ?_)
  obtain ⟨hX', hF⟩ := hP
  refine aw_aload_n dL_law_1200 rfl ?_
  refine aw_invV dL_law_1201 cvL_151 ⟨Nat.le_of_ble_eq_true rfl, Nat.le_of_ble_eq_true rfl⟩ hk140 ⟨_, rfl, rfl⟩ (As := []) rfl rfl (Nat.le_of_ble_eq_true rfl) ⟨by show cu + 0 ≤ 601024; omega, by show su + 0 ≤ 7293034; omega⟩ (M_digest hLM (hM.keep (fun q h1 h2 => hF q (by omega))) hI hl1 (by omega)) (fun E σ' q => by cases q.1) (fun r σ' q => ?_)
  obtain ⟨q1, I2, rfl, hMn, -, hE⟩ := q
  cases q1
  have hXn : XS I2 (a, st, B) := hX'.keep (fun q hq => hE q (by omega))
  refine aw_lcmp dL_law_1204 ?_
  rw [lg_self]
  refine aw_if_eq (tgt := 1210) dL_law_1205 (by decide) (fun hc1205 => ?_) (fun hc1205 => absurd rfl hc1205)
  refine aw_iincN (k := 5) (ls' := [(4, _), (0, _), (1, _), (2, _), (3, _)]) dL_law_1210 rfl rfl (Nat.le_of_ble_eq_true rfl) rfl ?_
  refine aw_goto (tgt := 23) dL_law_1213 (by decide) ?_
  have e0 := nx I2 (upJ J 140 11 (dgA a st.length B)) z (a, st, B) _ _ (h0.fr (fun q hq => by rw [hE q (by omega), hF q (by omega)])) hXn hMn hg (show cu + 0 ≤ 147 + 4 * (t + 1) by omega) (show su + 0 ≤ 3807 + 24 * (t + 1) by omega)
  rw [LLs_s] at e0
  exact aw_pick [1, 2, 3, 4, 0] rfl e0
end LAWS
