/-! THE DIGEST, the class's way -/
section XDIGEST
variable {G : GG} {K : Nat → Option (Nat × Nat)} {R : Nat → Nat → Value} {I : Nat → Nat → Int32} {J : Nat → Nat → Int64} {z : Nat} {σ : Sg} {a : AA} {m k : Nat}
variable {B : List Nat} {hs : List AA}
theorem x_mixh (p q : Int64) : Run G YX3_mix [.long p, .long q] σ (Rd σ (.long (hx p q))) := x_mix p q
theorem LSt.calls {h : Nat} (hL : LSt G K R h) {w : Nat} (hw : w < 5) : R (h + 3) w = .ref (G.1 (h + 4 + w)) ∧ K (h + 4 + w) = some (10, 16) := by
  obtain ⟨hk0, hr0, hk1, hsr, hr1, hk2, hr2, hk3, hc0, hc1, hc2, hc3, hc4, hkc0, hkc1, hkc2, hkc3, hkc4, hTs, hh⟩ := hL
  rcases (show w = 0 ∨ w = 1 ∨ w = 2 ∨ w = 3 ∨ w = 4 by omega) with rfl | rfl | rfl | rfl | rfl
  · exact ⟨hc0, hkc0⟩
  · exact ⟨hc1, hkc1⟩
  · exact ⟨hc2, hkc2⟩
  · exact ⟨hc3, hkc3⟩
  · exact ⟨hc4, hkc4⟩
theorem CA.at {h p w : Nat} {L : List Cl} {c : Cl} (hA : CA I h L) (hp : L[p]? = some c) (hw : w < 5) : I (h + 4 + w) p = nI (c w) := by
  obtain ⟨a0, a1, a2, a3, a4⟩ := hA p c hp
  rcases (show w = 0 ∨ w = 1 ∨ w = 2 ∨ w = 3 ∨ w = 4 by omega) with rfl | rfl | rfl | rfl | rfl
  · exact a0
  · exact a1
  · exact a2
  · exact a3
  · exact a4
def PX (I : Nat → Nat → Int32) (s : ST) (I' : Nat → Nat → Int32) : Prop := XS I' s ∧ FrC I I'
theorem PX.s {I I1 I2 : Nat → Nat → Int32} {s : ST} (h : PX I s I1) (hF : FrS 18 I1 I2) : PX I s I2 := by
  obtain ⟨⟨h1, h2, h3⟩, h4⟩ := h
  exact ⟨⟨h1.fr (fun q a1 a2 => hF q (by omega)), h2.fr (hF 0 (by omega)) (fun q a1 a2 => hF q (by omega)), h3.fr (hF 36 (by omega)) (hF 37 (by omega))⟩, h4.tr (fun q hq => hF q (by omega))⟩

theorem x_mixStore {st : Nat} (hX : LX G K R) (hS : XS I (a, hs, B)) (hF : CSt I 18 (oftenA st 3 6 a)) (hI : IV m k a) (hl1 : L1 a) (hIS : ISv a) (hmk : m + k ≤ 800000000) (hst : st < 4) (h : Int64) : Run G YX3_mixStore [.ref (G.1 0), .long h, .int (nI st)] (K, R, I, J, z) (Rd (K, R, I, J, z) (.long (dgT a st h))) := by
  obtain ⟨xk0, xr0, xr1, xr2, xk35, xrs, xr5, xD, xL1, xL18, xLs⟩ := id hX
  have hNs : CSt I 1 a := hS.1
  have hk1 : K 1 = some (1, 7) := xL1.1
  have h16 := hI.2.1
  have hr10 := xL1.2.1
  have hk2 := xL1.2.2.1
  have hsr := xL1.2.2.2.1
  have hsI := hI.2.2.2.2.1 _ hst
  have h20 : a.2.2 st 0 ≤ 20 := hsI.2.1
  have hT := xL1.2.2.2.2.2.2.2.2.2.2.2.2.2.2.2.2.2.2.1 st hst
  have hKo := hT.1
  have hRo := hT.2.1
  have hKr := hT.2.2.1
  have hSR := hNs.1.2.2.2.2 st hst
  obtain ⟨m', i1, i2, i3⟩ := of_often (t := 3) (n := 6) hst hI hl1 6

  have w3 : ∀ (d q : Nat), 4 - q = d → q ≤ 4 → AW G YX3_mixStore (MZ G YX3_mixStore (Rd (K, R, I, J, z) (.long (dgT a st h)))) 102 [(0, .ref (G.1 0)), (3, .int (nI st)), (4, .long (hN (dWo a st) q (hx (hN (dRo a st) (a.2.2 st 0) (hN (dTl a st) 11 h)) (untilI a st).toInt64))), (7, .int (nI q))] [] (K, R, I, J, z) 0 0 := by
    intro d
    induction d with
    | zero =>
      intro q hd hq
      have hqq : q = 4 := by omega
      subst hqq
      refine aw_iload dX3_mixStore_102 rfl ?_
      refine aw_iconst (v := nI 4) dX3_mixStore_104 rfl ?_
      refine aw_icmp_geN (tgt := 129) dX3_mixStore_105 (by decide) (by omega) (by omega) (fun hc105 => ?_) (fun hc105 => absurd hc105 (by omega))
      refine aw_lload dX3_mixStore_129 rfl ?_
      exact aw_lret dX3_mixStore_131 rfl (Nat.zero_le _) (Nat.zero_le _) ⟨rfl, rfl⟩
    | succ d ih =>
      intro q hd hq
      refine aw_iload dX3_mixStore_102 rfl ?_
      refine aw_iconst (v := nI 4) dX3_mixStore_104 rfl ?_
      refine aw_icmp_geN (tgt := 129) dX3_mixStore_105 (by decide) (by omega) (by omega) (fun hc105 => absurd hc105 (by omega)) (fun hc105 => ?_)
      refine aw_lload dX3_mixStore_108 rfl ?_
      refine aw_aload_n dX3_mixStore_110 rfl ?_
      refine aw_iload_n dX3_mixStore_111 rfl ?_
      refine aw_iload dX3_mixStore_112 rfl ?_
      refine aw_vRd dX3_mixStore_114 cvX3_156 ⟨Nat.le_of_ble_eq_true rfl, Nat.le_of_ble_eq_true rfl⟩ (by assumption) ⟨_, rfl, rfl⟩ (x_foreseen hX hNs hF rfl hI i1 hmk (by omega) hst (w := q) (by omega)) rfl rfl (Nat.le_of_ble_eq_true rfl) ⟨rfl, rfl⟩ ⟨Nat.zero_le _, Nat.zero_le _⟩ ?_
      refine aw_i2l dX3_mixStore_117 ?_
      refine aw_sRd dX3_mixStore_118 cvX3_168 ⟨Nat.le_of_ble_eq_true rfl, Nat.le_of_ble_eq_true rfl⟩ (x_mixh _ _) rfl rfl (Nat.le_of_ble_eq_true rfl) ⟨rfl, rfl⟩ ⟨Nat.zero_le _, Nat.zero_le _⟩ ?_
      refine aw_lstore (ls' := [(4, _), (0, _), (3, _), (7, _)]) dX3_mixStore_121 (by decide) rfl ?_
      refine aw_iincN (k := 1) (ls' := [(7, _), (4, _), (0, _), (3, _)]) dX3_mixStore_123 rfl rfl (by decide) rfl ?_
      refine aw_goto (tgt := 102) dX3_mixStore_126 (by decide) ?_
      have e0 := ih (q + 1) (by omega) (by omega)
      rw [hN_s] at e0
      exact aw_pick [2, 3, 1, 0] rfl e0
  have w2 : ∀ (d q : Nat), a.2.2 st 0 - q = d → q ≤ a.2.2 st 0 → AW G YX3_mixStore (MZ G YX3_mixStore (Rd (K, R, I, J, z) (.long (dgT a st h)))) 51 [(0, .ref (G.1 0)), (3, .int (nI st)), (4, .long (hN (dRo a st) q (hN (dTl a st) 11 h))), (6, .ref (G.1 (1 + 9 + 2 * st))), (7, .int (nI q))] [] (K, R, I, J, z) 0 0 := by
    intro d
    induction d with
    | zero =>
      intro q hd hq
      have hqq : q = a.2.2 st 0 := by omega
      subst hqq
      refine aw_iload dX3_mixStore_51 rfl ?_
      refine aw_aload dX3_mixStore_53 rfl ?_
      refine aw_getI dX3_mixStore_55 flX3_137 rfl (by assumption) hSR.2.1 ?_
      refine aw_icmp_geN (tgt := 83) dX3_mixStore_58 (by decide) (by omega) (by omega) (fun hc58 => ?_) (fun hc58 => absurd hc58 (by omega))
      refine aw_lload dX3_mixStore_83 rfl ?_
      refine aw_aload_n dX3_mixStore_85 rfl ?_
      refine aw_getR dX3_mixStore_86 flX3_10 rfl (by assumption) (by assumption) ?_
      refine aw_iload_n dX3_mixStore_89 rfl ?_
      refine aw_vRd dX3_mixStore_90 cvX3_159 ⟨Nat.le_of_ble_eq_true rfl, Nat.le_of_ble_eq_true rfl⟩ (by assumption) ⟨_, rfl, rfl⟩ (c_ticksTillFree xL1 hNs hI (by omega) hst) rfl rfl (Nat.le_of_ble_eq_true rfl) ⟨rfl, rfl⟩ ⟨Nat.zero_le _, Nat.zero_le _⟩ ?_
      rw [free_until hst hI hl1 hIS]
      refine aw_i2l dX3_mixStore_93 ?_
      refine aw_sRd dX3_mixStore_94 cvX3_168 ⟨Nat.le_of_ble_eq_true rfl, Nat.le_of_ble_eq_true rfl⟩ (x_mixh _ _) rfl rfl (Nat.le_of_ble_eq_true rfl) ⟨rfl, rfl⟩ ⟨Nat.zero_le _, Nat.zero_le _⟩ ?_
      refine aw_lstore (ls' := [(4, _), (0, _), (3, _), (6, _), (7, _)]) dX3_mixStore_97 (by decide) rfl ?_
      refine aw_iconst (v := nI 0) dX3_mixStore_99 rfl ?_
      refine aw_istore (ls' := [(7, _), (4, _), (0, _), (3, _), (6, _)]) dX3_mixStore_100 (by decide) rfl ?_
      have e0 := w3 4 0 rfl (by decide)
      rw [hN_0] at e0
      exact aw_pick [2, 3, 1, 0] rfl e0
    | succ d ih =>
      intro q hd hq
      refine aw_iload dX3_mixStore_51 rfl ?_
      refine aw_aload dX3_mixStore_53 rfl ?_
      refine aw_getI dX3_mixStore_55 flX3_137 rfl (by assumption) hSR.2.1 ?_
      refine aw_icmp_geN (tgt := 83) dX3_mixStore_58 (by decide) (by omega) (by omega) (fun hc58 => absurd hc58 (by omega)) (fun hc58 => ?_)
      refine aw_lload dX3_mixStore_61 rfl ?_
      refine aw_aload dX3_mixStore_63 rfl ?_
      refine aw_getR dX3_mixStore_65 flX3_140 rfl (by assumption) (by assumption) ?_
      refine aw_iload dX3_mixStore_68 rfl ?_
      refine aw_iald dX3_mixStore_70 (by assumption) (by omega) rfl (by omega) (hSR.1 q (by omega)) ?_
      refine aw_i2l dX3_mixStore_71 ?_
      refine aw_sRd dX3_mixStore_72 cvX3_168 ⟨Nat.le_of_ble_eq_true rfl, Nat.le_of_ble_eq_true rfl⟩ (x_mixh _ _) rfl rfl (Nat.le_of_ble_eq_true rfl) ⟨rfl, rfl⟩ ⟨Nat.zero_le _, Nat.zero_le _⟩ ?_
      refine aw_lstore (ls' := [(4, _), (0, _), (3, _), (6, _), (7, _)]) dX3_mixStore_75 (by decide) rfl ?_
      refine aw_iincN (k := 1) (ls' := [(7, _), (4, _), (0, _), (3, _), (6, _)]) dX3_mixStore_77 rfl rfl (by decide) rfl ?_
      refine aw_goto (tgt := 51) dX3_mixStore_80 (by decide) ?_
      have e0 := ih (q + 1) (by omega) (by omega)
      rw [hN_s] at e0
      exact aw_pick [2, 3, 1, 4, 0] rfl e0
  have w1 : ∀ (d q : Nat), 11 - q = d → q ≤ 11 → AW G YX3_mixStore (MZ G YX3_mixStore (Rd (K, R, I, J, z) (.long (dgT a st h)))) 6 [(0, .ref (G.1 0)), (3, .int (nI st)), (4, .long (hN (dTl a st) q h)), (6, .int (nI q))] [] (K, R, I, J, z) 0 0 := by
    intro d
    induction d with
    | zero =>
      intro q hd hq
      have hqq : q = 11 := by omega
      subst hqq
      refine aw_iload dX3_mixStore_6 rfl ?_
      refine aw_bipush (v := nI 11) dX3_mixStore_8 rfl ?_
      refine aw_icmp_geN (tgt := 37) dX3_mixStore_10 (by decide) (by omega) (by omega) (fun hc10 => ?_) (fun hc10 => absurd hc10 (by omega))
      refine aw_aload_n dX3_mixStore_37 rfl ?_
      refine aw_getR dX3_mixStore_38 flX3_10 rfl (by assumption) (by assumption) ?_
      refine aw_getR dX3_mixStore_41 flX3_107 rfl (by assumption) (by assumption) ?_
      refine aw_iload_n dX3_mixStore_44 rfl ?_
      refine aw_aald dX3_mixStore_45 (by assumption) (by omega) (by omega) rfl (by omega) (hsr st hst) ?_
      refine aw_astore (ls' := [(6, _), (0, _), (3, _), (4, _)]) dX3_mixStore_46 (by decide) rfl ?_
      refine aw_iconst (v := nI 0) dX3_mixStore_48 rfl ?_
      refine aw_istore (ls' := [(7, _), (6, _), (0, _), (3, _), (4, _)]) dX3_mixStore_49 (by decide) rfl ?_
      have e0 := w2 _ 0 rfl (Nat.zero_le _)
      rw [hN_0] at e0
      exact aw_pick [2, 3, 4, 1, 0] rfl e0
    | succ d ih =>
      intro q hd hq
      refine aw_iload dX3_mixStore_6 rfl ?_
      refine aw_bipush (v := nI 11) dX3_mixStore_8 rfl ?_
      refine aw_icmp_geN (tgt := 37) dX3_mixStore_10 (by decide) (by omega) (by omega) (fun hc10 => absurd hc10 (by omega)) (fun hc10 => ?_)
      refine aw_lload dX3_mixStore_13 rfl ?_
      refine aw_aload_n dX3_mixStore_15 rfl ?_
      refine aw_getR dX3_mixStore_16 flX3_10 rfl (by assumption) (by assumption) ?_
      refine aw_iload_n dX3_mixStore_19 rfl ?_
      refine aw_iload dX3_mixStore_20 rfl ?_
      refine aw_vRd dX3_mixStore_22 cvX3_130 ⟨Nat.le_of_ble_eq_true rfl, Nat.le_of_ble_eq_true rfl⟩ (by assumption) ⟨_, rfl, rfl⟩ (c_numberOf (w := q) xL1 hNs hI (by omega) hst (by omega)) rfl rfl (Nat.le_of_ble_eq_true rfl) ⟨rfl, rfl⟩ ⟨Nat.zero_le _, Nat.zero_le _⟩ ?_
      refine aw_i2l dX3_mixStore_25 ?_
      refine aw_sRd dX3_mixStore_26 cvX3_168 ⟨Nat.le_of_ble_eq_true rfl, Nat.le_of_ble_eq_true rfl⟩ (x_mixh _ _) rfl rfl (Nat.le_of_ble_eq_true rfl) ⟨rfl, rfl⟩ ⟨Nat.zero_le _, Nat.zero_le _⟩ ?_
      refine aw_lstore (ls' := [(4, _), (0, _), (3, _), (6, _)]) dX3_mixStore_29 (by decide) rfl ?_
      refine aw_iincN (k := 1) (ls' := [(6, _), (4, _), (0, _), (3, _)]) dX3_mixStore_31 rfl rfl (by decide) rfl ?_
      refine aw_goto (tgt := 6) dX3_mixStore_34 (by decide) ?_
      have e0 := ih (q + 1) (by omega) (by omega)
      rw [hN_s] at e0
      exact aw_pick [2, 3, 1, 0] rfl e0
  refine run_of (ls := [(0, .ref (G.1 0)), (1, .long h), (3, .int (nI st))]) (by decide +kernel) rfl rfl (Nat.le_of_ble_eq_true rfl) ?_
  refine aw_lload_n dX3_mixStore_0 rfl ?_
  refine aw_lstore (ls' := [(4, _), (0, _), (1, _), (3, _)]) dX3_mixStore_1 (by decide) rfl ?_
  refine aw_iconst (v := nI 0) dX3_mixStore_3 rfl ?_
  refine aw_istore (ls' := [(6, _), (4, _), (0, _), (1, _), (3, _)]) dX3_mixStore_4 (by decide) rfl ?_
  have e0 := w1 11 0 rfl (by decide)
  rw [hN_0] at e0
  exact aw_pick [2, 4, 1, 0] rfl e0
theorem X_digest (hX : LX G K R) (hS : XS I (a, hs, B)) (hI : IV m k a) (hl1 : L1 a) (hmk : m + k ≤ 800000000) (hIS : ISv a) : Run G YX3_digest [.ref (G.1 0)] (K, R, I, J, z) (Up K R J z (some (.long (dgA a hs.length B))) (PX I (a, hs, B))) := by
  obtain ⟨xk0, xr0, xr1, xr2, xk35, xrs, xr5, xD, xL1, xL18, xLs⟩ := id hX
  have hk1 : K 1 = some (1, 7) := xL1.1
  have hk36 : K 36 = some (0, 2) := xD.1
  have hr36 := xD.2.1
  have hk37 := xD.2.2
  have h16 := hI.2.1
  have hB60 : B.length ≤ 60 := hS.2.2.2.1
  have xk3 : K 3 = some (10, 5) := xL1.2.2.2.2.2.1
  have xr11 : R 1 1 = .ref (G.1 3) := xL1.2.2.2.2.1
  have xr12 : R 1 2 = .ref (G.1 4) := xL1.2.2.2.2.2.2.1
  have xk4 : K 4 = some (14, 5) := xL1.2.2.2.2.2.2.2.1
  -- the buffer's characters
  have l6 : ∀ (d q : Nat) (I1 : Nat → Nat → Int32), PX I (a, hs, B) I1 → B.length - q = d → q ≤ B.length → AW G YX3_digest (MZ G YX3_digest (Up K R J z (some (.long (dgA a hs.length B))) (PX I (a, hs, B)))) 180 [(0, .ref (G.1 0)), (1, .long (hN (dBu B) q (dgL a hs.length B))), (3, .int (nI q))] [] (K, R, I1, J, z) 0 0 := by
    intro d
    induction d with
    | zero =>
      intro q I1 hP hd hq
      have hn : I1 36 1 = nI B.length := hP.1.2.2.1
      have hqq : q = B.length := by omega
      subst hqq
      refine aw_iload_n dX3_digest_180 rfl ?_
      refine aw_aload_n dX3_digest_181 rfl ?_
      refine aw_getR dX3_digest_182 flX3_26 rfl (by assumption) (by assumption) ?_
      refine aw_getI dX3_digest_185 flX3_180 rfl (by assumption) hn ?_
      refine aw_icmp_geN (tgt := 212) dX3_digest_188 (by decide) (by omega) (by omega) (fun hc188 => ?_) (fun hc188 => absurd hc188 (by omega))
      refine aw_lload_n dX3_digest_212 rfl ?_
      exact aw_lret dX3_digest_213 rfl (Nat.zero_le _) (Nat.zero_le _) ⟨rfl, I1, rfl, hP⟩
    | succ d ih =>
      intro q I1 hP hd hq
      have hn : I1 36 1 = nI B.length := hP.1.2.2.1
      have hbq : I1 37 q = nI (B.getD q 0) := (hP.1.2.2.2.2 q _ (bD_at (B := B) (by omega))).1
      refine aw_iload_n dX3_digest_180 rfl ?_
      refine aw_aload_n dX3_digest_181 rfl ?_
      refine aw_getR dX3_digest_182 flX3_26 rfl (by assumption) (by assumption) ?_
      refine aw_getI dX3_digest_185 flX3_180 rfl (by assumption) hn ?_
      refine aw_icmp_geN (tgt := 212) dX3_digest_188 (by decide) (by omega) (by omega) (fun hc188 => absurd hc188 (by omega)) (fun hc188 => ?_)
      refine aw_lload_n dX3_digest_191 rfl ?_
      refine aw_aload_n dX3_digest_192 rfl ?_
      refine aw_getR dX3_digest_193 flX3_26 rfl (by assumption) (by assumption) ?_
      refine aw_getR dX3_digest_196 flX3_183 rfl (by assumption) (by assumption) ?_
      refine aw_iload_n dX3_digest_199 rfl ?_
      refine aw_iald dX3_digest_200 (by assumption) (by omega) rfl (by omega) hbq ?_
      refine aw_i2l dX3_digest_201 ?_
      refine aw_sRd dX3_digest_202 cvX3_168 ⟨Nat.le_of_ble_eq_true rfl, Nat.le_of_ble_eq_true rfl⟩ (x_mixh _ _) rfl rfl (Nat.le_of_ble_eq_true rfl) ⟨rfl, rfl⟩ ⟨Nat.zero_le _, Nat.zero_le _⟩ ?_
      refine aw_lstore_n (ls' := [(1, _), (0, _), (3, _)]) dX3_digest_205 (by decide) rfl ?_
      refine aw_iincN (k := 1) (ls' := [(3, _), (1, _), (0, _)]) dX3_digest_206 rfl rfl (by decide) rfl ?_
      refine aw_goto (tgt := 180) dX3_digest_209 (by decide) ?_
      have e0 := ih (q + 1) I1 hP (by omega) (by omega)
      rw [hN_s] at e0
      exact aw_pick [2, 1, 0] rfl e0
  have l56 : ∀ (I1 : Nat → Nat → Int32), PX I (a, hs, B) I1 → AW G YX3_digest (MZ G YX3_digest (Up K R J z (some (.long (dgA a hs.length B))) (PX I (a, hs, B)))) 137 [(0, .ref (G.1 0)), (1, .long (dgC a hs.length))] [] (K, R, I1, J, z) 0 0 := by
    intro I1 hP
    have hN1 : CSt I1 1 a := hP.1.1
    have hn : I1 36 1 = nI B.length := hP.1.2.2.1
    have hsh : Shp (shareD a) := share_shp (by have := hI.2.2.2.2.2.2; omega)
    refine aw_lload_n dX3_digest_137 rfl ?_
    refine aw_aload_n dX3_digest_138 rfl ?_
    refine aw_getR dX3_digest_139 flX3_10 rfl (by assumption) (by assumption) ?_
    refine aw_vRd dX3_digest_142 cvX3_64 ⟨Nat.le_of_ble_eq_true rfl, Nat.le_of_ble_eq_true rfl⟩ (by assumption) ⟨_, rfl, rfl⟩ (c_healthiestStore xL1 hN1 hI (by omega)) rfl rfl (Nat.le_of_ble_eq_true rfl) ⟨rfl, rfl⟩ ⟨Nat.zero_le _, Nat.zero_le _⟩ ?_
    refine aw_i2l dX3_digest_145 ?_
    refine aw_sRd dX3_digest_146 cvX3_168 ⟨Nat.le_of_ble_eq_true rfl, Nat.le_of_ble_eq_true rfl⟩ (x_mixh _ _) rfl rfl (Nat.le_of_ble_eq_true rfl) ⟨rfl, rfl⟩ ⟨Nat.zero_le _, Nat.zero_le _⟩ ?_
    refine aw_lstore_n (ls' := [(1, _), (0, _)]) dX3_digest_149 (by decide) rfl ?_
    refine aw_lload_n dX3_digest_150 rfl ?_
    refine aw_aload_n dX3_digest_151 rfl ?_
    refine aw_getR dX3_digest_152 flX3_10 rfl (by assumption) (by assumption) ?_
    refine aw_vRd dX3_digest_155 cvX3_162 ⟨Nat.le_of_ble_eq_true rfl, Nat.le_of_ble_eq_true rfl⟩ (by assumption) ⟨_, rfl, rfl⟩ (c_goodShare xL1 hN1 hI (by omega)) rfl rfl (Nat.le_of_ble_eq_true rfl) ⟨rfl, rfl⟩ ⟨Nat.zero_le _, Nat.zero_le _⟩ ?_
    refine aw_sRd dX3_digest_158 cvX3_176 ⟨Nat.le_of_ble_eq_true rfl, Nat.le_of_ble_eq_true rfl⟩ (x_bits hsh) rfl rfl (Nat.le_of_ble_eq_true rfl) ⟨rfl, rfl⟩ ⟨Nat.zero_le _, Nat.zero_le _⟩ ?_
    refine aw_sRd dX3_digest_161 cvX3_168 ⟨Nat.le_of_ble_eq_true rfl, Nat.le_of_ble_eq_true rfl⟩ (x_mixh _ _) rfl rfl (Nat.le_of_ble_eq_true rfl) ⟨rfl, rfl⟩ ⟨Nat.zero_le _, Nat.zero_le _⟩ ?_
    refine aw_lstore_n (ls' := [(1, _), (0, _)]) dX3_digest_164 (by decide) rfl ?_
    refine aw_lload_n dX3_digest_165 rfl ?_
    refine aw_aload_n dX3_digest_166 rfl ?_
    refine aw_getR dX3_digest_167 flX3_26 rfl (by assumption) (by assumption) ?_
    refine aw_getI dX3_digest_170 flX3_180 rfl (by assumption) hn ?_
    refine aw_i2l dX3_digest_173 ?_
    refine aw_sRd dX3_digest_174 cvX3_168 ⟨Nat.le_of_ble_eq_true rfl, Nat.le_of_ble_eq_true rfl⟩ (x_mixh _ _) rfl rfl (Nat.le_of_ble_eq_true rfl) ⟨rfl, rfl⟩ ⟨Nat.zero_le _, Nat.zero_le _⟩ ?_
    refine aw_lstore_n (ls' := [(1, _), (0, _)]) dX3_digest_177 (by decide) rfl ?_
    refine aw_iconst (v := nI 0) dX3_digest_178 rfl ?_
    refine aw_istore_n (ls' := [(3, _), (1, _), (0, _)]) dX3_digest_179 (by decide) rfl ?_
    have e0 := l6 _ 0 I1 hP rfl (Nat.zero_le _)
    rw [hN_0] at e0
    exact aw_pick [2, 1, 0] rfl e0
  -- the calls on their way
  have l5 : ∀ (d p : Nat) (I1 : Nat → Nat → Int32), PX I (a, hs, B) I1 → a.2.1.length - p = d → p ≤ a.2.1.length → AW G YX3_digest (MZ G YX3_digest (Up K R J z (some (.long (dgA a hs.length B))) (PX I (a, hs, B)))) 87 [(0, .ref (G.1 0)), (1, .long (hN (dCl a) (4 * p) (dgTs a 4 (dgS a hs.length)))), (3, .int (nI p))] [] (K, R, I1, J, z) 0 0 := by
    intro d
    induction d with
    | zero =>
      intro p I1 hP hd hq
      have hN1 : CSt I1 1 a := hP.1.1
      have hn3 : I1 1 3 = nI a.2.1.length := hN1.2.2.1
      have hqq : p = a.2.1.length := by omega
      subst hqq
      refine aw_iload_n dX3_digest_87 rfl ?_
      refine aw_aload_n dX3_digest_88 rfl ?_
      refine aw_getR dX3_digest_89 flX3_10 rfl (by assumption) (by assumption) ?_
      refine aw_getI dX3_digest_92 flX3_143 rfl (by assumption) hn3 ?_
      refine aw_icmp_geN (tgt := 137) dX3_digest_95 (by decide) (by omega) (by omega) (fun hc95 => ?_) (fun hc95 => absurd hc95 (by omega))
      exact aw_pick [0, 1] rfl (l56 I1 hP)
    | succ d ih =>
      intro p I1 hP hd hq
      have hN1 : CSt I1 1 a := hP.1.1
      have hn3 : I1 1 3 = nI a.2.1.length := hN1.2.2.1
      have hcp := clD_at (a := a) (p := p) (by omega)
      have w : ∀ (d q : Nat), 4 - q = d → q ≤ 4 → AW G YX3_digest (MZ G YX3_digest (Up K R J z (some (.long (dgA a hs.length B))) (PX I (a, hs, B)))) 101 [(0, .ref (G.1 0)), (1, .long (hN (dCl a) (4 * p + q) (dgTs a 4 (dgS a hs.length)))), (3, .int (nI p)), (4, .int (nI q))] [] (K, R, I1, J, z) 0 0 := by
        intro d
        induction d with
        | zero =>
          intro q hd1 hq1
          have hqq : q = 4 := by omega
          subst hqq
          refine aw_iload dX3_digest_101 rfl ?_
          refine aw_iconst (v := nI 4) dX3_digest_103 rfl ?_
          refine aw_icmp_geN (tgt := 131) dX3_digest_104 (by decide) (by omega) (by omega) (fun hc104 => ?_) (fun hc104 => absurd hc104 (by omega))
          refine aw_iincN (k := 1) (ls' := [(3, _), (0, _), (1, _), (4, _)]) dX3_digest_131 rfl rfl (by decide) rfl ?_
          refine aw_goto (tgt := 87) dX3_digest_134 (by decide) ?_
          have e0 := ih (p + 1) I1 hP (by omega) (by omega)
          rw [show 4 * (p + 1) = 4 * p + 4 by omega] at e0
          exact aw_pick [1, 2, 0] rfl e0
        | succ d ih2 =>
          intro q hd1 hq1
          have hKc := (xL1.calls (w := q) (by omega)).2
          have hRc := (xL1.calls (w := q) (by omega)).1
          have hv := hN1.2.1.at (w := q) hcp (by omega)
          have hdc : dCl a (4 * p + q) = (nI (clD a p q)).toInt64 := by
            unfold dCl
            rw [show (4 * p + q) / 4 = p by omega, show (4 * p + q) % 4 = q by omega]
          refine aw_iload dX3_digest_101 rfl ?_
          refine aw_iconst (v := nI 4) dX3_digest_103 rfl ?_
          refine aw_icmp_geN (tgt := 131) dX3_digest_104 (by decide) (by omega) (by omega) (fun hc104 => absurd hc104 (by omega)) (fun hc104 => ?_)
          refine aw_lload_n dX3_digest_107 rfl ?_
          refine aw_aload_n dX3_digest_108 rfl ?_
          refine aw_getR dX3_digest_109 flX3_10 rfl (by assumption) (by assumption) ?_
          refine aw_getR dX3_digest_112 flX3_146 rfl (by assumption) (by assumption) ?_
          refine aw_iload dX3_digest_115 rfl ?_
          refine aw_aald dX3_digest_117 (by assumption) (by omega) (by omega) rfl (by omega) hRc ?_
          refine aw_iload_n dX3_digest_118 rfl ?_
          refine aw_iald dX3_digest_119 hKc (by omega) rfl (by omega) hv ?_
          refine aw_i2l dX3_digest_120 ?_
          refine aw_sRd dX3_digest_121 cvX3_168 ⟨Nat.le_of_ble_eq_true rfl, Nat.le_of_ble_eq_true rfl⟩ (x_mixh _ _) rfl rfl (Nat.le_of_ble_eq_true rfl) ⟨rfl, rfl⟩ ⟨Nat.zero_le _, Nat.zero_le _⟩ ?_
          refine aw_lstore_n (ls' := [(1, _), (0, _), (3, _), (4, _)]) dX3_digest_124 (by decide) rfl ?_
          refine aw_iincN (k := 1) (ls' := [(4, _), (1, _), (0, _), (3, _)]) dX3_digest_125 rfl rfl (by decide) rfl ?_
          refine aw_goto (tgt := 101) dX3_digest_128 (by decide) ?_
          have e0 := ih2 (q + 1) (by omega) (by omega)
          rw [show 4 * p + (q + 1) = (4 * p + q) + 1 by omega, hN_s, hdc] at e0
          exact aw_pick [2, 1, 3, 0] rfl e0
      refine aw_iload_n dX3_digest_87 rfl ?_
      refine aw_aload_n dX3_digest_88 rfl ?_
      refine aw_getR dX3_digest_89 flX3_10 rfl (by assumption) (by assumption) ?_
      refine aw_getI dX3_digest_92 flX3_143 rfl (by assumption) hn3 ?_
      refine aw_icmp_geN (tgt := 137) dX3_digest_95 (by decide) (by omega) (by omega) (fun hc95 => absurd hc95 (by omega)) (fun hc95 => ?_)
      refine aw_iconst (v := nI 0) dX3_digest_98 rfl ?_
      refine aw_istore (ls' := [(4, _), (0, _), (1, _), (3, _)]) dX3_digest_99 (by decide) rfl ?_
      exact aw_pick [1, 2, 3, 0] rfl (w 4 0 rfl (by decide))
  -- the stores
  have l4 : ∀ (d st : Nat) (I1 : Nat → Nat → Int32), PX I (a, hs, B) I1 → 4 - st = d → st ≤ 4 → AW G YX3_digest (MZ G YX3_digest (Up K R J z (some (.long (dgA a hs.length B))) (PX I (a, hs, B)))) 59 [(0, .ref (G.1 0)), (1, .long (dgTs a st (dgS a hs.length))), (3, .int (nI st))] [] (K, R, I1, J, z) 0 0 := by
    intro d
    induction d with
    | zero =>
      intro st I1 hP hd hq
      have hqq : st = 4 := by omega
      subst hqq
      refine aw_iload_n dX3_digest_59 rfl ?_
      refine aw_iconst (v := nI 4) dX3_digest_60 rfl ?_
      refine aw_icmp_geN (tgt := 85) dX3_digest_61 (by decide) (by omega) (by omega) (fun hc61 => ?_) (fun hc61 => absurd hc61 (by omega))
      refine aw_iconst (v := nI 0) dX3_digest_85 rfl ?_
      refine aw_istore_n (ls' := [(3, _), (0, _), (1, _)]) dX3_digest_86 (by decide) rfl ?_
      have e0 := l5 _ 0 I1 hP rfl (Nat.zero_le _)
      rw [Nat.mul_zero, hN_0] at e0
      exact aw_pick [1, 2, 0] rfl e0
    | succ d ih =>
      intro st I1 hP hd hq
      have hst : st < 4 := by omega
      refine aw_iload_n dX3_digest_59 rfl ?_
      refine aw_iconst (v := nI 4) dX3_digest_60 rfl ?_
      refine aw_icmp_geN (tgt := 85) dX3_digest_61 (by decide) (by omega) (by omega) (fun hc61 => absurd hc61 (by omega)) (fun hc61 => ?_)
      refine aw_aload_n dX3_digest_64 rfl ?_
      refine aw_iload_n dX3_digest_65 rfl ?_
      refine aw_bipush (v := nI 6) dX3_digest_66 rfl ?_
      refine aw_iconst (v := nI 3) dX3_digest_68 rfl ?_
      refine aw_vUp0 dX3_digest_69 cvX3_153 ⟨Nat.le_of_ble_eq_true rfl, Nat.le_of_ble_eq_true rfl⟩ (by assumption) ⟨_, rfl, rfl⟩ (x_foresee hX hP.1 hI hl1 hmk hst (by decide) (by decide)) rfl rfl (Nat.le_of_ble_eq_true rfl) ⟨rfl, rfl⟩ ⟨Nat.zero_le _, Nat.zero_le _⟩ (fun I69 hP69 => ?_)
      refine aw_aload_n dX3_digest_72 rfl ?_
      refine aw_lload_n dX3_digest_73 rfl ?_
      refine aw_iload_n dX3_digest_74 rfl ?_
      refine aw_vRd dX3_digest_75 cvX3_172 ⟨Nat.le_of_ble_eq_true rfl, Nat.le_of_ble_eq_true rfl⟩ (by assumption) ⟨_, rfl, rfl⟩ (x_mixStore (m := m) (k := k) hX (hP.s hP69.2).1 hP69.1 hI hl1 hIS hmk hst _) rfl rfl (Nat.le_of_ble_eq_true rfl) ⟨rfl, rfl⟩ ⟨Nat.zero_le _, Nat.zero_le _⟩ ?_
      refine aw_lstore_n (ls' := [(1, _), (0, _), (3, _)]) dX3_digest_78 (by decide) rfl ?_
      refine aw_iincN (k := 1) (ls' := [(3, _), (1, _), (0, _)]) dX3_digest_79 rfl rfl (by decide) rfl ?_
      refine aw_goto (tgt := 59) dX3_digest_82 (by decide) ?_
      have e0 := ih (st + 1) I69 (hP.s hP69.2) (by omega) (by omega)
      rw [dgTs_s] at e0
      exact aw_pick [2, 1, 0] rfl e0
  -- the settings
  have l2 : ∀ (d q : Nat) (I1 : Nat → Nat → Int32), PX I (a, hs, B) I1 → 5 - q = d → q ≤ 5 → AW G YX3_digest (MZ G YX3_digest (Up K R J z (some (.long (dgA a hs.length B))) (PX I (a, hs, B)))) 31 [(0, .ref (G.1 0)), (1, .long (hN (dSe a) q (hN (dCn a hs.length) 9 3037))), (3, .int (nI q))] [] (K, R, I1, J, z) 0 0 := by
    intro d
    induction d with
    | zero =>
      intro q I1 hP hd hq
      have hqq : q = 5 := by omega
      subst hqq
      refine aw_iload_n dX3_digest_31 rfl ?_
      refine aw_iconst (v := nI 5) dX3_digest_32 rfl ?_
      refine aw_icmp_geN (tgt := 57) dX3_digest_33 (by decide) (by omega) (by omega) (fun hc33 => ?_) (fun hc33 => absurd hc33 (by omega))
      refine aw_iconst (v := nI 0) dX3_digest_57 rfl ?_
      refine aw_istore_n (ls' := [(3, _), (0, _), (1, _)]) dX3_digest_58 (by decide) rfl ?_
      have e0 := l4 4 0 I1 hP rfl (by decide)
      rw [dgTs_0] at e0
      exact aw_pick [1, 2, 0] rfl e0
    | succ d ih =>
      intro q I1 hP hd hq
      have hsq : I1 3 q = nI (a.1 q) := hP.1.1.1.1 q (by omega)
      refine aw_iload_n dX3_digest_31 rfl ?_
      refine aw_iconst (v := nI 5) dX3_digest_32 rfl ?_
      refine aw_icmp_geN (tgt := 57) dX3_digest_33 (by decide) (by omega) (by omega) (fun hc33 => absurd hc33 (by omega)) (fun hc33 => ?_)
      refine aw_lload_n dX3_digest_36 rfl ?_
      refine aw_aload_n dX3_digest_37 rfl ?_
      refine aw_getR dX3_digest_38 flX3_10 rfl (by assumption) (by assumption) ?_
      refine aw_getR dX3_digest_41 flX3_81 rfl (by assumption) (by assumption) ?_
      refine aw_iload_n dX3_digest_44 rfl ?_
      refine aw_iald dX3_digest_45 (by assumption) (by omega) rfl (by omega) hsq ?_
      refine aw_i2l dX3_digest_46 ?_
      refine aw_sRd dX3_digest_47 cvX3_168 ⟨Nat.le_of_ble_eq_true rfl, Nat.le_of_ble_eq_true rfl⟩ (x_mixh _ _) rfl rfl (Nat.le_of_ble_eq_true rfl) ⟨rfl, rfl⟩ ⟨Nat.zero_le _, Nat.zero_le _⟩ ?_
      refine aw_lstore_n (ls' := [(1, _), (0, _), (3, _)]) dX3_digest_50 (by decide) rfl ?_
      refine aw_iincN (k := 1) (ls' := [(3, _), (1, _), (0, _)]) dX3_digest_51 rfl rfl (by decide) rfl ?_
      refine aw_goto (tgt := 31) dX3_digest_54 (by decide) ?_
      have e0 := ih (q + 1) I1 hP (by omega) (by omega)
      rw [hN_s] at e0
      exact aw_pick [2, 1, 0] rfl e0
  -- the counts
  have l1 : ∀ (d q : Nat) (I1 : Nat → Nat → Int32), PX I (a, hs, B) I1 → 9 - q = d → q ≤ 9 → AW G YX3_digest (MZ G YX3_digest (Up K R J z (some (.long (dgA a hs.length B))) (PX I (a, hs, B)))) 6 [(0, .ref (G.1 0)), (1, .long (hN (dCn a hs.length) q 3037)), (3, .int (nI q))] [] (K, R, I1, J, z) 0 0 := by
    intro d
    induction d with
    | zero =>
      intro q I1 hP hd hq
      have hqq : q = 9 := by omega
      subst hqq
      refine aw_iload_n dX3_digest_6 rfl ?_
      refine aw_bipush (v := nI 9) dX3_digest_7 rfl ?_
      refine aw_icmp_geN (tgt := 29) dX3_digest_9 (by decide) (by omega) (by omega) (fun hc9 => ?_) (fun hc9 => absurd hc9 (by omega))
      refine aw_iconst (v := nI 0) dX3_digest_29 rfl ?_
      refine aw_istore_n (ls' := [(3, _), (0, _), (1, _)]) dX3_digest_30 (by decide) rfl ?_
      have e0 := l2 5 0 I1 hP rfl (by decide)
      rw [hN_0] at e0
      exact aw_pick [1, 2, 0] rfl e0
    | succ d ih =>
      intro q I1 hP hd hq
      refine aw_iload_n dX3_digest_6 rfl ?_
      refine aw_bipush (v := nI 9) dX3_digest_7 rfl ?_
      refine aw_icmp_geN (tgt := 29) dX3_digest_9 (by decide) (by omega) (by omega) (fun hc9 => absurd hc9 (by omega)) (fun hc9 => ?_)
      refine aw_lload_n dX3_digest_12 rfl ?_
      refine aw_aload_n dX3_digest_13 rfl ?_
      refine aw_iload_n dX3_digest_14 rfl ?_
      refine aw_vRd dX3_digest_15 cvX3_150 ⟨Nat.le_of_ble_eq_true rfl, Nat.le_of_ble_eq_true rfl⟩ (by assumption) ⟨_, rfl, rfl⟩ (x_counted hX hP.1 hI hl1 hmk (w := q) (by omega)) rfl rfl (Nat.le_of_ble_eq_true rfl) ⟨rfl, rfl⟩ ⟨Nat.zero_le _, Nat.zero_le _⟩ ?_
      refine aw_i2l dX3_digest_18 ?_
      refine aw_sRd dX3_digest_19 cvX3_168 ⟨Nat.le_of_ble_eq_true rfl, Nat.le_of_ble_eq_true rfl⟩ (x_mixh _ _) rfl rfl (Nat.le_of_ble_eq_true rfl) ⟨rfl, rfl⟩ ⟨Nat.zero_le _, Nat.zero_le _⟩ ?_
      refine aw_lstore_n (ls' := [(1, _), (0, _), (3, _)]) dX3_digest_22 (by decide) rfl ?_
      refine aw_iincN (k := 1) (ls' := [(3, _), (1, _), (0, _)]) dX3_digest_23 rfl rfl (by decide) rfl ?_
      refine aw_goto (tgt := 6) dX3_digest_26 (by decide) ?_
      have e0 := ih (q + 1) I1 hP (by omega) (by omega)
      rw [hN_s] at e0
      exact aw_pick [2, 1, 0] rfl e0
  refine run_of (ls := [(0, .ref (G.1 0))]) (by decide +kernel) rfl rfl (Nat.le_of_ble_eq_true rfl) ?_
  refine aw_ldc2 dX3_digest_0 ldX3_166 ?_
  refine aw_lstore_n (ls' := [(1, _), (0, _)]) dX3_digest_3 (by decide) rfl ?_
  refine aw_iconst (v := nI 0) dX3_digest_4 rfl ?_
  refine aw_istore_n (ls' := [(3, _), (1, _), (0, _)]) dX3_digest_5 (by decide) rfl ?_
  have e0 := l1 9 0 I ⟨hS, FrC.rf⟩ rfl (by decide)
  rw [hN_0] at e0
  exact aw_pick [2, 1, 0] rfl e0
end XDIGEST
