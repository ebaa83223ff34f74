/-! THE LAW: what is told -/
def hx (h v : Int64) : Int64 := 31 * h + v
def hN (f : Nat → Int64) : Nat → Int64 → Int64
  | 0, h => h
  | n + 1, h => hx (hN f n h) (f n)
theorem hN_0 (f : Nat → Int64) (h : Int64) : hN f 0 h = h := rfl
theorem hN_s (f : Nat → Int64) (n : Nat) (h : Int64) : hN f (n + 1) h = hx (hN f n h) (f n) := rfl
def dCn (a : AA) : Nat → Int64 := fun w => (nI (cntN a 0 w)).toInt64
def dSe (a : AA) : Nat → Int64 := fun i => (nI (a.1 i)).toInt64
def dTl (a : AA) (st : Nat) : Nat → Int64 := fun w => (nI (tellN a st w)).toInt64
def dOw (a : AA) (p : Nat) : Nat → Int64 := fun w => (nI (clD a p w)).toInt64
def tdS (a : AA) (st : Nat) (h : Int64) : Int64 := hx (hx (hN (dTl a st) 11 h) (dlI a st 0).toInt64) (dlI a st 1).toInt64
def tdSs (a : AA) : Nat → Int64 → Int64
  | 0, h => h
  | n + 1, h => tdS a n (tdSs a n h)
theorem tdSs_0 (a : AA) (h : Int64) : tdSs a 0 h = h := rfl
theorem tdSs_s (a : AA) (n : Nat) (h : Int64) : tdSs a (n + 1) h = hx (hx (hN (dTl a n) 11 (tdSs a n h)) (dlI a n 0).toInt64) (dlI a n 1).toInt64 := rfl
def tdC (a : AA) : Nat → Int64 → Int64
  | 0, h => h
  | n + 1, h => hN (dOw a n) 4 (tdC a n h)
theorem tdC_0 (a : AA) (h : Int64) : tdC a 0 h = h := rfl
theorem tdC_s (a : AA) (n : Nat) (h : Int64) : tdC a (n + 1) h = hN (dOw a n) 4 (tdC a n h) := rfl
/-- what is told of a state -/
def toldV (a : AA) : Int64 := tdC a a.2.1.length (tdSs a 4 (hN (dSe a) 5 (hN (dCn a) 8 3)))
theorem cntN_8 {a : AA} {n w : Nat} (h : w < 8) : cntN a n w = cntN a 0 w := by
  match w, h with
  | 0, _ => rfl
  | 1, _ => rfl
  | 2, _ => rfl
  | 3, _ => rfl
  | 4, _ => rfl
  | 5, _ => rfl
  | 6, _ => rfl
  | 7, _ => rfl
/-- v is answered, the object holds s -/
def RX (K : Nat → Option (Nat × Nat)) (R : Nat → Nat → Value) (I : Nat → Nat → Int32) (J : Nat → Nat → Int64) (z : Nat) (v : Value) (s : ST) : RT → Sg → Prop := fun r σ' => r = .inl (some v) ∧ ∃ I', σ' = (K, R, I', J, z) ∧ XS I' s ∧ FrC I I'
section TOLD
variable {G : GG} {K : Nat → Option (Nat × Nat)} {R : Nat → Nat → Value} {I : Nat → Nat → Int32} {J : Nat → Nat → Int64} {z : Nat} {a : AA} {m k : Nat}
variable {B : List Nat} {hs : List AA}
theorem q_told (hX : LX G K R) (hG : GI1 m k a) (hmk : m + k ≤ 800000000) (hS : XS I (a, hs, B)) : Run G YL_told [.ref (G.1 0)] (K, R, I, J, z) (RX K R I J z (.long (toldV a)) (a, hs, B)) := by
  have h16 : a.2.1.length ≤ 16 := hG.1.2.1
  obtain ⟨H1, hH1⟩ : ∃ H, H = hN (dCn a) 8 3 := ⟨_, rfl⟩
  obtain ⟨H2, hH2⟩ : ∃ H, H = hN (dSe a) 5 H1 := ⟨_, rfl⟩
  obtain ⟨H3, hH3⟩ : ∃ H, H = tdSs a 4 H2 := ⟨_, rfl⟩
  have hV : toldV a = tdC a a.2.1.length H3 := by rw [hH3, hH2, hH1]; rfl
  have w4 : ∀ (d p : Nat) (I1 : Nat → Nat → Int32) (cu su : Nat), XS I1 (a, hs, B) → FrC I I1 → a.2.1.length - p = d → p ≤ a.2.1.length → cu ≤ 117 + 9 * p → su ≤ 6 * (117 + 9 * p) → AW G YL_told (MZ G YL_told (RX K R I J z (.long (toldV a)) (a, hs, B))) 129 [(0, .ref (G.1 0)), (1, .long (tdC a p H3)), (3, .int (nI p))] [] (K, R, I1, J, z) cu su := by
    intro d
    induction d with
    | zero =>
      intro p I1 cu su hS hF hd hp hcu hsu
      have e : p = a.2.1.length := by omega
      refine aw_iload_n dL_told_129 rfl ?_
      refine aw_aload_n dL_told_130 rfl ?_
      refine aw_iconst (v := nI 1) dL_told_131 rfl ?_
      refine aw_count (C := 262) (D := 1572) hX hG hmk hS (w := 1) (by omega) dL_told_132 cvL_12 ⟨Nat.le_of_ble_eq_true rfl, Nat.le_of_ble_eq_true rfl⟩ rfl rfl (by omega) (by omega) (Nat.le_of_ble_eq_true rfl) (fun I hS hf => ?_)
      replace hF := hF.tr hf
      refine aw_top (show nI (cntN a hs.length 1) = nI a.2.1.length from rfl) ?_
      refine aw_icmp_geN (tgt := 174) dL_told_135 (by decide) (by omega) (by omega) (fun hc135 => ?_) (fun hc135 => absurd hc135 (by omega))
      refine aw_lload_n dL_told_174 rfl ?_
      exact aw_lret dL_told_175 rfl (show _ ≤ 262 by omega) (show _ ≤ 1572 by omega) ⟨by rw [hV, e], _, rfl, hS, hF⟩
    | succ d ih =>
      intro p I1 cu su hS hF hd hp hcu hsu
      have w5 : ∀ (d w : Nat) (I1 : Nat → Nat → Int32) (cu su : Nat), XS I1 (a, hs, B) → FrC I I1 → 4 - w = d → w ≤ 4 → cu ≤ 117 + 9 * p + 1 + 2 * w → su ≤ 6 * (117 + 9 * p + 1 + 2 * w) → AW G YL_told (MZ G YL_told (RX K R I J z (.long (toldV a)) (a, hs, B))) 141 [(0, .ref (G.1 0)), (1, .long (hN (dOw a p) w (tdC a p H3))), (3, .int (nI p)), (4, .int (nI w))] [] (K, R, I1, J, z) cu su := by
        intro d
        induction d with
        | zero =>
          intro w I1 cu su hS hF hd hw hcu hsu
          have e : w = 4 := by omega
          subst e
          refine aw_iload dL_told_141 rfl ?_
          refine aw_iconst (v := nI 4) dL_told_143 rfl ?_
          refine aw_icmp_geN (tgt := 168) dL_told_144 (by decide) (by omega) (by omega) (fun hc144 => ?_) (fun hc144 => absurd hc144 (by omega))
          refine aw_iincN (k := 1) (ls' := [(3, _), (0, _), (1, _), (4, _)]) dL_told_168 rfl rfl (Nat.le_of_ble_eq_true rfl) rfl ?_
          refine aw_goto (tgt := 129) dL_told_171 (by decide) ?_
          have e0 := ih (p + 1) _ cu su hS hF (by omega) (by omega) (by omega) (by omega)
          rw [tdC_s] at e0
          exact aw_pick [1, 2, 0] rfl e0
        | succ d ih5 =>
          intro w I1 cu su hS hF hd hw hcu hsu
          refine aw_iload dL_told_141 rfl ?_
          refine aw_iconst (v := nI 4) dL_told_143 rfl ?_
          refine aw_icmp_geN (tgt := 168) dL_told_144 (by decide) (by omega) (by omega) (fun hc144 => absurd hc144 (by omega)) (fun hc144 => ?_)
          refine aw_ldc2 dL_told_147 ldL_10 ?_
          refine aw_lload_n dL_told_150 rfl ?_
          refine aw_lmul dL_told_151 ?_
          refine aw_aload_n dL_told_152 rfl ?_
          refine aw_iload_n dL_told_153 rfl ?_
          refine aw_iload dL_told_154 rfl ?_
          refine aw_onWay (C := 262) (D := 1572) hX hG hmk hS (p := p) (w := w) (by omega) (by omega) dL_told_156 cvL_28 ⟨Nat.le_of_ble_eq_true rfl, Nat.le_of_ble_eq_true rfl⟩ rfl rfl (by omega) (by omega) (Nat.le_of_ble_eq_true rfl) (fun I hS hf => ?_)
          replace hF := hF.tr hf
          refine aw_i2l dL_told_159 ?_
          refine aw_ladd dL_told_160 ?_
          refine aw_lstore_n (ls' := [(1, _), (0, _), (3, _), (4, _)]) dL_told_161 (Nat.le_of_ble_eq_true rfl) rfl ?_
          refine aw_iincN (k := 1) (ls' := [(4, _), (1, _), (0, _), (3, _)]) dL_told_162 rfl rfl (Nat.le_of_ble_eq_true rfl) rfl ?_
          refine aw_goto (tgt := 141) dL_told_165 (by decide) ?_
          have e0 := ih5 (w + 1) _ (cu + 2) (su + 12) hS hF (by omega) (by omega) (by omega) (by omega)
          rw [hN_s] at e0
          exact aw_pick [2, 1, 3, 0] rfl e0
      refine aw_iload_n dL_told_129 rfl ?_
      refine aw_aload_n dL_told_130 rfl ?_
      refine aw_iconst (v := nI 1) dL_told_131 rfl ?_
      refine aw_count (C := 262) (D := 1572) hX hG hmk hS (w := 1) (by omega) dL_told_132 cvL_12 ⟨Nat.le_of_ble_eq_true rfl, Nat.le_of_ble_eq_true rfl⟩ rfl rfl (by omega) (by omega) (Nat.le_of_ble_eq_true rfl) (fun I hS hf => ?_)
      replace hF := hF.tr hf
      refine aw_top (show nI (cntN a hs.length 1) = nI a.2.1.length from rfl) ?_
      refine aw_icmp_geN (tgt := 174) dL_told_135 (by decide) (by omega) (by omega) (fun hc135 => absurd hc135 (by omega)) (fun hc135 => ?_)
      refine aw_iconst (v := nI 0) dL_told_138 rfl ?_
      refine aw_istore (ls' := [(4, _), (0, _), (1, _), (3, _)]) dL_told_139 (Nat.le_of_ble_eq_true rfl) rfl ?_
      have e0 := w5 4 0 _ (cu + 1) (su + 6) hS hF rfl (by omega) (by omega) (by omega)
      rw [hN_0] at e0
      exact aw_pick [1, 2, 3, 0] rfl e0
  have w3 : ∀ (d s : Nat) (I1 : Nat → Nat → Int32) (cu su : Nat), XS I1 (a, hs, B) → FrC I I1 → 4 - s = d → s ≤ 4 → cu ≤ 13 + 26 * s → su ≤ 6 * (13 + 26 * s) → AW G YL_told (MZ G YL_told (RX K R I J z (.long (toldV a)) (a, hs, B))) 59 [(0, .ref (G.1 0)), (1, .long (tdSs a s H2)), (3, .int (nI s))] [] (K, R, I1, J, z) cu su := by
    intro d
    induction d with
    | zero =>
      intro s I1 cu su hS hF hd hs4 hcu hsu
      have e : s = 4 := by omega
      subst e
      refine aw_iload_n dL_told_59 rfl ?_
      refine aw_iconst (v := nI 4) dL_told_60 rfl ?_
      refine aw_icmp_geN (tgt := 127) dL_told_61 (by decide) (by omega) (by omega) (fun hc61 => ?_) (fun hc61 => absurd hc61 (by omega))
      refine aw_iconst (v := nI 0) dL_told_127 rfl ?_
      refine aw_istore_n (ls' := [(3, _), (0, _), (1, _)]) dL_told_128 (Nat.le_of_ble_eq_true rfl) rfl ?_
      have e0 := w4 a.2.1.length 0 _ cu su hS hF rfl (by omega) (by omega) (by omega)
      rw [tdC_0, hH3] at e0
      exact aw_pick [1, 2, 0] rfl e0
    | succ d ih =>
      intro s I1 cu su hS hF hd hs4 hcu hsu
      have w5 : ∀ (d w : Nat) (I1 : Nat → Nat → Int32) (cu su : Nat), XS I1 (a, hs, B) → FrC I I1 → 11 - w = d → w ≤ 11 → cu ≤ 13 + 26 * s + 2 * w → su ≤ 6 * (13 + 26 * s + 2 * w) → AW G YL_told (MZ G YL_told (RX K R I J z (.long (toldV a)) (a, hs, B))) 67 [(0, .ref (G.1 0)), (1, .long (hN (dTl a s) w (tdSs a s H2))), (3, .int (nI s)), (4, .int (nI w))] [] (K, R, I1, J, z) cu su := by
        intro d
        induction d with
        | zero =>
          intro w I1 cu su hS hF hd hw hcu hsu
          have e : w = 11 := by omega
          subst e
          refine aw_iload dL_told_67 rfl ?_
          refine aw_bipush (v := nI 11) dL_told_69 rfl ?_
          refine aw_icmp_geN (tgt := 95) dL_told_71 (by decide) (by omega) (by omega) (fun hc71 => ?_) (fun hc71 => absurd hc71 (by omega))
          refine aw_ldc2 dL_told_95 ldL_10 ?_
          refine aw_ldc2 dL_told_98 ldL_10 ?_
          refine aw_lload_n dL_told_101 rfl ?_
          refine aw_lmul dL_told_102 ?_
          refine aw_aload_n dL_told_103 rfl ?_
          refine aw_iload_n dL_told_104 rfl ?_
          refine aw_iconst (v := nI 0) dL_told_105 rfl ?_
          refine aw_delay (C := 262) (D := 1572) hX hG hmk hS (s := s) (p := 0) (by omega) (by omega) dL_told_106 cvL_25 ⟨Nat.le_of_ble_eq_true rfl, Nat.le_of_ble_eq_true rfl⟩ rfl rfl (by omega) (by omega) (Nat.le_of_ble_eq_true rfl) (fun I hS hf => ?_)
          replace hF := hF.tr hf
          refine aw_i2l dL_told_109 ?_
          refine aw_ladd dL_told_110 ?_
          refine aw_topl (show _ = hx _ _ from rfl) ?_
          refine aw_lmul dL_told_111 ?_
          refine aw_aload_n dL_told_112 rfl ?_
          refine aw_iload_n dL_told_113 rfl ?_
          refine aw_iconst (v := nI 1) dL_told_114 rfl ?_
          refine aw_delay (C := 262) (D := 1572) hX hG hmk hS (s := s) (p := 1) (by omega) (by omega) dL_told_115 cvL_25 ⟨Nat.le_of_ble_eq_true rfl, Nat.le_of_ble_eq_true rfl⟩ rfl rfl (by omega) (by omega) (Nat.le_of_ble_eq_true rfl) (fun I hS hf => ?_)
          replace hF := hF.tr hf
          refine aw_i2l dL_told_118 ?_
          refine aw_ladd dL_told_119 ?_
          refine aw_lstore_n (ls' := [(1, _), (0, _), (3, _), (4, _)]) dL_told_120 (Nat.le_of_ble_eq_true rfl) rfl ?_
          refine aw_iincN (k := 1) (ls' := [(3, _), (1, _), (0, _), (4, _)]) dL_told_121 rfl rfl (Nat.le_of_ble_eq_true rfl) rfl ?_
          refine aw_goto (tgt := 59) dL_told_124 (by decide) ?_
          have e0 := ih (s + 1) _ (cu + 2 + 2) (su + 12 + 12) hS hF (by omega) (by omega) (by omega) (by omega)
          rw [tdSs_s] at e0
          exact aw_pick [2, 1, 0] rfl e0
        | succ d ih5 =>
          intro w I1 cu su hS hF hd hw hcu hsu
          refine aw_iload dL_told_67 rfl ?_
          refine aw_bipush (v := nI 11) dL_told_69 rfl ?_
          refine aw_icmp_geN (tgt := 95) dL_told_71 (by decide) (by omega) (by omega) (fun hc71 => absurd hc71 (by omega)) (fun hc71 => ?_)
          refine aw_ldc2 dL_told_74 ldL_10 ?_
          refine aw_lload_n dL_told_77 rfl ?_
          refine aw_lmul dL_told_78 ?_
          refine aw_aload_n dL_told_79 rfl ?_
          refine aw_iload_n dL_told_80 rfl ?_
          refine aw_iload dL_told_81 rfl ?_
          refine aw_store (C := 262) (D := 1572) hX hG hmk hS (s := s) (w := w) (by omega) (by omega) dL_told_83 cvL_21 ⟨Nat.le_of_ble_eq_true rfl, Nat.le_of_ble_eq_true rfl⟩ rfl rfl (by omega) (by omega) (Nat.le_of_ble_eq_true rfl) (fun I hS hf => ?_)
          replace hF := hF.tr hf
          refine aw_i2l dL_told_86 ?_
          refine aw_ladd dL_told_87 ?_
          refine aw_lstore_n (ls' := [(1, _), (0, _), (3, _), (4, _)]) dL_told_88 (Nat.le_of_ble_eq_true rfl) rfl ?_
          refine aw_iincN (k := 1) (ls' := [(4, _), (1, _), (0, _), (3, _)]) dL_told_89 rfl rfl (Nat.le_of_ble_eq_true rfl) rfl ?_
          refine aw_goto (tgt := 67) dL_told_92 (by decide) ?_
          have e0 := ih5 (w + 1) _ (cu + 2) (su + 12) hS hF (by omega) (by omega) (by omega) (by omega)
          rw [hN_s] at e0
          exact aw_pick [2, 1, 3, 0] rfl e0
      refine aw_iload_n dL_told_59 rfl ?_
      refine aw_iconst (v := nI 4) dL_told_60 rfl ?_
      refine aw_icmp_geN (tgt := 127) dL_told_61 (by decide) (by omega) (by omega) (fun hc61 => absurd hc61 (by omega)) (fun hc61 => ?_)
      refine aw_iconst (v := nI 0) dL_told_64 rfl ?_
      refine aw_istore (ls' := [(4, _), (0, _), (1, _), (3, _)]) dL_told_65 (Nat.le_of_ble_eq_true rfl) rfl ?_
      have e0 := w5 11 0 _ cu su hS hF rfl (by omega) (by omega) (by omega)
      rw [hN_0] at e0
      exact aw_pick [1, 2, 3, 0] rfl e0
  have w2 : ∀ (d i : Nat) (I1 : Nat → Nat → Int32) (cu su : Nat), XS I1 (a, hs, B) → FrC I I1 → 5 - i = d → i ≤ 5 → cu ≤ 8 + i → su ≤ 6 * (8 + i) → AW G YL_told (MZ G YL_told (RX K R I J z (.long (toldV a)) (a, hs, B))) 33 [(0, .ref (G.1 0)), (1, .long (hN (dSe a) i H1)), (3, .int (nI i))] [] (K, R, I1, J, z) cu su := by
    intro d
    induction d with
    | zero =>
      intro i I1 cu su hS hF hd hi hcu hsu
      have e : i = 5 := by omega
      subst e
      refine aw_iload_n dL_told_33 rfl ?_
      refine aw_iconst (v := nI 5) dL_told_34 rfl ?_
      refine aw_icmp_geN (tgt := 57) dL_told_35 (by decide) (by omega) (by omega) (fun hc35 => ?_) (fun hc35 => absurd hc35 (by omega))
      refine aw_iconst (v := nI 0) dL_told_57 rfl ?_
      refine aw_istore_n (ls' := [(3, _), (0, _), (1, _)]) dL_told_58 (Nat.le_of_ble_eq_true rfl) rfl ?_
      have e0 := w3 4 0 _ cu su hS hF rfl (by omega) (by omega) (by omega)
      rw [tdSs_0, hH2] at e0
      exact aw_pick [1, 2, 0] rfl e0
    | succ d ih =>
      intro i I1 cu su hS hF hd hi hcu hsu
      refine aw_iload_n dL_told_33 rfl ?_
      refine aw_iconst (v := nI 5) dL_told_34 rfl ?_
      refine aw_icmp_geN (tgt := 57) dL_told_35 (by decide) (by omega) (by omega) (fun hc35 => absurd hc35 (by omega)) (fun hc35 => ?_)
      refine aw_ldc2 dL_told_38 ldL_10 ?_
      refine aw_lload_n dL_told_41 rfl ?_
      refine aw_lmul dL_told_42 ?_
      refine aw_aload_n dL_told_43 rfl ?_
      refine aw_iload_n dL_told_44 rfl ?_
      refine aw_setting (C := 262) (D := 1572) hX hG hmk hS (w := i) (by omega) dL_told_45 cvL_18 ⟨Nat.le_of_ble_eq_true rfl, Nat.le_of_ble_eq_true rfl⟩ rfl rfl (by omega) (by omega) (Nat.le_of_ble_eq_true rfl) (fun I hS hf => ?_)
      replace hF := hF.tr hf
      refine aw_i2l dL_told_48 ?_
      refine aw_ladd dL_told_49 ?_
      refine aw_lstore_n (ls' := [(1, _), (0, _), (3, _)]) dL_told_50 (Nat.le_of_ble_eq_true rfl) rfl ?_
      refine aw_iincN (k := 1) (ls' := [(3, _), (1, _), (0, _)]) dL_told_51 rfl rfl (Nat.le_of_ble_eq_true rfl) rfl ?_
      refine aw_goto (tgt := 33) dL_told_54 (by decide) ?_
      have e0 := ih (i + 1) _ (cu + 1) (su + 6) hS hF (by omega) (by omega) (by omega) (by omega)
      rw [hN_s] at e0
      exact aw_pick [2, 1, 0] rfl e0
  have w1 : ∀ (d i : Nat) (I1 : Nat → Nat → Int32) (cu su : Nat), XS I1 (a, hs, B) → FrC I I1 → 8 - i = d → i ≤ 8 → cu ≤ i → su ≤ 6 * i → AW G YL_told (MZ G YL_told (RX K R I J z (.long (toldV a)) (a, hs, B))) 6 [(0, .ref (G.1 0)), (1, .long (hN (dCn a) i 3)), (3, .int (nI i))] [] (K, R, I1, J, z) cu su := by
    intro d
    induction d with
    | zero =>
      intro i I1 cu su hS hF hd hi hcu hsu
      have e : i = 8 := by omega
      subst e
      refine aw_iload_n dL_told_6 rfl ?_
      refine aw_bipush (v := nI 8) dL_told_7 rfl ?_
      refine aw_icmp_geN (tgt := 31) dL_told_9 (by decide) (by omega) (by omega) (fun hc9 => ?_) (fun hc9 => absurd hc9 (by omega))
      refine aw_iconst (v := nI 0) dL_told_31 rfl ?_
      refine aw_istore_n (ls' := [(3, _), (0, _), (1, _)]) dL_told_32 (Nat.le_of_ble_eq_true rfl) rfl ?_
      have e0 := w2 5 0 _ cu su hS hF rfl (by omega) (by omega) (by omega)
      rw [hN_0, hH1] at e0
      exact aw_pick [1, 2, 0] rfl e0
    | succ d ih =>
      intro i I1 cu su hS hF hd hi hcu hsu
      refine aw_iload_n dL_told_6 rfl ?_
      refine aw_bipush (v := nI 8) dL_told_7 rfl ?_
      refine aw_icmp_geN (tgt := 31) dL_told_9 (by decide) (by omega) (by omega) (fun hc9 => absurd hc9 (by omega)) (fun hc9 => ?_)
      refine aw_ldc2 dL_told_12 ldL_10 ?_
      refine aw_lload_n dL_told_15 rfl ?_
      refine aw_lmul dL_told_16 ?_
      refine aw_aload_n dL_told_17 rfl ?_
      refine aw_iload_n dL_told_18 rfl ?_
      refine aw_count (C := 262) (D := 1572) hX hG hmk hS (w := i) (by omega) dL_told_19 cvL_12 ⟨Nat.le_of_ble_eq_true rfl, Nat.le_of_ble_eq_true rfl⟩ rfl rfl (by omega) (by omega) (Nat.le_of_ble_eq_true rfl) (fun I hS hf => ?_)
      replace hF := hF.tr hf
      rw [cntN_8 (n := hs.length) (show i < 8 by omega)]
      refine aw_i2l dL_told_22 ?_
      refine aw_ladd dL_told_23 ?_
      refine aw_lstore_n (ls' := [(1, _), (0, _), (3, _)]) dL_told_24 (Nat.le_of_ble_eq_true rfl) rfl ?_
      refine aw_iincN (k := 1) (ls' := [(3, _), (1, _), (0, _)]) dL_told_25 rfl rfl (Nat.le_of_ble_eq_true rfl) rfl ?_
      refine aw_goto (tgt := 6) dL_told_28 (by decide) ?_
      have e0 := ih (i + 1) _ (cu + 1) (su + 6) hS hF (by omega) (by omega) (by omega) (by omega)
      rw [hN_s] at e0
      exact aw_pick [2, 1, 0] rfl e0
  refine run_of (ls := [(0, .ref (G.1 0))]) (by decide +kernel) rfl rfl (Nat.le_of_ble_eq_true rfl) ?_
  refine aw_ldc2 dL_told_0 ldL_8 ?_
  refine aw_lstore_n (ls' := [(1, _), (0, _)]) dL_told_3 (Nat.le_of_ble_eq_true rfl) rfl ?_
  refine aw_iconst (v := nI 0) dL_told_4 rfl ?_
  refine aw_istore_n (ls' := [(3, _), (1, _), (0, _)]) dL_told_5 (Nat.le_of_ble_eq_true rfl) rfl ?_
  have e0 := w1 8 0 _ 0 0 hS FrC.rf rfl (by omega) (by omega) (by omega)
  rw [hN_0] at e0
  exact aw_pick [2, 1, 0] rfl e0
end TOLD
