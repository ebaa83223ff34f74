/-! THE LAW: holds, its walk -/
def ON (I : Nat → Nat → Int32) (z : Nat) (f : Nat → Nat) : Prop := ∀ s, s < 4 → I z s = nI (f s)
def FrZ (z : Nat) (I I' : Nat → Nat → Int32) : Prop := ∀ q, 140 ≤ q → q ≠ z → I' q = I q
theorem ON.fr {I I' : Nat → Nat → Int32} {z : Nat} {f : Nat → Nat} (h : ON I z f) (hz : 140 ≤ z) (hf : FrC I I') : ON I' z f := fun s hs => by rw [hf z hz]; exact h s hs
theorem FrZ.ad {I0 I I' : Nat → Nat → Int32} {z : Nat} (h : FrZ z I0 I) (hf : FrC I I') : FrZ z I0 I' := fun q a b => (hf q a).trans (h q a b)
theorem on_up {I0 I : Nat → Nat → Int32} {z : Nat} {pre : List Cl} {c : Cl} {s : ST} (hS : XS I s) (hF : FrZ z I0 I) (hon : ON I z (cnt pre)) (hz : 140 ≤ z) : XS (up2 I z (c 0) (nI (cnt pre (c 0) + 1))) s ∧ FrZ z I0 (up2 I z (c 0) (nI (cnt pre (c 0) + 1))) ∧ ON (up2 I z (c 0) (nI (cnt pre (c 0) + 1))) z (cnt (pre ++ [c])) := by
  refine ⟨hS.keep (fun q hq => FrO.up q (by omega)), fun q h1 h2 => (FrO.up q h2).trans (hF q h1 h2), fun s hs => ?_⟩
  rw [up2_o]
  unfold cnt at hon ⊢
  rw [List.countP_append, List.countP_cons, List.countP_nil, Nat.zero_add]
  by_cases e : s = c 0
  · subst e
    rw [if_pos rfl, beq_self_eq_true, if_pos rfl]
  · rw [if_neg e, show (c 0 == s) = false by simpa using fun q => e q.symm]
    exact hon s hs
/-- it answers 1; one cell is made -/
def HP (K : Nat → Option (Nat × Nat)) (R : Nat → Nat → Value) (I : Nat → Nat → Int32) (z : Nat) (s : ST) : RT → Sg → Prop := fun r σ' => r = .inl (some (.int (nI 1))) ∧ ∃ K' R' I' J', σ' = (K', R', I', J', z + 1) ∧ (∀ q, q ≠ z → K' q = K q ∧ R' q = R q) ∧ XS I' s ∧ FrZ z I I'
def smN (a : AA) : Nat → Nat
  | 0 => 0
  | n + 1 => smN a n + a.2.2 n 9
section HOLDS
variable {G : GG} {K K0 : Nat → Option (Nat × Nat)} {R R0 : Nat → Nat → Value} {I I0 : Nat → Nat → Int32} {J : Nat → Nat → Int64} {z : Nat} {a : AA} {m k : Nat}
variable {B : List Nat} {hs : List AA}
abbrev HZ (G : GG) (K0 : Nat → Option (Nat × Nat)) (R0 : Nat → Nat → Value) (I0 : Nat → Nat → Int32) (z : Nat) (s : ST) : ZT := MZ G YL_holds (HP K0 R0 I0 z s)
theorem h_calls (hX : LX G K R) (hG : GI1 m k a) (hmk : m + k ≤ 800000000) (hKz : K z = some (10, 4)) (hz : 140 ≤ z ∧ z < 1000) (nx : ∀ (I : Nat → Nat → Int32) (cu su : Nat), XS I (a, hs, B) → FrZ z I0 I → ON I z (cnt a.2.1) → cu ≤ 146 → su ≤ 874 → AW G YL_holds (HZ G K0 R0 I0 z (a, hs, B)) 84 [(0, .ref (G.1 0)), (1, .int (nI (tmL a.2.1))), (2, .ref (G.1 z))] [] (K, R, I, J, z + 1) cu su) :
    ∀ (suf pre : List Cl) (I : Nat → Nat → Int32) (cu su : Nat), a.2.1 = pre ++ suf → XS I (a, hs, B) → FrZ z I0 I → ON I z (cnt pre) → cu ≤ 1 + 9 * pre.length → su ≤ 4 + 54 * pre.length → AW G YL_holds (HZ G K0 R0 I0 z (a, hs, B)) 8 [(0, .ref (G.1 0)), (1, .int (nI (tmL pre))), (2, .ref (G.1 z)), (3, .int (nI pre.length))] [] (K, R, I, J, z + 1) cu su := by
  have h16 : a.2.1.length ≤ 16 := hG.1.2.1
  intro suf
  induction suf with
  | nil =>
    intro pre I cu su hp hS hF hon hcu hsu
    rw [List.append_nil] at hp
    subst hp
    refine aw_iload_n dL_holds_8 rfl ?_
    refine aw_aload_n dL_holds_9 rfl ?_
    refine aw_iconst (v := nI 1) dL_holds_10 rfl ?_
    refine aw_count (C := 300) (D := 1810) hX hG hmk hS (w := 1) (by omega) dL_holds_11 cvL_12 ⟨Nat.le_of_ble_eq_true rfl, Nat.le_of_ble_eq_true rfl⟩ rfl rfl (by omega) (by omega) (Nat.le_of_ble_eq_true rfl) (fun I hS hf => ?_)
    replace hF := hF.ad hf
    replace hon := hon.fr hz.1 hf
    refine aw_top (show nI (cntN a hs.length 1) = nI a.2.1.length from rfl) ?_
    refine aw_icmp_geN (tgt := 84) dL_holds_14 (by decide) (by omega) (by omega) (fun hc14 => ?_) (fun hc14 => absurd hc14 (by omega))
    exact aw_pick [0, 1, 2] rfl (nx _ _ _ hS hF hon (by omega) (by omega))
  | cons c cs ih =>
    intro pre I cu su hp hS hF hon hcu hsu
    have hlen : a.2.1.length = pre.length + cs.length + 1 := by rw [hp]; simp [Nat.add_assoc]
    have hcm : c ∈ a.2.1 := by rw [hp]; exact List.mem_append_right _ List.mem_cons_self
    have hcD : clD a pre.length = c := by
      have h1 := clD_at (a := a) (p := pre.length) (by omega)
      have h2 : a.2.1[pre.length]? = some c := by rw [hp]; simp
      exact Option.some.inj (h1.symm.trans h2)
    obtain ⟨c0, -, -, -, c3, -, -⟩ := hG.1.2.2.1 c hcm
    have hpl : ∀ x ∈ pre, x 0 < 4 ∧ x 3 ≤ 1 := fun x hx => by
      obtain ⟨d0, -, -, -, d3, -, -⟩ := hG.1.2.2.1 x (by rw [hp]; exact List.mem_append_left _ hx)
      exact ⟨d0, d3⟩
    have hM := tmL_lt pre hpl
    have hcn : cnt pre (c 0) ≤ pre.length := List.countP_le_length
    have k66 : ∀ (I : Nat → Nat → Int32) (cu su : Nat), XS I (a, hs, B) → FrZ z I0 I → ON I z (cnt (pre ++ [c])) → cu ≤ 1 + 9 * pre.length + 7 → su ≤ 4 + 54 * pre.length + 42 → AW G YL_holds (HZ G K0 R0 I0 z (a, hs, B)) 66 [(0, .ref (G.1 0)), (1, .int (nI (tmL pre))), (2, .ref (G.1 z)), (3, .int (nI pre.length)), (4, .int (nI (c 0)))] [] (K, R, I, J, z + 1) cu su := by
      intro I cu su hS hF hon hcu hsu
      refine aw_iload_n dL_holds_66 rfl ?_
      refine aw_aload_n dL_holds_67 rfl ?_
      refine aw_iload_n dL_holds_68 rfl ?_
      refine aw_iconst (v := nI 3) dL_holds_69 rfl ?_
      refine aw_onWay (C := 300) (D := 1810) hX hG hmk hS (p := pre.length) (w := 3) (by omega) (by decide) dL_holds_70 cvL_28 ⟨Nat.le_of_ble_eq_true rfl, Nat.le_of_ble_eq_true rfl⟩ rfl rfl (by omega) (by omega) (Nat.le_of_ble_eq_true rfl) (fun I hS hf => ?_)
      replace hF := hF.ad hf
      replace hon := hon.fr hz.1 hf
      rw [hcD]
      refine aw_iload dL_holds_73 rfl ?_
      refine aw_ishl dL_holds_75 ?_
      refine aw_top (shl1 (by omega) (Nat.lt_trans (one_lt c0 c3) (by decide))) ?_
      refine aw_ior dL_holds_76 ?_
      refine aw_top ((ior_nI _ _).trans (congrArg nI (tmL_app pre c).symm)) ?_
      refine aw_istore_n (ls' := [(1, _), (0, _), (2, _), (3, _), (4, _)]) dL_holds_77 (Nat.le_of_ble_eq_true rfl) rfl ?_
      refine aw_iincN (k := 1) (ls' := [(3, _), (1, _), (0, _), (2, _), (4, _)]) dL_holds_78 rfl rfl (Nat.le_of_ble_eq_true rfl) rfl ?_
      refine aw_goto (tgt := 8) dL_holds_81 (by decide) ?_
      have e0 := ih (pre ++ [c]) _ (cu + 2) (su + 12) (by rw [hp, List.append_assoc]; rfl) hS hF hon (by rw [List.length_append]; show _ ≤ 1 + 9 * (pre.length + 1); omega) (by rw [List.length_append]; show _ ≤ 4 + 54 * (pre.length + 1); omega)
      rw [show (pre ++ [c]).length = pre.length + 1 from List.length_append] at e0
      exact aw_pick [2, 1, 3, 0] rfl e0
    refine aw_iload_n dL_holds_8 rfl ?_
    refine aw_aload_n dL_holds_9 rfl ?_
    refine aw_iconst (v := nI 1) dL_holds_10 rfl ?_
    refine aw_count (C := 300) (D := 1810) hX hG hmk hS (w := 1) (by omega) dL_holds_11 cvL_12 ⟨Nat.le_of_ble_eq_true rfl, Nat.le_of_ble_eq_true rfl⟩ rfl rfl (by omega) (by omega) (Nat.le_of_ble_eq_true rfl) (fun I hS hf => ?_)
    replace hF := hF.ad hf
    replace hon := hon.fr hz.1 hf
    refine aw_top (show nI (cntN a hs.length 1) = nI a.2.1.length from rfl) ?_
    refine aw_icmp_geN (tgt := 84) dL_holds_14 (by decide) (by omega) (by omega) (fun hc14 => absurd hc14 (by omega)) (fun hc14 => ?_)
    refine aw_aload_n dL_holds_17 rfl ?_
    refine aw_iload_n dL_holds_18 rfl ?_
    refine aw_iconst (v := nI 0) dL_holds_19 rfl ?_
    refine aw_onWay (C := 300) (D := 1810) hX hG hmk hS (p := pre.length) (w := 0) (by omega) (by decide) dL_holds_20 cvL_28 ⟨Nat.le_of_ble_eq_true rfl, Nat.le_of_ble_eq_true rfl⟩ rfl rfl (by omega) (by omega) (Nat.le_of_ble_eq_true rfl) (fun I hS hf => ?_)
    replace hF := hF.ad hf
    replace hon := hon.fr hz.1 hf
    rw [hcD]
    refine aw_istore (ls' := [(4, _), (0, _), (1, _), (2, _), (3, _)]) dL_holds_23 (Nat.le_of_ble_eq_true rfl) rfl ?_
    refine aw_aload_n dL_holds_25 rfl ?_
    refine aw_iload dL_holds_26 rfl ?_
    refine aw_dup2 dL_holds_28 rfl rfl ?_
    refine aw_iald dL_holds_29 hKz (by omega) rfl (by omega) (hon (c 0) c0) ?_
    refine aw_iconst (v := nI 1) dL_holds_30 rfl ?_
    first | refine aw_iaddN dL_holds_31 ?_ | refine aw_iadd dL_holds_31 ?_
    refine aw_iast dL_holds_32 hKz (by omega) (by omega) rfl (by omega) ?_
    obtain ⟨hS, hF, hon⟩ := on_up (c := c) hS hF hon hz.1
    generalize up2 I z (c 0) (nI (cnt pre (c 0) + 1)) = I at hS hF hon ⊢
    refine aw_aload_n dL_holds_33 rfl ?_
    refine aw_iload_n dL_holds_34 rfl ?_
    refine aw_iconst (v := nI 3) dL_holds_35 rfl ?_
    refine aw_onWay (C := 300) (D := 1810) hX hG hmk hS (p := pre.length) (w := 3) (by omega) (by decide) dL_holds_36 cvL_28 ⟨Nat.le_of_ble_eq_true rfl, Nat.le_of_ble_eq_true rfl⟩ rfl rfl (by omega) (by omega) (Nat.le_of_ble_eq_true rfl) (fun I hS hf => ?_)
    replace hF := hF.ad hf
    replace hon := hon.fr hz.1 hf
    rw [hcD]
    refine aw_iconst (v := nI 1) dL_holds_39 rfl ?_
    refine aw_icmp_neN (tgt := 66) dL_holds_40 (by decide) (by omega) (by omega) (fun hc40 => ?_) (fun hc40 => ?_)
    · exact aw_pick [1, 2, 3, 4, 0] rfl (k66 _ _ _ hS hF hon (by omega) (by omega))
    · refine aw_aload_n dL_holds_43 rfl ?_
      refine aw_iload dL_holds_44 rfl ?_
      refine aw_iconst (v := nI 0) dL_holds_46 rfl ?_
      refine aw_store (C := 300) (D := 1810) hX hG hmk hS (s := c 0) (w := 0) c0 (by decide) dL_holds_47 cvL_21 ⟨Nat.le_of_ble_eq_true rfl, Nat.le_of_ble_eq_true rfl⟩ rfl rfl (by omega) (by omega) (Nat.le_of_ble_eq_true rfl) (fun I hS hf => ?_)
      replace hF := hF.ad hf
      replace hon := hon.fr hz.1 hf
      obtain ⟨t1, t2⟩ := tm_ahead hG.1 hp hc40
      rw [show tellN a (c 0) 0 = 2 from t1]
      refine aw_iconst (v := nI 2) dL_holds_50 rfl ?_
      refine aw_icmp_neN (tgt := 64) dL_holds_51 (by decide) (by omega) (by omega) (fun hc51 => absurd hc51 (by omega)) (fun hc51 => ?_)
      refine aw_iload_n dL_holds_54 rfl ?_
      refine aw_iload dL_holds_55 rfl ?_
      refine aw_ishr dL_holds_57 ?_
      refine aw_iconst (v := nI 1) dL_holds_58 rfl ?_
      refine aw_iand dL_holds_59 ?_
      refine aw_top ((shr1 (by omega) (by omega)).trans (congrArg nI t2)) ?_
      refine aw_iconst (v := nI 1) dL_holds_60 rfl ?_
      refine aw_icmp_neN (tgt := 66) dL_holds_61 (by decide) (by omega) (by omega) (fun hc61 => ?_) (fun hc61 => absurd hc61 (by omega))
      exact aw_pick [1, 2, 3, 4, 0] rfl (k66 _ _ _ hS hF hon (by omega) (by omega))
theorem h_stores (hX : LX G K R) (hG : GI1 m k a) (hmk : m + k ≤ 800000000) (hKz : K z = some (10, 4)) (hz : 140 ≤ z ∧ z < 1000) (nx : ∀ (I : Nat → Nat → Int32) (cu su : Nat), XS I (a, hs, B) → FrZ z I0 I → ON I z (cnt a.2.1) → cu ≤ 266 → su ≤ 1594 → AW G YL_holds (HZ G K0 R0 I0 z (a, hs, B)) 400 [(0, .ref (G.1 0)), (3, .int (nI (ovN a 2 4))), (4, .int (nI (ovN a 3 4))), (5, .int (nI (smN a 4))), (6, .int (nI (ovN a 6 4)))] [] (K, R, I, J, z + 1) cu su) :
    ∀ (d s : Nat) (I : Nat → Nat → Int32) (cu su : Nat), 4 - s = d → s ≤ 4 → XS I (a, hs, B) → FrZ z I0 I → ON I z (cnt a.2.1) → cu ≤ 146 + 30 * s → su ≤ 874 + 180 * s → AW G YL_holds (HZ G K0 R0 I0 z (a, hs, B)) 98 [(0, .ref (G.1 0)), (1, .int (nI (tmL a.2.1))), (2, .ref (G.1 z)), (3, .int (nI (ovN a 2 s))), (4, .int (nI (ovN a 3 s))), (5, .int (nI (smN a s))), (6, .int (nI (ovN a 6 s))), (7, .int (nI s))] [] (K, R, I, J, z + 1) cu su := by
  have h16 : a.2.1.length ≤ 16 := hG.1.2.1
  have hM := tmL_lt a.2.1 (fun x hx => ⟨(hG.1.2.2.1 x hx).1, (hG.1.2.2.1 x hx).2.2.2.2.1⟩)
  have hg1 : a.1 1 ≤ 16 := hG.1.1.2.1.2
  intro d
  induction d with
  | zero =>
    intro s I cu su hd hs4 hS hF hon hcu hsu
    have e : s = 4 := by omega
    subst e
    refine aw_iload dL_holds_98 rfl ?_
    refine aw_iconst (v := nI 4) dL_holds_100 rfl ?_
    refine aw_icmp_geN (tgt := 400) dL_holds_101 (by decide) (by omega) (by omega) (fun hc101 => ?_) (fun hc101 => absurd hc101 (by omega))
    exact aw_pick [0, 3, 4, 5, 6] rfl (nx _ _ _ hS hF hon (by omega) (by omega))
  | succ d ih =>
    intro s I cu su hd hs4 hS hF hon hcu hsu
    have hs : s < 4 := by omega
    have ht := hG.1.2.2.2.2.1 s hs
    obtain ⟨-, -, -, b3, -, -, b6, b7, b8, b9, b10, -, -⟩ := ht
    have f1 : tellN a s 1 ≤ a.1 1 := inWin_le
    have f2 : tellN a s 2 ≤ tellN a s 1 := bits_le _ _
    have f8 : tellN a s 8 ≤ 16 := Nat.le_trans List.countP_le_length h16
    have q5 : tellN a s 3 = a.2.2 s 5 := rfl
    have q6 : tellN a s 4 = a.2.2 s 6 := rfl
    have qn : a.2.2 s 2 ≠ 2 → untilI a s = nI (a.2.2 s 5) := fun h => until_free hs hG (fun c hc q => by
      have q : c 0 = s ∧ c 3 = 1 := by simpa [isT] using q
      have := (hG.1.2.2.1 c hc).2.2.2.2.2.2 q.2
      rw [q.1] at this
      exact h this)
    have qw : a.2.2 s 2 ≠ 0 → tellN a s 1 = 0 := fun h => if_neg h
    rcases (show a.2.2 s 2 = 0 ∨ a.2.2 s 2 = 1 ∨ a.2.2 s 2 = 2 by omega) with hx | hx | hx
    · have q0 : tellN a s 0 = 0 := hx
      have q3 : tellN a s 3 = 0 := by omega
      have q4 : tellN a s 4 = 0 := by rw [q6]; exact b9 hx
      have qu : untilI a s = nI 0 := by rw [qn (by omega), ← q5, q3]
      have qc : ovN a 6 s + 1 = ovN a 6 (s + 1) := by rw [ovN, if_pos rfl, if_pos hx]
      refine aw_iload dL_holds_98 rfl ?_
      refine aw_iconst (v := nI 4) dL_holds_100 rfl ?_
      refine aw_icmp_geN (tgt := 400) dL_holds_101 (by decide) (by omega) (by omega) (fun hc101 => absurd hc101 (by omega)) (fun hc101 => ?_)
      refine aw_aload_n dL_holds_104 rfl ?_
      refine aw_iload dL_holds_105 rfl ?_
      refine aw_iconst (v := nI 0) dL_holds_107 rfl ?_
      refine aw_store (C := 300) (D := 1810) hX hG hmk hS (s := s) (w := 0) hs (by decide) dL_holds_108 cvL_21 ⟨Nat.le_of_ble_eq_true rfl, Nat.le_of_ble_eq_true rfl⟩ rfl rfl (by omega) (by omega) (Nat.le_of_ble_eq_true rfl) (fun I hS hf => ?_)
      replace hF := hF.ad hf
      replace hon := hon.fr hz.1 hf
      rw [q0]
      refine aw_istore (ls' := [(8, _), (0, _), (1, _), (2, _), (3, _), (4, _), (5, _), (6, _), (7, _)]) dL_holds_111 (Nat.le_of_ble_eq_true rfl) rfl ?_
      refine aw_iload_n dL_holds_113 rfl ?_
      refine aw_aload_n dL_holds_114 rfl ?_
      refine aw_iload dL_holds_115 rfl ?_
      refine aw_iconst (v := nI 5) dL_holds_117 rfl ?_
      refine aw_store (C := 300) (D := 1810) hX hG hmk hS (s := s) (w := 5) hs (by decide) dL_holds_118 cvL_21 ⟨Nat.le_of_ble_eq_true rfl, Nat.le_of_ble_eq_true rfl⟩ rfl rfl (by omega) (by omega) (Nat.le_of_ble_eq_true rfl) (fun I hS hf => ?_)
      replace hF := hF.ad hf
      replace hon := hon.fr hz.1 hf
      first | refine aw_iaddN dL_holds_121 ?_ | refine aw_iadd dL_holds_121 ?_
      refine aw_top (show _ = nI (ovN a 2 (s + 1)) from rfl) ?_
      refine aw_istore_n (ls' := [(3, _), (8, _), (0, _), (1, _), (2, _), (4, _), (5, _), (6, _), (7, _)]) dL_holds_122 (Nat.le_of_ble_eq_true rfl) rfl ?_
      refine aw_iload dL_holds_123 rfl ?_
      refine aw_aload_n dL_holds_125 rfl ?_
      refine aw_iload dL_holds_126 rfl ?_
      refine aw_bipush (v := nI 6) dL_holds_128 rfl ?_
      refine aw_store (C := 300) (D := 1810) hX hG hmk hS (s := s) (w := 6) hs (by decide) dL_holds_130 cvL_21 ⟨Nat.le_of_ble_eq_true rfl, Nat.le_of_ble_eq_true rfl⟩ rfl rfl (by omega) (by omega) (Nat.le_of_ble_eq_true rfl) (fun I hS hf => ?_)
      replace hF := hF.ad hf
      replace hon := hon.fr hz.1 hf
      first | refine aw_iaddN dL_holds_133 ?_ | refine aw_iadd dL_holds_133 ?_
      refine aw_top (show _ = nI (ovN a 3 (s + 1)) from rfl) ?_
      refine aw_istore (ls' := [(4, _), (3, _), (8, _), (0, _), (1, _), (2, _), (5, _), (6, _), (7, _)]) dL_holds_134 (Nat.le_of_ble_eq_true rfl) rfl ?_
      refine aw_iload dL_holds_136 rfl ?_
      refine aw_aload_n dL_holds_138 rfl ?_
      refine aw_iload dL_holds_139 rfl ?_
      refine aw_bipush (v := nI 7) dL_holds_141 rfl ?_
      refine aw_store (C := 300) (D := 1810) hX hG hmk hS (s := s) (w := 7) hs (by decide) dL_holds_143 cvL_21 ⟨Nat.le_of_ble_eq_true rfl, Nat.le_of_ble_eq_true rfl⟩ rfl rfl (by omega) (by omega) (Nat.le_of_ble_eq_true rfl) (fun I hS hf => ?_)
      replace hF := hF.ad hf
      replace hon := hon.fr hz.1 hf
      first | refine aw_iaddN dL_holds_146 ?_ | refine aw_iadd dL_holds_146 ?_
      refine aw_top (show _ = nI (smN a (s + 1)) from rfl) ?_
      refine aw_istore (ls' := [(5, _), (4, _), (3, _), (8, _), (0, _), (1, _), (2, _), (6, _), (7, _)]) dL_holds_147 (Nat.le_of_ble_eq_true rfl) rfl ?_
      refine aw_iload dL_holds_149 rfl ?_
      refine aw_iload dL_holds_151 rfl ?_
      refine aw_if_neN (tgt := 160) dL_holds_153 (by decide) (by omega) (fun hc153 => absurd hc153 (by omega)) (fun hc153 => ?_)
      refine aw_iconst (v := nI 1) dL_holds_156 rfl ?_
      refine aw_goto (tgt := 161) dL_holds_157 (by decide) ?_
      first | refine aw_iaddN dL_holds_161 ?_ | refine aw_iadd dL_holds_161 ?_
      refine aw_top (congrArg nI qc) ?_
      refine aw_istore (ls' := [(6, _), (5, _), (4, _), (3, _), (8, _), (0, _), (1, _), (2, _), (7, _)]) dL_holds_162 (Nat.le_of_ble_eq_true rfl) rfl ?_
      refine aw_aload_n dL_holds_164 rfl ?_
      refine aw_iload dL_holds_165 rfl ?_
      refine aw_freeIn (C := 300) (D := 1810) hX hG hmk hS (s := s) hs dL_holds_167 cvL_62 ⟨Nat.le_of_ble_eq_true rfl, Nat.le_of_ble_eq_true rfl⟩ rfl rfl (by omega) (by omega) (Nat.le_of_ble_eq_true rfl) (fun I hS hf => ?_)
      replace hF := hF.ad hf
      replace hon := hon.fr hz.1 hf
      rw [qu]
      refine aw_istore (ls' := [(9, _), (6, _), (5, _), (4, _), (3, _), (8, _), (0, _), (1, _), (2, _), (7, _)]) dL_holds_170 (Nat.le_of_ble_eq_true rfl) rfl ?_
      refine aw_iload dL_holds_172 rfl ?_
      refine aw_iconst (v := nI 1) dL_holds_174 rfl ?_
      refine aw_icmp_neN (tgt := 225) dL_holds_175 (by decide) (by omega) (by omega) (fun hc175 => ?_) (fun hc175 => absurd hc175 (by omega))
      refine aw_aload_n dL_holds_225 rfl ?_
      refine aw_iload dL_holds_226 rfl ?_
      refine aw_iconst (v := nI 3) dL_holds_228 rfl ?_
      refine aw_store (C := 300) (D := 1810) hX hG hmk hS (s := s) (w := 3) hs (by decide) dL_holds_229 cvL_21 ⟨Nat.le_of_ble_eq_true rfl, Nat.le_of_ble_eq_true rfl⟩ rfl rfl (by omega) (by omega) (Nat.le_of_ble_eq_true rfl) (fun I hS hf => ?_)
      replace hF := hF.ad hf
      replace hon := hon.fr hz.1 hf
      rw [q3]
      refine aw_if_neN (tgt := 239) dL_holds_232 (by decide) (by omega) (fun hc232 => absurd hc232 (by omega)) (fun hc232 => ?_)
      refine aw_iconst (v := nI 1) dL_holds_235 rfl ?_
      refine aw_goto (tgt := 240) dL_holds_236 (by decide) ?_
      refine aw_istore (ls' := [(10, _), (9, _), (6, _), (5, _), (4, _), (3, _), (8, _), (0, _), (1, _), (2, _), (7, _)]) dL_holds_240 (Nat.le_of_ble_eq_true rfl) rfl ?_
      refine aw_aload_n dL_holds_242 rfl ?_
      refine aw_iload dL_holds_243 rfl ?_
      refine aw_iconst (v := nI 1) dL_holds_245 rfl ?_
      refine aw_store (C := 300) (D := 1810) hX hG hmk hS (s := s) (w := 1) hs (by decide) dL_holds_246 cvL_21 ⟨Nat.le_of_ble_eq_true rfl, Nat.le_of_ble_eq_true rfl⟩ rfl rfl (by omega) (by omega) (Nat.le_of_ble_eq_true rfl) (fun I hS hf => ?_)
      replace hF := hF.ad hf
      replace hon := hon.fr hz.1 hf
      refine aw_aload_n dL_holds_249 rfl ?_
      refine aw_iconst (v := nI 1) dL_holds_250 rfl ?_
      refine aw_setting (C := 300) (D := 1810) hX hG hmk hS (w := 1) (by decide) dL_holds_251 cvL_18 ⟨Nat.le_of_ble_eq_true rfl, Nat.le_of_ble_eq_true rfl⟩ rfl rfl (by omega) (by omega) (Nat.le_of_ble_eq_true rfl) (fun I hS hf => ?_)
      replace hF := hF.ad hf
      replace hon := hon.fr hz.1 hf
      refine aw_icmp_gtN (tgt := 321) dL_holds_254 (by decide) (by omega) (by omega) (fun hc254 => absurd hc254 (by omega)) (fun hc254 => ?_)
      refine aw_aload_n dL_holds_257 rfl ?_
      refine aw_iload dL_holds_258 rfl ?_
      refine aw_iconst (v := nI 2) dL_holds_260 rfl ?_
      refine aw_store (C := 300) (D := 1810) hX hG hmk hS (s := s) (w := 2) hs (by decide) dL_holds_261 cvL_21 ⟨Nat.le_of_ble_eq_true rfl, Nat.le_of_ble_eq_true rfl⟩ rfl rfl (by omega) (by omega) (Nat.le_of_ble_eq_true rfl) (fun I hS hf => ?_)
      replace hF := hF.ad hf
      replace hon := hon.fr hz.1 hf
      refine aw_aload_n dL_holds_264 rfl ?_
      refine aw_iload dL_holds_265 rfl ?_
      refine aw_iconst (v := nI 1) dL_holds_267 rfl ?_
      refine aw_store (C := 300) (D := 1810) hX hG hmk hS (s := s) (w := 1) hs (by decide) dL_holds_268 cvL_21 ⟨Nat.le_of_ble_eq_true rfl, Nat.le_of_ble_eq_true rfl⟩ rfl rfl (by omega) (by omega) (Nat.le_of_ble_eq_true rfl) (fun I hS hf => ?_)
      replace hF := hF.ad hf
      replace hon := hon.fr hz.1 hf
      refine aw_icmp_gtN (tgt := 321) dL_holds_271 (by decide) (by omega) (by omega) (fun hc271 => absurd hc271 (by omega)) (fun hc271 => ?_)
      refine aw_aload_n dL_holds_274 rfl ?_
      refine aw_iload dL_holds_275 rfl ?_
      refine aw_bipush (v := nI 8) dL_holds_277 rfl ?_
      refine aw_store (C := 300) (D := 1810) hX hG hmk hS (s := s) (w := 8) hs (by decide) dL_holds_279 cvL_21 ⟨Nat.le_of_ble_eq_true rfl, Nat.le_of_ble_eq_true rfl⟩ rfl rfl (by omega) (by omega) (Nat.le_of_ble_eq_true rfl) (fun I hS hf => ?_)
      replace hF := hF.ad hf
      replace hon := hon.fr hz.1 hf
      refine aw_aload_n dL_holds_282 rfl ?_
      refine aw_iload dL_holds_283 rfl ?_
      refine aw_iald dL_holds_285 hKz (by omega) rfl (by omega) (show _ = nI (tellN a s 8) from hon s hs) ?_
      refine aw_icmp_neN (tgt := 321) dL_holds_286 (by decide) (by omega) (by omega) (fun hc286 => absurd hc286 (by omega)) (fun hc286 => ?_)
      refine aw_iload dL_holds_289 rfl ?_
      refine aw_if_neN (tgt := 298) dL_holds_291 (by decide) (by omega) (fun hc291 => absurd hc291 (by omega)) (fun hc291 => ?_)
      refine aw_iconst (v := nI 1) dL_holds_294 rfl ?_
      refine aw_goto (tgt := 299) dL_holds_295 (by decide) ?_
      refine aw_aload_n dL_holds_299 rfl ?_
      refine aw_iload dL_holds_300 rfl ?_
      refine aw_iconst (v := nI 4) dL_holds_302 rfl ?_
      refine aw_store (C := 300) (D := 1810) hX hG hmk hS (s := s) (w := 4) hs (by decide) dL_holds_303 cvL_21 ⟨Nat.le_of_ble_eq_true rfl, Nat.le_of_ble_eq_true rfl⟩ rfl rfl (by omega) (by omega) (Nat.le_of_ble_eq_true rfl) (fun I hS hf => ?_)
      replace hF := hF.ad hf
      replace hon := hon.fr hz.1 hf
      rw [q4]
      refine aw_if_neN (tgt := 313) dL_holds_306 (by decide) (by omega) (fun hc306 => absurd hc306 (by omega)) (fun hc306 => ?_)
      refine aw_iconst (v := nI 1) dL_holds_309 rfl ?_
      refine aw_goto (tgt := 314) dL_holds_310 (by decide) ?_
      refine aw_icmp_neN (tgt := 321) dL_holds_314 (by decide) (by omega) (by omega) (fun hc314 => absurd hc314 (by omega)) (fun hc314 => ?_)
      refine aw_iconst (v := nI 1) dL_holds_317 rfl ?_
      refine aw_goto (tgt := 322) dL_holds_318 (by decide) ?_
      refine aw_istore (ls' := [(11, _), (10, _), (9, _), (6, _), (5, _), (4, _), (3, _), (8, _), (0, _), (1, _), (2, _), (7, _)]) dL_holds_322 (Nat.le_of_ble_eq_true rfl) rfl ?_
      refine aw_iload dL_holds_324 rfl ?_
      refine aw_if_eqN (tgt := 392) dL_holds_326 (by decide) (by omega) (fun hc326 => absurd hc326 (by omega)) (fun hc326 => ?_)
      refine aw_iload dL_holds_329 rfl ?_
      refine aw_if_eqN (tgt := 392) dL_holds_331 (by decide) (by omega) (fun hc331 => absurd hc331 (by omega)) (fun hc331 => ?_)
      refine aw_iload dL_holds_334 rfl ?_
      refine aw_if_neN (tgt := 344) dL_holds_336 (by decide) (by omega) (fun hc336 => absurd hc336 (by omega)) (fun hc336 => ?_)
      refine aw_iload dL_holds_339 rfl ?_
      refine aw_if_neN (tgt := 392) dL_holds_341 (by decide) (by omega) (fun hc341 => absurd hc341 (by omega)) (fun hc341 => ?_)
      refine aw_iload dL_holds_344 rfl ?_
      refine aw_iconst (v := nI 2) dL_holds_346 rfl ?_
      refine aw_icmp_neN (tgt := 377) dL_holds_347 (by decide) (by omega) (by omega) (fun hc347 => ?_) (fun hc347 => absurd hc347 (by omega))
      refine aw_iload dL_holds_377 rfl ?_
      refine aw_if_leN (tgt := 394) dL_holds_379 (by decide) (by omega) (fun hc379 => ?_) (fun hc379 => absurd hc379 (by omega))
      refine aw_iincN (k := 1) (ls' := [(7, _), (11, _), (10, _), (9, _), (6, _), (5, _), (4, _), (3, _), (8, _), (0, _), (1, _), (2, _)]) dL_holds_394 rfl rfl (Nat.le_of_ble_eq_true rfl) rfl ?_
      refine aw_goto (tgt := 98) dL_holds_397 (by decide) ?_
      exact aw_pick [9, 10, 11, 7, 6, 5, 4, 0] rfl (ih (s + 1) _ _ _ (by omega) (by omega) hS hF hon (by omega) (by omega))
    · have q0 : tellN a s 0 = 1 := hx
      have q3 : 0 < tellN a s 3 := by omega
      have q34 : tellN a s 3 ≤ tellN a s 4 := by omega
      have q4 : tellN a s 4 ≤ 999 := by omega
      have qu : untilI a s = nI (tellN a s 3) := qn (by omega)
      have q1 := qw (by omega)
      have qc : ovN a 6 s + 0 = ovN a 6 (s + 1) := by rw [ovN, if_pos rfl, if_neg (by omega)]
      refine aw_iload dL_holds_98 rfl ?_
      refine aw_iconst (v := nI 4) dL_holds_100 rfl ?_
      refine aw_icmp_geN (tgt := 400) dL_holds_101 (by decide) (by omega) (by omega) (fun hc101 => absurd hc101 (by omega)) (fun hc101 => ?_)
      refine aw_aload_n dL_holds_104 rfl ?_
      refine aw_iload dL_holds_105 rfl ?_
      refine aw_iconst (v := nI 0) dL_holds_107 rfl ?_
      refine aw_store (C := 300) (D := 1810) hX hG hmk hS (s := s) (w := 0) hs (by decide) dL_holds_108 cvL_21 ⟨Nat.le_of_ble_eq_true rfl, Nat.le_of_ble_eq_true rfl⟩ rfl rfl (by omega) (by omega) (Nat.le_of_ble_eq_true rfl) (fun I hS hf => ?_)
      replace hF := hF.ad hf
      replace hon := hon.fr hz.1 hf
      rw [q0]
      refine aw_istore (ls' := [(8, _), (0, _), (1, _), (2, _), (3, _), (4, _), (5, _), (6, _), (7, _)]) dL_holds_111 (Nat.le_of_ble_eq_true rfl) rfl ?_
      refine aw_iload_n dL_holds_113 rfl ?_
      refine aw_aload_n dL_holds_114 rfl ?_
      refine aw_iload dL_holds_115 rfl ?_
      refine aw_iconst (v := nI 5) dL_holds_117 rfl ?_
      refine aw_store (C := 300) (D := 1810) hX hG hmk hS (s := s) (w := 5) hs (by decide) dL_holds_118 cvL_21 ⟨Nat.le_of_ble_eq_true rfl, Nat.le_of_ble_eq_true rfl⟩ rfl rfl (by omega) (by omega) (Nat.le_of_ble_eq_true rfl) (fun I hS hf => ?_)
      replace hF := hF.ad hf
      replace hon := hon.fr hz.1 hf
      first | refine aw_iaddN dL_holds_121 ?_ | refine aw_iadd dL_holds_121 ?_
      refine aw_top (show _ = nI (ovN a 2 (s + 1)) from rfl) ?_
      refine aw_istore_n (ls' := [(3, _), (8, _), (0, _), (1, _), (2, _), (4, _), (5, _), (6, _), (7, _)]) dL_holds_122 (Nat.le_of_ble_eq_true rfl) rfl ?_
      refine aw_iload dL_holds_123 rfl ?_
      refine aw_aload_n dL_holds_125 rfl ?_
      refine aw_iload dL_holds_126 rfl ?_
      refine aw_bipush (v := nI 6) dL_holds_128 rfl ?_
      refine aw_store (C := 300) (D := 1810) hX hG hmk hS (s := s) (w := 6) hs (by decide) dL_holds_130 cvL_21 ⟨Nat.le_of_ble_eq_true rfl, Nat.le_of_ble_eq_true rfl⟩ rfl rfl (by omega) (by omega) (Nat.le_of_ble_eq_true rfl) (fun I hS hf => ?_)
      replace hF := hF.ad hf
      replace hon := hon.fr hz.1 hf
      first | refine aw_iaddN dL_holds_133 ?_ | refine aw_iadd dL_holds_133 ?_
      refine aw_top (show _ = nI (ovN a 3 (s + 1)) from rfl) ?_
      refine aw_istore (ls' := [(4, _), (3, _), (8, _), (0, _), (1, _), (2, _), (5, _), (6, _), (7, _)]) dL_holds_134 (Nat.le_of_ble_eq_true rfl) rfl ?_
      refine aw_iload dL_holds_136 rfl ?_
      refine aw_aload_n dL_holds_138 rfl ?_
      refine aw_iload dL_holds_139 rfl ?_
      refine aw_bipush (v := nI 7) dL_holds_141 rfl ?_
      refine aw_store (C := 300) (D := 1810) hX hG hmk hS (s := s) (w := 7) hs (by decide) dL_holds_143 cvL_21 ⟨Nat.le_of_ble_eq_true rfl, Nat.le_of_ble_eq_true rfl⟩ rfl rfl (by omega) (by omega) (Nat.le_of_ble_eq_true rfl) (fun I hS hf => ?_)
      replace hF := hF.ad hf
      replace hon := hon.fr hz.1 hf
      first | refine aw_iaddN dL_holds_146 ?_ | refine aw_iadd dL_holds_146 ?_
      refine aw_top (show _ = nI (smN a (s + 1)) from rfl) ?_
      refine aw_istore (ls' := [(5, _), (4, _), (3, _), (8, _), (0, _), (1, _), (2, _), (6, _), (7, _)]) dL_holds_147 (Nat.le_of_ble_eq_true rfl) rfl ?_
      refine aw_iload dL_holds_149 rfl ?_
      refine aw_iload dL_holds_151 rfl ?_
      refine aw_if_neN (tgt := 160) dL_holds_153 (by decide) (by omega) (fun hc153 => ?_) (fun hc153 => absurd hc153 (by omega))
      refine aw_iconst (v := nI 0) dL_holds_160 rfl ?_
      first | refine aw_iaddN dL_holds_161 ?_ | refine aw_iadd dL_holds_161 ?_
      refine aw_top (congrArg nI qc) ?_
      refine aw_istore (ls' := [(6, _), (5, _), (4, _), (3, _), (8, _), (0, _), (1, _), (2, _), (7, _)]) dL_holds_162 (Nat.le_of_ble_eq_true rfl) rfl ?_
      refine aw_aload_n dL_holds_164 rfl ?_
      refine aw_iload dL_holds_165 rfl ?_
      refine aw_freeIn (C := 300) (D := 1810) hX hG hmk hS (s := s) hs dL_holds_167 cvL_62 ⟨Nat.le_of_ble_eq_true rfl, Nat.le_of_ble_eq_true rfl⟩ rfl rfl (by omega) (by omega) (Nat.le_of_ble_eq_true rfl) (fun I hS hf => ?_)
      replace hF := hF.ad hf
      replace hon := hon.fr hz.1 hf
      rw [qu]
      refine aw_istore (ls' := [(9, _), (6, _), (5, _), (4, _), (3, _), (8, _), (0, _), (1, _), (2, _), (7, _)]) dL_holds_170 (Nat.le_of_ble_eq_true rfl) rfl ?_
      refine aw_iload dL_holds_172 rfl ?_
      refine aw_iconst (v := nI 1) dL_holds_174 rfl ?_
      refine aw_icmp_neN (tgt := 225) dL_holds_175 (by decide) (by omega) (by omega) (fun hc175 => absurd hc175 (by omega)) (fun hc175 => ?_)
      refine aw_aload_n dL_holds_178 rfl ?_
      refine aw_iload dL_holds_179 rfl ?_
      refine aw_iconst (v := nI 3) dL_holds_181 rfl ?_
      refine aw_store (C := 300) (D := 1810) hX hG hmk hS (s := s) (w := 3) hs (by decide) dL_holds_182 cvL_21 ⟨Nat.le_of_ble_eq_true rfl, Nat.le_of_ble_eq_true rfl⟩ rfl rfl (by omega) (by omega) (Nat.le_of_ble_eq_true rfl) (fun I hS hf => ?_)
      replace hF := hF.ad hf
      replace hon := hon.fr hz.1 hf
      refine aw_if_leN (tgt := 221) dL_holds_185 (by decide) (by omega) (fun hc185 => absurd hc185 (by omega)) (fun hc185 => ?_)
      refine aw_aload_n dL_holds_188 rfl ?_
      refine aw_iload dL_holds_189 rfl ?_
      refine aw_iconst (v := nI 3) dL_holds_191 rfl ?_
      refine aw_store (C := 300) (D := 1810) hX hG hmk hS (s := s) (w := 3) hs (by decide) dL_holds_192 cvL_21 ⟨Nat.le_of_ble_eq_true rfl, Nat.le_of_ble_eq_true rfl⟩ rfl rfl (by omega) (by omega) (Nat.le_of_ble_eq_true rfl) (fun I hS hf => ?_)
      replace hF := hF.ad hf
      replace hon := hon.fr hz.1 hf
      refine aw_aload_n dL_holds_195 rfl ?_
      refine aw_iload dL_holds_196 rfl ?_
      refine aw_iconst (v := nI 4) dL_holds_198 rfl ?_
      refine aw_store (C := 300) (D := 1810) hX hG hmk hS (s := s) (w := 4) hs (by decide) dL_holds_199 cvL_21 ⟨Nat.le_of_ble_eq_true rfl, Nat.le_of_ble_eq_true rfl⟩ rfl rfl (by omega) (by omega) (Nat.le_of_ble_eq_true rfl) (fun I hS hf => ?_)
      replace hF := hF.ad hf
      replace hon := hon.fr hz.1 hf
      refine aw_icmp_gtN (tgt := 221) dL_holds_202 (by decide) (by omega) (by omega) (fun hc202 => absurd hc202 (by omega)) (fun hc202 => ?_)
      refine aw_iload dL_holds_205 rfl ?_
      refine aw_aload_n dL_holds_207 rfl ?_
      refine aw_iload dL_holds_208 rfl ?_
      refine aw_iconst (v := nI 3) dL_holds_210 rfl ?_
      refine aw_store (C := 300) (D := 1810) hX hG hmk hS (s := s) (w := 3) hs (by decide) dL_holds_211 cvL_21 ⟨Nat.le_of_ble_eq_true rfl, Nat.le_of_ble_eq_true rfl⟩ rfl rfl (by omega) (by omega) (Nat.le_of_ble_eq_true rfl) (fun I hS hf => ?_)
      replace hF := hF.ad hf
      replace hon := hon.fr hz.1 hf
      refine aw_icmp_neN (tgt := 221) dL_holds_214 (by decide) (by omega) (by omega) (fun hc214 => absurd hc214 (by omega)) (fun hc214 => ?_)
      refine aw_iconst (v := nI 1) dL_holds_217 rfl ?_
      refine aw_goto (tgt := 240) dL_holds_218 (by decide) ?_
      refine aw_istore (ls' := [(10, _), (9, _), (6, _), (5, _), (4, _), (3, _), (8, _), (0, _), (1, _), (2, _), (7, _)]) dL_holds_240 (Nat.le_of_ble_eq_true rfl) rfl ?_
      refine aw_aload_n dL_holds_242 rfl ?_
      refine aw_iload dL_holds_243 rfl ?_
      refine aw_iconst (v := nI 1) dL_holds_245 rfl ?_
      refine aw_store (C := 300) (D := 1810) hX hG hmk hS (s := s) (w := 1) hs (by decide) dL_holds_246 cvL_21 ⟨Nat.le_of_ble_eq_true rfl, Nat.le_of_ble_eq_true rfl⟩ rfl rfl (by omega) (by omega) (Nat.le_of_ble_eq_true rfl) (fun I hS hf => ?_)
      replace hF := hF.ad hf
      replace hon := hon.fr hz.1 hf
      refine aw_aload_n dL_holds_249 rfl ?_
      refine aw_iconst (v := nI 1) dL_holds_250 rfl ?_
      refine aw_setting (C := 300) (D := 1810) hX hG hmk hS (w := 1) (by decide) dL_holds_251 cvL_18 ⟨Nat.le_of_ble_eq_true rfl, Nat.le_of_ble_eq_true rfl⟩ rfl rfl (by omega) (by omega) (Nat.le_of_ble_eq_true rfl) (fun I hS hf => ?_)
      replace hF := hF.ad hf
      replace hon := hon.fr hz.1 hf
      refine aw_icmp_gtN (tgt := 321) dL_holds_254 (by decide) (by omega) (by omega) (fun hc254 => absurd hc254 (by omega)) (fun hc254 => ?_)
      refine aw_aload_n dL_holds_257 rfl ?_
      refine aw_iload dL_holds_258 rfl ?_
      refine aw_iconst (v := nI 2) dL_holds_260 rfl ?_
      refine aw_store (C := 300) (D := 1810) hX hG hmk hS (s := s) (w := 2) hs (by decide) dL_holds_261 cvL_21 ⟨Nat.le_of_ble_eq_true rfl, Nat.le_of_ble_eq_true rfl⟩ rfl rfl (by omega) (by omega) (Nat.le_of_ble_eq_true rfl) (fun I hS hf => ?_)
      replace hF := hF.ad hf
      replace hon := hon.fr hz.1 hf
      refine aw_aload_n dL_holds_264 rfl ?_
      refine aw_iload dL_holds_265 rfl ?_
      refine aw_iconst (v := nI 1) dL_holds_267 rfl ?_
      refine aw_store (C := 300) (D := 1810) hX hG hmk hS (s := s) (w := 1) hs (by decide) dL_holds_268 cvL_21 ⟨Nat.le_of_ble_eq_true rfl, Nat.le_of_ble_eq_true rfl⟩ rfl rfl (by omega) (by omega) (Nat.le_of_ble_eq_true rfl) (fun I hS hf => ?_)
      replace hF := hF.ad hf
      replace hon := hon.fr hz.1 hf
      refine aw_icmp_gtN (tgt := 321) dL_holds_271 (by decide) (by omega) (by omega) (fun hc271 => absurd hc271 (by omega)) (fun hc271 => ?_)
      refine aw_aload_n dL_holds_274 rfl ?_
      refine aw_iload dL_holds_275 rfl ?_
      refine aw_bipush (v := nI 8) dL_holds_277 rfl ?_
      refine aw_store (C := 300) (D := 1810) hX hG hmk hS (s := s) (w := 8) hs (by decide) dL_holds_279 cvL_21 ⟨Nat.le_of_ble_eq_true rfl, Nat.le_of_ble_eq_true rfl⟩ rfl rfl (by omega) (by omega) (Nat.le_of_ble_eq_true rfl) (fun I hS hf => ?_)
      replace hF := hF.ad hf
      replace hon := hon.fr hz.1 hf
      refine aw_aload_n dL_holds_282 rfl ?_
      refine aw_iload dL_holds_283 rfl ?_
      refine aw_iald dL_holds_285 hKz (by omega) rfl (by omega) (show _ = nI (tellN a s 8) from hon s hs) ?_
      refine aw_icmp_neN (tgt := 321) dL_holds_286 (by decide) (by omega) (by omega) (fun hc286 => absurd hc286 (by omega)) (fun hc286 => ?_)
      refine aw_iload dL_holds_289 rfl ?_
      refine aw_if_neN (tgt := 298) dL_holds_291 (by decide) (by omega) (fun hc291 => ?_) (fun hc291 => absurd hc291 (by omega))
      refine aw_iconst (v := nI 0) dL_holds_298 rfl ?_
      refine aw_aload_n dL_holds_299 rfl ?_
      refine aw_iload dL_holds_300 rfl ?_
      refine aw_iconst (v := nI 4) dL_holds_302 rfl ?_
      refine aw_store (C := 300) (D := 1810) hX hG hmk hS (s := s) (w := 4) hs (by decide) dL_holds_303 cvL_21 ⟨Nat.le_of_ble_eq_true rfl, Nat.le_of_ble_eq_true rfl⟩ rfl rfl (by omega) (by omega) (Nat.le_of_ble_eq_true rfl) (fun I hS hf => ?_)
      replace hF := hF.ad hf
      replace hon := hon.fr hz.1 hf
      refine aw_if_neN (tgt := 313) dL_holds_306 (by decide) (by omega) (fun hc306 => ?_) (fun hc306 => absurd hc306 (by omega))
      refine aw_iconst (v := nI 0) dL_holds_313 rfl ?_
      refine aw_icmp_neN (tgt := 321) dL_holds_314 (by decide) (by omega) (by omega) (fun hc314 => absurd hc314 (by omega)) (fun hc314 => ?_)
      refine aw_iconst (v := nI 1) dL_holds_317 rfl ?_
      refine aw_goto (tgt := 322) dL_holds_318 (by decide) ?_
      refine aw_istore (ls' := [(11, _), (10, _), (9, _), (6, _), (5, _), (4, _), (3, _), (8, _), (0, _), (1, _), (2, _), (7, _)]) dL_holds_322 (Nat.le_of_ble_eq_true rfl) rfl ?_
      refine aw_iload dL_holds_324 rfl ?_
      refine aw_if_eqN (tgt := 392) dL_holds_326 (by decide) (by omega) (fun hc326 => absurd hc326 (by omega)) (fun hc326 => ?_)
      refine aw_iload dL_holds_329 rfl ?_
      refine aw_if_eqN (tgt := 392) dL_holds_331 (by decide) (by omega) (fun hc331 => absurd hc331 (by omega)) (fun hc331 => ?_)
      refine aw_iload dL_holds_334 rfl ?_
      refine aw_if_neN (tgt := 344) dL_holds_336 (by decide) (by omega) (fun hc336 => ?_) (fun hc336 => absurd hc336 (by omega))
      refine aw_iload dL_holds_344 rfl ?_
      refine aw_iconst (v := nI 2) dL_holds_346 rfl ?_
      refine aw_icmp_neN (tgt := 377) dL_holds_347 (by decide) (by omega) (by omega) (fun hc347 => ?_) (fun hc347 => absurd hc347 (by omega))
      refine aw_iload dL_holds_377 rfl ?_
      refine aw_if_leN (tgt := 394) dL_holds_379 (by decide) (by omega) (fun hc379 => absurd hc379 (by omega)) (fun hc379 => ?_)
      refine aw_aload_n dL_holds_382 rfl ?_
      refine aw_iload dL_holds_383 rfl ?_
      refine aw_iconst (v := nI 1) dL_holds_385 rfl ?_
      refine aw_store (C := 300) (D := 1810) hX hG hmk hS (s := s) (w := 1) hs (by decide) dL_holds_386 cvL_21 ⟨Nat.le_of_ble_eq_true rfl, Nat.le_of_ble_eq_true rfl⟩ rfl rfl (by omega) (by omega) (Nat.le_of_ble_eq_true rfl) (fun I hS hf => ?_)
      replace hF := hF.ad hf
      replace hon := hon.fr hz.1 hf
      refine aw_if_leN (tgt := 394) dL_holds_389 (by decide) (by omega) (fun hc389 => ?_) (fun hc389 => absurd hc389 (by omega))
      refine aw_iincN (k := 1) (ls' := [(7, _), (11, _), (10, _), (9, _), (6, _), (5, _), (4, _), (3, _), (8, _), (0, _), (1, _), (2, _)]) dL_holds_394 rfl rfl (Nat.le_of_ble_eq_true rfl) rfl ?_
      refine aw_goto (tgt := 98) dL_holds_397 (by decide) ?_
      exact aw_pick [9, 10, 11, 7, 6, 5, 4, 0] rfl (ih (s + 1) _ _ _ (by omega) (by omega) hS hF hon (by omega) (by omega))
    · have q0 : tellN a s 0 = 2 := hx
      have q3 : tellN a s 3 = 0 := by omega
      have q4 : tellN a s 4 ≤ 999 := by omega
      have q41 : 1 ≤ tellN a s 4 := (b10 (by omega)).1
      have q1 := qw (by omega)
      have qc : ovN a 6 s + 0 = ovN a 6 (s + 1) := by rw [ovN, if_pos rfl, if_neg (by omega)]
      have hbit : (tmL a.2.1).testBit s = a.2.1.any (isT s) := tmL_bit s _ (fun x hx => (hG.1.2.2.1 x hx).2.2.2.2.1)
      cases hany : a.2.1.any (isT s) with
      | false =>
        have qb : tmL a.2.1 / 2 ^ s % 2 = 0 := by rw [bit_n, hbit, hany]; rfl
        have qu : untilI a s = nI 0 := by rw [until_free hs hG (any_no hany), ← q5, q3]
        refine aw_iload dL_holds_98 rfl ?_
        refine aw_iconst (v := nI 4) dL_holds_100 rfl ?_
        refine aw_icmp_geN (tgt := 400) dL_holds_101 (by decide) (by omega) (by omega) (fun hc101 => absurd hc101 (by omega)) (fun hc101 => ?_)
        refine aw_aload_n dL_holds_104 rfl ?_
        refine aw_iload dL_holds_105 rfl ?_
        refine aw_iconst (v := nI 0) dL_holds_107 rfl ?_
        refine aw_store (C := 300) (D := 1810) hX hG hmk hS (s := s) (w := 0) hs (by decide) dL_holds_108 cvL_21 ⟨Nat.le_of_ble_eq_true rfl, Nat.le_of_ble_eq_true rfl⟩ rfl rfl (by omega) (by omega) (Nat.le_of_ble_eq_true rfl) (fun I hS hf => ?_)
        replace hF := hF.ad hf
        replace hon := hon.fr hz.1 hf
        rw [q0]
        refine aw_istore (ls' := [(8, _), (0, _), (1, _), (2, _), (3, _), (4, _), (5, _), (6, _), (7, _)]) dL_holds_111 (Nat.le_of_ble_eq_true rfl) rfl ?_
        refine aw_iload_n dL_holds_113 rfl ?_
        refine aw_aload_n dL_holds_114 rfl ?_
        refine aw_iload dL_holds_115 rfl ?_
        refine aw_iconst (v := nI 5) dL_holds_117 rfl ?_
        refine aw_store (C := 300) (D := 1810) hX hG hmk hS (s := s) (w := 5) hs (by decide) dL_holds_118 cvL_21 ⟨Nat.le_of_ble_eq_true rfl, Nat.le_of_ble_eq_true rfl⟩ rfl rfl (by omega) (by omega) (Nat.le_of_ble_eq_true rfl) (fun I hS hf => ?_)
        replace hF := hF.ad hf
        replace hon := hon.fr hz.1 hf
        first | refine aw_iaddN dL_holds_121 ?_ | refine aw_iadd dL_holds_121 ?_
        refine aw_top (show _ = nI (ovN a 2 (s + 1)) from rfl) ?_
        refine aw_istore_n (ls' := [(3, _), (8, _), (0, _), (1, _), (2, _), (4, _), (5, _), (6, _), (7, _)]) dL_holds_122 (Nat.le_of_ble_eq_true rfl) rfl ?_
        refine aw_iload dL_holds_123 rfl ?_
        refine aw_aload_n dL_holds_125 rfl ?_
        refine aw_iload dL_holds_126 rfl ?_
        refine aw_bipush (v := nI 6) dL_holds_128 rfl ?_
        refine aw_store (C := 300) (D := 1810) hX hG hmk hS (s := s) (w := 6) hs (by decide) dL_holds_130 cvL_21 ⟨Nat.le_of_ble_eq_true rfl, Nat.le_of_ble_eq_true rfl⟩ rfl rfl (by omega) (by omega) (Nat.le_of_ble_eq_true rfl) (fun I hS hf => ?_)
        replace hF := hF.ad hf
        replace hon := hon.fr hz.1 hf
        first | refine aw_iaddN dL_holds_133 ?_ | refine aw_iadd dL_holds_133 ?_
        refine aw_top (show _ = nI (ovN a 3 (s + 1)) from rfl) ?_
        refine aw_istore (ls' := [(4, _), (3, _), (8, _), (0, _), (1, _), (2, _), (5, _), (6, _), (7, _)]) dL_holds_134 (Nat.le_of_ble_eq_true rfl) rfl ?_
        refine aw_iload dL_holds_136 rfl ?_
        refine aw_aload_n dL_holds_138 rfl ?_
        refine aw_iload dL_holds_139 rfl ?_
        refine aw_bipush (v := nI 7) dL_holds_141 rfl ?_
        refine aw_store (C := 300) (D := 1810) hX hG hmk hS (s := s) (w := 7) hs (by decide) dL_holds_143 cvL_21 ⟨Nat.le_of_ble_eq_true rfl, Nat.le_of_ble_eq_true rfl⟩ rfl rfl (by omega) (by omega) (Nat.le_of_ble_eq_true rfl) (fun I hS hf => ?_)
        replace hF := hF.ad hf
        replace hon := hon.fr hz.1 hf
        first | refine aw_iaddN dL_holds_146 ?_ | refine aw_iadd dL_holds_146 ?_
        refine aw_top (show _ = nI (smN a (s + 1)) from rfl) ?_
        refine aw_istore (ls' := [(5, _), (4, _), (3, _), (8, _), (0, _), (1, _), (2, _), (6, _), (7, _)]) dL_holds_147 (Nat.le_of_ble_eq_true rfl) rfl ?_
        refine aw_iload dL_holds_149 rfl ?_
        refine aw_iload dL_holds_151 rfl ?_
        refine aw_if_neN (tgt := 160) dL_holds_153 (by decide) (by omega) (fun hc153 => ?_) (fun hc153 => absurd hc153 (by omega))
        refine aw_iconst (v := nI 0) dL_holds_160 rfl ?_
        first | refine aw_iaddN dL_holds_161 ?_ | refine aw_iadd dL_holds_161 ?_
        refine aw_top (congrArg nI qc) ?_
        refine aw_istore (ls' := [(6, _), (5, _), (4, _), (3, _), (8, _), (0, _), (1, _), (2, _), (7, _)]) dL_holds_162 (Nat.le_of_ble_eq_true rfl) rfl ?_
        refine aw_aload_n dL_holds_164 rfl ?_
        refine aw_iload dL_holds_165 rfl ?_
        refine aw_freeIn (C := 300) (D := 1810) hX hG hmk hS (s := s) hs dL_holds_167 cvL_62 ⟨Nat.le_of_ble_eq_true rfl, Nat.le_of_ble_eq_true rfl⟩ rfl rfl (by omega) (by omega) (Nat.le_of_ble_eq_true rfl) (fun I hS hf => ?_)
        replace hF := hF.ad hf
        replace hon := hon.fr hz.1 hf
        rw [qu]
        refine aw_istore (ls' := [(9, _), (6, _), (5, _), (4, _), (3, _), (8, _), (0, _), (1, _), (2, _), (7, _)]) dL_holds_170 (Nat.le_of_ble_eq_true rfl) rfl ?_
        refine aw_iload dL_holds_172 rfl ?_
        refine aw_iconst (v := nI 1) dL_holds_174 rfl ?_
        refine aw_icmp_neN (tgt := 225) dL_holds_175 (by decide) (by omega) (by omega) (fun hc175 => ?_) (fun hc175 => absurd hc175 (by omega))
        refine aw_aload_n dL_holds_225 rfl ?_
        refine aw_iload dL_holds_226 rfl ?_
        refine aw_iconst (v := nI 3) dL_holds_228 rfl ?_
        refine aw_store (C := 300) (D := 1810) hX hG hmk hS (s := s) (w := 3) hs (by decide) dL_holds_229 cvL_21 ⟨Nat.le_of_ble_eq_true rfl, Nat.le_of_ble_eq_true rfl⟩ rfl rfl (by omega) (by omega) (Nat.le_of_ble_eq_true rfl) (fun I hS hf => ?_)
        replace hF := hF.ad hf
        replace hon := hon.fr hz.1 hf
        rw [q3]
        refine aw_if_neN (tgt := 239) dL_holds_232 (by decide) (by omega) (fun hc232 => absurd hc232 (by omega)) (fun hc232 => ?_)
        refine aw_iconst (v := nI 1) dL_holds_235 rfl ?_
        refine aw_goto (tgt := 240) dL_holds_236 (by decide) ?_
        refine aw_istore (ls' := [(10, _), (9, _), (6, _), (5, _), (4, _), (3, _), (8, _), (0, _), (1, _), (2, _), (7, _)]) dL_holds_240 (Nat.le_of_ble_eq_true rfl) rfl ?_
        refine aw_aload_n dL_holds_242 rfl ?_
        refine aw_iload dL_holds_243 rfl ?_
        refine aw_iconst (v := nI 1) dL_holds_245 rfl ?_
        refine aw_store (C := 300) (D := 1810) hX hG hmk hS (s := s) (w := 1) hs (by decide) dL_holds_246 cvL_21 ⟨Nat.le_of_ble_eq_true rfl, Nat.le_of_ble_eq_true rfl⟩ rfl rfl (by omega) (by omega) (Nat.le_of_ble_eq_true rfl) (fun I hS hf => ?_)
        replace hF := hF.ad hf
        replace hon := hon.fr hz.1 hf
        refine aw_aload_n dL_holds_249 rfl ?_
        refine aw_iconst (v := nI 1) dL_holds_250 rfl ?_
        refine aw_setting (C := 300) (D := 1810) hX hG hmk hS (w := 1) (by decide) dL_holds_251 cvL_18 ⟨Nat.le_of_ble_eq_true rfl, Nat.le_of_ble_eq_true rfl⟩ rfl rfl (by omega) (by omega) (Nat.le_of_ble_eq_true rfl) (fun I hS hf => ?_)
        replace hF := hF.ad hf
        replace hon := hon.fr hz.1 hf
        refine aw_icmp_gtN (tgt := 321) dL_holds_254 (by decide) (by omega) (by omega) (fun hc254 => absurd hc254 (by omega)) (fun hc254 => ?_)
        refine aw_aload_n dL_holds_257 rfl ?_
        refine aw_iload dL_holds_258 rfl ?_
        refine aw_iconst (v := nI 2) dL_holds_260 rfl ?_
        refine aw_store (C := 300) (D := 1810) hX hG hmk hS (s := s) (w := 2) hs (by decide) dL_holds_261 cvL_21 ⟨Nat.le_of_ble_eq_true rfl, Nat.le_of_ble_eq_true rfl⟩ rfl rfl (by omega) (by omega) (Nat.le_of_ble_eq_true rfl) (fun I hS hf => ?_)
        replace hF := hF.ad hf
        replace hon := hon.fr hz.1 hf
        refine aw_aload_n dL_holds_264 rfl ?_
        refine aw_iload dL_holds_265 rfl ?_
        refine aw_iconst (v := nI 1) dL_holds_267 rfl ?_
        refine aw_store (C := 300) (D := 1810) hX hG hmk hS (s := s) (w := 1) hs (by decide) dL_holds_268 cvL_21 ⟨Nat.le_of_ble_eq_true rfl, Nat.le_of_ble_eq_true rfl⟩ rfl rfl (by omega) (by omega) (Nat.le_of_ble_eq_true rfl) (fun I hS hf => ?_)
        replace hF := hF.ad hf
        replace hon := hon.fr hz.1 hf
        refine aw_icmp_gtN (tgt := 321) dL_holds_271 (by decide) (by omega) (by omega) (fun hc271 => absurd hc271 (by omega)) (fun hc271 => ?_)
        refine aw_aload_n dL_holds_274 rfl ?_
        refine aw_iload dL_holds_275 rfl ?_
        refine aw_bipush (v := nI 8) dL_holds_277 rfl ?_
        refine aw_store (C := 300) (D := 1810) hX hG hmk hS (s := s) (w := 8) hs (by decide) dL_holds_279 cvL_21 ⟨Nat.le_of_ble_eq_true rfl, Nat.le_of_ble_eq_true rfl⟩ rfl rfl (by omega) (by omega) (Nat.le_of_ble_eq_true rfl) (fun I hS hf => ?_)
        replace hF := hF.ad hf
        replace hon := hon.fr hz.1 hf
        refine aw_aload_n dL_holds_282 rfl ?_
        refine aw_iload dL_holds_283 rfl ?_
        refine aw_iald dL_holds_285 hKz (by omega) rfl (by omega) (show _ = nI (tellN a s 8) from hon s hs) ?_
        refine aw_icmp_neN (tgt := 321) dL_holds_286 (by decide) (by omega) (by omega) (fun hc286 => absurd hc286 (by omega)) (fun hc286 => ?_)
        refine aw_iload dL_holds_289 rfl ?_
        refine aw_if_neN (tgt := 298) dL_holds_291 (by decide) (by omega) (fun hc291 => ?_) (fun hc291 => absurd hc291 (by omega))
        refine aw_iconst (v := nI 0) dL_holds_298 rfl ?_
        refine aw_aload_n dL_holds_299 rfl ?_
        refine aw_iload dL_holds_300 rfl ?_
        refine aw_iconst (v := nI 4) dL_holds_302 rfl ?_
        refine aw_store (C := 300) (D := 1810) hX hG hmk hS (s := s) (w := 4) hs (by decide) dL_holds_303 cvL_21 ⟨Nat.le_of_ble_eq_true rfl, Nat.le_of_ble_eq_true rfl⟩ rfl rfl (by omega) (by omega) (Nat.le_of_ble_eq_true rfl) (fun I hS hf => ?_)
        replace hF := hF.ad hf
        replace hon := hon.fr hz.1 hf
        refine aw_if_neN (tgt := 313) dL_holds_306 (by decide) (by omega) (fun hc306 => ?_) (fun hc306 => absurd hc306 (by omega))
        refine aw_iconst (v := nI 0) dL_holds_313 rfl ?_
        refine aw_icmp_neN (tgt := 321) dL_holds_314 (by decide) (by omega) (by omega) (fun hc314 => absurd hc314 (by omega)) (fun hc314 => ?_)
        refine aw_iconst (v := nI 1) dL_holds_317 rfl ?_
        refine aw_goto (tgt := 322) dL_holds_318 (by decide) ?_
        refine aw_istore (ls' := [(11, _), (10, _), (9, _), (6, _), (5, _), (4, _), (3, _), (8, _), (0, _), (1, _), (2, _), (7, _)]) dL_holds_322 (Nat.le_of_ble_eq_true rfl) rfl ?_
        refine aw_iload dL_holds_324 rfl ?_
        refine aw_if_eqN (tgt := 392) dL_holds_326 (by decide) (by omega) (fun hc326 => absurd hc326 (by omega)) (fun hc326 => ?_)
        refine aw_iload dL_holds_329 rfl ?_
        refine aw_if_eqN (tgt := 392) dL_holds_331 (by decide) (by omega) (fun hc331 => absurd hc331 (by omega)) (fun hc331 => ?_)
        refine aw_iload dL_holds_334 rfl ?_
        refine aw_if_neN (tgt := 344) dL_holds_336 (by decide) (by omega) (fun hc336 => ?_) (fun hc336 => absurd hc336 (by omega))
        refine aw_iload dL_holds_344 rfl ?_
        refine aw_iconst (v := nI 2) dL_holds_346 rfl ?_
        refine aw_icmp_neN (tgt := 377) dL_holds_347 (by decide) (by omega) (by omega) (fun hc347 => absurd hc347 (by omega)) (fun hc347 => ?_)
        refine aw_iload dL_holds_350 rfl ?_
        refine aw_if_neN (tgt := 359) dL_holds_352 (by decide) (by omega) (fun hc352 => absurd hc352 (by omega)) (fun hc352 => ?_)
        refine aw_iconst (v := nI 1) dL_holds_355 rfl ?_
        refine aw_goto (tgt := 360) dL_holds_356 (by decide) ?_
        refine aw_iload_n dL_holds_360 rfl ?_
        refine aw_iload dL_holds_361 rfl ?_
        refine aw_ishr dL_holds_363 ?_
        refine aw_iconst (v := nI 1) dL_holds_364 rfl ?_
        refine aw_iand dL_holds_365 ?_
        refine aw_top ((shr1 (by omega) (by omega)).trans (congrArg nI qb)) ?_
        refine aw_if_neN (tgt := 373) dL_holds_366 (by decide) (by omega) (fun hc366 => absurd hc366 (by omega)) (fun hc366 => ?_)
        refine aw_iconst (v := nI 1) dL_holds_369 rfl ?_
        refine aw_goto (tgt := 374) dL_holds_370 (by decide) ?_
        refine aw_icmp_neN (tgt := 392) dL_holds_374 (by decide) (by omega) (by omega) (fun hc374 => absurd hc374 (by omega)) (fun hc374 => ?_)
        refine aw_iload dL_holds_377 rfl ?_
        refine aw_if_leN (tgt := 394) dL_holds_379 (by decide) (by omega) (fun hc379 => absurd hc379 (by omega)) (fun hc379 => ?_)
        refine aw_aload_n dL_holds_382 rfl ?_
        refine aw_iload dL_holds_383 rfl ?_
        refine aw_iconst (v := nI 1) dL_holds_385 rfl ?_
        refine aw_store (C := 300) (D := 1810) hX hG hmk hS (s := s) (w := 1) hs (by decide) dL_holds_386 cvL_21 ⟨Nat.le_of_ble_eq_true rfl, Nat.le_of_ble_eq_true rfl⟩ rfl rfl (by omega) (by omega) (Nat.le_of_ble_eq_true rfl) (fun I hS hf => ?_)
        replace hF := hF.ad hf
        replace hon := hon.fr hz.1 hf
        refine aw_if_leN (tgt := 394) dL_holds_389 (by decide) (by omega) (fun hc389 => ?_) (fun hc389 => absurd hc389 (by omega))
        refine aw_iincN (k := 1) (ls' := [(7, _), (11, _), (10, _), (9, _), (6, _), (5, _), (4, _), (3, _), (8, _), (0, _), (1, _), (2, _)]) dL_holds_394 rfl rfl (Nat.le_of_ble_eq_true rfl) rfl ?_
        refine aw_goto (tgt := 98) dL_holds_397 (by decide) ?_
        exact aw_pick [9, 10, 11, 7, 6, 5, 4, 0] rfl (ih (s + 1) _ _ _ (by omega) (by omega) hS hF hon (by omega) (by omega))
      | true =>
        have qb : tmL a.2.1 / 2 ^ s % 2 = 1 := by rw [bit_n, hbit, hany]; rfl
        have qu := until_trial hs hG hany
        refine aw_iload dL_holds_98 rfl ?_
        refine aw_iconst (v := nI 4) dL_holds_100 rfl ?_
        refine aw_icmp_geN (tgt := 400) dL_holds_101 (by decide) (by omega) (by omega) (fun hc101 => absurd hc101 (by omega)) (fun hc101 => ?_)
        refine aw_aload_n dL_holds_104 rfl ?_
        refine aw_iload dL_holds_105 rfl ?_
        refine aw_iconst (v := nI 0) dL_holds_107 rfl ?_
        refine aw_store (C := 300) (D := 1810) hX hG hmk hS (s := s) (w := 0) hs (by decide) dL_holds_108 cvL_21 ⟨Nat.le_of_ble_eq_true rfl, Nat.le_of_ble_eq_true rfl⟩ rfl rfl (by omega) (by omega) (Nat.le_of_ble_eq_true rfl) (fun I hS hf => ?_)
        replace hF := hF.ad hf
        replace hon := hon.fr hz.1 hf
        rw [q0]
        refine aw_istore (ls' := [(8, _), (0, _), (1, _), (2, _), (3, _), (4, _), (5, _), (6, _), (7, _)]) dL_holds_111 (Nat.le_of_ble_eq_true rfl) rfl ?_
        refine aw_iload_n dL_holds_113 rfl ?_
        refine aw_aload_n dL_holds_114 rfl ?_
        refine aw_iload dL_holds_115 rfl ?_
        refine aw_iconst (v := nI 5) dL_holds_117 rfl ?_
        refine aw_store (C := 300) (D := 1810) hX hG hmk hS (s := s) (w := 5) hs (by decide) dL_holds_118 cvL_21 ⟨Nat.le_of_ble_eq_true rfl, Nat.le_of_ble_eq_true rfl⟩ rfl rfl (by omega) (by omega) (Nat.le_of_ble_eq_true rfl) (fun I hS hf => ?_)
        replace hF := hF.ad hf
        replace hon := hon.fr hz.1 hf
        first | refine aw_iaddN dL_holds_121 ?_ | refine aw_iadd dL_holds_121 ?_
        refine aw_top (show _ = nI (ovN a 2 (s + 1)) from rfl) ?_
        refine aw_istore_n (ls' := [(3, _), (8, _), (0, _), (1, _), (2, _), (4, _), (5, _), (6, _), (7, _)]) dL_holds_122 (Nat.le_of_ble_eq_true rfl) rfl ?_
        refine aw_iload dL_holds_123 rfl ?_
        refine aw_aload_n dL_holds_125 rfl ?_
        refine aw_iload dL_holds_126 rfl ?_
        refine aw_bipush (v := nI 6) dL_holds_128 rfl ?_
        refine aw_store (C := 300) (D := 1810) hX hG hmk hS (s := s) (w := 6) hs (by decide) dL_holds_130 cvL_21 ⟨Nat.le_of_ble_eq_true rfl, Nat.le_of_ble_eq_true rfl⟩ rfl rfl (by omega) (by omega) (Nat.le_of_ble_eq_true rfl) (fun I hS hf => ?_)
        replace hF := hF.ad hf
        replace hon := hon.fr hz.1 hf
        first | refine aw_iaddN dL_holds_133 ?_ | refine aw_iadd dL_holds_133 ?_
        refine aw_top (show _ = nI (ovN a 3 (s + 1)) from rfl) ?_
        refine aw_istore (ls' := [(4, _), (3, _), (8, _), (0, _), (1, _), (2, _), (5, _), (6, _), (7, _)]) dL_holds_134 (Nat.le_of_ble_eq_true rfl) rfl ?_
        refine aw_iload dL_holds_136 rfl ?_
        refine aw_aload_n dL_holds_138 rfl ?_
        refine aw_iload dL_holds_139 rfl ?_
        refine aw_bipush (v := nI 7) dL_holds_141 rfl ?_
        refine aw_store (C := 300) (D := 1810) hX hG hmk hS (s := s) (w := 7) hs (by decide) dL_holds_143 cvL_21 ⟨Nat.le_of_ble_eq_true rfl, Nat.le_of_ble_eq_true rfl⟩ rfl rfl (by omega) (by omega) (Nat.le_of_ble_eq_true rfl) (fun I hS hf => ?_)
        replace hF := hF.ad hf
        replace hon := hon.fr hz.1 hf
        first | refine aw_iaddN dL_holds_146 ?_ | refine aw_iadd dL_holds_146 ?_
        refine aw_top (show _ = nI (smN a (s + 1)) from rfl) ?_
        refine aw_istore (ls' := [(5, _), (4, _), (3, _), (8, _), (0, _), (1, _), (2, _), (6, _), (7, _)]) dL_holds_147 (Nat.le_of_ble_eq_true rfl) rfl ?_
        refine aw_iload dL_holds_149 rfl ?_
        refine aw_iload dL_holds_151 rfl ?_
        refine aw_if_neN (tgt := 160) dL_holds_153 (by decide) (by omega) (fun hc153 => ?_) (fun hc153 => absurd hc153 (by omega))
        refine aw_iconst (v := nI 0) dL_holds_160 rfl ?_
        first | refine aw_iaddN dL_holds_161 ?_ | refine aw_iadd dL_holds_161 ?_
        refine aw_top (congrArg nI qc) ?_
        refine aw_istore (ls' := [(6, _), (5, _), (4, _), (3, _), (8, _), (0, _), (1, _), (2, _), (7, _)]) dL_holds_162 (Nat.le_of_ble_eq_true rfl) rfl ?_
        refine aw_aload_n dL_holds_164 rfl ?_
        refine aw_iload dL_holds_165 rfl ?_
        refine aw_freeIn (C := 300) (D := 1810) hX hG hmk hS (s := s) hs dL_holds_167 cvL_62 ⟨Nat.le_of_ble_eq_true rfl, Nat.le_of_ble_eq_true rfl⟩ rfl rfl (by omega) (by omega) (Nat.le_of_ble_eq_true rfl) (fun I hS hf => ?_)
        replace hF := hF.ad hf
        replace hon := hon.fr hz.1 hf
        refine aw_istore (ls' := [(9, _), (6, _), (5, _), (4, _), (3, _), (8, _), (0, _), (1, _), (2, _), (7, _)]) dL_holds_170 (Nat.le_of_ble_eq_true rfl) rfl ?_
        refine aw_iload dL_holds_172 rfl ?_
        refine aw_iconst (v := nI 1) dL_holds_174 rfl ?_
        refine aw_icmp_neN (tgt := 225) dL_holds_175 (by decide) (by omega) (by omega) (fun hc175 => ?_) (fun hc175 => absurd hc175 (by omega))
        refine aw_aload_n dL_holds_225 rfl ?_
        refine aw_iload dL_holds_226 rfl ?_
        refine aw_iconst (v := nI 3) dL_holds_228 rfl ?_
        refine aw_store (C := 300) (D := 1810) hX hG hmk hS (s := s) (w := 3) hs (by decide) dL_holds_229 cvL_21 ⟨Nat.le_of_ble_eq_true rfl, Nat.le_of_ble_eq_true rfl⟩ rfl rfl (by omega) (by omega) (Nat.le_of_ble_eq_true rfl) (fun I hS hf => ?_)
        replace hF := hF.ad hf
        replace hon := hon.fr hz.1 hf
        rw [q3]
        refine aw_if_neN (tgt := 239) dL_holds_232 (by decide) (by omega) (fun hc232 => absurd hc232 (by omega)) (fun hc232 => ?_)
        refine aw_iconst (v := nI 1) dL_holds_235 rfl ?_
        refine aw_goto (tgt := 240) dL_holds_236 (by decide) ?_
        refine aw_istore (ls' := [(10, _), (9, _), (6, _), (5, _), (4, _), (3, _), (8, _), (0, _), (1, _), (2, _), (7, _)]) dL_holds_240 (Nat.le_of_ble_eq_true rfl) rfl ?_
        refine aw_aload_n dL_holds_242 rfl ?_
        refine aw_iload dL_holds_243 rfl ?_
        refine aw_iconst (v := nI 1) dL_holds_245 rfl ?_
        refine aw_store (C := 300) (D := 1810) hX hG hmk hS (s := s) (w := 1) hs (by decide) dL_holds_246 cvL_21 ⟨Nat.le_of_ble_eq_true rfl, Nat.le_of_ble_eq_true rfl⟩ rfl rfl (by omega) (by omega) (Nat.le_of_ble_eq_true rfl) (fun I hS hf => ?_)
        replace hF := hF.ad hf
        replace hon := hon.fr hz.1 hf
        refine aw_aload_n dL_holds_249 rfl ?_
        refine aw_iconst (v := nI 1) dL_holds_250 rfl ?_
        refine aw_setting (C := 300) (D := 1810) hX hG hmk hS (w := 1) (by decide) dL_holds_251 cvL_18 ⟨Nat.le_of_ble_eq_true rfl, Nat.le_of_ble_eq_true rfl⟩ rfl rfl (by omega) (by omega) (Nat.le_of_ble_eq_true rfl) (fun I hS hf => ?_)
        replace hF := hF.ad hf
        replace hon := hon.fr hz.1 hf
        refine aw_icmp_gtN (tgt := 321) dL_holds_254 (by decide) (by omega) (by omega) (fun hc254 => absurd hc254 (by omega)) (fun hc254 => ?_)
        refine aw_aload_n dL_holds_257 rfl ?_
        refine aw_iload dL_holds_258 rfl ?_
        refine aw_iconst (v := nI 2) dL_holds_260 rfl ?_
        refine aw_store (C := 300) (D := 1810) hX hG hmk hS (s := s) (w := 2) hs (by decide) dL_holds_261 cvL_21 ⟨Nat.le_of_ble_eq_true rfl, Nat.le_of_ble_eq_true rfl⟩ rfl rfl (by omega) (by omega) (Nat.le_of_ble_eq_true rfl) (fun I hS hf => ?_)
        replace hF := hF.ad hf
        replace hon := hon.fr hz.1 hf
        refine aw_aload_n dL_holds_264 rfl ?_
        refine aw_iload dL_holds_265 rfl ?_
        refine aw_iconst (v := nI 1) dL_holds_267 rfl ?_
        refine aw_store (C := 300) (D := 1810) hX hG hmk hS (s := s) (w := 1) hs (by decide) dL_holds_268 cvL_21 ⟨Nat.le_of_ble_eq_true rfl, Nat.le_of_ble_eq_true rfl⟩ rfl rfl (by omega) (by omega) (Nat.le_of_ble_eq_true rfl) (fun I hS hf => ?_)
        replace hF := hF.ad hf
        replace hon := hon.fr hz.1 hf
        refine aw_icmp_gtN (tgt := 321) dL_holds_271 (by decide) (by omega) (by omega) (fun hc271 => absurd hc271 (by omega)) (fun hc271 => ?_)
        refine aw_aload_n dL_holds_274 rfl ?_
        refine aw_iload dL_holds_275 rfl ?_
        refine aw_bipush (v := nI 8) dL_holds_277 rfl ?_
        refine aw_store (C := 300) (D := 1810) hX hG hmk hS (s := s) (w := 8) hs (by decide) dL_holds_279 cvL_21 ⟨Nat.le_of_ble_eq_true rfl, Nat.le_of_ble_eq_true rfl⟩ rfl rfl (by omega) (by omega) (Nat.le_of_ble_eq_true rfl) (fun I hS hf => ?_)
        replace hF := hF.ad hf
        replace hon := hon.fr hz.1 hf
        refine aw_aload_n dL_holds_282 rfl ?_
        refine aw_iload dL_holds_283 rfl ?_
        refine aw_iald dL_holds_285 hKz (by omega) rfl (by omega) (show _ = nI (tellN a s 8) from hon s hs) ?_
        refine aw_icmp_neN (tgt := 321) dL_holds_286 (by decide) (by omega) (by omega) (fun hc286 => absurd hc286 (by omega)) (fun hc286 => ?_)
        refine aw_iload dL_holds_289 rfl ?_
        refine aw_if_neN (tgt := 298) dL_holds_291 (by decide) (by omega) (fun hc291 => ?_) (fun hc291 => absurd hc291 (by omega))
        refine aw_iconst (v := nI 0) dL_holds_298 rfl ?_
        refine aw_aload_n dL_holds_299 rfl ?_
        refine aw_iload dL_holds_300 rfl ?_
        refine aw_iconst (v := nI 4) dL_holds_302 rfl ?_
        refine aw_store (C := 300) (D := 1810) hX hG hmk hS (s := s) (w := 4) hs (by decide) dL_holds_303 cvL_21 ⟨Nat.le_of_ble_eq_true rfl, Nat.le_of_ble_eq_true rfl⟩ rfl rfl (by omega) (by omega) (Nat.le_of_ble_eq_true rfl) (fun I hS hf => ?_)
        replace hF := hF.ad hf
        replace hon := hon.fr hz.1 hf
        refine aw_if_neN (tgt := 313) dL_holds_306 (by decide) (by omega) (fun hc306 => ?_) (fun hc306 => absurd hc306 (by omega))
        refine aw_iconst (v := nI 0) dL_holds_313 rfl ?_
        refine aw_icmp_neN (tgt := 321) dL_holds_314 (by decide) (by omega) (by omega) (fun hc314 => absurd hc314 (by omega)) (fun hc314 => ?_)
        refine aw_iconst (v := nI 1) dL_holds_317 rfl ?_
        refine aw_goto (tgt := 322) dL_holds_318 (by decide) ?_
        refine aw_istore (ls' := [(11, _), (10, _), (9, _), (6, _), (5, _), (4, _), (3, _), (8, _), (0, _), (1, _), (2, _), (7, _)]) dL_holds_322 (Nat.le_of_ble_eq_true rfl) rfl ?_
        refine aw_iload dL_holds_324 rfl ?_
        refine aw_if_eqN (tgt := 392) dL_holds_326 (by decide) (by omega) (fun hc326 => absurd hc326 (by omega)) (fun hc326 => ?_)
        refine aw_iload dL_holds_329 rfl ?_
        refine aw_if_eqN (tgt := 392) dL_holds_331 (by decide) (by omega) (fun hc331 => absurd hc331 (by omega)) (fun hc331 => ?_)
        refine aw_iload dL_holds_334 rfl ?_
        refine aw_if_neN (tgt := 344) dL_holds_336 (by decide) (by omega) (fun hc336 => ?_) (fun hc336 => absurd hc336 (by omega))
        refine aw_iload dL_holds_344 rfl ?_
        refine aw_iconst (v := nI 2) dL_holds_346 rfl ?_
        refine aw_icmp_neN (tgt := 377) dL_holds_347 (by decide) (by omega) (by omega) (fun hc347 => absurd hc347 (by omega)) (fun hc347 => ?_)
        refine aw_iload dL_holds_350 rfl ?_
        refine aw_if_ne (tgt := 359) dL_holds_352 (by decide) (fun hc352 => ?_) (fun hc352 => absurd hc352 qu)
        refine aw_iconst (v := nI 0) dL_holds_359 rfl ?_
        refine aw_iload_n dL_holds_360 rfl ?_
        refine aw_iload dL_holds_361 rfl ?_
        refine aw_ishr dL_holds_363 ?_
        refine aw_iconst (v := nI 1) dL_holds_364 rfl ?_
        refine aw_iand dL_holds_365 ?_
        refine aw_top ((shr1 (by omega) (by omega)).trans (congrArg nI qb)) ?_
        refine aw_if_neN (tgt := 373) dL_holds_366 (by decide) (by omega) (fun hc366 => ?_) (fun hc366 => absurd hc366 (by omega))
        refine aw_iconst (v := nI 0) dL_holds_373 rfl ?_
        refine aw_icmp_neN (tgt := 392) dL_holds_374 (by decide) (by omega) (by omega) (fun hc374 => absurd hc374 (by omega)) (fun hc374 => ?_)
        refine aw_iload dL_holds_377 rfl ?_
        refine aw_if_leN (tgt := 394) dL_holds_379 (by decide) (by omega) (fun hc379 => absurd hc379 (by omega)) (fun hc379 => ?_)
        refine aw_aload_n dL_holds_382 rfl ?_
        refine aw_iload dL_holds_383 rfl ?_
        refine aw_iconst (v := nI 1) dL_holds_385 rfl ?_
        refine aw_store (C := 300) (D := 1810) hX hG hmk hS (s := s) (w := 1) hs (by decide) dL_holds_386 cvL_21 ⟨Nat.le_of_ble_eq_true rfl, Nat.le_of_ble_eq_true rfl⟩ rfl rfl (by omega) (by omega) (Nat.le_of_ble_eq_true rfl) (fun I hS hf => ?_)
        replace hF := hF.ad hf
        replace hon := hon.fr hz.1 hf
        refine aw_if_leN (tgt := 394) dL_holds_389 (by decide) (by omega) (fun hc389 => ?_) (fun hc389 => absurd hc389 (by omega))
        refine aw_iincN (k := 1) (ls' := [(7, _), (11, _), (10, _), (9, _), (6, _), (5, _), (4, _), (3, _), (8, _), (0, _), (1, _), (2, _)]) dL_holds_394 rfl rfl (Nat.le_of_ble_eq_true rfl) rfl ?_
        refine aw_goto (tgt := 98) dL_holds_397 (by decide) ?_
        exact aw_pick [9, 10, 11, 7, 6, 5, 4, 0] rfl (ih (s + 1) _ _ _ (by omega) (by omega) hS hF hon (by omega) (by omega))
theorem h_mid {cu su : Nat} (nx : AW G YL_holds (HZ G K0 R0 I0 z (a, hs, B)) 98 [(0, .ref (G.1 0)), (1, .int (nI (tmL a.2.1))), (2, .ref (G.1 z)), (3, .int (nI (ovN a 2 0))), (4, .int (nI (ovN a 3 0))), (5, .int (nI (smN a 0))), (6, .int (nI (ovN a 6 0))), (7, .int (nI 0))] [] (K, R, I, J, z + 1) cu su) : AW G YL_holds (HZ G K0 R0 I0 z (a, hs, B)) 84 [(0, .ref (G.1 0)), (1, .int (nI (tmL a.2.1))), (2, .ref (G.1 z))] [] (K, R, I, J, z + 1) cu su := by
  refine aw_iconst (v := nI 0) dL_holds_84 rfl ?_
  refine aw_istore_n (ls' := [(3, _), (0, _), (1, _), (2, _)]) dL_holds_85 (Nat.le_of_ble_eq_true rfl) rfl ?_
  refine aw_iconst (v := nI 0) dL_holds_86 rfl ?_
  refine aw_istore (ls' := [(4, _), (3, _), (0, _), (1, _), (2, _)]) dL_holds_87 (Nat.le_of_ble_eq_true rfl) rfl ?_
  refine aw_iconst (v := nI 0) dL_holds_89 rfl ?_
  refine aw_istore (ls' := [(5, _), (4, _), (3, _), (0, _), (1, _), (2, _)]) dL_holds_90 (Nat.le_of_ble_eq_true rfl) rfl ?_
  refine aw_iconst (v := nI 0) dL_holds_92 rfl ?_
  refine aw_istore (ls' := [(6, _), (5, _), (4, _), (3, _), (0, _), (1, _), (2, _)]) dL_holds_93 (Nat.le_of_ble_eq_true rfl) rfl ?_
  refine aw_iconst (v := nI 0) dL_holds_95 rfl ?_
  refine aw_istore (ls' := [(7, _), (6, _), (5, _), (4, _), (3, _), (0, _), (1, _), (2, _)]) dL_holds_96 (Nat.le_of_ble_eq_true rfl) rfl ?_
  exact aw_pick [5, 6, 7, 4, 3, 2, 1, 0] rfl nx
theorem h_end (hX : LX G K R) (hG : GI1 m k a) (hmk : m + k ≤ 800000000) (hKz : K z = some (10, 4)) (hz : 140 ≤ z ∧ z < 1000) (hJ : JV a) (hKR : ∀ q, q ≠ z → K q = K0 q ∧ R q = R0 q) {cu su : Nat} (hS : XS I (a, hs, B)) (hF : FrZ z I0 I) (hon : ON I z (cnt a.2.1)) (hcu : cu ≤ 266) (hsu : su ≤ 1594) : AW G YL_holds (HZ G K0 R0 I0 z (a, hs, B)) 400 [(0, .ref (G.1 0)), (3, .int (nI (ovN a 2 4))), (4, .int (nI (ovN a 3 4))), (5, .int (nI (smN a 4))), (6, .int (nI (ovN a 6 4)))] [] (K, R, I, J, z + 1) cu su := by
  have h16 : a.2.1.length ≤ 16 := hG.1.2.1
  have h7 : a.1 6 + a.1 7 + a.2.1.length ≤ m := hG.1.2.2.2.2.2.2
  have e2 : ovN a 2 4 = a.2.1.length + (a.1 6 + a.1 7) := by
    have : ovN a 2 4 = 0 + a.2.2 0 7 + a.2.2 1 7 + a.2.2 2 7 + a.2.2 3 7 := rfl
    rw [this, Nat.zero_add]
    exact hJ
  have e9 : smN a 4 = a.1 6 := by
    have : smN a 4 = 0 + a.2.2 0 9 + a.2.2 1 9 + a.2.2 2 9 + a.2.2 3 9 := rfl
    rw [this, Nat.zero_add]
    exact hG.1.2.2.2.2.2.1.symm
  have k501 : ∀ (x : Int32) (I : Nat → Nat → Int32) (cu su : Nat), XS I (a, hs, B) → FrZ z I0 I → ON I z (cnt a.2.1) → cu ≤ 271 → su ≤ 1624 → AW G YL_holds (HZ G K0 R0 I0 z (a, hs, B)) 501 [(0, .ref (G.1 0)), (3, .int (nI (ovN a 2 4))), (4, .int (nI (ovN a 3 4))), (5, .int (nI (smN a 4))), (6, .int (nI (ovN a 6 4))), (10, .int (nI (a.1 6 + a.1 7))), (11, .int (nI 1)), (7, .int x)] [.int (nI 1)] (K, R, I, J, z + 1) cu su := by
    intro x I cu su hS hF hon hcu hsu
    refine aw_istore (ls' := [(12, _), (0, _), (3, _), (4, _), (5, _), (6, _), (10, _), (11, _), (7, _)]) dL_holds_501 (Nat.le_of_ble_eq_true rfl) rfl ?_
    refine aw_iload dL_holds_503 rfl ?_
    refine aw_if_eqN (tgt := 583) dL_holds_505 (by decide) (by omega) (fun hc505 => absurd hc505 (by omega)) (fun hc505 => ?_)
    refine aw_iload dL_holds_508 rfl ?_
    refine aw_if_eqN (tgt := 583) dL_holds_510 (by decide) (by omega) (fun hc510 => absurd hc510 (by omega)) (fun hc510 => ?_)
    refine aw_iload_n dL_holds_513 rfl ?_
    refine aw_aload_n dL_holds_514 rfl ?_
    refine aw_iconst (v := nI 2) dL_holds_515 rfl ?_
    refine aw_count (C := 300) (D := 1810) hX hG hmk hS (w := 2) (by decide) dL_holds_516 cvL_12 ⟨Nat.le_of_ble_eq_true rfl, Nat.le_of_ble_eq_true rfl⟩ rfl rfl (by omega) (by omega) (Nat.le_of_ble_eq_true rfl) (fun I hS hf => ?_)
    replace hF := hF.ad hf
    replace hon := hon.fr hz.1 hf
    refine aw_top (show nI (cntN a hs.length 2) = nI (ovN a 2 4) from rfl) ?_
    refine aw_icmp_ne (tgt := 583) dL_holds_519 (by decide) (fun hc519 => absurd rfl hc519) (fun hc519 => ?_)
    refine aw_iload dL_holds_522 rfl ?_
    refine aw_aload_n dL_holds_524 rfl ?_
    refine aw_iconst (v := nI 3) dL_holds_525 rfl ?_
    refine aw_count (C := 300) (D := 1810) hX hG hmk hS (w := 3) (by decide) dL_holds_526 cvL_12 ⟨Nat.le_of_ble_eq_true rfl, Nat.le_of_ble_eq_true rfl⟩ rfl rfl (by omega) (by omega) (Nat.le_of_ble_eq_true rfl) (fun I hS hf => ?_)
    replace hF := hF.ad hf
    replace hon := hon.fr hz.1 hf
    refine aw_top (show nI (cntN a hs.length 3) = nI (ovN a 3 4) from rfl) ?_
    refine aw_icmp_ne (tgt := 583) dL_holds_529 (by decide) (fun hc529 => absurd rfl hc529) (fun hc529 => ?_)
    refine aw_iload dL_holds_532 rfl ?_
    refine aw_aload_n dL_holds_534 rfl ?_
    refine aw_iconst (v := nI 4) dL_holds_535 rfl ?_
    refine aw_count (C := 300) (D := 1810) hX hG hmk hS (w := 4) (by decide) dL_holds_536 cvL_12 ⟨Nat.le_of_ble_eq_true rfl, Nat.le_of_ble_eq_true rfl⟩ rfl rfl (by omega) (by omega) (Nat.le_of_ble_eq_true rfl) (fun I hS hf => ?_)
    replace hF := hF.ad hf
    replace hon := hon.fr hz.1 hf
    refine aw_top (show nI (cntN a hs.length 4) = nI (a.1 6) from rfl) ?_
    refine aw_icmp_ne (tgt := 583) dL_holds_539 (by decide) (fun hc539 => absurd (congrArg nI e9) hc539) (fun hc539 => ?_)
    refine aw_iload dL_holds_542 rfl ?_
    refine aw_aload_n dL_holds_544 rfl ?_
    refine aw_bipush (v := nI 6) dL_holds_545 rfl ?_
    refine aw_count (C := 300) (D := 1810) hX hG hmk hS (w := 6) (by decide) dL_holds_547 cvL_12 ⟨Nat.le_of_ble_eq_true rfl, Nat.le_of_ble_eq_true rfl⟩ rfl rfl (by omega) (by omega) (Nat.le_of_ble_eq_true rfl) (fun I hS hf => ?_)
    replace hF := hF.ad hf
    replace hon := hon.fr hz.1 hf
    refine aw_top (show nI (cntN a hs.length 6) = nI (ovN a 6 4) from rfl) ?_
    refine aw_icmp_ne (tgt := 583) dL_holds_550 (by decide) (fun hc550 => absurd rfl hc550) (fun hc550 => ?_)
    refine aw_aload_n dL_holds_553 rfl ?_
    refine aw_iconst (v := nI 2) dL_holds_554 rfl ?_
    refine aw_count (C := 300) (D := 1810) hX hG hmk hS (w := 2) (by decide) dL_holds_555 cvL_12 ⟨Nat.le_of_ble_eq_true rfl, Nat.le_of_ble_eq_true rfl⟩ rfl rfl (by omega) (by omega) (Nat.le_of_ble_eq_true rfl) (fun I hS hf => ?_)
    replace hF := hF.ad hf
    replace hon := hon.fr hz.1 hf
    refine aw_top (show nI (cntN a hs.length 2) = nI (ovN a 2 4) from rfl) ?_
    refine aw_aload_n dL_holds_558 rfl ?_
    refine aw_iconst (v := nI 1) dL_holds_559 rfl ?_
    refine aw_count (C := 300) (D := 1810) hX hG hmk hS (w := 1) (by decide) dL_holds_560 cvL_12 ⟨Nat.le_of_ble_eq_true rfl, Nat.le_of_ble_eq_true rfl⟩ rfl rfl (by omega) (by omega) (Nat.le_of_ble_eq_true rfl) (fun I hS hf => ?_)
    replace hF := hF.ad hf
    replace hon := hon.fr hz.1 hf
    refine aw_top (show nI (cntN a hs.length 1) = nI (a.2.1.length) from rfl) ?_
    refine aw_iload dL_holds_563 rfl ?_
    first | refine aw_iaddN dL_holds_565 ?_ | refine aw_iadd dL_holds_565 ?_
    refine aw_icmp_ne (tgt := 583) dL_holds_566 (by decide) (fun hc566 => absurd (congrArg nI e2) hc566) (fun hc566 => ?_)
    refine aw_aload_n dL_holds_569 rfl ?_
    refine aw_iconst (v := nI 1) dL_holds_570 rfl ?_
    refine aw_count (C := 300) (D := 1810) hX hG hmk hS (w := 1) (by decide) dL_holds_571 cvL_12 ⟨Nat.le_of_ble_eq_true rfl, Nat.le_of_ble_eq_true rfl⟩ rfl rfl (by omega) (by omega) (Nat.le_of_ble_eq_true rfl) (fun I hS hf => ?_)
    replace hF := hF.ad hf
    replace hon := hon.fr hz.1 hf
    refine aw_top (show nI (cntN a hs.length 1) = nI (a.2.1.length) from rfl) ?_
    refine aw_bipush (v := nI 16) dL_holds_574 rfl ?_
    refine aw_icmp_gtN (tgt := 583) dL_holds_576 (by decide) (by omega) (by omega) (fun hc576 => absurd hc576 (by omega)) (fun hc576 => ?_)
    refine aw_iconst (v := nI 1) dL_holds_579 rfl ?_
    refine aw_goto (tgt := 584) dL_holds_580 (by decide) ?_
    exact aw_zret dL_holds_584 rfl rfl (show _ ≤ 300 by omega) (show _ ≤ 1810 by omega) ⟨rfl, _, _, _, _, rfl, hKR, hS, hF⟩
  have k466 : ∀ (I : Nat → Nat → Int32) (cu su : Nat), XS I (a, hs, B) → FrZ z I0 I → ON I z (cnt a.2.1) → cu ≤ 269 → su ≤ 1612 → AW G YL_holds (HZ G K0 R0 I0 z (a, hs, B)) 466 [(0, .ref (G.1 0)), (3, .int (nI (ovN a 2 4))), (4, .int (nI (ovN a 3 4))), (5, .int (nI (smN a 4))), (6, .int (nI (ovN a 6 4))), (7, .int (oI (bestN a 4))), (10, .int (nI (a.1 6 + a.1 7)))] [.int (nI 1)] (K, R, I, J, z + 1) cu su := by
    intro I cu su hS hF hon hcu hsu
    cases hb : bestN a 4 with
    | none =>
      have eb : ovN a 6 4 = 0 := ovN_none (bestN_none hb)
      refine aw_istore (ls' := [(11, _), (0, _), (3, _), (4, _), (5, _), (6, _), (7, _), (10, _)]) dL_holds_466 (Nat.le_of_ble_eq_true rfl) rfl ?_
      refine aw_iload dL_holds_468 rfl ?_
      refine aw_if_ge (tgt := 486) dL_holds_470 (by decide) (fun hc470 => absurd hc470 (by decide)) (fun hc470 => ?_)
      refine aw_iload dL_holds_473 rfl ?_
      refine aw_top (congrArg nI eb) ?_
      refine aw_if_neN (tgt := 482) dL_holds_475 (by decide) (by omega) (fun hc475 => absurd hc475 (by omega)) (fun hc475 => ?_)
      refine aw_iconst (v := nI 1) dL_holds_478 rfl ?_
      refine aw_goto (tgt := 501) dL_holds_479 (by decide) ?_
      exact aw_pick [1, 2, 3, 4, 5, 7, 0, 6] rfl (k501 _ _ _ _ hS hF hon (by omega) (by omega))
    | some b =>
      obtain ⟨hb4, hb2⟩ := bestN_lt hb
      have eo : oI (some b) = nI b := rfl
      rw [eo]
      refine aw_istore (ls' := [(11, _), (0, _), (3, _), (4, _), (5, _), (6, _), (7, _), (10, _)]) dL_holds_466 (Nat.le_of_ble_eq_true rfl) rfl ?_
      refine aw_iload dL_holds_468 rfl ?_
      refine aw_if_ge (tgt := 486) dL_holds_470 (by decide) (fun hc470 => ?_) (fun hc470 => absurd (nI_pos' (by omega)) hc470)
      refine aw_aload_n dL_holds_486 rfl ?_
      refine aw_iload dL_holds_487 rfl ?_
      refine aw_iconst (v := nI 0) dL_holds_489 rfl ?_
      refine aw_store (C := 300) (D := 1810) hX hG hmk hS (s := b) (w := 0) hb4 (by decide) dL_holds_490 cvL_21 ⟨Nat.le_of_ble_eq_true rfl, Nat.le_of_ble_eq_true rfl⟩ rfl rfl (by omega) (by omega) (Nat.le_of_ble_eq_true rfl) (fun I hS hf => ?_)
      replace hF := hF.ad hf
      replace hon := hon.fr hz.1 hf
      rw [show tellN a b 0 = 0 from hb2]
      refine aw_if_neN (tgt := 500) dL_holds_493 (by decide) (by omega) (fun hc493 => absurd hc493 (by omega)) (fun hc493 => ?_)
      refine aw_iconst (v := nI 1) dL_holds_496 rfl ?_
      refine aw_goto (tgt := 501) dL_holds_497 (by decide) ?_
      exact aw_pick [1, 2, 3, 4, 5, 7, 0, 6] rfl (k501 _ _ _ _ hS hF hon (by omega) (by omega))
  by_cases hall : a.1 6 + a.1 7 = 0
  · have hsh : shareD a = FP.dconst1 := by unfold shareD; rw [if_pos hall]
    refine aw_aload_n dL_holds_400 rfl ?_
    refine aw_healthiest (C := 300) (D := 1810) hX hG hmk hS  dL_holds_401 cvL_68 ⟨Nat.le_of_ble_eq_true rfl, Nat.le_of_ble_eq_true rfl⟩ rfl rfl (by omega) (by omega) (Nat.le_of_ble_eq_true rfl) (fun I hS hf => ?_)
    replace hF := hF.ad hf
    replace hon := hon.fr hz.1 hf
    refine aw_istore (ls' := [(7, _), (0, _), (3, _), (4, _), (5, _), (6, _)]) dL_holds_404 (Nat.le_of_ble_eq_true rfl) rfl ?_
    refine aw_aload_n dL_holds_406 rfl ?_
    refine aw_health (C := 300) (D := 1810) hX hG hmk hS dL_holds_407 cvL_71 ⟨Nat.le_of_ble_eq_true rfl, Nat.le_of_ble_eq_true rfl⟩ rfl rfl (by omega) (by omega) (Nat.le_of_ble_eq_true rfl) ?_
    rw [hsh]
    refine aw_dstore (ls' := [(8, _), (7, _), (0, _), (3, _), (4, _), (5, _), (6, _)]) dL_holds_410 (Nat.le_of_ble_eq_true rfl) rfl ?_
    refine aw_aload_n dL_holds_412 rfl ?_
    refine aw_iconst (v := nI 4) dL_holds_413 rfl ?_
    refine aw_count (C := 300) (D := 1810) hX hG hmk hS (w := 4) (by decide) dL_holds_414 cvL_12 ⟨Nat.le_of_ble_eq_true rfl, Nat.le_of_ble_eq_true rfl⟩ rfl rfl (by omega) (by omega) (Nat.le_of_ble_eq_true rfl) (fun I hS hf => ?_)
    replace hF := hF.ad hf
    replace hon := hon.fr hz.1 hf
    refine aw_top (show nI (cntN a hs.length 4) = nI (a.1 6) from rfl) ?_
    refine aw_aload_n dL_holds_417 rfl ?_
    refine aw_iconst (v := nI 5) dL_holds_418 rfl ?_
    refine aw_count (C := 300) (D := 1810) hX hG hmk hS (w := 5) (by decide) dL_holds_419 cvL_12 ⟨Nat.le_of_ble_eq_true rfl, Nat.le_of_ble_eq_true rfl⟩ rfl rfl (by omega) (by omega) (Nat.le_of_ble_eq_true rfl) (fun I hS hf => ?_)
    replace hF := hF.ad hf
    replace hon := hon.fr hz.1 hf
    refine aw_top (show nI (cntN a hs.length 5) = nI (a.1 7) from rfl) ?_
    first | refine aw_iaddN dL_holds_422 ?_ | refine aw_iadd dL_holds_422 ?_
    refine aw_istore (ls' := [(10, _), (8, _), (7, _), (0, _), (3, _), (4, _), (5, _), (6, _)]) dL_holds_423 (Nat.le_of_ble_eq_true rfl) rfl ?_
    refine aw_iload dL_holds_425 rfl ?_
    refine aw_if_neN (tgt := 445) dL_holds_427 (by decide) (by omega) (fun hc427 => absurd hc427 (by omega)) (fun hc427 => ?_)
    refine aw_dload dL_holds_430 rfl ?_
    refine aw_dconst1 dL_holds_432 ?_
    refine aw_dcmp dL_holds_433 ?_
    refine aw_top (dcmp_z one_ne) ?_
    refine aw_if_neN (tgt := 441) dL_holds_434 (by decide) (by omega) (fun hc434 => absurd hc434 (by omega)) (fun hc434 => ?_)
    refine aw_iconst (v := nI 1) dL_holds_437 rfl ?_
    refine aw_goto (tgt := 466) dL_holds_438 (by decide) ?_
    exact aw_pick [3, 4, 5, 6, 7, 2, 0] rfl (k466 _ _ _ hS hF hon (by omega) (by omega))
  · have hsh : shareD a = FP.ddiv (FP.i2d (nI (a.1 7))) (FP.i2d (nI (a.1 6 + a.1 7))) := by unfold shareD; rw [if_neg hall]
    have hne := ddiv_ne (x := nI (a.1 7)) (n := a.1 6 + a.1 7) (by omega) (by omega)
    refine aw_aload_n dL_holds_400 rfl ?_
    refine aw_healthiest (C := 300) (D := 1810) hX hG hmk hS  dL_holds_401 cvL_68 ⟨Nat.le_of_ble_eq_true rfl, Nat.le_of_ble_eq_true rfl⟩ rfl rfl (by omega) (by omega) (Nat.le_of_ble_eq_true rfl) (fun I hS hf => ?_)
    replace hF := hF.ad hf
    replace hon := hon.fr hz.1 hf
    refine aw_istore (ls' := [(7, _), (0, _), (3, _), (4, _), (5, _), (6, _)]) dL_holds_404 (Nat.le_of_ble_eq_true rfl) rfl ?_
    refine aw_aload_n dL_holds_406 rfl ?_
    refine aw_health (C := 300) (D := 1810) hX hG hmk hS dL_holds_407 cvL_71 ⟨Nat.le_of_ble_eq_true rfl, Nat.le_of_ble_eq_true rfl⟩ rfl rfl (by omega) (by omega) (Nat.le_of_ble_eq_true rfl) ?_
    rw [hsh]
    refine aw_dstore (ls' := [(8, _), (7, _), (0, _), (3, _), (4, _), (5, _), (6, _)]) dL_holds_410 (Nat.le_of_ble_eq_true rfl) rfl ?_
    refine aw_aload_n dL_holds_412 rfl ?_
    refine aw_iconst (v := nI 4) dL_holds_413 rfl ?_
    refine aw_count (C := 300) (D := 1810) hX hG hmk hS (w := 4) (by decide) dL_holds_414 cvL_12 ⟨Nat.le_of_ble_eq_true rfl, Nat.le_of_ble_eq_true rfl⟩ rfl rfl (by omega) (by omega) (Nat.le_of_ble_eq_true rfl) (fun I hS hf => ?_)
    replace hF := hF.ad hf
    replace hon := hon.fr hz.1 hf
    refine aw_top (show nI (cntN a hs.length 4) = nI (a.1 6) from rfl) ?_
    refine aw_aload_n dL_holds_417 rfl ?_
    refine aw_iconst (v := nI 5) dL_holds_418 rfl ?_
    refine aw_count (C := 300) (D := 1810) hX hG hmk hS (w := 5) (by decide) dL_holds_419 cvL_12 ⟨Nat.le_of_ble_eq_true rfl, Nat.le_of_ble_eq_true rfl⟩ rfl rfl (by omega) (by omega) (Nat.le_of_ble_eq_true rfl) (fun I hS hf => ?_)
    replace hF := hF.ad hf
    replace hon := hon.fr hz.1 hf
    refine aw_top (show nI (cntN a hs.length 5) = nI (a.1 7) from rfl) ?_
    first | refine aw_iaddN dL_holds_422 ?_ | refine aw_iadd dL_holds_422 ?_
    refine aw_istore (ls' := [(10, _), (8, _), (7, _), (0, _), (3, _), (4, _), (5, _), (6, _)]) dL_holds_423 (Nat.le_of_ble_eq_true rfl) rfl ?_
    refine aw_iload dL_holds_425 rfl ?_
    refine aw_if_neN (tgt := 445) dL_holds_427 (by decide) (by omega) (fun hc427 => ?_) (fun hc427 => absurd hc427 (by omega))
    refine aw_dload dL_holds_445 rfl ?_
    refine aw_aload_n dL_holds_447 rfl ?_
    refine aw_iconst (v := nI 5) dL_holds_448 rfl ?_
    refine aw_count (C := 300) (D := 1810) hX hG hmk hS (w := 5) (by decide) dL_holds_449 cvL_12 ⟨Nat.le_of_ble_eq_true rfl, Nat.le_of_ble_eq_true rfl⟩ rfl rfl (by omega) (by omega) (Nat.le_of_ble_eq_true rfl) (fun I hS hf => ?_)
    replace hF := hF.ad hf
    replace hon := hon.fr hz.1 hf
    refine aw_top (show nI (cntN a hs.length 5) = nI (a.1 7) from rfl) ?_
    refine aw_i2d dL_holds_452 ?_
    refine aw_iload dL_holds_453 rfl ?_
    refine aw_i2d dL_holds_455 ?_
    refine aw_ddiv dL_holds_456 (n64_of hne) ?_
    refine aw_dcmp dL_holds_457 ?_
    refine aw_top (dcmp_z hne) ?_
    refine aw_if_neN (tgt := 465) dL_holds_458 (by decide) (by omega) (fun hc458 => absurd hc458 (by omega)) (fun hc458 => ?_)
    refine aw_iconst (v := nI 1) dL_holds_461 rfl ?_
    refine aw_goto (tgt := 466) dL_holds_462 (by decide) ?_
    exact aw_pick [3, 4, 5, 6, 7, 2, 0] rfl (k466 _ _ _ hS hF hon (by omega) (by omega))
theorem q_holds (hX : LX G K R) (hG : GI1 m k a) (hJ : JV a) (hmk : m + k ≤ 800000000) (hz : 140 ≤ z ∧ z < 1000) (hS : XS I (a, hs, B)) : Run G YL_holds [.ref (G.1 0)] (K, R, I, J, z) (HP K R I z (a, hs, B)) := by
  refine run_of (ls := [(0, .ref (G.1 0))]) (by decide +kernel) rfl rfl (Nat.le_of_ble_eq_true rfl) ?_
  refine aw_iconst (v := nI 0) dL_holds_0 rfl ?_
  refine aw_istore_n (ls' := [(1, _), (0, _)]) dL_holds_1 (Nat.le_of_ble_eq_true rfl) rfl ?_
  refine aw_iconst (v := nI 4) dL_holds_2 rfl ?_
  refine aw_newaI (N := 4) dL_holds_3 (gT_ix 97 (by decide +kernel) rfl) (by decide) hz.2 (Nat.le_of_ble_eq_true rfl) (Nat.le_of_ble_eq_true rfl) ?_
  refine aw_astore_n (ls' := [(2, _), (1, _), (0, _)]) dL_holds_5 (Nat.le_of_ble_eq_true rfl) rfl ?_
  refine aw_iconst (v := nI 0) dL_holds_6 rfl ?_
  refine aw_istore_n (ls' := [(3, _), (2, _), (1, _), (0, _)]) dL_holds_7 (Nat.le_of_ble_eq_true rfl) rfl ?_
  have hX1 : LX G (upK K z (10, 4)) (zr R z .null) := hX.fr (fun q hq => ⟨upK_n (by omega), zr_n (by omega)⟩)
  have hKz : upK K z (10, 4) z = some (10, 4) := upK_s
  have hKR : ∀ q, q ≠ z → upK K z (10, 4) q = K q ∧ zr R z .null q = R q := fun q hq => ⟨upK_n hq, zr_n hq⟩
  have hS1 : XS (zr I z 0) (a, hs, B) := hS.keep (fun q hq => zr_n (by omega))
  have hF1 : FrZ z I (zr I z 0) := fun q h1 h2 => zr_n h2
  have hon1 : ON (zr I z 0) z (cnt []) := fun s hs => zr_s
  generalize upK K z (10, 4) = K1 at hX1 hKz hKR ⊢
  generalize zr R z .null = R1 at hX1 hKR ⊢
  generalize zr I z 0 = I1 at hS1 hF1 hon1 ⊢
  generalize zr J z 0 = J1
  have s2 := h_stores (J := J1) (hs := hs) (B := B) (K0 := K) (R0 := R) (I0 := I) hX1 hG hmk hKz hz (fun I cu su hS hF hon hcu hsu => h_end hX1 hG hmk hKz hz hJ hKR hS hF hon hcu hsu)
  have s1 := h_calls (J := J1) (hs := hs) (B := B) (K0 := K) (R0 := R) (I0 := I) hX1 hG hmk hKz hz (fun I cu su hS hF hon hcu hsu => h_mid (s2 4 0 I cu su rfl (by decide) hS hF hon hcu hsu)) a.2.1 [] I1 (0 + 1) (0 + 4) rfl hS1 hF1 hon1 (by decide) (by decide)
  exact aw_pick [3, 2, 1, 0] rfl s1
end HOLDS
