/-! THE LAW: its turns -/
abbrev YLw (nm : String) (tb : List (Nat × Nat × Nat × Nat)) : YY := (⟨RL, nm, "([I)Z"⟩, cL_law, 11, ret, room_1, tb)
/-- what lies there in every turn -/
def IV0 (G : GG) (K : Nat → Option (Nat × Nat)) (R : Nat → Nat → Value) (L : Nat) (xs : Nat → Int32) (I : Nat → Nat → Int32) : Prop :=
  LX G K R ∧ K 1000 = some (10, L) ∧ SC K I ∧ ∀ j, j < L → I 1000 j = xs j
theorem IV0.fr {G : GG} {K : Nat → Option (Nat × Nat)} {R : Nat → Nat → Value} {L : Nat} {xs : Nat → Int32} {I I' : Nat → Nat → Int32} (h : IV0 G K R L xs I) (hf : FrC I I') : IV0 G K R L xs I' :=
  ⟨h.1, h.2.1, h.2.2.1.fr hf, by rw [hf 1000 (by decide)]; exact h.2.2.2⟩
theorem IV0.frz {G : GG} {K K' : Nat → Option (Nat × Nat)} {R R' : Nat → Nat → Value} {L z : Nat} {xs : Nat → Int32} {I I' : Nat → Nat → Int32} (h : IV0 G K R L xs I) (hz : 140 ≤ z ∧ z < 1000) (hKR : ∀ q, q ≠ z → K' q = K q ∧ R' q = R q) (hF : FrZ z I I') : IV0 G K' R' L xs I' := by
  obtain ⟨h1, h2, ⟨h3, h4, h5, h6⟩, h7⟩ := h
  refine ⟨h1.fr (fun q hq => hKR q (by omega)), by rw [(hKR 1000 (by omega)).1]; exact h2, ⟨by rw [(hKR 1002 (by omega)).1]; exact h3, by rw [hF 1002 (by decide) (by omega)]; exact h4, by rw [(hKR 1003 (by omega)).1]; exact h5, by rw [hF 1003 (by decide) (by omega)]; exact h6⟩, by rw [hF 1000 (by decide) (by omega)]; exact h7⟩
def GA (t : Nat) (a : AA) (hs : List AA) : Prop := GI (50 * t) t (a, hs, ([] : List Nat)) ∧ JV a ∧ ∀ x ∈ hs, JV x
theorem pushH_5 {hs : List AA} {a : AA} (h : hs.length ≤ 5) : pushH hs a = hs ++ [a] := by
  unfold pushH
  rw [if_neg (by omega)]
theorem GA.up {t : Nat} {a : AA} {hs : List AA} (h : GA t a hs) : GA (t + 1) a hs := ⟨h.1.mono (by omega) (by omega), h.2⟩
theorem GA.undo {t : Nat} {a x : AA} {l : List AA} (h : GA t a (l ++ [x])) : GA t x l :=
  ⟨⟨h.1.2 x (List.mem_append_right _ (List.mem_singleton.mpr rfl)), fun y hy => h.1.2 y (List.mem_append_left _ hy)⟩, h.2.2 x (List.mem_append_right _ (List.mem_singleton.mpr rfl)), fun y hy => h.2.2 y (List.mem_append_left _ hy)⟩
theorem GA.act {t : Nat} {a a' : AA} {hs : List AA} {v w g : Int32} (h : GA t a hs) (ho : actF v w a = some (g, a')) : GA (t + 1) a' (hs ++ [a]) ∧ ¬ g ≤ -9 := by
  obtain ⟨w1, w2, w3⟩ := act_ok h.1.1 h.2.1 ho
  have hu := h.up
  refine ⟨⟨⟨w1.mono (by omega) (by omega), fun x hx => ?_⟩, w2, fun x hx => ?_⟩, w3⟩
  · rcases List.mem_append.mp hx with q | q
    · exact hu.1.2 x q
    · rw [List.mem_singleton.mp q]; exact hu.1.1
  · rcases List.mem_append.mp hx with q | q
    · exact h.2.2 x q
    · rw [List.mem_singleton.mp q]; exact h.2.1
section LAWR
variable {G : GG} {y : YY} {Z : ZT} {K : Nat → Option (Nat × Nat)} {R : Nat → Nat → Value} {I I0 : Nat → Nat → Int32} {J : Nat → Nat → Int64} {z pc cu su C D : Nat} {ls : List (Nat × Value)} {st rest : List Value} {a : AA} {m k : Nat}
variable {B : List Nat} {hs : List AA}
theorem aw_rx {yc : YY} {idx n mc ms : Nat} {As : List Value} {v : Value} {s' : ST} (hd : decode y.2.1 pc = .ok (.invokestatic idx, 3)) (cv : CS y.1.cls idx yc n) (cr : CR yc y) (hr : Run G yc As (K, R, I, J, z) (RX K R I J z v s')) (hst : st = As.reverse ++ rest) (hn : As.length = n) (hrest : (rest.map fun v => v.category).sum ≤ 8)
    (hmc : yc.2.2.2.2.1.cells = mc) (hms : yc.2.2.2.2.1.slots = ms) (hC : y.2.2.2.2.1.cells = C) (hD : y.2.2.2.2.1.slots = D) (hc : cu + mc ≤ C) (hs : su + ms ≤ D)
    (kk : ∀ I', XS I' s' → FrC I I' → AW G y Z (pc + 3) ls (v :: rest) (K, R, I', J, z) (cu + mc) (su + ms)) : AW G y Z pc ls st (K, R, I, J, z) cu su := by
  subst hmc
  subst hms
  refine aw_invS hd cv cr hst hn hrest ⟨by rw [hC]; exact hc, by rw [hD]; exact hs⟩ hr (fun E σ' q => ?_) (fun r σ' q => ?_)
  · cases q.1
  · obtain ⟨q1, I', rfl, h1, h2⟩ := q
    cases q1
    exact kk I' h1 h2
theorem aw_undo {x : AA} {l : List AA} (hX : LX G K R) (hG : GI1 m k a) (hmk : m + k ≤ 800000000) (hS : XS I (a, l ++ [x], B)) (hd : decode y.2.1 pc = .ok (.invokevirtual 80, 3)) (cv : CV y.1.cls 80 YX3_undo 0) (cr : CR YX3_undo y) (hC : y.2.2.2.2.1.cells = C) (hD : y.2.2.2.2.1.slots = D) (hc : cu + 1 ≤ C) (hs' : su + 6 ≤ D) (hrest : (rest.map fun v => v.category).sum ≤ 8)
    (kk : ∀ I', XS I' (x, l, B) → FrC I I' → AW G y Z (pc + 3) ls (.int (nI l.length) :: rest) (K, R, I', J, z) (cu + 1) (su + 6)) : AW G y Z pc ls (.ref (G.1 0) :: rest) (K, R, I, J, z) cu su :=
  aw_x (As := []) (mc := 1) (ms := 6) hd cv cr hX ⟨_, rfl, rfl⟩ (X_undo hX hS hG.1 hG.2.1 hmk) (by
    unfold sUndo
    simp only [List.getLast?_append, List.getLast?_singleton, Option.some_or, List.dropLast_concat, List.length_append, List.length_singleton, Nat.add_sub_cancel]) rfl rfl hrest rfl rfl hC hD hc hs' kk
end LAWR
section LAWT
variable {G : GG} {K : Nat → Option (Nat × Nat)} {R : Nat → Nat → Value} {I : Nat → Nat → Int32} {J : Nat → Nat → Int64} {a : AA} {hs : List AA}
variable {nm : String} {tb : List (Nat × Nat × Nat × Nat)} {Z : ZT} {L t cu su : Nat} {xs : Nat → Int32} {v w : Int32}
abbrev LLs (G : GG) (t : Nat) : List (Nat × Value) := [(0, .ref (G.1 1000)), (1, .ref (G.1 0)), (2, .int (nI t))]
/-- turn t begins -/
def LH (G : GG) (y : YY) (Z : ZT) (L : Nat) (xs : Nat → Int32) (t : Nat) : Prop := ∀ (K : Nat → Option (Nat × Nat)) (R : Nat → Nat → Value) (I : Nat → Nat → Int32) (J : Nat → Nat → Int64) (a : AA) (hs : List AA) (cu su : Nat), IV0 G K R L xs I → XS I (a, hs, []) → GA t a hs → hs.length ≤ 6 → cu ≤ 140 + 1700 * t → su ≤ 1970 + 10200 * t → AW G y Z 10 (LLs G t) [] (K, R, I, J, 140 + t) cu su
theorem ph_D (ht : t ≤ 41) (nx : LH G (YLw nm tb) Z L xs (t + 1)) (h0 : IV0 G K R L xs I) (hS : XS I (a, hs, [])) (hA : GA (t + 1) a hs) (hl : hs.length ≤ 6) (hcu : cu ≤ 140 + 1700 * t + 1120) (hsu : su ≤ 1970 + 10200 * t + 6720) : AW G (YLw nm tb) Z 188 [(0, .ref (G.1 1000)), (1, .ref (G.1 0)), (2, .int (nI t)), (9, .long (toldV a))] [] (K, R, I, J, 140 + t) cu su := by
  have hz : 140 ≤ 140 + t ∧ 140 + t < 1000 := by omega
  refine aw_aload_n dL_law_188 rfl ?_
  refine aw_invS (As := [.ref (G.1 0)]) dL_law_189 cvL_91 ⟨Nat.le_of_ble_eq_true rfl, Nat.le_of_ble_eq_true rfl⟩ rfl rfl (Nat.le_of_ble_eq_true rfl) ⟨show cu + 300 ≤ 600104 by omega, show su + 1810 ≤ 7301314 by omega⟩ (q_holds h0.1 hA.1.1 hA.2.1 (by omega) hz hS) (fun E σ' q => by cases q.1) (fun r σ' q => ?_)
  obtain ⟨q1, K', R', I', J', rfl, hKR, hS', hF⟩ := q
  cases q1
  have h0' := h0.frz hz hKR hF
  clear h0 hS hF hKR
  have key : ∀ (cu su : Nat), cu ≤ 140 + 1700 * t + 1420 → su ≤ 1970 + 10200 * t + 8530 → AW G (YLw nm tb) Z 192 [(0, .ref (G.1 1000)), (1, .ref (G.1 0)), (2, .int (nI t)), (9, .long (toldV a))] [.int (nI 1)] (K', R', I', J', 140 + t + 1) cu su := by
    intro cu su hcu hsu
    have h0 := h0'
    have hS := hS'
    refine aw_if_eqN (tgt := 205) dL_law_192 (by decide) (by omega) (fun hc192 => absurd hc192 (by omega)) (fun hc192 => ?_)
    refine aw_aload_n dL_law_195 rfl ?_
    refine aw_rx (C := 600104) (D := 7301314) (mc := 262) (ms := 1572) dL_law_196 cvL_83 ⟨Nat.le_of_ble_eq_true rfl, Nat.le_of_ble_eq_true rfl⟩ (q_told h0.1 hA.1.1 (by omega) hS) rfl rfl (Nat.le_of_ble_eq_true rfl) rfl rfl rfl rfl (by omega) (by omega) (fun I hS hf => ?_)
    replace h0 := h0.fr hf
    refine aw_lload dL_law_199 rfl ?_
    refine aw_lcmp dL_law_201 ?_
    refine aw_top (lg_self _) ?_
    refine aw_if_eqN (tgt := 207) dL_law_202 (by decide) (by omega) (fun hc202 => ?_) (fun hc202 => absurd rfl hc202)
    refine aw_iincN (k := 1) (ls' := [(2, _), (0, _), (1, _), (9, _)]) dL_law_207 rfl rfl (Nat.le_of_ble_eq_true rfl) rfl ?_
    refine aw_goto (tgt := 10) dL_law_210 (by decide) ?_
    exact aw_pick [1, 2, 0] rfl (nx _ _ _ _ _ _ _ _ h0 hS hA hl (by omega) (by omega))
  exact key _ _ (show cu + 300 ≤ _ by omega) (show su + 1810 ≤ _ by omega)
theorem ph_C {a' : AA} {g : Int32} (ht : t ≤ 41) (nx : LH G (YLw nm tb) Z L xs (t + 1)) (ho : actF v w a = some (g, a')) (h0 : IV0 G K R L xs I) (hS : XS I (a', hs ++ [a], [])) (hA0 : GA t a hs) (hl : hs.length ≤ 5) (hcu : cu ≤ 140 + 1700 * t + 560) (hsu : su ≤ 1970 + 10200 * t + 3360) : AW G (YLw nm tb) Z 129 [(0, .ref (G.1 1000)), (1, .ref (G.1 0)), (2, .int (nI t)), (3, .int v), (4, .int w), (5, .int (nI hs.length)), (6, .long (toldV a)), (8, .int g), (9, .long (toldV a'))] [] (K, R, I, J, 140 + t) cu su := by
  obtain ⟨hA, hg⟩ := hA0.act ho
  have hl6 : (hs ++ [a]).length ≤ 6 := by rw [List.length_append]; show hs.length + 1 ≤ 6; omega
  refine aw_iload dL_law_129 rfl ?_
  refine aw_bipush (v := (-9)) dL_law_131 rfl ?_
  refine aw_icmp_le (tgt := 188) dL_law_133 (by decide) (fun hc133 => absurd hc133 hg) (fun hc133 => ?_)
  refine aw_iload_n dL_law_136 rfl ?_
  refine aw_bipush (v := nI 9) dL_law_137 rfl ?_
  refine aw_ishr dL_law_139 ?_
  refine aw_iconst (v := nI 1) dL_law_140 rfl ?_
  refine aw_iand dL_law_141 ?_
  refine aw_top (and_lowB _ 1 (by decide)) ?_
  refine aw_if_neN (tgt := 188) dL_law_142 (by decide) (Nat.lt_of_lt_of_le (lowB_lt _ _) (by decide)) (fun hc142 => ?_) (fun hc142 => ?_)
  · exact aw_pick [0, 1, 2, 8] rfl (ph_D ht nx h0 hS hA hl6 (by omega) (by omega))
  · refine aw_aload_n dL_law_145 rfl ?_
    refine aw_undo (C := 600104) (D := 7301314) h0.1 hA.1.1 (by omega) hS  dL_law_146 cvL_80 ⟨Nat.le_of_ble_eq_true rfl, Nat.le_of_ble_eq_true rfl⟩ rfl rfl (by omega) (by omega) (Nat.le_of_ble_eq_true rfl) (fun I hS hf => ?_)
    replace h0 := h0.fr hf
    refine aw_iload dL_law_149 rfl ?_
    refine aw_icmp_neN (tgt := 186) dL_law_151 (by decide) (by omega) (by omega) (fun hc151 => absurd rfl hc151) (fun hc151 => ?_)
    refine aw_aload_n dL_law_154 rfl ?_
    refine aw_rx (C := 600104) (D := 7301314) (mc := 262) (ms := 1572) dL_law_155 cvL_83 ⟨Nat.le_of_ble_eq_true rfl, Nat.le_of_ble_eq_true rfl⟩ (q_told h0.1 hA0.1.1 (by omega) hS) rfl rfl (Nat.le_of_ble_eq_true rfl) rfl rfl rfl rfl (by omega) (by omega) (fun I hS hf => ?_)
    replace h0 := h0.fr hf
    refine aw_lload dL_law_158 rfl ?_
    refine aw_lcmp dL_law_160 ?_
    refine aw_top (lg_self _) ?_
    refine aw_if_neN (tgt := 186) dL_law_161 (by decide) (by omega) (fun hc161 => absurd hc161 (by omega)) (fun hc161 => ?_)
    refine aw_aload_n dL_law_164 rfl ?_
    refine aw_iload_n dL_law_165 rfl ?_
    refine aw_iload dL_law_166 rfl ?_
    have hq := q_act (v := v) (w := w) (J := J) (z := 140 + t) h0.1 hA0.1.1 (by omega) hS h0.2.2.1
    rw [ho] at hq
    refine aw_rx (C := 600104) (D := 7301314) (mc := 30) (ms := 180) dL_law_168 cvL_87 ⟨Nat.le_of_ble_eq_true rfl, Nat.le_of_ble_eq_true rfl⟩ hq rfl rfl (Nat.le_of_ble_eq_true rfl) rfl rfl rfl rfl (by omega) (by omega) (fun I hS hf => ?_)
    replace h0 := h0.fr hf
    replace hS : XS I (a', hs ++ [a], []) := by
      rw [← pushH_5 hl]
      exact hS
    refine aw_top (show _ = g from rfl) ?_
    refine aw_iload dL_law_171 rfl ?_
    refine aw_icmp_ne (tgt := 186) dL_law_173 (by decide) (fun hc173 => absurd rfl hc173) (fun hc173 => ?_)
    refine aw_aload_n dL_law_176 rfl ?_
    refine aw_rx (C := 600104) (D := 7301314) (mc := 262) (ms := 1572) dL_law_177 cvL_83 ⟨Nat.le_of_ble_eq_true rfl, Nat.le_of_ble_eq_true rfl⟩ (q_told h0.1 hA.1.1 (by omega) hS) rfl rfl (Nat.le_of_ble_eq_true rfl) rfl rfl rfl rfl (by omega) (by omega) (fun I hS hf => ?_)
    replace h0 := h0.fr hf
    refine aw_lload dL_law_180 rfl ?_
    refine aw_lcmp dL_law_182 ?_
    refine aw_top (lg_self _) ?_
    refine aw_if_eqN (tgt := 188) dL_law_183 (by decide) (by omega) (fun hc183 => ?_) (fun hc183 => absurd rfl hc183)
    exact aw_pick [0, 1, 2, 8] rfl (ph_D ht nx h0 hS hA hl6 (by omega) (by omega))
theorem ph_A (ht : t ≤ 41) (nx : LH G (YLw nm tb) Z L xs (t + 1)) (h0 : IV0 G K R L xs I) (hS : XS I (a, hs, [])) (hA0 : GA t a hs) (hl : hs.length ≤ 5) (hcu : cu ≤ 140 + 1700 * t + 3) (hsu : su ≤ 1970 + 10200 * t + 18) : AW G (YLw nm tb) Z 56 [(0, .ref (G.1 1000)), (1, .ref (G.1 0)), (2, .int (nI t)), (3, .int v), (4, .int w)] [] (K, R, I, J, 140 + t) cu su := by
  cases ho : actF v w a with
  | none =>
    refine aw_aload_n dL_law_56 rfl ?_
    refine aw_bipush (v := nI 8) dL_law_57 rfl ?_
    refine aw_count (C := 600104) (D := 7301314) h0.1 hA0.1.1 (by omega) hS (w := 8) (by decide) dL_law_59 cvL_12 ⟨Nat.le_of_ble_eq_true rfl, Nat.le_of_ble_eq_true rfl⟩ rfl rfl (by omega) (by omega) (Nat.le_of_ble_eq_true rfl) (fun I hS hf => ?_)
    replace h0 := h0.fr hf
    refine aw_top (show _ = nI (hs.length) from rfl) ?_
    refine aw_istore (ls' := [(5, _), (0, _), (1, _), (2, _), (3, _), (4, _)]) dL_law_62 (Nat.le_of_ble_eq_true rfl) rfl ?_
    refine aw_aload_n dL_law_64 rfl ?_
    refine aw_rx (C := 600104) (D := 7301314) (mc := 262) (ms := 1572) dL_law_65 cvL_83 ⟨Nat.le_of_ble_eq_true rfl, Nat.le_of_ble_eq_true rfl⟩ (q_told h0.1 hA0.1.1 (by omega) hS) rfl rfl (Nat.le_of_ble_eq_true rfl) rfl rfl rfl rfl (by omega) (by omega) (fun I hS hf => ?_)
    replace h0 := h0.fr hf
    refine aw_lstore (ls' := [(6, _), (5, _), (0, _), (1, _), (2, _), (3, _), (4, _)]) dL_law_68 (Nat.le_of_ble_eq_true rfl) rfl ?_
    refine aw_aload_n dL_law_70 rfl ?_
    refine aw_iload_n dL_law_71 rfl ?_
    refine aw_iload dL_law_72 rfl ?_
    have hq := q_act (v := v) (w := w) (J := J) (z := 140 + t) h0.1 hA0.1.1 (by omega) hS h0.2.2.1
    rw [ho] at hq
    refine aw_rx (C := 600104) (D := 7301314) (mc := 30) (ms := 180) dL_law_74 cvL_87 ⟨Nat.le_of_ble_eq_true rfl, Nat.le_of_ble_eq_true rfl⟩ hq rfl rfl (Nat.le_of_ble_eq_true rfl) rfl rfl rfl rfl (by omega) (by omega) (fun I hS hf => ?_)
    replace h0 := h0.fr hf
    replace hS : XS I (a, hs, []) := hS
    refine aw_top (show _ = (-9 : Int32) from rfl) ?_
    refine aw_istore (ls' := [(8, _), (6, _), (5, _), (0, _), (1, _), (2, _), (3, _), (4, _)]) dL_law_77 (Nat.le_of_ble_eq_true rfl) rfl ?_
    refine aw_aload_n dL_law_79 rfl ?_
    refine aw_rx (C := 600104) (D := 7301314) (mc := 262) (ms := 1572) dL_law_80 cvL_83 ⟨Nat.le_of_ble_eq_true rfl, Nat.le_of_ble_eq_true rfl⟩ (q_told h0.1 hA0.1.1 (by omega) hS) rfl rfl (Nat.le_of_ble_eq_true rfl) rfl rfl rfl rfl (by omega) (by omega) (fun I hS hf => ?_)
    replace h0 := h0.fr hf
    refine aw_lstore (ls' := [(9, _), (8, _), (6, _), (5, _), (0, _), (1, _), (2, _), (3, _), (4, _)]) dL_law_83 (Nat.le_of_ble_eq_true rfl) rfl ?_
    refine aw_iload dL_law_85 rfl ?_
    refine aw_bipush (v := (-9)) dL_law_87 rfl ?_
    refine aw_icmp_ne (tgt := 114) dL_law_89 (by decide) (fun hc89 => absurd rfl hc89) (fun hc89 => ?_)
    refine aw_lload dL_law_92 rfl ?_
    refine aw_lload dL_law_94 rfl ?_
    refine aw_lcmp dL_law_96 ?_
    refine aw_top (lg_self _) ?_
    refine aw_if_neN (tgt := 127) dL_law_97 (by decide) (by omega) (fun hc97 => absurd hc97 (by omega)) (fun hc97 => ?_)
    refine aw_aload_n dL_law_100 rfl ?_
    refine aw_bipush (v := nI 8) dL_law_101 rfl ?_
    refine aw_count (C := 600104) (D := 7301314) h0.1 hA0.1.1 (by omega) hS (w := 8) (by decide) dL_law_103 cvL_12 ⟨Nat.le_of_ble_eq_true rfl, Nat.le_of_ble_eq_true rfl⟩ rfl rfl (by omega) (by omega) (Nat.le_of_ble_eq_true rfl) (fun I hS hf => ?_)
    replace h0 := h0.fr hf
    refine aw_top (show _ = nI (hs.length) from rfl) ?_
    refine aw_iload dL_law_106 rfl ?_
    refine aw_icmp_eqN (tgt := 129) dL_law_108 (by decide) (by omega) (by omega) (fun hc108 => ?_) (fun hc108 => absurd rfl hc108)
    refine aw_iload dL_law_129 rfl ?_
    refine aw_bipush (v := (-9)) dL_law_131 rfl ?_
    refine aw_icmp_le (tgt := 188) dL_law_133 (by decide) (fun hc133 => ?_) (fun hc133 => absurd (by decide) hc133)
    exact aw_pick [4, 5, 6, 0] rfl (ph_D ht nx h0 hS hA0.up (by omega) (by omega) (by omega))
  | some x =>
    obtain ⟨g, a'⟩ := x
    obtain ⟨hA, hg⟩ := hA0.act ho
    have hne : g ≠ -9 := fun q => hg (by rw [q]; decide)
    have e1 : (hs ++ [a]).length = hs.length + 1 := List.length_append
    refine aw_aload_n dL_law_56 rfl ?_
    refine aw_bipush (v := nI 8) dL_law_57 rfl ?_
    refine aw_count (C := 600104) (D := 7301314) h0.1 hA0.1.1 (by omega) hS (w := 8) (by decide) dL_law_59 cvL_12 ⟨Nat.le_of_ble_eq_true rfl, Nat.le_of_ble_eq_true rfl⟩ rfl rfl (by omega) (by omega) (Nat.le_of_ble_eq_true rfl) (fun I hS hf => ?_)
    replace h0 := h0.fr hf
    refine aw_top (show _ = nI (hs.length) from rfl) ?_
    refine aw_istore (ls' := [(5, _), (0, _), (1, _), (2, _), (3, _), (4, _)]) dL_law_62 (Nat.le_of_ble_eq_true rfl) rfl ?_
    refine aw_aload_n dL_law_64 rfl ?_
    refine aw_rx (C := 600104) (D := 7301314) (mc := 262) (ms := 1572) dL_law_65 cvL_83 ⟨Nat.le_of_ble_eq_true rfl, Nat.le_of_ble_eq_true rfl⟩ (q_told h0.1 hA0.1.1 (by omega) hS) rfl rfl (Nat.le_of_ble_eq_true rfl) rfl rfl rfl rfl (by omega) (by omega) (fun I hS hf => ?_)
    replace h0 := h0.fr hf
    refine aw_lstore (ls' := [(6, _), (5, _), (0, _), (1, _), (2, _), (3, _), (4, _)]) dL_law_68 (Nat.le_of_ble_eq_true rfl) rfl ?_
    refine aw_aload_n dL_law_70 rfl ?_
    refine aw_iload_n dL_law_71 rfl ?_
    refine aw_iload dL_law_72 rfl ?_
    have hq := q_act (v := v) (w := w) (J := J) (z := 140 + t) h0.1 hA0.1.1 (by omega) hS h0.2.2.1
    rw [ho] at hq
    refine aw_rx (C := 600104) (D := 7301314) (mc := 30) (ms := 180) dL_law_74 cvL_87 ⟨Nat.le_of_ble_eq_true rfl, Nat.le_of_ble_eq_true rfl⟩ hq rfl rfl (Nat.le_of_ble_eq_true rfl) rfl rfl rfl rfl (by omega) (by omega) (fun I hS hf => ?_)
    replace h0 := h0.fr hf
    replace hS : XS I (a', hs ++ [a], []) := by
      rw [← pushH_5 hl]
      exact hS
    refine aw_top (show _ = g from rfl) ?_
    refine aw_istore (ls' := [(8, _), (6, _), (5, _), (0, _), (1, _), (2, _), (3, _), (4, _)]) dL_law_77 (Nat.le_of_ble_eq_true rfl) rfl ?_
    refine aw_aload_n dL_law_79 rfl ?_
    refine aw_rx (C := 600104) (D := 7301314) (mc := 262) (ms := 1572) dL_law_80 cvL_83 ⟨Nat.le_of_ble_eq_true rfl, Nat.le_of_ble_eq_true rfl⟩ (q_told h0.1 hA.1.1 (by omega) hS) rfl rfl (Nat.le_of_ble_eq_true rfl) rfl rfl rfl rfl (by omega) (by omega) (fun I hS hf => ?_)
    replace h0 := h0.fr hf
    refine aw_lstore (ls' := [(9, _), (8, _), (6, _), (5, _), (0, _), (1, _), (2, _), (3, _), (4, _)]) dL_law_83 (Nat.le_of_ble_eq_true rfl) rfl ?_
    refine aw_iload dL_law_85 rfl ?_
    refine aw_bipush (v := (-9)) dL_law_87 rfl ?_
    refine aw_icmp_ne (tgt := 114) dL_law_89 (by decide) (fun hc89 => ?_) (fun hc89 => absurd hc89 hne)
    refine aw_aload_n dL_law_114 rfl ?_
    refine aw_bipush (v := nI 8) dL_law_115 rfl ?_
    refine aw_count (C := 600104) (D := 7301314) h0.1 hA.1.1 (by omega) hS (w := 8) (by decide) dL_law_117 cvL_12 ⟨Nat.le_of_ble_eq_true rfl, Nat.le_of_ble_eq_true rfl⟩ rfl rfl (by omega) (by omega) (Nat.le_of_ble_eq_true rfl) (fun I hS hf => ?_)
    replace h0 := h0.fr hf
    refine aw_top (show _ = nI (hs.length + 1) from congrArg nI e1) ?_
    refine aw_iload dL_law_120 rfl ?_
    refine aw_iconst (v := nI 1) dL_law_122 rfl ?_
    first | refine aw_iaddN dL_law_123 ?_ | refine aw_iadd dL_law_123 ?_
    refine aw_icmp_eqN (tgt := 129) dL_law_124 (by decide) (by omega) (by omega) (fun hc124 => ?_) (fun hc124 => absurd rfl hc124)
    exact aw_pick [4, 5, 6, 7, 8, 3, 2, 1, 0] rfl (ph_C ht nx ho h0 hS hA0 hl (by omega) (by omega))
theorem law_turn (hLm : L ≤ 260) (ht : t ≤ 41) (nx : LH G (YLw nm tb) Z L xs (t + 1)) : LH G (YLw nm tb) Z L xs t := by
  intro K R I J a hs cu su h0 hS hA hl hcu hsu
  have k46 : hs.length = 6 → ∀ (v w : Int32) (I : Nat → Nat → Int32) (cu su : Nat), IV0 G K R L xs I → XS I (a, hs, []) → cu ≤ 140 + 1700 * t + 1 → su ≤ 1970 + 10200 * t + 6 → AW G (YLw nm tb) Z 46 [(0, .ref (G.1 1000)), (1, .ref (G.1 0)), (2, .int (nI t)), (3, .int v), (4, .int w)] [] (K, R, I, J, 140 + t) cu su := by
    intro h6 v w I cu su h0 hS hcu hsu
    rcases List.eq_nil_or_concat hs with e | ⟨l1, x1, e⟩
    · rw [e] at h6; cases h6
    · rw [List.concat_eq_append] at e
      subst e
      rcases List.eq_nil_or_concat l1 with e | ⟨l2, x2, e⟩
      · rw [e] at h6; cases h6
      · rw [List.concat_eq_append] at e
        subst e
        have hA1 := hA.undo
        have hA2 := hA1.undo
        have hl4 : l2.length ≤ 5 := by
          rw [List.length_append, List.length_append] at h6
          have h6 : l2.length + 1 + 1 = 6 := h6
          omega
        refine aw_aload_n dL_law_46 rfl ?_
        refine aw_undo (C := 600104) (D := 7301314) h0.1 hA.1.1 (by omega) hS  dL_law_47 cvL_80 ⟨Nat.le_of_ble_eq_true rfl, Nat.le_of_ble_eq_true rfl⟩ rfl rfl (by omega) (by omega) (Nat.le_of_ble_eq_true rfl) (fun I hS hf => ?_)
        replace h0 := h0.fr hf
        refine aw_pop dL_law_50 rfl ?_
        refine aw_aload_n dL_law_51 rfl ?_
        refine aw_undo (C := 600104) (D := 7301314) h0.1 hA1.1.1 (by omega) hS  dL_law_52 cvL_80 ⟨Nat.le_of_ble_eq_true rfl, Nat.le_of_ble_eq_true rfl⟩ rfl rfl (by omega) (by omega) (Nat.le_of_ble_eq_true rfl) (fun I hS hf => ?_)
        replace h0 := h0.fr hf
        refine aw_pop dL_law_55 rfl ?_
        exact aw_pick [0, 1, 2, 3, 4] rfl (ph_A ht nx h0 hS hA2 hl4 (by omega) (by omega))
  refine aw_iload_n dL_law_10 rfl ?_
  refine aw_bipush (v := nI 42) dL_law_11 rfl ?_
  refine aw_icmp_geN (tgt := 213) dL_law_13 (by decide) (by omega) (by omega) (fun hc13 => absurd hc13 (by omega)) (fun hc13 => ?_)
  refine aw_aload_n dL_law_16 rfl ?_
  refine aw_iconst (v := nI 2) dL_law_17 rfl ?_
  refine aw_iload_n dL_law_18 rfl ?_
  first | refine aw_imulN dL_law_19 ?_ | refine aw_imul dL_law_19 ?_
  refine aw_sRd dL_law_20 cvL_76 ⟨Nat.le_of_ble_eq_true rfl, Nat.le_of_ble_eq_true rfl⟩ (q_cell (k := 2 * t) h0.2.1 hLm h0.2.2.2 (by omega)) rfl rfl (Nat.le_of_ble_eq_true rfl) ⟨rfl, rfl⟩ ⟨show cu ≤ 600104 by omega, show su ≤ 7301314 by omega⟩ ?_
  refine aw_istore_n (ls' := [(3, _), (0, _), (1, _), (2, _)]) dL_law_23 (Nat.le_of_ble_eq_true rfl) rfl ?_
  refine aw_aload_n dL_law_24 rfl ?_
  refine aw_iconst (v := nI 2) dL_law_25 rfl ?_
  refine aw_iload_n dL_law_26 rfl ?_
  first | refine aw_imulN dL_law_27 ?_ | refine aw_imul dL_law_27 ?_
  refine aw_iconst (v := nI 1) dL_law_28 rfl ?_
  first | refine aw_iaddN dL_law_29 ?_ | refine aw_iadd dL_law_29 ?_
  refine aw_sRd dL_law_30 cvL_76 ⟨Nat.le_of_ble_eq_true rfl, Nat.le_of_ble_eq_true rfl⟩ (q_cell (k := 2 * t + 1) h0.2.1 hLm h0.2.2.2 (by omega)) rfl rfl (Nat.le_of_ble_eq_true rfl) ⟨rfl, rfl⟩ ⟨show cu ≤ 600104 by omega, show su ≤ 7301314 by omega⟩ ?_
  refine aw_istore (ls' := [(4, _), (3, _), (0, _), (1, _), (2, _)]) dL_law_33 (Nat.le_of_ble_eq_true rfl) rfl ?_
  refine aw_aload_n dL_law_35 rfl ?_
  refine aw_bipush (v := nI 8) dL_law_36 rfl ?_
  refine aw_count (C := 600104) (D := 7301314) h0.1 hA.1.1 (by omega) hS (w := 8) (by decide) dL_law_38 cvL_12 ⟨Nat.le_of_ble_eq_true rfl, Nat.le_of_ble_eq_true rfl⟩ rfl rfl (by omega) (by omega) (Nat.le_of_ble_eq_true rfl) (fun I hS hf => ?_)
  replace h0 := h0.fr hf
  refine aw_top (show _ = nI (hs.length) from rfl) ?_
  refine aw_bipush (v := nI 6) dL_law_41 rfl ?_
  refine aw_icmp_neN (tgt := 56) dL_law_43 (by decide) (by omega) (by omega) (fun hc43 => ?_) (fun hc43 => ?_)
  · exact aw_pick [2, 3, 4, 1, 0] rfl (ph_A ht nx h0 hS hA (by omega) (by omega) (by omega))
  · exact aw_pick [2, 3, 4, 1, 0] rfl (k46 (by omega) _ _ _ _ _ h0 hS (by omega) (by omega))
theorem law_loop (hLm : L ≤ 260) (hfin : ∀ (ls : List (Nat × Value)) (σ : Sg) (cu su : Nat), cu ≤ 600104 → su ≤ 7301314 → AW G (YLw nm tb) Z 214 ls [.int (nI 1)] σ cu su) : ∀ (d t : Nat), 42 - t = d → t ≤ 42 → LH G (YLw nm tb) Z L xs t := by
  intro d
  induction d with
  | zero =>
    intro t hd ht K R I J a hs cu su h0 hS hA hl hcu hsu
    refine aw_iload_n dL_law_10 rfl ?_
    refine aw_bipush (v := nI 42) dL_law_11 rfl ?_
    refine aw_icmp_geN (tgt := 213) dL_law_13 (by decide) (by omega) (by omega) (fun hc13 => ?_) (fun hc13 => absurd hc13 (by omega))
    refine aw_iconst (v := nI 1) dL_law_213 rfl ?_
    exact hfin _ _ _ _ (by omega) (by omega)
  | succ d ih =>
    intro t hd ht
    exact law_turn hLm (by omega) (ih (t + 1) (by omega) (by omega))
theorem law_entry (hLm : L ≤ 260) (hfin : ∀ (ls : List (Nat × Value)) (σ : Sg) (cu su : Nat), cu ≤ 600104 → su ≤ 7301314 → AW G (YLw nm tb) Z 214 ls [.int (nI 1)] σ cu su) (hK : K 1000 = some (10, L)) (hxs : ∀ j, j < L → I 1000 j = xs j) (hA : K 1001 = some (10, 5)) (hA2 : ∀ i, i < 5 → I 1001 i = nI (g0 i)) (hC : SC K I) : AW G (YLw nm tb) Z 0 [(0, .ref (G.1 1000))] [] (K, R, I, J, 0) 0 0 := by
  refine aw_new (c := 3) dL_law_0 rfl (show Cond.classLink RL 13 RX3 ∈ gT from gT_ix 18 (by decide +kernel) rfl) (gT_ix 19 (by decide +kernel) rfl) (gT_ix 4 (by decide +kernel) rfl) (by decide) (Nat.le_of_ble_eq_true rfl) (Nat.le_of_ble_eq_true rfl) ?_
  refine aw_dup dL_law_3 rfl ?_
  refine aw_invI (o := 0) dL_law_4 cvL_75 ⟨Nat.le_of_ble_eq_true rfl, Nat.le_of_ble_eq_true rfl⟩ (As := []) rfl rfl (Nat.le_of_ble_eq_true rfl) ⟨Nat.le_of_ble_eq_true rfl, Nat.le_of_ble_eq_true rfl⟩ (i_obj upK_s (fun j => zr_s) (by rw [upK_n (by decide)]; exact hA) (fun i hi => by rw [zr_n (by decide)]; exact hA2 i hi)) (fun E σ' q => by cases q.1) (fun r σ' q => ?_)
  obtain ⟨K1, R1, I1, J1, z1⟩ := σ'
  obtain ⟨q1, hLX, hXS, hS1, hz1⟩ := q
  cases q1
  have hz1 : z1 = 140 := hz1
  subst hz1
  have f1 : ∀ q, 140 ≤ q → K1 q = K q ∧ I1 q = I q := fun q hq => by
    obtain ⟨w1, w2, w3, w4⟩ := hS1 q (Or.inr hq)
    exact ⟨w1.trans (upK_n (by omega)), w3.trans (zr_n (by omega))⟩
  refine aw_astore_n (ls' := [(1, _), (0, _)]) dL_law_7 (Nat.le_of_ble_eq_true rfl) rfl ?_
  refine aw_iconst (v := nI 0) dL_law_8 rfl ?_
  refine aw_istore_n (ls' := [(2, _), (1, _), (0, _)]) dL_law_9 (Nat.le_of_ble_eq_true rfl) rfl ?_
  have h0 : IV0 G K1 R1 L xs I1 := ⟨hLX, by rw [(f1 1000 (by decide)).1]; exact hK, ⟨by rw [(f1 1002 (by decide)).1]; exact hC.1, by rw [(f1 1002 (by decide)).2]; exact hC.2.1, by rw [(f1 1003 (by decide)).1]; exact hC.2.2.1, by rw [(f1 1003 (by decide)).2]; exact hC.2.2.2⟩, by rw [(f1 1000 (by decide)).2]; exact hxs⟩
  have hA0 : GA 0 a0 [] := ⟨GI_0, rfl, fun x hx => by cases hx⟩
  exact aw_pick [2, 1, 0] rfl (law_loop hLm hfin 42 0 rfl (by decide) K1 R1 I1 J1 a0 [] _ _ h0 hXS hA0 (by decide) (Nat.le_of_ble_eq_true rfl) (Nat.le_of_ble_eq_true rfl))
end LAWT
