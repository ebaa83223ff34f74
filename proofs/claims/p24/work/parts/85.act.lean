/-! THE LAW: one act, its walk -/
theorem setV_ok {i : Nat} {w : Int32} (h : i ≤ 4) : setLo i ≤ setV i w ∧ setV i w ≤ setHi i ∧ setHi i < 2 ^ 31 := by
  have h60 := loN_lt (v := shR w 3) (n := 60) (by decide)
  have h5 := loN_lt (v := shR w 3) (n := 5) (by decide)
  have h4 := loN_lt (v := shR w 3) (n := 4) (by decide)
  have h30 := loN_lt (v := shR w 3) (n := 30) (by decide)
  have h200 := loN_lt (v := shR w 3) (n := 200) (by decide)
  rcases (show i = 0 ∨ i = 1 ∨ i = 2 ∨ i = 3 ∨ i = 4 by omega) with rfl | rfl | rfl | rfl | rfl <;> simp [setLo, setHi, setV] <;> omega
section ACT
variable {G : GG} {K : Nat → Option (Nat × Nat)} {R : Nat → Nat → Value} {I I0 : Nat → Nat → Int32} {J : Nat → Nat → Int64} {z cu su : Nat} {a : AA} {m k s r : Nat} {v w : Int32}
variable {B : List Nat} {hs : List AA}
abbrev AZ (G : GG) (K : Nat → Option (Nat × Nat)) (R : Nat → Nat → Value) (I0 : Nat → Nat → Int32) (J : Nat → Nat → Int64) (z : Nat) (a : AA) (hs : List AA) (o : Option (Int32 × AA)) : ZT := MZ G YL_act (RX K R I0 J z (.int (actV o)) (actS a hs o))
abbrev LA (G : GG) (v w : Int32) (s r : Nat) : List (Nat × Value) := [(0, .ref (G.1 0)), (1, .int v), (2, .int w), (3, .int (nI s)), (4, .int (nI r))]
theorem b_delays (hX : LX G K R) (hG : GI1 m k a) (hmk : m + k ≤ 800000000) (hS : XS I (a, hs, [])) (hF : FrC I0 I) (hcu : cu ≤ 1) (hsu : su ≤ 6) (hs4 : s < 4) : AW G YL_act (AZ G K R I0 J z a hs (aDl s w a)) 92 (LA G v w s r) [] (K, R, I, J, z) cu su := by
  have h10 : ∀ x : Int32, 48 + loN x 10 ≤ 57 := fun x => by have := loN_lt (v := x) (n := 10) (by decide); omega
  have h9 : ∀ x : Int32, 49 + loN x 9 ≤ 57 := fun x => by have := loN_lt (v := x) (n := 9) (by decide); omega
  have lp : ∀ (q : Nat) (B : List Nat) (I : Nat → Nat → Int32) (cu su : Nat), XS I (a, hs, B) → FrC I0 I → txG w q B = txN w → B.length + 3 * q ≤ 7 → q ≤ 2 → cu + 6 * q ≤ 15 → su + 36 * q ≤ 90 → AW G YL_act (AZ G K R I0 J z a hs (aDl s w a)) 120 [(0, .ref (G.1 0)), (1, .int v), (2, .int w), (3, .int (nI s)), (5, .int (nI q))] [] (K, R, I, J, z) cu su := by
    intro q
    induction q with
    | zero =>
      intro B I cu su hS hF hT hB hq hcu hsu
      have e : B = txN w := hT
      subst e
      refine aw_iload dL_act_120 rfl ?_
      refine aw_if_leN (tgt := 176) dL_act_122 (by decide) (by omega) (fun hc122 => ?_) (fun hc122 => absurd hc122 (by omega))
      refine aw_aload_n dL_act_176 rfl ?_
      refine aw_iload_n dL_act_177 rfl ?_
      refine aw_delays (C := 30) (D := 180) hX hG hmk hS (s := s) hs4 (txN_ok w) dL_act_178 cvL_43 ⟨Nat.le_of_ble_eq_true rfl, Nat.le_of_ble_eq_true rfl⟩ rfl rfl (by omega) (by omega) (Nat.le_of_ble_eq_true rfl) (fun I hS hf => ?_)
      replace hF := hF.tr hf
      exact aw_iret dL_act_181 rfl (show _ ≤ 30 by omega) (show _ ≤ 180 by omega) ⟨rfl, _, rfl, hS, hF⟩
    | succ q ih =>
      intro B I cu su hS hF hT hB hq hcu hsu
      refine aw_iload dL_act_120 rfl ?_
      refine aw_if_leN (tgt := 176) dL_act_122 (by decide) (by omega) (fun hc122 => absurd hc122 (by omega)) (fun hc122 => ?_)
      refine aw_aload_n dL_act_125 rfl ?_
      refine aw_bipush (v := nI 44) dL_act_126 rfl ?_
      refine aw_append (C := 30) (D := 180) hX hG hmk hS (c := 44) (by decide) (by decide) (by omega) dL_act_128 cvL_40 ⟨Nat.le_of_ble_eq_true rfl, Nat.le_of_ble_eq_true rfl⟩ rfl rfl (by omega) (by omega) (Nat.le_of_ble_eq_true rfl) (fun I hS hf => ?_)
      replace hF := hF.tr hf
      refine aw_pop dL_act_131 rfl ?_
      refine aw_aload_n dL_act_132 rfl ?_
      refine aw_bipush (v := nI 49) dL_act_133 rfl ?_
      refine aw_iload_n dL_act_135 rfl ?_
      refine aw_iconst (v := nI 3) dL_act_136 rfl ?_
      refine aw_iload dL_act_137 rfl ?_
      first | refine aw_imulN dL_act_139 ?_ | refine aw_imul dL_act_139 ?_
      refine aw_ishr dL_act_140 ?_
      refine aw_bipush (v := nI 9) dL_act_141 rfl ?_
      refine aw_sRd dL_act_143 cvL_35 ⟨Nat.le_of_ble_eq_true rfl, Nat.le_of_ble_eq_true rfl⟩ (q_low (v := shR w (3 * (q + 1))) (n := 9) (by decide) (by decide)) rfl rfl (Nat.le_of_ble_eq_true rfl) ⟨rfl, rfl⟩ ⟨(show _ ≤ 30 by omega), (show _ ≤ 180 by omega)⟩ ?_
      first | refine aw_iaddN dL_act_146 ?_ | refine aw_iadd dL_act_146 ?_
      refine aw_append (C := 30) (D := 180) hX hG hmk hS (c := 49 + loN (shR w (3 * (q + 1))) 9) (by omega) (by have := h9 (shR w (3 * (q + 1))); omega) (by simp only [List.length_append, List.length_cons, List.length_nil]; omega) dL_act_147 cvL_40 ⟨Nat.le_of_ble_eq_true rfl, Nat.le_of_ble_eq_true rfl⟩ rfl rfl (by omega) (by omega) (Nat.le_of_ble_eq_true rfl) (fun I hS hf => ?_)
      replace hF := hF.tr hf
      refine aw_pop dL_act_150 rfl ?_
      refine aw_aload_n dL_act_151 rfl ?_
      refine aw_bipush (v := nI 48) dL_act_152 rfl ?_
      refine aw_iload_n dL_act_154 rfl ?_
      refine aw_iconst (v := nI 4) dL_act_155 rfl ?_
      refine aw_iload dL_act_156 rfl ?_
      first | refine aw_imulN dL_act_158 ?_ | refine aw_imul dL_act_158 ?_
      refine aw_ishr dL_act_159 ?_
      refine aw_bipush (v := nI 10) dL_act_160 rfl ?_
      refine aw_sRd dL_act_162 cvL_35 ⟨Nat.le_of_ble_eq_true rfl, Nat.le_of_ble_eq_true rfl⟩ (q_low (v := shR w (4 * (q + 1))) (n := 10) (by decide) (by decide)) rfl rfl (Nat.le_of_ble_eq_true rfl) ⟨rfl, rfl⟩ ⟨(show _ ≤ 30 by omega), (show _ ≤ 180 by omega)⟩ ?_
      first | refine aw_iaddN dL_act_165 ?_ | refine aw_iadd dL_act_165 ?_
      refine aw_append (C := 30) (D := 180) hX hG hmk hS (c := 48 + loN (shR w (4 * (q + 1))) 10) (by omega) (by have := h10 (shR w (4 * (q + 1))); omega) (by simp only [List.length_append, List.length_cons, List.length_nil]; omega) dL_act_166 cvL_40 ⟨Nat.le_of_ble_eq_true rfl, Nat.le_of_ble_eq_true rfl⟩ rfl rfl (by omega) (by omega) (Nat.le_of_ble_eq_true rfl) (fun I hS hf => ?_)
      replace hF := hF.tr hf
      refine aw_pop dL_act_169 rfl ?_
      refine aw_iincM (ls' := [(5, _), (0, _), (1, _), (2, _), (3, _)]) dL_act_170 rfl (Nat.le_of_ble_eq_true rfl) rfl ?_
      refine aw_goto (tgt := 120) dL_act_173 (by decide) ?_
      exact aw_pick [1, 2, 3, 4, 0] rfl (ih _ _ _ _ hS hF hT (by simp only [List.length_append, List.length_cons, List.length_nil]; omega) (by omega) (by omega) (by omega))
  have h3 := loN_lt (v := shR w 4) (n := 3) (by decide)
  refine aw_aload_n dL_act_92 rfl ?_
  refine aw_clearBuffer (C := 30) (D := 180) hX hG hmk hS  dL_act_93 cvL_31 ⟨Nat.le_of_ble_eq_true rfl, Nat.le_of_ble_eq_true rfl⟩ rfl rfl (by omega) (by omega) (Nat.le_of_ble_eq_true rfl) (fun I hS hf => ?_)
  replace hF := hF.tr hf
  refine aw_pop dL_act_96 rfl ?_
  refine aw_aload_n dL_act_97 rfl ?_
  refine aw_bipush (v := nI 48) dL_act_98 rfl ?_
  refine aw_iload_n dL_act_100 rfl ?_
  refine aw_bipush (v := nI 10) dL_act_101 rfl ?_
  refine aw_sRd dL_act_103 cvL_35 ⟨Nat.le_of_ble_eq_true rfl, Nat.le_of_ble_eq_true rfl⟩ (q_low (v := w) (n := 10) (by decide) (by decide)) rfl rfl (Nat.le_of_ble_eq_true rfl) ⟨rfl, rfl⟩ ⟨(show _ ≤ 30 by omega), (show _ ≤ 180 by omega)⟩ ?_
  first | refine aw_iaddN dL_act_106 ?_ | refine aw_iadd dL_act_106 ?_
  refine aw_append (C := 30) (D := 180) hX hG hmk hS (c := 48 + loN w 10) (by omega) (by have := h10 w; omega) (by decide) dL_act_107 cvL_40 ⟨Nat.le_of_ble_eq_true rfl, Nat.le_of_ble_eq_true rfl⟩ rfl rfl (by omega) (by omega) (Nat.le_of_ble_eq_true rfl) (fun I hS hf => ?_)
  replace hF := hF.tr hf
  refine aw_pop dL_act_110 rfl ?_
  refine aw_iload_n dL_act_111 rfl ?_
  refine aw_iconst (v := nI 4) dL_act_112 rfl ?_
  refine aw_ishr dL_act_113 ?_
  refine aw_iconst (v := nI 3) dL_act_114 rfl ?_
  refine aw_sRd dL_act_115 cvL_35 ⟨Nat.le_of_ble_eq_true rfl, Nat.le_of_ble_eq_true rfl⟩ (q_low (v := shR w 4) (n := 3) (by decide) (by decide)) rfl rfl (Nat.le_of_ble_eq_true rfl) ⟨rfl, rfl⟩ ⟨(show _ ≤ 30 by omega), (show _ ≤ 180 by omega)⟩ ?_
  refine aw_istore (ls' := [(5, _), (0, _), (1, _), (2, _), (3, _), (4, _)]) dL_act_118 (Nat.le_of_ble_eq_true rfl) rfl ?_
  exact aw_pick [1, 2, 3, 4, 0] rfl (lp _ _ _ _ _ hS hF rfl (by show 0 + 1 + 3 * loN (shR w 4) 3 ≤ 7; omega) (by omega) (by omega) (by omega))
theorem b_set (hX : LX G K R) (hG : GI1 m k a) (hmk : m + k ≤ 800000000) (hS : XS I (a, hs, [])) (hF : FrC I0 I) (hcu : cu ≤ 1) (hsu : su ≤ 6) (hSC : SC K I) : AW G YL_act (AZ G K R I0 J z a hs (aSet w a)) 182 (LA G v w s r) [] (K, R, I, J, z) cu su := by
  have h5 := loN_lt (v := w) (n := 5) (by decide)
  have k265 : ∀ (i x : Nat), i = loN w 5 → x = setV i w → AW G YL_act (AZ G K R I0 J z a hs (aSet w a)) 265 [(0, .ref (G.1 0)), (5, .int (nI i))] [.int (nI x)] (K, R, I, J, z) cu su := by
    intro i x hi hx
    have hi4 : i ≤ 4 := by omega
    obtain ⟨w1, w2, w3⟩ := setV_ok (w := w) hi4
    rw [← hx] at w1 w2
    refine aw_istore (ls' := [(6, _), (0, _), (5, _)]) dL_act_265 (Nat.le_of_ble_eq_true rfl) rfl ?_
    refine aw_aload_n dL_act_267 rfl ?_
    refine aw_iload dL_act_268 rfl ?_
    refine aw_iload dL_act_270 rfl ?_
    refine aw_set (C := 30) (D := 180) hX hG hmk hS (i := i) (v := x) hSC hi4 w1 w2 w3 dL_act_272 cvL_46 ⟨Nat.le_of_ble_eq_true rfl, Nat.le_of_ble_eq_true rfl⟩ rfl rfl (by omega) (by omega) (Nat.le_of_ble_eq_true rfl) (fun I hS hf => ?_)
    replace hF := hF.tr hf
    refine aw_iret dL_act_275 rfl (show _ ≤ 30 by omega) (show _ ≤ 180 by omega) ?_
    subst hx
    subst hi
    exact ⟨rfl, _, rfl, hS, hF⟩
  have k189 : ∀ (i : Nat), i = loN w 5 → AW G YL_act (AZ G K R I0 J z a hs (aSet w a)) 189 [(0, .ref (G.1 0)), (2, .int w), (5, .int (nI i))] [] (K, R, I, J, z) cu su := by
    intro i hi
    have k261 : ∀ n : Nat, 0 < n → n < 1000 → 1 + loN (shR w 3) n = setV i w → AW G YL_act (AZ G K R I0 J z a hs (aSet w a)) 261 [(0, .ref (G.1 0)), (2, .int w), (5, .int (nI i))] [.int (nI n), .int (shR w 3), .int (nI 1)] (K, R, I, J, z) cu su := by
      intro n n0 n1 hn
      refine aw_sRd dL_act_261 cvL_35 ⟨Nat.le_of_ble_eq_true rfl, Nat.le_of_ble_eq_true rfl⟩ (q_low (v := shR w 3) (n := n) n0 (by omega)) rfl rfl (Nat.le_of_ble_eq_true rfl) ⟨rfl, rfl⟩ ⟨(show _ ≤ 30 by omega), (show _ ≤ 180 by omega)⟩ ?_
      first | refine aw_iaddN dL_act_264 ?_ | refine aw_iadd dL_act_264 ?_
      exact aw_pick [0, 2] rfl (k265 i _ hi hn)
    refine aw_iload dL_act_189 rfl ?_
    refine aw_if_neN (tgt := 207) dL_act_191 (by decide) (by omega) (fun hc191 => ?_) (fun hc191 => ?_)
    · refine aw_iload dL_act_207 rfl ?_
      refine aw_iconst (v := nI 1) dL_act_209 rfl ?_
      refine aw_icmp_neN (tgt := 225) dL_act_210 (by decide) (by omega) (by omega) (fun hc210 => ?_) (fun hc210 => ?_)
      · refine aw_iload dL_act_225 rfl ?_
        refine aw_iconst (v := nI 2) dL_act_227 rfl ?_
        refine aw_icmp_neN (tgt := 243) dL_act_228 (by decide) (by omega) (by omega) (fun hc228 => ?_) (fun hc228 => ?_)
        · refine aw_iconst (v := nI 1) dL_act_243 rfl ?_
          refine aw_iload_n dL_act_244 rfl ?_
          refine aw_iconst (v := nI 3) dL_act_245 rfl ?_
          refine aw_ishr dL_act_246 ?_
          refine aw_iload dL_act_247 rfl ?_
          refine aw_iconst (v := nI 3) dL_act_249 rfl ?_
          refine aw_icmp_neN (tgt := 258) dL_act_250 (by decide) (by omega) (by omega) (fun hc250 => ?_) (fun hc250 => ?_)
          · refine aw_sipush (v := nI 200) dL_act_258 rfl ?_
            exact aw_pick [0, 1, 2] rfl (k261 _ (by decide) (by decide) (by unfold setV; first | rfl | (repeat' split) <;> first | rfl | (exfalso; omega)))
          · refine aw_bipush (v := nI 30) dL_act_253 rfl ?_
            refine aw_goto (tgt := 261) dL_act_255 (by decide) ?_
            exact aw_pick [0, 1, 2] rfl (k261 _ (by decide) (by decide) (by unfold setV; first | rfl | (repeat' split) <;> first | rfl | (exfalso; omega)))
        · refine aw_iconst (v := nI 1) dL_act_231 rfl ?_
          refine aw_iload_n dL_act_232 rfl ?_
          refine aw_iconst (v := nI 3) dL_act_233 rfl ?_
          refine aw_ishr dL_act_234 ?_
          refine aw_iconst (v := nI 4) dL_act_235 rfl ?_
          refine aw_sRd dL_act_236 cvL_35 ⟨Nat.le_of_ble_eq_true rfl, Nat.le_of_ble_eq_true rfl⟩ (q_low (v := shR w 3) (n := 4) (by decide) (by decide)) rfl rfl (Nat.le_of_ble_eq_true rfl) ⟨rfl, rfl⟩ ⟨(show _ ≤ 30 by omega), (show _ ≤ 180 by omega)⟩ ?_
          first | refine aw_iaddN dL_act_239 ?_ | refine aw_iadd dL_act_239 ?_
          refine aw_goto (tgt := 265) dL_act_240 (by decide) ?_
          exact aw_pick [0, 2] rfl (k265 i _ hi (by unfold setV; first | rfl | (repeat' split) <;> first | rfl | (exfalso; omega)))
      · refine aw_iconst (v := nI 2) dL_act_213 rfl ?_
        refine aw_iload_n dL_act_214 rfl ?_
        refine aw_iconst (v := nI 3) dL_act_215 rfl ?_
        refine aw_ishr dL_act_216 ?_
        refine aw_iconst (v := nI 5) dL_act_217 rfl ?_
        refine aw_sRd dL_act_218 cvL_35 ⟨Nat.le_of_ble_eq_true rfl, Nat.le_of_ble_eq_true rfl⟩ (q_low (v := shR w 3) (n := 5) (by decide) (by decide)) rfl rfl (Nat.le_of_ble_eq_true rfl) ⟨rfl, rfl⟩ ⟨(show _ ≤ 30 by omega), (show _ ≤ 180 by omega)⟩ ?_
        first | refine aw_iaddN dL_act_221 ?_ | refine aw_iadd dL_act_221 ?_
        refine aw_goto (tgt := 265) dL_act_222 (by decide) ?_
        exact aw_pick [0, 2] rfl (k265 i _ hi (by unfold setV; first | rfl | (repeat' split) <;> first | rfl | (exfalso; omega)))
    · refine aw_iconst (v := nI 1) dL_act_194 rfl ?_
      refine aw_iload_n dL_act_195 rfl ?_
      refine aw_iconst (v := nI 3) dL_act_196 rfl ?_
      refine aw_ishr dL_act_197 ?_
      refine aw_bipush (v := nI 60) dL_act_198 rfl ?_
      refine aw_sRd dL_act_200 cvL_35 ⟨Nat.le_of_ble_eq_true rfl, Nat.le_of_ble_eq_true rfl⟩ (q_low (v := shR w 3) (n := 60) (by decide) (by decide)) rfl rfl (Nat.le_of_ble_eq_true rfl) ⟨rfl, rfl⟩ ⟨(show _ ≤ 30 by omega), (show _ ≤ 180 by omega)⟩ ?_
      first | refine aw_iaddN dL_act_203 ?_ | refine aw_iadd dL_act_203 ?_
      refine aw_goto (tgt := 265) dL_act_204 (by decide) ?_
      exact aw_pick [0, 2] rfl (k265 i _ hi (by unfold setV; first | rfl | (repeat' split) <;> first | rfl | (exfalso; omega)))
  refine aw_iload_n dL_act_182 rfl ?_
  refine aw_iconst (v := nI 5) dL_act_183 rfl ?_
  refine aw_sRd dL_act_184 cvL_35 ⟨Nat.le_of_ble_eq_true rfl, Nat.le_of_ble_eq_true rfl⟩ (q_low (v := w) (n := 5) (by decide) (by decide)) rfl rfl (Nat.le_of_ble_eq_true rfl) ⟨rfl, rfl⟩ ⟨(show _ ≤ 30 by omega), (show _ ≤ 180 by omega)⟩ ?_
  refine aw_istore (ls' := [(5, _), (0, _), (1, _), (2, _), (3, _), (4, _)]) dL_act_187 (Nat.le_of_ble_eq_true rfl) rfl ?_
  exact aw_pick [1, 3, 0] rfl (k189 _ rfl)
theorem b_close (hX : LX G K R) (hG : GI1 m k a) (hmk : m + k ≤ 800000000) (hS : XS I (a, hs, [])) (hF : FrC I0 I) (hcu : cu ≤ 1) (hsu : su ≤ 6) (hs4 : s < 4) : AW G YL_act (AZ G K R I0 J z a hs (aCl s w a)) 276 (LA G v w s r) [] (K, R, I, J, z) cu su := by
  have hb := lowB_lt w 2
  refine aw_iload_n dL_act_276 rfl ?_
  refine aw_iconst (v := nI 3) dL_act_277 rfl ?_
  refine aw_iand dL_act_278 ?_
  refine aw_top (and_lowB _ 2 (by decide)) ?_
  refine aw_if_neN (tgt := 290) dL_act_279 (by decide) (by omega) (fun hc279 => ?_) (fun hc279 => ?_)
  · refine aw_bipush (v := (-9)) dL_act_290 rfl ?_
    exact aw_iret dL_act_292 rfl (show _ ≤ 30 by omega) (show _ ≤ 180 by omega) ⟨by unfold aCl; first | (rw [if_pos hc279]; try rfl) | (rw [if_neg hc279]; try rfl), _, rfl, by unfold aCl; first | (rw [if_pos hc279]; exact hS) | (rw [if_neg hc279]; exact hS), hF⟩
  · refine aw_aload_n dL_act_282 rfl ?_
    refine aw_iload_n dL_act_283 rfl ?_
    refine aw_close (C := 30) (D := 180) hX hG hmk hS (s := s) hs4 dL_act_284 cvL_49 ⟨Nat.le_of_ble_eq_true rfl, Nat.le_of_ble_eq_true rfl⟩ rfl rfl (by omega) (by omega) (Nat.le_of_ble_eq_true rfl) (fun I hS hf => ?_)
    replace hF := hF.tr hf
    refine aw_goto (tgt := 292) dL_act_287 (by decide) ?_
    exact aw_iret dL_act_292 rfl (show _ ≤ 30 by omega) (show _ ≤ 180 by omega) ⟨by unfold aCl; first | (rw [if_pos hc279]; try rfl) | (rw [if_neg hc279]; try rfl), _, rfl, by unfold aCl; first | (rw [if_pos hc279]; exact hS) | (rw [if_neg hc279]; exact hS), hF⟩
theorem b_pass (hX : LX G K R) (hG : GI1 m k a) (hmk : m + k ≤ 800000000) (hS : XS I (a, hs, [])) (hF : FrC I0 I) (hcu : cu ≤ 1) (hsu : su ≤ 6)  : AW G YL_act (AZ G K R I0 J z a hs (aPs w a)) 293 (LA G v w s r) [] (K, R, I, J, z) cu su := by
  have hb := lowB_lt (shR w 8) 2
  have k312 : ∀ n : Nat, 0 < n → n ≤ 199 → 1 + loN w n = psN w → AW G YL_act (AZ G K R I0 J z a hs (aPs w a)) 312 [(0, .ref (G.1 0))] [.int (nI n), .int w, .int (nI 1), .ref (G.1 0)] (K, R, I, J, z) cu su := by
    intro n n0 n1 hn
    have hl := loN_lt (v := w) n0
    refine aw_sRd dL_act_312 cvL_35 ⟨Nat.le_of_ble_eq_true rfl, Nat.le_of_ble_eq_true rfl⟩ (q_low (v := w) (n := n) n0 (by omega)) rfl rfl (Nat.le_of_ble_eq_true rfl) ⟨rfl, rfl⟩ ⟨(show _ ≤ 30 by omega), (show _ ≤ 180 by omega)⟩ ?_
    first | refine aw_iaddN dL_act_315 ?_ | refine aw_iadd dL_act_315 ?_
    refine aw_pass (C := 30) (D := 180) hX hG hmk hS (n := 1 + loN w n) (by omega) (by omega) dL_act_316 cvL_52 ⟨Nat.le_of_ble_eq_true rfl, Nat.le_of_ble_eq_true rfl⟩ rfl rfl (by omega) (by omega) (Nat.le_of_ble_eq_true rfl) (fun I hS hf => ?_)
    replace hF := hF.tr hf
    refine aw_iret dL_act_319 rfl (show _ ≤ 30 by omega) (show _ ≤ 180 by omega) ?_
    rw [hn] at hS ⊢
    exact ⟨rfl, _, rfl, hS, hF⟩
  refine aw_aload_n dL_act_293 rfl ?_
  refine aw_iconst (v := nI 1) dL_act_294 rfl ?_
  refine aw_iload_n dL_act_295 rfl ?_
  refine aw_iload_n dL_act_296 rfl ?_
  refine aw_bipush (v := nI 8) dL_act_297 rfl ?_
  refine aw_ishr dL_act_299 ?_
  refine aw_iconst (v := nI 3) dL_act_300 rfl ?_
  refine aw_iand dL_act_301 ?_
  refine aw_top (and_lowB _ 2 (by decide)) ?_
  refine aw_if_neN (tgt := 310) dL_act_302 (by decide) (Nat.lt_of_lt_of_le (lowB_lt _ _) (by decide)) (fun hc302 => ?_) (fun hc302 => ?_)
  · refine aw_bipush (v := nI 9) dL_act_310 rfl ?_
    exact aw_pick [0] rfl (k312 _ (by decide) (by decide) (by unfold psN; first | rw [if_pos hc302] | rw [if_neg hc302]))
  · refine aw_bipush (v := nI 100) dL_act_305 rfl ?_
    refine aw_goto (tgt := 312) dL_act_307 (by decide) ?_
    exact aw_pick [0] rfl (k312 _ (by decide) (by decide) (by unfold psN; first | rw [if_pos hc302] | rw [if_neg hc302]))
theorem b_best (hX : LX G K R) (hG : GI1 m k a) (hmk : m + k ≤ 800000000) (hS : XS I (a, hs, [])) (hF : FrC I0 I) (hcu : cu ≤ 1) (hsu : su ≤ 6) (hr1 : r ≠ 0 → a.2.1.length < 16) (hr0 : r = 0 → ¬ a.2.1.length < 16) (hr : r ≤ 1) : AW G YL_act (AZ G K R I0 J z a hs (aBs a)) 320 (LA G v w s r) [] (K, R, I, J, z) cu su := by
  refine aw_iload dL_act_320 rfl ?_
  refine aw_if_eqN (tgt := 332) dL_act_322 (by decide) (by omega) (fun hc322 => ?_) (fun hc322 => ?_)
  · refine aw_bipush (v := (-9)) dL_act_332 rfl ?_
    exact aw_iret dL_act_334 rfl (show _ ≤ 30 by omega) (show _ ≤ 180 by omega) ⟨by unfold aBs; first | (rw [if_pos (hr1 hc322)]; rfl) | (rw [if_neg (hr0 hc322)]; rfl), _, rfl, by unfold aBs; first | (rw [if_pos (hr1 hc322)]; exact hS) | (rw [if_neg (hr0 hc322)]; exact hS), hF⟩
  · refine aw_aload_n dL_act_325 rfl ?_
    refine aw_callHealthiest (C := 30) (D := 180) hX hG hmk hS (hr1 hc322) dL_act_326 cvL_55 ⟨Nat.le_of_ble_eq_true rfl, Nat.le_of_ble_eq_true rfl⟩ rfl rfl (by omega) (by omega) (Nat.le_of_ble_eq_true rfl) (fun I hS hf => ?_)
    replace hF := hF.tr hf
    refine aw_goto (tgt := 334) dL_act_329 (by decide) ?_
    exact aw_iret dL_act_334 rfl (show _ ≤ 30 by omega) (show _ ≤ 180 by omega) ⟨by unfold aBs; first | (rw [if_pos (hr1 hc322)]; rfl) | (rw [if_neg (hr0 hc322)]; rfl), _, rfl, by unfold aBs; first | (rw [if_pos (hr1 hc322)]; exact hS) | (rw [if_neg (hr0 hc322)]; exact hS), hF⟩
theorem b_often (hX : LX G K R) (hG : GI1 m k a) (hmk : m + k ≤ 800000000) (hS : XS I (a, hs, [])) (hF : FrC I0 I) (hcu : cu ≤ 1) (hsu : su ≤ 6) (hs4 : s < 4) : AW G YL_act (AZ G K R I0 J z a hs (aOf s w a)) 335 (LA G v w s r) [] (K, R, I, J, z) cu su := by
  have h10 := loN_lt (v := w) (n := 10) (by decide)
  have h6 := loN_lt (v := shR w 4) (n := 6) (by decide)
  refine aw_aload_n dL_act_335 rfl ?_
  refine aw_iload_n dL_act_336 rfl ?_
  refine aw_iconst (v := nI 1) dL_act_337 rfl ?_
  refine aw_iload_n dL_act_338 rfl ?_
  refine aw_bipush (v := nI 10) dL_act_339 rfl ?_
  refine aw_sRd dL_act_341 cvL_35 ⟨Nat.le_of_ble_eq_true rfl, Nat.le_of_ble_eq_true rfl⟩ (q_low (v := w) (n := 10) (by decide) (by decide)) rfl rfl (Nat.le_of_ble_eq_true rfl) ⟨rfl, rfl⟩ ⟨(show _ ≤ 30 by omega), (show _ ≤ 180 by omega)⟩ ?_
  first | refine aw_iaddN dL_act_344 ?_ | refine aw_iadd dL_act_344 ?_
  refine aw_iload_n dL_act_345 rfl ?_
  refine aw_iconst (v := nI 4) dL_act_346 rfl ?_
  refine aw_ishr dL_act_347 ?_
  refine aw_bipush (v := nI 6) dL_act_348 rfl ?_
  refine aw_sRd dL_act_350 cvL_35 ⟨Nat.le_of_ble_eq_true rfl, Nat.le_of_ble_eq_true rfl⟩ (q_low (v := shR w 4) (n := 6) (by decide) (by decide)) rfl rfl (Nat.le_of_ble_eq_true rfl) ⟨rfl, rfl⟩ ⟨(show _ ≤ 30 by omega), (show _ ≤ 180 by omega)⟩ ?_
  refine aw_callOften (C := 30) (D := 180) hX hG hmk hS (s := s) (n := 1 + loN w 10) (t := loN (shR w 4) 6) hs4 (by omega) (by omega) (by omega) dL_act_353 cvL_58 ⟨Nat.le_of_ble_eq_true rfl, Nat.le_of_ble_eq_true rfl⟩ rfl rfl (by omega) (by omega) (Nat.le_of_ble_eq_true rfl) (fun I hS hf => ?_)
  replace hF := hF.tr hf
  exact aw_iret dL_act_356 rfl (show _ ≤ 30 by omega) (show _ ≤ 180 by omega) ⟨rfl, _, rfl, hS, hF⟩
theorem b_call (hX : LX G K R) (hG : GI1 m k a) (hmk : m + k ≤ 800000000) (hS : XS I (a, hs, [])) (hF : FrC I0 I) (hcu : cu ≤ 1) (hsu : su ≤ 6) (hs4 : s < 4) (hr1 : r ≠ 0 → a.2.1.length < 16) (hr0 : r = 0 → ¬ a.2.1.length < 16) (hr : r ≤ 1) : AW G YL_act (AZ G K R I0 J z a hs (aCa s a)) 357 (LA G v w s r) [] (K, R, I, J, z) cu su := by
  have k370 : ∀ (I : Nat → Nat → Int32) (cu su : Nat), XS I (a, hs, []) → FrC I0 I → cu ≤ 2 → su ≤ 12 → (a.2.1.length < 16 ∨ untilI a s ≠ 0) → AW G YL_act (AZ G K R I0 J z a hs (aCa s a)) 370 [(0, .ref (G.1 0)), (3, .int (nI s))] [] (K, R, I, J, z) cu su := by
    intro I cu su hS hF hcu hsu hfr
    refine aw_aload_n dL_act_370 rfl ?_
    refine aw_iload_n dL_act_371 rfl ?_
    refine aw_call (C := 30) (D := 180) hX hG hmk hS (s := s) hs4 hfr dL_act_372 cvL_65 ⟨Nat.le_of_ble_eq_true rfl, Nat.le_of_ble_eq_true rfl⟩ rfl rfl (by omega) (by omega) (Nat.le_of_ble_eq_true rfl) (fun I hS hf => ?_)
    replace hF := hF.tr hf
    refine aw_goto (tgt := 380) dL_act_375 (by decide) ?_
    exact aw_iret dL_act_380 rfl (show _ ≤ 30 by omega) (show _ ≤ 180 by omega) ⟨by unfold aCa; rw [if_pos hfr]; rfl, _, rfl, by unfold aCa; rw [if_pos hfr]; exact hS, hF⟩
  refine aw_iload dL_act_357 rfl ?_
  refine aw_if_neN (tgt := 370) dL_act_359 (by decide) (by omega) (fun hc359 => ?_) (fun hc359 => ?_)
  · exact aw_pick [0, 3] rfl (k370 _ _ _ hS hF (by omega) (by omega) (by first | exact Or.inr hc367 | exact Or.inl (hr1 hc359)))
  · refine aw_aload_n dL_act_362 rfl ?_
    refine aw_iload_n dL_act_363 rfl ?_
    refine aw_freeIn (C := 30) (D := 180) hX hG hmk hS (s := s) hs4 dL_act_364 cvL_62 ⟨Nat.le_of_ble_eq_true rfl, Nat.le_of_ble_eq_true rfl⟩ rfl rfl (by omega) (by omega) (Nat.le_of_ble_eq_true rfl) (fun I hS hf => ?_)
    replace hF := hF.tr hf
    refine aw_if_eq (tgt := 378) dL_act_367 (by decide) (fun hc367 => ?_) (fun hc367 => ?_)
    · refine aw_bipush (v := (-9)) dL_act_378 rfl ?_
      refine aw_iret dL_act_380 rfl (show _ ≤ 30 by omega) (show _ ≤ 180 by omega) ?_
      have hn : ¬ (a.2.1.length < 16 ∨ untilI a s ≠ 0) := fun q => q.elim (hr0 hc359) (fun q => q hc367)
      exact ⟨by unfold aCa; rw [if_neg hn]; rfl, _, rfl, by unfold aCa; rw [if_neg hn]; exact hS, hF⟩
    · exact aw_pick [0, 3] rfl (k370 _ _ _ hS hF (by omega) (by omega) (by first | exact Or.inr hc367 | exact Or.inl (hr1 hc359)))
theorem q_act (hX : LX G K R) (hG : GI1 m k a) (hmk : m + k ≤ 800000000) (hS : XS I (a, hs, [])) (hSC : SC K I) : Run G YL_act [.ref (G.1 0), .int v, .int w] (K, R, I, J, z) (RX K R I J z (.int (actV (actF v w a))) (actS a hs (actF v w a))) := by
  obtain ⟨I0, hI0⟩ : ∃ I0, I0 = I := ⟨_, rfl⟩
  have h16 : a.2.1.length ≤ 16 := hG.1.2.1
  have hF : FrC I0 I := by rw [hI0]; exact FrC.rf
  have hs4 := stN_lt v
  have goal : RX K R I J z (.int (actV (actF v w a))) (actS a hs (actF v w a)) = RX K R I0 J z (.int (actV (actF v w a))) (actS a hs (actF v w a)) := by rw [hI0]
  rw [goal]
  clear goal hI0
  have k36 : ∀ (r : Nat) (I : Nat → Nat → Int32) (cu su : Nat), XS I (a, hs, []) → FrC I0 I → SC K I → cu ≤ 1 → su ≤ 6 → (r ≠ 0 → a.2.1.length < 16) → (r = 0 → ¬ a.2.1.length < 16) → r ≤ 1 → AW G YL_act (AZ G K R I0 J z a hs (actF v w a)) 36 (LA G v w (stN v) r) [] (K, R, I, J, z) cu su := by
    intro r I cu su hS hF hSC hcu hsu hr1 hr0 hr
    refine aw_iload_n dL_act_36 rfl ?_
    refine aw_bipush (v := nI 15) dL_act_37 rfl ?_
    refine aw_iand dL_act_39 ?_
    refine aw_top (and_lowB _ 4 (by decide)) ?_
    unfold actF
    have hj := lowB_lt v 4
    generalize lowB v 4 = j at hj
    by_cases h9 : j < 9
    · match j, h9 with
      | 0, _ => exact aw_tableIn (tgt := 92) dL_act_40 (by decide) (by decide) rfl (by decide) (b_delays hX hG hmk hS hF hcu hsu hs4)
      | 1, _ => exact aw_tableIn (tgt := 92) dL_act_40 (by decide) (by decide) rfl (by decide) (b_delays hX hG hmk hS hF hcu hsu hs4)
      | 2, _ => exact aw_tableIn (tgt := 182) dL_act_40 (by decide) (by decide) rfl (by decide) (b_set hX hG hmk hS hF hcu hsu hSC)
      | 3, _ => exact aw_tableIn (tgt := 276) dL_act_40 (by decide) (by decide) rfl (by decide) (b_close hX hG hmk hS hF hcu hsu hs4)
      | 4, _ => exact aw_tableIn (tgt := 293) dL_act_40 (by decide) (by decide) rfl (by decide) (b_pass hX hG hmk hS hF hcu hsu)
      | 5, _ => exact aw_tableIn (tgt := 293) dL_act_40 (by decide) (by decide) rfl (by decide) (b_pass hX hG hmk hS hF hcu hsu)
      | 6, _ => exact aw_tableIn (tgt := 320) dL_act_40 (by decide) (by decide) rfl (by decide) (b_best hX hG hmk hS hF hcu hsu hr1 hr0 hr)
      | 7, _ => exact aw_tableIn (tgt := 335) dL_act_40 (by decide) (by decide) rfl (by decide) (b_often hX hG hmk hS hF hcu hsu hs4)
      | 8, _ => exact aw_tableIn (tgt := 335) dL_act_40 (by decide) (by decide) rfl (by decide) (b_often hX hG hmk hS hF hcu hsu hs4)
      | n + 9, h => exact absurd h (by omega)
    · have e : actJ (stN v) w a j = aCa (stN v) a := by
        match j, h9 with
        | 0, h => exact absurd (by decide) h
        | 1, h => exact absurd (by decide) h
        | 2, h => exact absurd (by decide) h
        | 3, h => exact absurd (by decide) h
        | 4, h => exact absurd (by decide) h
        | 5, h => exact absurd (by decide) h
        | 6, h => exact absurd (by decide) h
        | 7, h => exact absurd (by decide) h
        | 8, h => exact absurd (by decide) h
        | n + 9, h => rfl
      rw [e]
      exact aw_tableOut (tgt := 357) dL_act_40 (Or.inr (by rw [nI_toInt (by omega)]; omega)) (by decide) (b_call hX hG hmk hS hF hcu hsu hs4 hr1 hr0 hr)
  have k34 : ∀ (r : Nat) (I : Nat → Nat → Int32) (cu su : Nat), XS I (a, hs, []) → FrC I0 I → SC K I → cu ≤ 1 → su ≤ 6 → (r ≠ 0 → a.2.1.length < 16) → (r = 0 → ¬ a.2.1.length < 16) → r ≤ 1 → AW G YL_act (AZ G K R I0 J z a hs (actF v w a)) 34 [(0, .ref (G.1 0)), (1, .int v), (2, .int w), (3, .int (nI (stN v)))] [.int (nI r)] (K, R, I, J, z) cu su := by
    intro r I cu su hS hF hSC hcu hsu hr1 hr0 hr
    refine aw_istore (ls' := [(4, _), (0, _), (1, _), (2, _), (3, _)]) dL_act_34 (Nat.le_of_ble_eq_true rfl) rfl ?_
    exact aw_pick [1, 2, 3, 4, 0] rfl (k36 r I cu su hS hF hSC hcu hsu hr1 hr0 hr)
  have k18 : ∀ s : Nat, s = stN v → AW G YL_act (AZ G K R I0 J z a hs (actF v w a)) 18 [(0, .ref (G.1 0)), (1, .int v), (2, .int w)] [.int (nI s)] (K, R, I, J, z) 0 0 := by
    intro s hs
    subst hs
    refine aw_istore_n (ls' := [(3, _), (0, _), (1, _), (2, _)]) dL_act_18 (Nat.le_of_ble_eq_true rfl) rfl ?_
    refine aw_aload_n dL_act_19 rfl ?_
    refine aw_iconst (v := nI 1) dL_act_20 rfl ?_
    refine aw_count (C := 30) (D := 180) hX hG hmk hS (w := 1) (by omega) dL_act_21 cvL_12 ⟨Nat.le_of_ble_eq_true rfl, Nat.le_of_ble_eq_true rfl⟩ rfl rfl (by omega) (by omega) (Nat.le_of_ble_eq_true rfl) (fun I hS hf => ?_)
    replace hF := hF.tr hf
    replace hSC := hSC.fr hf
    refine aw_top (show nI (cntN a hs.length 1) = nI a.2.1.length from rfl) ?_
    refine aw_bipush (v := nI 16) dL_act_24 rfl ?_
    refine aw_icmp_geN (tgt := 33) dL_act_26 (by decide) (by omega) (by omega) (fun hc26 => ?_) (fun hc26 => ?_)
    · refine aw_iconst (v := nI 0) dL_act_33 rfl ?_
      exact aw_pick [1, 2, 3, 0] rfl (k34 _ _ _ _ hS hF hSC (by omega) (by omega) (by omega) (by omega) (by omega))
    · refine aw_iconst (v := nI 1) dL_act_29 rfl ?_
      refine aw_goto (tgt := 34) dL_act_30 (by decide) ?_
      exact aw_pick [1, 2, 3, 0] rfl (k34 _ _ _ _ hS hF hSC (by omega) (by omega) (by omega) (by omega) (by omega))
  have hb1 := lowB_lt (shR v 8) 1
  refine run_of (ls := [(0, .ref (G.1 0)), (1, .int v), (2, .int w)]) (by decide +kernel) rfl rfl (Nat.le_of_ble_eq_true rfl) ?_
  refine aw_iload_n dL_act_0 rfl ?_
  refine aw_bipush (v := nI 8) dL_act_1 rfl ?_
  refine aw_ishr dL_act_3 ?_
  refine aw_iconst (v := nI 1) dL_act_4 rfl ?_
  refine aw_iand dL_act_5 ?_
  refine aw_top (and_lowB _ 1 (by decide)) ?_
  refine aw_if_neN (tgt := 13) dL_act_6 (by decide) (Nat.lt_of_lt_of_le (lowB_lt _ _) (by decide)) (fun hc6 => ?_) (fun hc6 => ?_)
  · refine aw_iload_n dL_act_13 rfl ?_
    refine aw_iconst (v := nI 4) dL_act_14 rfl ?_
    refine aw_ishr dL_act_15 ?_
    refine aw_iconst (v := nI 3) dL_act_16 rfl ?_
    refine aw_iand dL_act_17 ?_
    first | exact aw_pick [0, 1, 2] rfl (k18 0 (by unfold stN; rw [if_pos hc6])) | (refine aw_top (and_lowB _ 2 (by decide)) ?_; exact aw_pick [0, 1, 2] rfl (k18 _ (by unfold stN; rw [if_neg hc6])))
  · refine aw_iconst (v := nI 0) dL_act_9 rfl ?_
    refine aw_goto (tgt := 18) dL_act_10 (by decide) ?_
    first | exact aw_pick [0, 1, 2] rfl (k18 0 (by unfold stN; rw [if_pos hc6])) | (refine aw_top (and_lowB _ 2 (by decide)) ?_; exact aw_pick [0, 1, 2] rfl (k18 _ (by unfold stN; rw [if_neg hc6])))
end ACT
