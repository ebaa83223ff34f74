/-! THE DIGEST: one number for both -/
def hx (h v : Int64) : Int64 := 31 * h + v
def hN (f : Nat → Int64) : Nat → Int64 → Int64
  | 0, h => h
  | n + 1, h => hx (hN f n h) (f n)
theorem hN_0 (f : Nat → Int64) (h : Int64) : hN f 0 h = h := rfl
theorem hN_s (f : Nat → Int64) (n : Nat) (h : Int64) : hN f (n + 1) h = hx (hN f n h) (f n) := rfl
def dTl (a : AA) (st : Nat) : Nat → Int64 := fun w => (nI (tellN a st w)).toInt64
def dRo (a : AA) (st : Nat) : Nat → Int64 := fun i => (nI (a.2.2 st (12 + i))).toInt64
def dWo (a : AA) (st : Nat) : Nat → Int64 := fun w => (wouldI a st 6 3 w).toInt64
def dgT (a : AA) (st : Nat) (h : Int64) : Int64 := hN (dWo a st) 4 (hx (hN (dRo a st) (a.2.2 st 0) (hN (dTl a st) 11 h)) (untilI a st).toInt64)
def dgTs (a : AA) : Nat → Int64 → Int64
  | 0, h => h
  | n + 1, h => dgT a n (dgTs a n h)
theorem dgTs_0 (a : AA) (h : Int64) : dgTs a 0 h = h := rfl
theorem dgTs_s (a : AA) (n : Nat) (h : Int64) : dgTs a (n + 1) h = dgT a n (dgTs a n h) := rfl
def dCn (a : AA) (sm : Nat) : Nat → Int64 := fun w => (nI (cntN a sm w)).toInt64
def dSe (a : AA) : Nat → Int64 := fun i => (nI (a.1 i)).toInt64
def clD (a : AA) (p : Nat) : Cl := a.2.1.getD p (fun _ => 0)
def dCl (a : AA) : Nat → Int64 := fun q => (nI (clD a (q / 4) (q % 4))).toInt64
def dBu (B : List Nat) : Nat → Int64 := fun i => (nI (B.getD i 0)).toInt64
def dgS (a : AA) (sm : Nat) : Int64 := hN (dSe a) 5 (hN (dCn a sm) 9 3037)
def dgC (a : AA) (sm : Nat) : Int64 := hN (dCl a) (4 * a.2.1.length) (dgTs a 4 (dgS a sm))
def dgL (a : AA) (sm : Nat) (B : List Nat) : Int64 := hx (hx (hx (dgC a sm) (oI (bestN a 4)).toInt64) (shareD a).toInt64) (nI B.length).toInt64
def dgA (a : AA) (sm : Nat) (B : List Nat) : Int64 := hN (dBu B) B.length (dgL a sm B)
theorem clD_at {a : AA} {p : Nat} (h : p < a.2.1.length) : a.2.1[p]? = some (clD a p) := by
  unfold clD
  rw [List.getElem?_eq_getElem h, List.getD_eq_getElem?_getD, List.getElem?_eq_getElem h]; rfl
theorem bD_at {B : List Nat} {p : Nat} (h : p < B.length) : B[p]? = some (B.getD p 0) := by
  rw [List.getElem?_eq_getElem h, List.getD_eq_getElem?_getD, List.getElem?_eq_getElem h]; rfl
theorem upJ_t {J : Nat → Nat → Int64} {h v : Int64} : upJ (upJ J 140 11 h) 140 11 v = upJ J 140 11 v := by
  funext o j
  unfold upJ
  by_cases e : o = 140 ∧ j = 11
  · simp [e]
  · simp [e]
theorem upJ_h {J : Nat → Nat → Int64} {h : Int64} : upJ J 140 11 h 140 11 = h := by simp [upJ]
section MDIGEST
variable {G : GG} {K : Nat → Option (Nat × Nat)} {R : Nat → Nat → Value} {I : Nat → Nat → Int32} {J : Nat → Nat → Int64} {z : Nat} {σ : Sg} {a : AA} {m k : Nat}
variable {B : List Nat} {hs : List AA}
def PI (I : Nat → Nat → Int32) (s : ST) (I' : Nat → Nat → Int32) : Prop := MS I' s ∧ I' 140 0 = nI 0 ∧ FrM I I'
theorem PI.w {I I1 I2 : Nat → Nat → Int32} {s : ST} (h : PI I s I1) (hw : RM (I2 141) s.1 ∧ FrW I1 I2) : PI I s I2 := by
  obtain ⟨⟨h1, h2, h3⟩, h4, h5⟩ := h
  obtain ⟨w1, w2⟩ := hw
  have e140 := w2 140 (by decide) (by decide)
  exact ⟨⟨w1, h2.fr (w2 143 (by decide) (by decide)) (by rw [e140]), h3.fr2 (w2 144 (by decide) (by decide)) (by rw [e140])⟩, by rw [e140]; exact h4, fun q hq => by rw [w2 q (by omega) (by omega)]; exact h5 q hq⟩
theorem aw_hash {y : YY} {Z : ZT} {pc : Nat} {ls : List (Nat × Value)} {rest : List Value} {cu su : Nat} {h v : Int64} (hd : decode y.2.1 pc = .ok (.invokevirtual 169, 3)) (cv : CV y.1.cls 169 YX4_hashes 1) (cr : CR YX4_hashes y) (hL : LM G K R) (hrest : (rest.map fun v => v.category).sum ≤ 8)
    (hroom : cu ≤ y.2.2.2.2.1.cells ∧ su ≤ y.2.2.2.2.1.slots)
    (kk : AW G y Z (pc + 3) ls rest (K, R, I, upJ J 140 11 (hx h v), z) cu su) : AW G y Z pc ls (.long v :: .ref (G.1 140) :: rest) (K, R, I, upJ J 140 11 h, z) cu su :=
  aw_invV (As := [.long v]) (o := 140) hd cv cr hL.1 ⟨_, rfl, rfl⟩ rfl rfl hrest hroom (r_hashes hL v) (fun E σ' h => by cases h.1) (fun w σ' h => by
    obtain ⟨h1, rfl⟩ := h
    cases h1
    rw [upJ_t, upJ_h]
    exact kk)
def DP (K : Nat → Option (Nat × Nat)) (R : Nat → Nat → Value) (J : Nat → Nat → Int64) (z : Nat) (I : Nat → Nat → Int32) (s : ST) : RT → Sg → Prop := fun r σ' => r = .inl (some (.long (dgA s.1 s.2.1.length s.2.2))) ∧ ∃ I', σ' = (K, R, I', upJ J 140 11 (dgA s.1 s.2.1.length s.2.2), z) ∧ PI I s I'

theorem M_digest (hL : LM G K R) (hS : MS I (a, hs, B)) (hI : IV m k a) (hl1 : L1 a) (hmk : m + k ≤ 900000000) : Run G YX4_digest [.ref (G.1 140)] (K, R, I, J, z) (DP K R J z I (a, hs, B)) := by
  obtain ⟨hk0, hr1, hk1, hr2, hk2, hr3, hk3, hr5, hk5, hr9, hk9⟩ := hL
  have hL : LM G K R := ⟨hk0, hr1, hk1, hr2, hk2, hr3, hk3, hr5, hk5, hr9, hk9⟩
  have h16 := hI.2.1
  have hS0 := hS.th (x := nI 0)
  have hB60 : B.length ≤ 60 := hS.2.2.2.1
  have hP0 : PI I (a, hs, B) (up2 I 140 0 (nI 0)) := ⟨hS0, by rw [up2_o, if_pos rfl], FrM.th⟩
  -- the buffer's characters
  have l5 : ∀ (d q : Nat) (I1 : Nat → Nat → Int32), PI I (a, hs, B) I1 → B.length - q = d → q ≤ B.length → AW G YX4_digest (MZ G YX4_digest (DP K R J z I (a, hs, B))) 234 [(0, .ref (G.1 140)), (1, .int (nI q))] [] (K, R, I1, upJ J 140 11 (hN (dBu B) q (dgL a hs.length B)), z) 0 0 := by
    intro d
    induction d with
    | zero =>
      intro q I1 hP hd hq
      have hn6 : I1 140 6 = nI B.length := hP.1.2.2.1
      have hqq : q = B.length := by omega
      subst hqq
      refine aw_iload_n dX4_digest_234 rfl ?_
      refine aw_aload_n dX4_digest_235 rfl ?_
      refine aw_getI dX4_digest_236 flX4_113 rfl (by assumption) hn6 ?_
      refine aw_icmp_geN (tgt := 259) dX4_digest_239 (by decide) (by omega) (by omega) (fun hc239 => ?_) (fun hc239 => absurd hc239 (by omega))
      refine aw_aload_n dX4_digest_259 rfl ?_
      refine aw_getJ dX4_digest_260 flX4_163 rfl (by assumption) upJ_h ?_
      exact aw_lret dX4_digest_263 rfl (Nat.zero_le _) (Nat.zero_le _) ⟨rfl, I1, rfl, hP⟩
    | succ d ih =>
      intro q I1 hP hd hq
      have hn6 : I1 140 6 = nI B.length := hP.1.2.2.1
      have hbq : I1 144 q = nI (B.getD q 0) := (hP.1.2.2.2.2 q _ (bD_at (B := B) (by omega))).1
      refine aw_iload_n dX4_digest_234 rfl ?_
      refine aw_aload_n dX4_digest_235 rfl ?_
      refine aw_getI dX4_digest_236 flX4_113 rfl (by assumption) hn6 ?_
      refine aw_icmp_geN (tgt := 259) dX4_digest_239 (by decide) (by omega) (by omega) (fun hc239 => absurd hc239 (by omega)) (fun hc239 => ?_)
      refine aw_aload_n dX4_digest_242 rfl ?_
      refine aw_aload_n dX4_digest_243 rfl ?_
      refine aw_getR dX4_digest_244 flX4_19 rfl (by assumption) (by assumption) ?_
      refine aw_iload_n dX4_digest_247 rfl ?_
      refine aw_iald dX4_digest_248 (by assumption) (by omega) rfl (by omega) hbq ?_
      refine aw_i2l dX4_digest_249 ?_
      refine aw_hash dX4_digest_250 cvX4_169 ⟨Nat.le_of_ble_eq_true rfl, Nat.le_of_ble_eq_true rfl⟩ hL (Nat.le_of_ble_eq_true rfl) ⟨Nat.zero_le _, Nat.zero_le _⟩ ?_
      refine aw_iincN (k := 1) (ls' := [(1, _), (0, _)]) dX4_digest_253 rfl rfl (by decide) rfl ?_
      refine aw_goto (tgt := 234) dX4_digest_256 (by decide) ?_
      have e0 := ih (q + 1) I1 hP (by omega) (by omega)
      rw [hN_s] at e0
      exact aw_pick [1, 0] rfl e0
  -- the healthiest store, the share, the buffer's length
  have l45 : ∀ (I1 : Nat → Nat → Int32), PI I (a, hs, B) I1 → AW G YX4_digest (MZ G YX4_digest (DP K R J z I (a, hs, B))) 203 [(0, .ref (G.1 140))] [] (K, R, I1, upJ J 140 11 (dgC a hs.length), z) 0 0 := by
    intro I1 hP
    have hn6 : I1 140 6 = nI B.length := hP.1.2.2.1
    have hsh : Shp (shareD a) := share_shp (by have := hI.2.2.2.2.2.2; omega)
    refine aw_aload_n dX4_digest_203 rfl ?_
    refine aw_aload_n dX4_digest_204 rfl ?_
    refine aw_vRd dX4_digest_205 cvX4_106 ⟨Nat.le_of_ble_eq_true rfl, Nat.le_of_ble_eq_true rfl⟩ (by assumption) ⟨_, rfl, rfl⟩ (r_bestStore hL hP.1.1 hI) rfl rfl (Nat.le_of_ble_eq_true rfl) ⟨rfl, rfl⟩ ⟨Nat.zero_le _, Nat.zero_le _⟩ ?_
    refine aw_i2l dX4_digest_208 ?_
    refine aw_hash dX4_digest_209 cvX4_169 ⟨Nat.le_of_ble_eq_true rfl, Nat.le_of_ble_eq_true rfl⟩ hL (Nat.le_of_ble_eq_true rfl) ⟨Nat.zero_le _, Nat.zero_le _⟩ ?_
    refine aw_aload_n dX4_digest_212 rfl ?_
    refine aw_aload_n dX4_digest_213 rfl ?_
    refine aw_vRd dX4_digest_214 cvX4_157 ⟨Nat.le_of_ble_eq_true rfl, Nat.le_of_ble_eq_true rfl⟩ (by assumption) ⟨_, rfl, rfl⟩ (r_share (a := a) (m := m) (k := k) hL hP.1.1 hI (by omega)) rfl rfl (Nat.le_of_ble_eq_true rfl) ⟨rfl, rfl⟩ ⟨Nat.zero_le _, Nat.zero_le _⟩ ?_
    refine aw_sRd dX4_digest_217 cvX4_173 ⟨Nat.le_of_ble_eq_true rfl, Nat.le_of_ble_eq_true rfl⟩ (j_bits hsh.ne) rfl rfl (Nat.le_of_ble_eq_true rfl) ⟨rfl, rfl⟩ ⟨Nat.zero_le _, Nat.zero_le _⟩ ?_
    refine aw_hash dX4_digest_220 cvX4_169 ⟨Nat.le_of_ble_eq_true rfl, Nat.le_of_ble_eq_true rfl⟩ hL (Nat.le_of_ble_eq_true rfl) ⟨Nat.zero_le _, Nat.zero_le _⟩ ?_
    refine aw_aload_n dX4_digest_223 rfl ?_
    refine aw_aload_n dX4_digest_224 rfl ?_
    refine aw_getI dX4_digest_225 flX4_113 rfl (by assumption) hn6 ?_
    refine aw_i2l dX4_digest_228 ?_
    refine aw_hash dX4_digest_229 cvX4_169 ⟨Nat.le_of_ble_eq_true rfl, Nat.le_of_ble_eq_true rfl⟩ hL (Nat.le_of_ble_eq_true rfl) ⟨Nat.zero_le _, Nat.zero_le _⟩ ?_
    refine aw_iconst (v := nI 0) dX4_digest_232 rfl ?_
    refine aw_istore_n (ls' := [(1, _), (0, _)]) dX4_digest_233 (by decide) rfl ?_
    have e0 := l5 B.length 0 I1 hP rfl (Nat.zero_le _)
    rw [hN_0] at e0
    exact aw_pick [1, 0] rfl e0
  -- the calls on their way
  have l4 : ∀ (d q : Nat) (I1 : Nat → Nat → Int32), PI I (a, hs, B) I1 → 4 * a.2.1.length - q = d → q ≤ 4 * a.2.1.length → AW G YX4_digest (MZ G YX4_digest (DP K R J z I (a, hs, B))) 169 [(0, .ref (G.1 140)), (1, .int (nI q))] [] (K, R, I1, upJ J 140 11 (hN (dCl a) q (dgTs a 4 (dgS a hs.length))), z) 0 0 := by
    intro d
    induction d with
    | zero =>
      intro q I1 hP hd hq
      have hn9 : I1 141 9 = nI a.2.1.length := hP.1.1.2.1
      have hqq : q = 4 * a.2.1.length := by omega
      subst hqq
      refine aw_iload_n dX4_digest_169 rfl ?_
      refine aw_iconst (v := nI 4) dX4_digest_170 rfl ?_
      refine aw_aload_n dX4_digest_171 rfl ?_
      refine aw_getR dX4_digest_172 flX4_7 rfl (by assumption) (by assumption) ?_
      refine aw_bipush (v := nI 9) dX4_digest_175 rfl ?_
      refine aw_iald dX4_digest_177 (by assumption) (by omega) rfl (by omega) hn9 ?_
      first | refine aw_imulN dX4_digest_178 ?_ | refine aw_imul dX4_digest_178 ?_
      refine aw_icmp_geN (tgt := 203) dX4_digest_179 (by decide) (by omega) (by omega) (fun hc179 => ?_) (fun hc179 => absurd hc179 (by omega))
      exact aw_pick [0] rfl (l45 I1 hP)
    | succ d ih =>
      intro q I1 hP hd hq
      have hn9 : I1 141 9 = nI a.2.1.length := hP.1.1.2.1
      refine aw_iload_n dX4_digest_169 rfl ?_
      refine aw_iconst (v := nI 4) dX4_digest_170 rfl ?_
      refine aw_aload_n dX4_digest_171 rfl ?_
      refine aw_getR dX4_digest_172 flX4_7 rfl (by assumption) (by assumption) ?_
      refine aw_bipush (v := nI 9) dX4_digest_175 rfl ?_
      refine aw_iald dX4_digest_177 (by assumption) (by omega) rfl (by omega) hn9 ?_
      first | refine aw_imulN dX4_digest_178 ?_ | refine aw_imul dX4_digest_178 ?_
      refine aw_icmp_geN (tgt := 203) dX4_digest_179 (by decide) (by omega) (by omega) (fun hc179 => absurd hc179 (by omega)) (fun hc179 => ?_)
      refine aw_aload_n dX4_digest_182 rfl ?_
      refine aw_aload_n dX4_digest_183 rfl ?_
      refine aw_iload_n dX4_digest_184 rfl ?_
      refine aw_iconst (v := nI 4) dX4_digest_185 rfl ?_
      refine aw_idivN dX4_digest_186 (by omega) (by omega) (by omega) ?_
      refine aw_iload_n dX4_digest_187 rfl ?_
      refine aw_iconst (v := nI 4) dX4_digest_188 rfl ?_
      refine aw_iremN dX4_digest_189 (by omega) (by omega) (by omega) ?_
      refine aw_vRd dX4_digest_190 cvX4_63 ⟨Nat.le_of_ble_eq_true rfl, Nat.le_of_ble_eq_true rfl⟩ (by assumption) ⟨_, rfl, rfl⟩ (r_callOf (w := q % 4) hL hP.1.1 (clD_at (a := a) (p := q / 4) (by omega)) h16 (by omega)) rfl rfl (Nat.le_of_ble_eq_true rfl) ⟨rfl, rfl⟩ ⟨Nat.zero_le _, Nat.zero_le _⟩ ?_
      refine aw_i2l dX4_digest_193 ?_
      refine aw_hash dX4_digest_194 cvX4_169 ⟨Nat.le_of_ble_eq_true rfl, Nat.le_of_ble_eq_true rfl⟩ hL (Nat.le_of_ble_eq_true rfl) ⟨Nat.zero_le _, Nat.zero_le _⟩ ?_
      refine aw_iincN (k := 1) (ls' := [(1, _), (0, _)]) dX4_digest_197 rfl rfl (by decide) rfl ?_
      refine aw_goto (tgt := 169) dX4_digest_200 (by decide) ?_
      have e0 := ih (q + 1) I1 hP (by omega) (by omega)
      rw [hN_s] at e0
      exact aw_pick [1, 0] rfl e0
  -- the stores
  have l3 : ∀ (d st : Nat) (I1 : Nat → Nat → Int32), PI I (a, hs, B) I1 → 4 - st = d → st ≤ 4 → AW G YX4_digest (MZ G YX4_digest (DP K R J z I (a, hs, B))) 62 [(0, .ref (G.1 140)), (1, .int (nI st))] [] (K, R, I1, upJ J 140 11 (dgTs a st (dgS a hs.length)), z) 0 0 := by
    intro d
    induction d with
    | zero =>
      intro st I1 hP hd hq
      have hqq : st = 4 := by omega
      subst hqq
      refine aw_iload_n dX4_digest_62 rfl ?_
      refine aw_iconst (v := nI 4) dX4_digest_63 rfl ?_
      refine aw_icmp_geN (tgt := 167) dX4_digest_64 (by decide) (by omega) (by omega) (fun hc64 => ?_) (fun hc64 => absurd hc64 (by omega))
      refine aw_iconst (v := nI 0) dX4_digest_167 rfl ?_
      refine aw_istore_n (ls' := [(1, _), (0, _)]) dX4_digest_168 (by decide) rfl ?_
      have e0 := l4 _ 0 I1 hP rfl (Nat.zero_le _)
      rw [hN_0] at e0
      exact aw_pick [1, 0] rfl e0
    | succ d ih =>
      intro st I0 hP0 hd hq
      have hst : st < 4 := by omega
      have hRK := hI.2.2.2.2.1 st hst
      have h20 : a.2.2 st 0 ≤ 20 := hRK.2.1
      obtain ⟨h0, hh0⟩ : ∃ h0, h0 = dgTs a st (dgS a hs.length) := ⟨_, rfl⟩
      have nx : dgTs a (st + 1) (dgS a hs.length) = dgT a st h0 := by rw [hh0, dgTs_s]
      skip
      rw [← hh0]
      have w3 : ∀ (d q : Nat) (I1 : Nat → Nat → Int32), PI I (a, hs, B) I1 → 4 - q = d → q ≤ 4 → AW G YX4_digest (MZ G YX4_digest (DP K R J z I (a, hs, B))) 136 [(0, .ref (G.1 140)), (1, .int (nI st)), (2, .int (nI q))] [] (K, R, I1, upJ J 140 11 (hN (dWo a st) q (hx (hN (dRo a st) (a.2.2 st 0) (hN (dTl a st) 11 h0)) (untilI a st).toInt64)), z) 0 0 := by
        intro d
        induction d with
        | zero =>
          intro q I1 hP hd1 hq
          have hqq : q = 4 := by omega
          subst hqq
          refine aw_iload_n dX4_digest_136 rfl ?_
          refine aw_iconst (v := nI 4) dX4_digest_137 rfl ?_
          refine aw_icmp_geN (tgt := 161) dX4_digest_138 (by decide) (by omega) (by omega) (fun hc138 => ?_) (fun hc138 => absurd hc138 (by omega))
          refine aw_iincN (k := 1) (ls' := [(1, _), (0, _), (2, _)]) dX4_digest_161 rfl rfl (by decide) rfl ?_
          refine aw_goto (tgt := 62) dX4_digest_164 (by decide) ?_
          have hn := ih (st + 1) I1 hP (by omega) (by omega)
          rw [nx] at hn
          exact aw_pick [1, 0] rfl hn
        | succ d ih2 =>
          intro q I1 hP hd1 hq
          refine aw_iload_n dX4_digest_136 rfl ?_
          refine aw_iconst (v := nI 4) dX4_digest_137 rfl ?_
          refine aw_icmp_geN (tgt := 161) dX4_digest_138 (by decide) (by omega) (by omega) (fun hc138 => absurd hc138 (by omega)) (fun hc138 => ?_)
          refine aw_aload_n dX4_digest_141 rfl ?_
          refine aw_aload_n dX4_digest_142 rfl ?_
          refine aw_iload_n dX4_digest_143 rfl ?_
          refine aw_bipush (v := nI 6) dX4_digest_144 rfl ?_
          refine aw_iconst (v := nI 3) dX4_digest_146 rfl ?_
          refine aw_iload_n dX4_digest_147 rfl ?_
          refine aw_vUp dX4_digest_148 cvX4_150 ⟨Nat.le_of_ble_eq_true rfl, Nat.le_of_ble_eq_true rfl⟩ (by assumption) ⟨_, rfl, rfl⟩ (r_would hL hst (by decide) (by decide) (w := q) (by omega) hP.1.1 hI hl1 (by omega)) rfl rfl (Nat.le_of_ble_eq_true rfl) ⟨rfl, rfl⟩ ⟨Nat.zero_le _, Nat.zero_le _⟩ (fun I148 hP148 => ?_)
          refine aw_i2l dX4_digest_151 ?_
          refine aw_hash dX4_digest_152 cvX4_169 ⟨Nat.le_of_ble_eq_true rfl, Nat.le_of_ble_eq_true rfl⟩ hL (Nat.le_of_ble_eq_true rfl) ⟨Nat.zero_le _, Nat.zero_le _⟩ ?_
          refine aw_iincN (k := 1) (ls' := [(2, _), (0, _), (1, _)]) dX4_digest_155 rfl rfl (by decide) rfl ?_
          refine aw_goto (tgt := 136) dX4_digest_158 (by decide) ?_
          have e0 := ih2 (q + 1) I148 (hP.w hP148) (by omega) (by omega)
          rw [hN_s] at e0
          exact aw_pick [1, 2, 0] rfl e0
      have w2 : ∀ (d q : Nat) (I1 : Nat → Nat → Int32), PI I (a, hs, B) I1 → a.2.2 st 0 - q = d → q ≤ a.2.2 st 0 → AW G YX4_digest (MZ G YX4_digest (DP K R J z I (a, hs, B))) 94 [(0, .ref (G.1 140)), (1, .int (nI st)), (2, .int (nI q))] [] (K, R, I1, upJ J 140 11 (hN (dRo a st) q (hN (dTl a st) 11 h0)), z) 0 0 := by
        intro d
        induction d with
        | zero =>
          intro q I1 hP hd1 hq
          have hqq : q = a.2.2 st 0 := by omega
          subst hqq
          refine aw_iload_n dX4_digest_94 rfl ?_
          refine aw_aload_n dX4_digest_95 rfl ?_
          refine aw_iload_n dX4_digest_96 rfl ?_
          refine aw_iconst (v := nI 0) dX4_digest_97 rfl ?_
          refine aw_vRd dX4_digest_98 cvX4_40 ⟨Nat.le_of_ble_eq_true rfl, Nat.le_of_ble_eq_true rfl⟩ (by assumption) ⟨_, rfl, rfl⟩ (r_of (a := a) hL hP.1.1 hst (w := 0) (by decide)) rfl rfl (Nat.le_of_ble_eq_true rfl) ⟨rfl, rfl⟩ ⟨Nat.zero_le _, Nat.zero_le _⟩ ?_
          refine aw_icmp_geN (tgt := 124) dX4_digest_101 (by decide) (by omega) (by omega) (fun hc101 => ?_) (fun hc101 => absurd hc101 (by omega))
          refine aw_aload_n dX4_digest_124 rfl ?_
          refine aw_aload_n dX4_digest_125 rfl ?_
          refine aw_iload_n dX4_digest_126 rfl ?_
          refine aw_vUp dX4_digest_127 cvX4_154 ⟨Nat.le_of_ble_eq_true rfl, Nat.le_of_ble_eq_true rfl⟩ (by assumption) ⟨_, rfl, rfl⟩ (r_untilFree hL hst hP.1.1 hI hl1 (by omega)) rfl rfl (Nat.le_of_ble_eq_true rfl) ⟨rfl, rfl⟩ ⟨Nat.zero_le _, Nat.zero_le _⟩ (fun I127 hP127 => ?_)
          refine aw_i2l dX4_digest_130 ?_
          refine aw_hash dX4_digest_131 cvX4_169 ⟨Nat.le_of_ble_eq_true rfl, Nat.le_of_ble_eq_true rfl⟩ hL (Nat.le_of_ble_eq_true rfl) ⟨Nat.zero_le _, Nat.zero_le _⟩ ?_
          refine aw_iconst (v := nI 0) dX4_digest_134 rfl ?_
          refine aw_istore_n (ls' := [(2, _), (0, _), (1, _)]) dX4_digest_135 (by decide) rfl ?_
          have e0 := w3 4 0 I127 (hP.w hP127) rfl (by decide)
          rw [hN_0] at e0
          exact aw_pick [1, 2, 0] rfl e0
        | succ d ih2 =>
          intro q I1 hP hd1 hq
          refine aw_iload_n dX4_digest_94 rfl ?_
          refine aw_aload_n dX4_digest_95 rfl ?_
          refine aw_iload_n dX4_digest_96 rfl ?_
          refine aw_iconst (v := nI 0) dX4_digest_97 rfl ?_
          refine aw_vRd dX4_digest_98 cvX4_40 ⟨Nat.le_of_ble_eq_true rfl, Nat.le_of_ble_eq_true rfl⟩ (by assumption) ⟨_, rfl, rfl⟩ (r_of (a := a) hL hP.1.1 hst (w := 0) (by decide)) rfl rfl (Nat.le_of_ble_eq_true rfl) ⟨rfl, rfl⟩ ⟨Nat.zero_le _, Nat.zero_le _⟩ ?_
          refine aw_icmp_geN (tgt := 124) dX4_digest_101 (by decide) (by omega) (by omega) (fun hc101 => absurd hc101 (by omega)) (fun hc101 => ?_)
          refine aw_aload_n dX4_digest_104 rfl ?_
          refine aw_aload_n dX4_digest_105 rfl ?_
          refine aw_iload_n dX4_digest_106 rfl ?_
          refine aw_bipush (v := nI 12) dX4_digest_107 rfl ?_
          refine aw_iload_n dX4_digest_109 rfl ?_
          first | refine aw_iaddN dX4_digest_110 ?_ | refine aw_iadd dX4_digest_110 ?_
          refine aw_vRd dX4_digest_111 cvX4_40 ⟨Nat.le_of_ble_eq_true rfl, Nat.le_of_ble_eq_true rfl⟩ (by assumption) ⟨_, rfl, rfl⟩ (r_of (a := a) hL hP.1.1 hst (w := 12 + q) (by omega)) rfl rfl (Nat.le_of_ble_eq_true rfl) ⟨rfl, rfl⟩ ⟨Nat.zero_le _, Nat.zero_le _⟩ ?_
          refine aw_i2l dX4_digest_114 ?_
          refine aw_hash dX4_digest_115 cvX4_169 ⟨Nat.le_of_ble_eq_true rfl, Nat.le_of_ble_eq_true rfl⟩ hL (Nat.le_of_ble_eq_true rfl) ⟨Nat.zero_le _, Nat.zero_le _⟩ ?_
          refine aw_iincN (k := 1) (ls' := [(2, _), (0, _), (1, _)]) dX4_digest_118 rfl rfl (by decide) rfl ?_
          refine aw_goto (tgt := 94) dX4_digest_121 (by decide) ?_
          have e0 := ih2 (q + 1) I1 hP (by omega) (by omega)
          rw [hN_s] at e0
          exact aw_pick [1, 2, 0] rfl e0
      have w1 : ∀ (d q : Nat) (I1 : Nat → Nat → Int32), PI I (a, hs, B) I1 → 11 - q = d → q ≤ 11 → AW G YX4_digest (MZ G YX4_digest (DP K R J z I (a, hs, B))) 69 [(0, .ref (G.1 140)), (1, .int (nI st)), (2, .int (nI q))] [] (K, R, I1, upJ J 140 11 (hN (dTl a st) q h0), z) 0 0 := by
        intro d
        induction d with
        | zero =>
          intro q I1 hP hd1 hq
          have hqq : q = 11 := by omega
          subst hqq
          refine aw_iload_n dX4_digest_69 rfl ?_
          refine aw_bipush (v := nI 11) dX4_digest_70 rfl ?_
          refine aw_icmp_geN (tgt := 92) dX4_digest_72 (by decide) (by omega) (by omega) (fun hc72 => ?_) (fun hc72 => absurd hc72 (by omega))
          refine aw_iconst (v := nI 0) dX4_digest_92 rfl ?_
          refine aw_istore_n (ls' := [(2, _), (0, _), (1, _)]) dX4_digest_93 (by decide) rfl ?_
          have e0 := w2 _ 0 I1 hP rfl (Nat.zero_le _)
          rw [hN_0] at e0
          exact aw_pick [1, 2, 0] rfl e0
        | succ d ih2 =>
          intro q I1 hP hd1 hq
          refine aw_iload_n dX4_digest_69 rfl ?_
          refine aw_bipush (v := nI 11) dX4_digest_70 rfl ?_
          refine aw_icmp_geN (tgt := 92) dX4_digest_72 (by decide) (by omega) (by omega) (fun hc72 => absurd hc72 (by omega)) (fun hc72 => ?_)
          refine aw_aload_n dX4_digest_75 rfl ?_
          refine aw_aload_n dX4_digest_76 rfl ?_
          refine aw_iload_n dX4_digest_77 rfl ?_
          refine aw_iload_n dX4_digest_78 rfl ?_
          refine aw_vRd dX4_digest_79 cvX4_135 ⟨Nat.le_of_ble_eq_true rfl, Nat.le_of_ble_eq_true rfl⟩ (by assumption) ⟨_, rfl, rfl⟩ (r_tellsStore hL hP.1.1 hI hst (w := q) (by omega)) rfl rfl (Nat.le_of_ble_eq_true rfl) ⟨rfl, rfl⟩ ⟨Nat.zero_le _, Nat.zero_le _⟩ ?_
          refine aw_i2l dX4_digest_82 ?_
          refine aw_hash dX4_digest_83 cvX4_169 ⟨Nat.le_of_ble_eq_true rfl, Nat.le_of_ble_eq_true rfl⟩ hL (Nat.le_of_ble_eq_true rfl) ⟨Nat.zero_le _, Nat.zero_le _⟩ ?_
          refine aw_iincN (k := 1) (ls' := [(2, _), (0, _), (1, _)]) dX4_digest_86 rfl rfl (by decide) rfl ?_
          refine aw_goto (tgt := 69) dX4_digest_89 (by decide) ?_
          have e0 := ih2 (q + 1) I1 hP (by omega) (by omega)
          rw [hN_s] at e0
          exact aw_pick [1, 2, 0] rfl e0
      refine aw_iload_n dX4_digest_62 rfl ?_
      refine aw_iconst (v := nI 4) dX4_digest_63 rfl ?_
      refine aw_icmp_geN (tgt := 167) dX4_digest_64 (by decide) (by omega) (by omega) (fun hc64 => absurd hc64 (by omega)) (fun hc64 => ?_)
      refine aw_iconst (v := nI 0) dX4_digest_67 rfl ?_
      refine aw_istore_n (ls' := [(2, _), (0, _), (1, _)]) dX4_digest_68 (by decide) rfl ?_
      have e0 := w1 11 0 I0 hP0 rfl (by decide)
      rw [hN_0] at e0
      exact aw_pick [1, 2, 0] rfl e0
  -- the settings
  have l2 : ∀ (d q : Nat) (I1 : Nat → Nat → Int32), PI I (a, hs, B) I1 → 5 - q = d → q ≤ 5 → AW G YX4_digest (MZ G YX4_digest (DP K R J z I (a, hs, B))) 38 [(0, .ref (G.1 140)), (1, .int (nI q))] [] (K, R, I1, upJ J 140 11 (hN (dSe a) q (hN (dCn a hs.length) 9 3037)), z) 0 0 := by
    intro d
    induction d with
    | zero =>
      intro q I1 hP hd hq
      have hqq : q = 5 := by omega
      subst hqq
      refine aw_iload_n dX4_digest_38 rfl ?_
      refine aw_iconst (v := nI 5) dX4_digest_39 rfl ?_
      refine aw_icmp_geN (tgt := 60) dX4_digest_40 (by decide) (by omega) (by omega) (fun hc40 => ?_) (fun hc40 => absurd hc40 (by omega))
      refine aw_iconst (v := nI 0) dX4_digest_60 rfl ?_
      refine aw_istore_n (ls' := [(1, _), (0, _)]) dX4_digest_61 (by decide) rfl ?_
      have e0 := l3 4 0 I1 hP rfl (by decide)
      rw [dgTs_0] at e0
      exact aw_pick [1, 0] rfl e0
    | succ d ih =>
      intro q I1 hP hd hq
      have hsq : I1 141 q = nI (a.1 q) := hP.1.1.1 q (by omega)
      refine aw_iload_n dX4_digest_38 rfl ?_
      refine aw_iconst (v := nI 5) dX4_digest_39 rfl ?_
      refine aw_icmp_geN (tgt := 60) dX4_digest_40 (by decide) (by omega) (by omega) (fun hc40 => absurd hc40 (by omega)) (fun hc40 => ?_)
      refine aw_aload_n dX4_digest_43 rfl ?_
      refine aw_aload_n dX4_digest_44 rfl ?_
      refine aw_getR dX4_digest_45 flX4_7 rfl (by assumption) (by assumption) ?_
      refine aw_iload_n dX4_digest_48 rfl ?_
      refine aw_iald dX4_digest_49 (by assumption) (by omega) rfl (by omega) hsq ?_
      refine aw_i2l dX4_digest_50 ?_
      refine aw_hash dX4_digest_51 cvX4_169 ⟨Nat.le_of_ble_eq_true rfl, Nat.le_of_ble_eq_true rfl⟩ hL (Nat.le_of_ble_eq_true rfl) ⟨Nat.zero_le _, Nat.zero_le _⟩ ?_
      refine aw_iincN (k := 1) (ls' := [(1, _), (0, _)]) dX4_digest_54 rfl rfl (by decide) rfl ?_
      refine aw_goto (tgt := 38) dX4_digest_57 (by decide) ?_
      have e0 := ih (q + 1) I1 hP (by omega) (by omega)
      rw [hN_s] at e0
      exact aw_pick [1, 0] rfl e0
  -- the counts
  have l1 : ∀ (d q : Nat) (I1 : Nat → Nat → Int32), PI I (a, hs, B) I1 → 9 - q = d → q ≤ 9 → AW G YX4_digest (MZ G YX4_digest (DP K R J z I (a, hs, B))) 14 [(0, .ref (G.1 140)), (1, .int (nI q))] [] (K, R, I1, upJ J 140 11 (hN (dCn a hs.length) q 3037), z) 0 0 := by
    intro d
    induction d with
    | zero =>
      intro q I1 hP hd hq
      have hqq : q = 9 := by omega
      subst hqq
      refine aw_iload_n dX4_digest_14 rfl ?_
      refine aw_bipush (v := nI 9) dX4_digest_15 rfl ?_
      refine aw_icmp_geN (tgt := 36) dX4_digest_17 (by decide) (by omega) (by omega) (fun hc17 => ?_) (fun hc17 => absurd hc17 (by omega))
      refine aw_iconst (v := nI 0) dX4_digest_36 rfl ?_
      refine aw_istore_n (ls' := [(1, _), (0, _)]) dX4_digest_37 (by decide) rfl ?_
      have e0 := l2 5 0 I1 hP rfl (by decide)
      rw [hN_0] at e0
      exact aw_pick [1, 0] rfl e0
    | succ d ih =>
      intro q I1 hP hd hq
      have hsm : I1 140 4 = nI hs.length := hP.1.2.1.1
      refine aw_iload_n dX4_digest_14 rfl ?_
      refine aw_bipush (v := nI 9) dX4_digest_15 rfl ?_
      refine aw_icmp_geN (tgt := 36) dX4_digest_17 (by decide) (by omega) (by omega) (fun hc17 => absurd hc17 (by omega)) (fun hc17 => ?_)
      refine aw_aload_n dX4_digest_20 rfl ?_
      refine aw_aload_n dX4_digest_21 rfl ?_
      refine aw_iload_n dX4_digest_22 rfl ?_
      refine aw_vRd dX4_digest_23 cvX4_141 ⟨Nat.le_of_ble_eq_true rfl, Nat.le_of_ble_eq_true rfl⟩ (by assumption) ⟨_, rfl, rfl⟩ (r_counts hL hP.1.1 hI hsm (w := q) (by omega)) rfl rfl (Nat.le_of_ble_eq_true rfl) ⟨rfl, rfl⟩ ⟨Nat.zero_le _, Nat.zero_le _⟩ ?_
      refine aw_i2l dX4_digest_26 ?_
      refine aw_hash dX4_digest_27 cvX4_169 ⟨Nat.le_of_ble_eq_true rfl, Nat.le_of_ble_eq_true rfl⟩ hL (Nat.le_of_ble_eq_true rfl) ⟨Nat.zero_le _, Nat.zero_le _⟩ ?_
      refine aw_iincN (k := 1) (ls' := [(1, _), (0, _)]) dX4_digest_30 rfl rfl (by decide) rfl ?_
      refine aw_goto (tgt := 14) dX4_digest_33 (by decide) ?_
      have e0 := ih (q + 1) I1 hP (by omega) (by omega)
      rw [hN_s] at e0
      exact aw_pick [1, 0] rfl e0
  refine run_of (ls := [(0, .ref (G.1 140))]) (by decide +kernel) rfl rfl (Nat.le_of_ble_eq_true rfl) ?_
  refine aw_aload_n dX4_digest_0 rfl ?_
  refine aw_iconst (v := nI 0) dX4_digest_1 rfl ?_
  refine aw_putI dX4_digest_2 flX4_25 rfl (by intro r hr; cases hr; rfl) (by assumption) (by omega) rfl rfl ?_
  refine aw_aload_n dX4_digest_5 rfl ?_
  refine aw_ldc2 dX4_digest_6 ldX4_167 ?_
  refine aw_putJ dX4_digest_9 flX4_163 rfl (by intro r hr; cases hr; rfl) (by assumption) (by omega) rfl rfl ?_
  refine aw_iconst (v := nI 0) dX4_digest_12 rfl ?_
  refine aw_istore_n (ls' := [(1, _), (0, _)]) dX4_digest_13 (by decide) rfl ?_
  have e0 := l1 9 0 _ hP0 rfl (by decide)
  rw [hN_0] at e0
  exact aw_pick [1, 0] rfl e0
end MDIGEST
