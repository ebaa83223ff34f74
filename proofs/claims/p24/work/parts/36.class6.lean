/-! THE CLASS: a tick -/
def cnt (L : List Cl) (s : Nat) : Nat := L.countP (fun c => c 0 == s)
theorem cnt_app (L M : List Cl) (s : Nat) : cnt (L ++ M) s = cnt L s + cnt M s := List.countP_append
theorem cnt_cons (c : Cl) (L : List Cl) (s : Nat) : cnt (c :: L) s = cnt L s + (if c 0 = s then 1 else 0) := by
  unfold cnt; rw [List.countP_cons]; simp
section CLASS6
variable {G : GG} {K : Nat → Option (Nat × Nat)} {R : Nat → Nat → Value} {I : Nat → Nat → Int32} {J : Nat → Nat → Int64} {z : Nat} {σ : Sg} {a : AA} {m k : Nat}
variable {h b st : Nat} {g : Nat → Nat} {T : Nat → Rw} {L : List Cl}
theorem LSt.cf (hL : LSt G K R h) : ∀ f, f < 5 → R (h + 3) f = .ref (G.1 (h + 4 + f)) ∧ K (h + 4 + f) = some (10, 16) := by
  obtain ⟨hk0, hr0, hk1, hsr, hr1, hk2, hr2, hk3, hc0, hc1, hc2, hc3, hc4, hkc0, hkc1, hkc2, hkc3, hkc4, hTs, hh⟩ := id hL
  intro f hf
  rcases (show f = 0 ∨ f = 1 ∨ f = 2 ∨ f = 3 ∨ f = 4 by omega) with rfl | rfl | rfl | rfl | rfl
  · exact ⟨hc0, hkc0⟩
  · exact ⟨hc1, hkc1⟩
  · exact ⟨hc2, hkc2⟩
  · exact ⟨hc3, hkc3⟩
  · exact ⟨hc4, hkc4⟩
theorem c_moveCall {p t : Nat} (hL : LSt G K R h) (hp : p < 16) (ht : t < 16) : Run G YX1_moveCall [.ref (G.1 h), .int (nI p), .int (nI t)] (K, R, I, J, z) (Up K R J z none (fun I' => ∀ q j, I' q j = if h + 4 ≤ q ∧ q < h + 4 + 5 ∧ j = t then I q p else I q j)) := by
  obtain ⟨hk0, hr0, hk1, hsr, hr1, hk2, hr2, hk3, hc0, hc1, hc2, hc3, hc4, hkc0, hkc1, hkc2, hkc3, hkc4, hTs, hh⟩ := id hL
  have loop : ∀ (d f : Nat) (I1 : Nat → Nat → Int32), 5 - f = d → f ≤ 5 → (∀ q j, I1 q j = if h + 4 ≤ q ∧ q < h + 4 + f ∧ j = t then I q p else I q j) → AW G YX1_moveCall (MZ G YX1_moveCall (Up K R J z none (fun I' => ∀ q j, I' q j = if h + 4 ≤ q ∧ q < h + 4 + 5 ∧ j = t then I q p else I q j))) 2 [(0, .ref (G.1 h)), (1, .int (nI p)), (2, .int (nI t)), (3, .int (nI f))] [] (K, R, I1, J, z) 0 0 := by
    intro d
    induction d using Nat.strongRecOn with
    | _ d ih =>
    intro f I1 hd hf h1
    rcases Nat.lt_or_ge f 5 with hlt | hge
    rotate_left
    · have hfe : f = 5 := by omega
      subst hfe
      refine aw_iload_n dX1_moveCall_2 rfl ?_
      refine aw_iconst (v := nI 5) dX1_moveCall_3 rfl ?_
      refine aw_icmp_geN (tgt := 29) dX1_moveCall_4 (by decide) (by omega) (by omega) (fun hc4 => ?_) (fun hc4 => absurd hc4 (by decide))
      exact aw_vret dX1_moveCall_29 rfl (Nat.zero_le _) (Nat.zero_le _) ⟨rfl, _, rfl, h1⟩
    · obtain ⟨hcf, hkf⟩ := hL.cf f hlt
      refine aw_iload_n dX1_moveCall_2 rfl ?_
      refine aw_iconst (v := nI 5) dX1_moveCall_3 rfl ?_
      refine aw_icmp_geN (tgt := 29) dX1_moveCall_4 (by decide) (by omega) (by omega) (fun hc4 => absurd hc4 (by omega)) (fun hc4 => ?_)
      refine aw_aload_n dX1_moveCall_7 rfl ?_
      refine aw_getR dX1_moveCall_8 flX1_23 rfl (by assumption) (by assumption) ?_
      refine aw_iload_n dX1_moveCall_11 rfl ?_
      refine aw_aald dX1_moveCall_12 (by assumption) (by omega) (by omega) rfl (by omega) hcf ?_
      refine aw_iload_n dX1_moveCall_13 rfl ?_
      refine aw_aload_n dX1_moveCall_14 rfl ?_
      refine aw_getR dX1_moveCall_15 flX1_23 rfl (by assumption) (by assumption) ?_
      refine aw_iload_n dX1_moveCall_18 rfl ?_
      refine aw_aald dX1_moveCall_19 (by assumption) (by omega) (by omega) rfl (by omega) hcf ?_
      refine aw_iload_n dX1_moveCall_20 rfl ?_
      refine aw_iald dX1_moveCall_21 (by assumption) (by omega) rfl (by omega) (show _ = I (h + 4 + f) p by rw [h1, if_neg (by omega)]) ?_
      refine aw_iast dX1_moveCall_22 (by assumption) (by omega) (by omega) rfl (by omega) ?_
      refine aw_iincN (k := 1) (ls' := [(3, _), (0, _), (1, _), (2, _)]) dX1_moveCall_23 rfl rfl (by decide) rfl ?_
      refine aw_goto (tgt := 2) dX1_moveCall_26 (by decide) ?_
      exact aw_pick [1, 2, 3, 0] rfl (ih (5 - (f + 1)) (by omega) (f + 1) _ rfl (by omega) (fun q j => by
        unfold up2
        by_cases e : q = h + 4 + f ∧ j = t
        · rw [if_pos e, if_pos (by omega), e.1]
        · rw [if_neg e, h1]
          by_cases e2 : h + 4 ≤ q ∧ q < h + 4 + f ∧ j = t
          · rw [if_pos e2, if_pos (by omega)]
          · rw [if_neg e2, if_neg (by omega)]))
  refine run_of (ls := [(0, .ref (G.1 h)), (1, .int (nI p)), (2, .int (nI t))]) (by decide +kernel) rfl rfl (Nat.le_of_ble_eq_true rfl) ?_
  refine aw_iconst (v := nI 0) dX1_moveCall_0 rfl ?_
  refine aw_istore_n (ls' := [(3, _), (0, _), (1, _), (2, _)]) dX1_moveCall_1 (by decide) rfl ?_
  exact aw_pick [1, 2, 3, 0] rfl (loop 5 0 I rfl (by decide) (fun q j => by rw [if_neg (by omega)]))
theorem c_tick (hL : LSt G K R h) (hS : CSt I h a) (hI : IV m k a) (hmk : m + k ≤ 900000000) (hl1 : L1 a) : Run G YX1_tick [.ref (G.1 h)] (K, R, I, J, z) (Up K R J z (some (.int (nI (tickN a)))) (fun I' => CSt I' h (tickA a) ∧ FrS h I I')) := by
  obtain ⟨hk0, hr0, hk1, hsr, hr1, hk2, hr2, hk3, hc0, hc1, hc2, hc3, hc4, hkc0, hkc1, hkc2, hkc3, hkc4, hTs, hh⟩ := id hL
  obtain ⟨hSG, hA, hn, hW⟩ := id hS
  have h16 := hI.2.1
  obtain ⟨n0, hn0⟩ : ∃ n0, n0 = a.2.1.length := ⟨_, rfl⟩
  rw [← hn0] at hn h16
  have loop3 : ∀ (d q : Nat) (I1 : Nat → Nat → Int32) (g : Nat → Nat) (T : Nat → Rw) (kp : List Cl), 4 - q = d → q ≤ 4 → kp.length ≤ n0 → (∀ st, st < 4 → RK (m + k) (T st)) → SG I1 h g (waitF q T) → CA I1 h kp → I1 h 3 = nI kp.length → CW I1 h (cnt kp) → FrS h I I1 → keptL (a.2.1.map decC) = kp → ansG (a.2.1.map decC) (a.1, a.2.2) = (g, T) → AW G YX1_tick (MZ G YX1_tick (Up K R J z (some (.int (nI (tickN a)))) (fun I' => CSt I' h (tickA a) ∧ FrS h I I'))) 123 [(0, .ref (G.1 h)), (1, .int (nI n0)), (2, .int (nI kp.length)), (3, .int (nI q))] [] (K, R, I1, J, z) 0 0 := by
    intro d
    induction d using Nat.strongRecOn with
    | _ d ih =>
    intro q I1 g T kp hd hq hkl hRK hSG1 hA1 hn1 hW1 hF1 hkp han
    rcases Nat.lt_or_ge q 4 with hlt | hge
    rotate_left
    · have hqe : q = 4 := by omega
      subst hqe
      refine aw_iload_n dX1_tick_123 rfl ?_
      refine aw_iconst (v := nI 4) dX1_tick_124 rfl ?_
      refine aw_icmp_geN (tgt := 143) dX1_tick_125 (by decide) (by omega) (by omega) (fun hc125 => ?_) (fun hc125 => absurd hc125 (by decide))
      refine aw_aload_n dX1_tick_143 rfl ?_
      refine aw_dup dX1_tick_144 rfl ?_
      refine aw_getI dX1_tick_145 flX1_44 rfl (by assumption) hSG1.2.1 ?_
      refine aw_iconst (v := nI 1) dX1_tick_148 rfl ?_
      first | refine aw_iaddN dX1_tick_149 ?_ | refine aw_iadd dX1_tick_149 ?_
      refine aw_putI dX1_tick_150 flX1_44 rfl (by intro r hr; cases hr; rfl) (by assumption) (by omega) rfl rfl ?_
      refine aw_iload_n dX1_tick_153 rfl ?_
      refine aw_iload_n dX1_tick_154 rfl ?_
      first | refine aw_isubN dX1_tick_155 (by omega) ?_ | refine aw_isub dX1_tick_155 ?_
      refine aw_iret dX1_tick_156 rfl (Nat.zero_le _) (Nat.zero_le _) ?_
      refine ⟨by rw [tickN, hkp, ← hn0], _, rfl, ⟨?_, ?_, ?_, ?_⟩, hF1.tr (FrS.o FrO.up (by omega) (by omega))⟩
      · rw [tickA_eq, han, hkp]; exact SG.gone hSG1
      · rw [tickA_eq, han, hkp]; exact hA1.fr (fun q h1 h2 => FrO.up q (by omega))
      · rw [tickA_eq, han, hkp, up2_o, if_neg (by decide)]; exact hn1
      · rw [tickA_eq, han, hkp]; exact hW1.fr (fun s hs => by rw [FrO.up _ (by omega)])
    · have hT := hTs q hlt
      have hKo := hT.1
      have hRq : RK (m + k) (waitF q T q) := by rw [waitF_n T (Nat.le_refl q)]; exact hRK q hlt
      refine aw_iload_n dX1_tick_123 rfl ?_
      refine aw_iconst (v := nI 4) dX1_tick_124 rfl ?_
      refine aw_icmp_geN (tgt := 143) dX1_tick_125 (by decide) (by omega) (by omega) (fun hc125 => absurd hc125 (by omega)) (fun hc125 => ?_)
      refine aw_aload_n dX1_tick_128 rfl ?_
      refine aw_getR dX1_tick_129 flX1_11 rfl (by assumption) (by assumption) ?_
      refine aw_iload_n dX1_tick_132 rfl ?_
      refine aw_aald dX1_tick_133 (by assumption) (by omega) (by omega) rfl (by omega) (hsr q hlt) ?_
      refine aw_vUp0 dX1_tick_134 cvX1_105 ⟨Nat.le_of_ble_eq_true rfl, Nat.le_of_ble_eq_true rfl⟩ (by assumption) ⟨_, rfl, rfl⟩ (s_waitATick hT (hSG1.2.2.2.2 q hlt) hRq (by omega)) rfl rfl (Nat.le_of_ble_eq_true rfl) ⟨rfl, rfl⟩ ⟨Nat.zero_le _, Nat.zero_le _⟩ (fun I134 hP134 => ?_)
      refine aw_iincN (k := 1) (ls' := [(3, _), (0, _), (1, _), (2, _)]) dX1_tick_137 rfl rfl (by decide) rfl ?_
      refine aw_goto (tgt := 123) dX1_tick_140 (by decide) ?_
      have hSG2 := SG.row hSG1 hlt hP134.1 hP134.2.2
      rw [waitF_n T (Nat.le_refl q), waitF_s] at hSG2
      exact aw_pick [1, 2, 3, 0] rfl (ih (4 - (q + 1)) (by omega) (q + 1) I134 g T kp rfl (by omega) hkl hRK hSG2 (hA1.fr (fun q h1 h2 => hP134.2.2 q (by omega))) (by rw [hP134.2.2 h (by omega)]; exact hn1) (hW1.fr (FrD.st hlt hP134.2.2 hP134.2.1).2.2) (hF1.tr (FrS.o hP134.2.2 (by omega) (by omega))) hkp han)
  have loop2 : ∀ (L kp : List Cl) (g : Nat → Nat) (T : Nat → Rw) (p : Nat) (I1 : Nat → Nat → Int32), IV m k (g, kp ++ L.map decC, T) → SG I1 h g T → CA I1 h kp → (∀ (i : Nat) (c : Cl), L[i]? = some c → I1 (h + 4) (p + i) = nI (c 0) ∧ I1 (h + 5) (p + i) = nI (c 1) ∧ I1 (h + 6) (p + i) = nI (c 2) ∧ I1 (h + 7) (p + i) = nI (c 3) ∧ I1 (h + 8) (p + i) = nI (c 4)) → kp.length ≤ p → p + L.length = n0 → CW I1 h (cnt (kp ++ L.map decC)) → FrS h I I1 → keptL (a.2.1.map decC) = kp ++ keptL (L.map decC) → ansG (a.2.1.map decC) (a.1, a.2.2) = ansG (L.map decC) (g, T) → (∀ c ∈ L, 1 ≤ c 1) → AW G YX1_tick (MZ G YX1_tick (Up K R J z (some (.int (nI (tickN a)))) (fun I' => CSt I' h (tickA a) ∧ FrS h I I'))) 9 [(0, .ref (G.1 h)), (1, .int (nI n0)), (2, .int (nI kp.length)), (3, .int (nI p))] [] (K, R, I1, J, z) 0 0 := by
    intro L
    induction L with
    | nil =>
      intro kp g T p I1 hI1 hSG1 hA1 hB1 hkl hpl hW1 hF1 hkp han hl
      simp only [List.map_nil, List.append_nil] at hI1 hW1 hkp han
      have hpl2 : p = n0 := hpl
      rw [keptL_nil, List.append_nil] at hkp
      refine aw_iload_n dX1_tick_9 rfl ?_
      refine aw_iload_n dX1_tick_10 rfl ?_
      refine aw_icmp_geN (tgt := 116) dX1_tick_11 (by decide) (by omega) (by omega) (fun hc11 => ?_) (fun hc11 => absurd hc11 (by omega))
      refine aw_aload_n dX1_tick_116 rfl ?_
      refine aw_iload_n dX1_tick_117 rfl ?_
      refine aw_putI dX1_tick_118 flX1_40 rfl (by intro r hr; cases hr; rfl) (by assumption) (by omega) rfl rfl ?_
      refine aw_iconst (v := nI 0) dX1_tick_121 rfl ?_
      refine aw_istore_n (ls' := [(3, _), (0, _), (1, _), (2, _)]) dX1_tick_122 (by decide) rfl ?_
      refine aw_pick [1, 2, 3, 0] rfl (loop3 4 0 _ g T kp rfl (by decide) (by omega) (fun st hst => (hI1.2.2.2.2.1 st hst).up hI1.b) ?_ (hA1.fr (fun q h1 h2 => FrO.up q (by omega))) (by rw [up2_o, if_pos rfl]) (hW1.fr (fun s hs => by rw [FrO.up _ (by omega)])) (hF1.tr (FrS.o FrO.up (by omega) (by omega))) hkp (by rw [han]; rfl))
      rw [waitF_0]
      obtain ⟨h1, h2, h3, h4, h5⟩ := hSG1
      exact ⟨fun i hi => by rw [FrO.up _ (by omega)]; exact h1 i hi, by rw [up2_o, if_neg (by decide)]; exact h2, by rw [up2_o, if_neg (by decide)]; exact h3, by rw [up2_o, if_neg (by decide)]; exact h4, fun s hs => by rw [FrO.up _ (by omega), FrO.up _ (by omega)]; exact h5 s hs⟩
    | cons c cs ih =>
      intro kp g T p I1 hI1 hSG1 hA1 hB1 hkl hpl hW1 hF1 hkp han hl
      simp only [List.map_cons] at hI1 hW1 hkp han
      have hlen : (c :: cs).length = cs.length + 1 := rfl
      have w0 : I1 (h + 4) p = nI (c 0) := (hB1 0 c rfl).1
      have w1 : I1 (h + 5) p = nI (c 1) := (hB1 0 c rfl).2.1
      have w2 : I1 (h + 6) p = nI (c 2) := (hB1 0 c rfl).2.2.1
      have w3 : I1 (h + 7) p = nI (c 3) := (hB1 0 c rfl).2.2.2.1
      have w4 : I1 (h + 8) p = nI (c 4) := (hB1 0 c rfl).2.2.2.2
      have hcm := hI1.2.2.1 (decC c) (List.mem_append_right _ List.mem_cons_self)
      obtain ⟨e0, e1, e2, e3, e4, e5, e6⟩ := hcm
      have e0 : c 0 < 4 := e0
      have e1 : c 1 - 1 ≤ 99 := e1
      have e3 : c 2 ≤ 99 := e3
      have e4 : c 3 ≤ 1 := e4
      have e5 : c 4 ≤ g 6 + g 7 + k := e5
      have hc1 := hl c List.mem_cons_self
      have hb1 := hI1.b
      simp only at hb1
      have hb1 : g 6 + g 7 + k ≤ m + k := hb1
      have hT := hTs (c 0) e0
      have hKo := hT.1
      have hRK := (hI1.2.2.2.2.1 (c 0) e0).up hI1.b
      have hRK : RK (m + k) (T (c 0)) := hRK
      have hcw := hW1 (c 0) e0
      have hcp : 1 ≤ cnt (kp ++ decC c :: cs.map decC) (c 0) := by rw [cnt_app, cnt_cons, if_pos (show decC c 0 = c 0 from rfl)]; omega
      have h69 : T (c 0) 9 ≤ g 6 := by
        have : g 6 = T 0 9 + T 1 9 + T 2 9 + T 3 9 := hI1.2.2.2.2.2.1
        rcases (show c 0 = 0 ∨ c 0 = 1 ∨ c 0 = 2 ∨ c 0 = 3 by omega) with q | q | q | q <;> rw [q] <;> omega
      obtain ⟨o, ho⟩ : ∃ o, o = c 0 := ⟨_, rfl⟩
      rw [← ho] at hT hKo hRK hcw hcp e0 h69 w0
      have hd1 : SG (up2 I1 (h + 5) p (nI (c 1 - 1))) h g T := by
        obtain ⟨h1, h2, h3, h4, h5⟩ := hSG1
        exact ⟨fun i hi => by rw [FrO.up _ (by omega)]; exact h1 i hi, by rw [FrO.up _ (by omega)]; exact h2, by rw [FrO.up _ (by omega)]; exact h3, by rw [FrO.up _ (by omega)]; exact h4, fun s hs => by rw [FrO.up _ (by omega), FrO.up _ (by omega)]; exact h5 s hs⟩
      have hd5 := hd1.2.2.2.2 o e0
      have hs2 : SG (up2 (up2 I1 (h + 5) p (nI (c 1 - 1))) (h + 9 + 2 * o) 12 (nI (cnt (kp ++ decC c :: cs.map decC) o - 1))) h g T := by
        have := SG.row hd1 e0 (SR.up (j := 12) (x := nI (cnt (kp ++ decC c :: cs.map decC) o - 1)) (SR.way hd5)) FrO.up
        rw [sT_id] at this; exact this
      have hrow : ∀ I2 : Nat → Nat → Int32, (∀ q, h + 4 ≤ q → q ≤ h + 8 → I2 q = up2 I1 (h + 5) p (nI (c 1 - 1)) q) → ∀ (i : Nat) (c' : Cl), cs[i]? = some c' → I2 (h + 4) (p + 1 + i) = nI (c' 0) ∧ I2 (h + 5) (p + 1 + i) = nI (c' 1) ∧ I2 (h + 6) (p + 1 + i) = nI (c' 2) ∧ I2 (h + 7) (p + 1 + i) = nI (c' 3) ∧ I2 (h + 8) (p + 1 + i) = nI (c' 4) := by
        intro I2 h2 i c' hi
        have := hB1 (i + 1) c' (by rw [List.getElem?_cons_succ]; exact hi)
        rw [show p + (i + 1) = p + 1 + i by omega] at this
        rw [h2 (h + 4) (by omega) (by omega), h2 (h + 5) (by omega) (by omega), h2 (h + 6) (by omega) (by omega), h2 (h + 7) (by omega) (by omega), h2 (h + 8) (by omega) (by omega), FrO.up (h + 4) (by omega), FrO.up (h + 6) (by omega), FrO.up (h + 7) (by omega), FrO.up (h + 8) (by omega), up2_o, if_neg (by omega)]
        exact this
      refine aw_iload_n dX1_tick_9 rfl ?_
      refine aw_iload_n dX1_tick_10 rfl ?_
      refine aw_icmp_geN (tgt := 116) dX1_tick_11 (by decide) (by omega) (by omega) (fun hc11 => absurd hc11 (by omega)) (fun hc11 => ?_)
      refine aw_aload_n dX1_tick_14 rfl ?_
      refine aw_getR dX1_tick_15 flX1_23 rfl (by assumption) (by assumption) ?_
      refine aw_iconst (v := nI 1) dX1_tick_18 rfl ?_
      refine aw_aald dX1_tick_19 (by assumption) (by omega) (by omega) rfl (by omega) (by assumption) ?_
      refine aw_iload_n dX1_tick_20 rfl ?_
      refine aw_dup2 dX1_tick_21 rfl rfl ?_
      refine aw_iald dX1_tick_22 (by assumption) (by omega) rfl (by omega) w1 ?_
      refine aw_iconst (v := nI 1) dX1_tick_23 rfl ?_
      first | refine aw_isubN dX1_tick_24 (by omega) ?_ | refine aw_isub dX1_tick_24 ?_
      refine aw_iast dX1_tick_25 (by assumption) (by omega) (by omega) rfl (by omega) ?_
      refine aw_aload_n dX1_tick_26 rfl ?_
      refine aw_getR dX1_tick_27 flX1_23 rfl (by assumption) (by assumption) ?_
      refine aw_iconst (v := nI 1) dX1_tick_30 rfl ?_
      refine aw_aald dX1_tick_31 (by assumption) (by omega) (by omega) rfl (by omega) (by assumption) ?_
      refine aw_iload_n dX1_tick_32 rfl ?_
      refine aw_iald dX1_tick_33 (by assumption) (by omega) rfl (by omega) (show _ = nI (c 1 - 1) by rw [up2_o, if_pos rfl]) ?_
      refine aw_if_leN (tgt := 54) dX1_tick_34 (by decide) (by omega) (fun hc34 => ?_) (fun hc34 => ?_)
      · refine aw_aload_n dX1_tick_54 rfl ?_
        refine aw_getR dX1_tick_55 flX1_11 rfl (by assumption) (by assumption) ?_
        refine aw_aload_n dX1_tick_58 rfl ?_
        refine aw_getR dX1_tick_59 flX1_23 rfl (by assumption) (by assumption) ?_
        refine aw_iconst (v := nI 0) dX1_tick_62 rfl ?_
        refine aw_aald dX1_tick_63 (by assumption) (by omega) (by omega) rfl (by omega) (by assumption) ?_
        refine aw_iload_n dX1_tick_64 rfl ?_
        refine aw_iald dX1_tick_65 (by assumption) (by omega) rfl (by omega) (show _ = nI o by rw [FrO.up (h + 4) (by omega)]; exact w0) ?_
        refine aw_aald dX1_tick_66 (by assumption) (by omega) (by omega) rfl (by omega) (hsr o e0) ?_
        refine aw_astore (ls' := [(4, _), (0, _), (1, _), (2, _), (3, _)]) dX1_tick_67 (by decide) rfl ?_
        refine aw_aload dX1_tick_69 rfl ?_
        refine aw_dup dX1_tick_71 rfl ?_
        refine aw_getI dX1_tick_72 flX1_88 rfl (by assumption) (show _ = nI (cnt (kp ++ decC c :: cs.map decC) o) by rw [FrO.up (h + 9 + 2 * o) (by omega)]; exact hcw) ?_
        refine aw_iconst (v := nI 1) dX1_tick_75 rfl ?_
        first | refine aw_isubN dX1_tick_76 (by omega) ?_ | refine aw_isub dX1_tick_76 ?_
        refine aw_putI dX1_tick_77 flX1_88 rfl (by intro r hr; cases hr; rfl) (by assumption) (by omega) rfl rfl ?_
        refine aw_aload_n dX1_tick_80 rfl ?_
        refine aw_aload dX1_tick_81 rfl ?_
        refine aw_aload_n dX1_tick_83 rfl ?_
        refine aw_getR dX1_tick_84 flX1_23 rfl (by assumption) (by assumption) ?_
        refine aw_iconst (v := nI 2) dX1_tick_87 rfl ?_
        refine aw_aald dX1_tick_88 (by assumption) (by omega) (by omega) rfl (by omega) (by assumption) ?_
        refine aw_iload_n dX1_tick_89 rfl ?_
        refine aw_iald dX1_tick_90 (by assumption) (by omega) rfl (by omega) (show _ = nI (c 2) by rw [FrO.up (h + 6) (by omega), FrO.up (h + 6) (by omega)]; exact w2) ?_
        refine aw_aload_n dX1_tick_91 rfl ?_
        refine aw_getR dX1_tick_92 flX1_23 rfl (by assumption) (by assumption) ?_
        refine aw_iconst (v := nI 3) dX1_tick_95 rfl ?_
        refine aw_aald dX1_tick_96 (by assumption) (by omega) (by omega) rfl (by omega) (by assumption) ?_
        refine aw_iload_n dX1_tick_97 rfl ?_
        refine aw_iald dX1_tick_98 (by assumption) (by omega) rfl (by omega) (show _ = nI (c 3) by rw [FrO.up (h + 7) (by omega), FrO.up (h + 7) (by omega)]; exact w3) ?_
        refine aw_aload_n dX1_tick_99 rfl ?_
        refine aw_getR dX1_tick_100 flX1_23 rfl (by assumption) (by assumption) ?_
        refine aw_iconst (v := nI 4) dX1_tick_103 rfl ?_
        refine aw_aald dX1_tick_104 (by assumption) (by omega) (by omega) rfl (by omega) (by assumption) ?_
        refine aw_iload_n dX1_tick_105 rfl ?_
        refine aw_iald dX1_tick_106 (by assumption) (by omega) rfl (by omega) (show _ = nI (c 4) by rw [FrO.up (h + 8) (by omega), FrO.up (h + 8) (by omega)]; exact w4) ?_
        refine aw_vUp0 dX1_tick_107 cvX1_80 ⟨Nat.le_of_ble_eq_true rfl, Nat.le_of_ble_eq_true rfl⟩ (by assumption) ⟨_, rfl, rfl⟩ (c_settle (d := c 2) (tr := c 3) (since := c 4) hL hs2 hI1.1 e0 hRK hmk e3 e4 (by omega) (by omega) (by omega)) rfl rfl (Nat.le_of_ble_eq_true rfl) ⟨rfl, rfl⟩ ⟨Nat.zero_le _, Nat.zero_le _⟩ (fun I107 hP107 => ?_)
        refine aw_iincN (k := 1) (ls' := [(3, _), (4, _), (0, _), (1, _), (2, _)]) dX1_tick_110 rfl rfl (by decide) rfl ?_
        refine aw_goto (tgt := 9) dX1_tick_113 (by decide) ?_
        first
        | (have hk1 : (decC c) 1 ≠ 0 := by show c 1 - 1 ≠ 0; omega
           have hkp2 : keptL (a.2.1.map decC) = (kp ++ [decC c]) ++ keptL (cs.map decC) := by rw [hkp, keptL_1 hk1, List.append_assoc]; rfl
           have hi2 : IV m k (g, (kp ++ [decC c]) ++ cs.map decC, T) := by rw [List.append_assoc]; exact hI1
           have hmv := hP45
           have h9 := ih (kp ++ [decC c]) g T (p + 1) I45 hi2 ?_ ?_ ?_ (by simp; omega) (by omega) ?_ ?_ hkp2 (by rw [han, ansG_1 hk1]) (fun c' hc' => hl c' (List.mem_cons_of_mem _ hc'))
           · rw [List.length_append] at h9
             exact aw_pick [2, 3, 4, 0] rfl h9
           · obtain ⟨h1, h2, h3, h4, h5⟩ := hd1
             have hm2 : ∀ q, (q < h + 4 ∨ h + 9 ≤ q) → I45 q = up2 I1 (h + 5) p (nI (c 1 - 1)) q := fun q hq => by funext j; rw [hmv, if_neg (by omega)]
             exact ⟨fun i hi => by rw [hm2 _ (by omega)]; exact h1 i hi, by rw [hm2 _ (by omega)]; exact h2, by rw [hm2 _ (by omega)]; exact h3, by rw [hm2 _ (by omega)]; exact h4, fun s hs => by rw [hm2 _ (by omega), hm2 _ (by omega)]; exact h5 s hs⟩
           · intro i c' hi
             have hil := (List.getElem?_eq_some_iff.mp hi).1
             rw [List.length_append, List.length_singleton] at hil
             by_cases ei : i = kp.length
             · subst ei
               rw [List.getElem?_append_right (Nat.le_refl _), Nat.sub_self] at hi
               cases hi
               rw [hmv, hmv, hmv, hmv, hmv, if_pos (by omega), if_pos (by omega), if_pos (by omega), if_pos (by omega), if_pos (by omega), FrO.up (h + 4) (by omega), FrO.up (h + 6) (by omega), FrO.up (h + 7) (by omega), FrO.up (h + 8) (by omega), up2_o, if_pos rfl]
               exact ⟨by rw [w0, ho]; rfl, rfl, w2, w3, w4⟩
             · rw [List.getElem?_append_left (by omega)] at hi
               rw [hmv, hmv, hmv, hmv, hmv, if_neg (by omega), if_neg (by omega), if_neg (by omega), if_neg (by omega), if_neg (by omega), FrO.up (h + 4) (by omega), FrO.up (h + 6) (by omega), FrO.up (h + 7) (by omega), FrO.up (h + 8) (by omega), up2_o, if_neg (by omega)]
               exact hA1 i c' hi
           · intro i c' hi
             have hx := hrow _ (fun q _ _ => rfl) i c' hi
             rw [hmv, hmv, hmv, hmv, hmv, if_neg (by omega), if_neg (by omega), if_neg (by omega), if_neg (by omega), if_neg (by omega)]
             exact hx
           · intro s hs
             rw [hmv, if_neg (by omega), FrO.up _ (by omega), List.append_assoc]
             exact hW1 s hs
           · intro q hq
             have : I45 q = I1 q := by funext j; rw [hmv, if_neg (by omega), FrO.up _ (by omega)]
             rw [this]; exact hF1 q hq)
        | (have hk1 : (decC c) 1 ≠ 0 := by show c 1 - 1 ≠ 0; omega
           have hpe : p = kp.length := by omega
           have hkp2 : keptL (a.2.1.map decC) = (kp ++ [decC c]) ++ keptL (cs.map decC) := by rw [hkp, keptL_1 hk1, List.append_assoc]; rfl
           have hi2 : IV m k (g, (kp ++ [decC c]) ++ cs.map decC, T) := by rw [List.append_assoc]; exact hI1
           have h9 := ih (kp ++ [decC c]) g T (p + 1) _ hi2 hd1 ?_ (hrow _ (fun q _ _ => rfl)) (by simp; omega) (by omega) ?_ (hF1.tr (FrS.o FrO.up (by omega) (by omega))) hkp2 (by rw [han, ansG_1 hk1]) (fun c' hc' => hl c' (List.mem_cons_of_mem _ hc'))
           · rw [List.length_append] at h9
             exact aw_pick [2, 3, 4, 0] rfl h9
           · intro i c' hi
             have hil := (List.getElem?_eq_some_iff.mp hi).1
             rw [List.length_append, List.length_singleton] at hil
             rw [FrO.up (h + 4) (by omega), FrO.up (h + 6) (by omega), FrO.up (h + 7) (by omega), FrO.up (h + 8) (by omega), up2_o]
             by_cases ei : i = kp.length
             · subst ei
               rw [List.getElem?_append_right (Nat.le_refl _), Nat.sub_self] at hi
               cases hi
               rw [if_pos (by omega), ← hpe]
               exact ⟨by rw [w0, ho]; rfl, rfl, w2, w3, w4⟩
             · rw [List.getElem?_append_left (by omega)] at hi
               rw [if_neg (by omega)]
               exact hA1 i c' hi
           · intro s hs
             rw [FrO.up _ (by omega), List.append_assoc]
             exact hW1 s hs)
        | (have hk0' : (decC c) 1 = 0 := hc34
           have hS2 := hP107.1
           have hF2 := hP107.2
           have hian := IV.ans hI1
           have h9 := ih kp (outG g (c 2)) (sT T o (outR g (c 2) (c 3) (c 4) (T o))) (p + 1) I107 (by rw [ho]; exact hian) hS2 ?_ ?_ (by omega) (by omega) ?_ ?_ (by rw [hkp, keptL_0 hk0']) (by rw [han, ansG_0 hk0', ho]; rfl) (fun c' hc' => hl c' (List.mem_cons_of_mem _ hc'))
           · exact aw_pick [2, 3, 4, 0] rfl h9
           · intro i c' hi
             have hil := (List.getElem?_eq_some_iff.mp hi).1
             rw [hF2.1 (h + 4) (by omega), hF2.1 (h + 5) (by omega), hF2.1 (h + 6) (by omega), hF2.1 (h + 7) (by omega), hF2.1 (h + 8) (by omega), FrO.up (h + 4) (by omega), FrO.up (h + 5) (by omega), FrO.up (h + 6) (by omega), FrO.up (h + 7) (by omega), FrO.up (h + 8) (by omega), FrO.up (h + 4) (by omega), FrO.up (h + 6) (by omega), FrO.up (h + 7) (by omega), FrO.up (h + 8) (by omega), up2_o, if_neg (by omega)]
             exact hA1 i c' hi
           · exact hrow I107 (fun q h1 h2 => by rw [hF2.1 _ (by omega), FrO.up _ (by omega)])
           · intro s hs
             rw [hF2.2.2 s hs]
             by_cases es : s = o
             · subst es
               rw [up2_o, if_pos rfl]
               refine congrArg nI ?_
               rw [cnt_app, cnt_cons, cnt_app, if_pos (show decC c 0 = s from ho.symm)]; omega
             · rw [FrO.up _ (by omega), FrO.up _ (by omega), hW1 s hs]
               refine congrArg nI ?_
               rw [cnt_app, cnt_cons, cnt_app, if_neg (fun q => es (q.symm.trans ho.symm))]; omega
           · exact hF1.tr ((FrS.o FrO.up (by omega) (by omega)).tr ((FrS.o FrO.up (by omega) (by omega)).tr hF2.s)))
      · refine aw_iload_n dX1_tick_37 rfl ?_
        refine aw_iload_n dX1_tick_38 rfl ?_
        refine aw_icmp_geN (tgt := 48) dX1_tick_39 (by decide) (by omega) (by omega) (fun hc39 => ?_) (fun hc39 => ?_)
        · refine aw_iincN (k := 1) (ls' := [(2, _), (0, _), (1, _), (3, _)]) dX1_tick_48 rfl rfl (by decide) rfl ?_
          refine aw_goto (tgt := 110) dX1_tick_51 (by decide) ?_
          refine aw_iincN (k := 1) (ls' := [(3, _), (2, _), (0, _), (1, _)]) dX1_tick_110 rfl rfl (by decide) rfl ?_
          refine aw_goto (tgt := 9) dX1_tick_113 (by decide) ?_
          first
          | (have hk1 : (decC c) 1 ≠ 0 := by show c 1 - 1 ≠ 0; omega
             have hkp2 : keptL (a.2.1.map decC) = (kp ++ [decC c]) ++ keptL (cs.map decC) := by rw [hkp, keptL_1 hk1, List.append_assoc]; rfl
             have hi2 : IV m k (g, (kp ++ [decC c]) ++ cs.map decC, T) := by rw [List.append_assoc]; exact hI1
             have hmv := hP45
             have h9 := ih (kp ++ [decC c]) g T (p + 1) I45 hi2 ?_ ?_ ?_ (by simp; omega) (by omega) ?_ ?_ hkp2 (by rw [han, ansG_1 hk1]) (fun c' hc' => hl c' (List.mem_cons_of_mem _ hc'))
             · rw [List.length_append] at h9
               exact aw_pick [2, 3, 1, 0] rfl h9
             · obtain ⟨h1, h2, h3, h4, h5⟩ := hd1
               have hm2 : ∀ q, (q < h + 4 ∨ h + 9 ≤ q) → I45 q = up2 I1 (h + 5) p (nI (c 1 - 1)) q := fun q hq => by funext j; rw [hmv, if_neg (by omega)]
               exact ⟨fun i hi => by rw [hm2 _ (by omega)]; exact h1 i hi, by rw [hm2 _ (by omega)]; exact h2, by rw [hm2 _ (by omega)]; exact h3, by rw [hm2 _ (by omega)]; exact h4, fun s hs => by rw [hm2 _ (by omega), hm2 _ (by omega)]; exact h5 s hs⟩
             · intro i c' hi
               have hil := (List.getElem?_eq_some_iff.mp hi).1
               rw [List.length_append, List.length_singleton] at hil
               by_cases ei : i = kp.length
               · subst ei
                 rw [List.getElem?_append_right (Nat.le_refl _), Nat.sub_self] at hi
                 cases hi
                 rw [hmv, hmv, hmv, hmv, hmv, if_pos (by omega), if_pos (by omega), if_pos (by omega), if_pos (by omega), if_pos (by omega), FrO.up (h + 4) (by omega), FrO.up (h + 6) (by omega), FrO.up (h + 7) (by omega), FrO.up (h + 8) (by omega), up2_o, if_pos rfl]
                 exact ⟨by rw [w0, ho]; rfl, rfl, w2, w3, w4⟩
               · rw [List.getElem?_append_left (by omega)] at hi
                 rw [hmv, hmv, hmv, hmv, hmv, if_neg (by omega), if_neg (by omega), if_neg (by omega), if_neg (by omega), if_neg (by omega), FrO.up (h + 4) (by omega), FrO.up (h + 6) (by omega), FrO.up (h + 7) (by omega), FrO.up (h + 8) (by omega), up2_o, if_neg (by omega)]
                 exact hA1 i c' hi
             · intro i c' hi
               have hx := hrow _ (fun q _ _ => rfl) i c' hi
               rw [hmv, hmv, hmv, hmv, hmv, if_neg (by omega), if_neg (by omega), if_neg (by omega), if_neg (by omega), if_neg (by omega)]
               exact hx
             · intro s hs
               rw [hmv, if_neg (by omega), FrO.up _ (by omega), List.append_assoc]
               exact hW1 s hs
             · intro q hq
               have : I45 q = I1 q := by funext j; rw [hmv, if_neg (by omega), FrO.up _ (by omega)]
               rw [this]; exact hF1 q hq)
          | (have hk1 : (decC c) 1 ≠ 0 := by show c 1 - 1 ≠ 0; omega
             have hpe : p = kp.length := by omega
             have hkp2 : keptL (a.2.1.map decC) = (kp ++ [decC c]) ++ keptL (cs.map decC) := by rw [hkp, keptL_1 hk1, List.append_assoc]; rfl
             have hi2 : IV m k (g, (kp ++ [decC c]) ++ cs.map decC, T) := by rw [List.append_assoc]; exact hI1
             have h9 := ih (kp ++ [decC c]) g T (p + 1) _ hi2 hd1 ?_ (hrow _ (fun q _ _ => rfl)) (by simp; omega) (by omega) ?_ (hF1.tr (FrS.o FrO.up (by omega) (by omega))) hkp2 (by rw [han, ansG_1 hk1]) (fun c' hc' => hl c' (List.mem_cons_of_mem _ hc'))
             · rw [List.length_append] at h9
               exact aw_pick [2, 3, 1, 0] rfl h9
             · intro i c' hi
               have hil := (List.getElem?_eq_some_iff.mp hi).1
               rw [List.length_append, List.length_singleton] at hil
               rw [FrO.up (h + 4) (by omega), FrO.up (h + 6) (by omega), FrO.up (h + 7) (by omega), FrO.up (h + 8) (by omega), up2_o]
               by_cases ei : i = kp.length
               · subst ei
                 rw [List.getElem?_append_right (Nat.le_refl _), Nat.sub_self] at hi
                 cases hi
                 rw [if_pos (by omega), ← hpe]
                 exact ⟨by rw [w0, ho]; rfl, rfl, w2, w3, w4⟩
               · rw [List.getElem?_append_left (by omega)] at hi
                 rw [if_neg (by omega)]
                 exact hA1 i c' hi
             · intro s hs
               rw [FrO.up _ (by omega), List.append_assoc]
               exact hW1 s hs)
          | (have hk0' : (decC c) 1 = 0 := hc34
             have hS2 := hP107.1
             have hF2 := hP107.2
             have hian := IV.ans hI1
             have h9 := ih kp (outG g (c 2)) (sT T o (outR g (c 2) (c 3) (c 4) (T o))) (p + 1) I107 (by rw [ho]; exact hian) hS2 ?_ ?_ (by omega) (by omega) ?_ ?_ (by rw [hkp, keptL_0 hk0']) (by rw [han, ansG_0 hk0', ho]; rfl) (fun c' hc' => hl c' (List.mem_cons_of_mem _ hc'))
             · exact aw_pick [2, 3, 1, 0] rfl h9
             · intro i c' hi
               have hil := (List.getElem?_eq_some_iff.mp hi).1
               rw [hF2.1 (h + 4) (by omega), hF2.1 (h + 5) (by omega), hF2.1 (h + 6) (by omega), hF2.1 (h + 7) (by omega), hF2.1 (h + 8) (by omega), FrO.up (h + 4) (by omega), FrO.up (h + 5) (by omega), FrO.up (h + 6) (by omega), FrO.up (h + 7) (by omega), FrO.up (h + 8) (by omega), FrO.up (h + 4) (by omega), FrO.up (h + 6) (by omega), FrO.up (h + 7) (by omega), FrO.up (h + 8) (by omega), up2_o, if_neg (by omega)]
               exact hA1 i c' hi
             · exact hrow I107 (fun q h1 h2 => by rw [hF2.1 _ (by omega), FrO.up _ (by omega)])
             · intro s hs
               rw [hF2.2.2 s hs]
               by_cases es : s = o
               · subst es
                 rw [up2_o, if_pos rfl]
                 refine congrArg nI ?_
                 rw [cnt_app, cnt_cons, cnt_app, if_pos (show decC c 0 = s from ho.symm)]; omega
               · rw [FrO.up _ (by omega), FrO.up _ (by omega), hW1 s hs]
                 refine congrArg nI ?_
                 rw [cnt_app, cnt_cons, cnt_app, if_neg (fun q => es (q.symm.trans ho.symm))]; omega
             · exact hF1.tr ((FrS.o FrO.up (by omega) (by omega)).tr ((FrS.o FrO.up (by omega) (by omega)).tr hF2.s)))
        · refine aw_aload_n dX1_tick_42 rfl ?_
          refine aw_iload_n dX1_tick_43 rfl ?_
          refine aw_iload_n dX1_tick_44 rfl ?_
          refine aw_vUp0 dX1_tick_45 cvX1_101 ⟨Nat.le_of_ble_eq_true rfl, Nat.le_of_ble_eq_true rfl⟩ (by assumption) ⟨_, rfl, rfl⟩ (c_moveCall (p := p) (t := kp.length) hL (by omega) (by omega)) rfl rfl (Nat.le_of_ble_eq_true rfl) ⟨rfl, rfl⟩ ⟨Nat.zero_le _, Nat.zero_le _⟩ (fun I45 hP45 => ?_)
          refine aw_iincN (k := 1) (ls' := [(2, _), (0, _), (1, _), (3, _)]) dX1_tick_48 rfl rfl (by decide) rfl ?_
          refine aw_goto (tgt := 110) dX1_tick_51 (by decide) ?_
          refine aw_iincN (k := 1) (ls' := [(3, _), (2, _), (0, _), (1, _)]) dX1_tick_110 rfl rfl (by decide) rfl ?_
          refine aw_goto (tgt := 9) dX1_tick_113 (by decide) ?_
          first
          | (have hk1 : (decC c) 1 ≠ 0 := by show c 1 - 1 ≠ 0; omega
             have hkp2 : keptL (a.2.1.map decC) = (kp ++ [decC c]) ++ keptL (cs.map decC) := by rw [hkp, keptL_1 hk1, List.append_assoc]; rfl
             have hi2 : IV m k (g, (kp ++ [decC c]) ++ cs.map decC, T) := by rw [List.append_assoc]; exact hI1
             have hmv := hP45
             have h9 := ih (kp ++ [decC c]) g T (p + 1) I45 hi2 ?_ ?_ ?_ (by simp; omega) (by omega) ?_ ?_ hkp2 (by rw [han, ansG_1 hk1]) (fun c' hc' => hl c' (List.mem_cons_of_mem _ hc'))
             · rw [List.length_append] at h9
               exact aw_pick [2, 3, 1, 0] rfl h9
             · obtain ⟨h1, h2, h3, h4, h5⟩ := hd1
               have hm2 : ∀ q, (q < h + 4 ∨ h + 9 ≤ q) → I45 q = up2 I1 (h + 5) p (nI (c 1 - 1)) q := fun q hq => by funext j; rw [hmv, if_neg (by omega)]
               exact ⟨fun i hi => by rw [hm2 _ (by omega)]; exact h1 i hi, by rw [hm2 _ (by omega)]; exact h2, by rw [hm2 _ (by omega)]; exact h3, by rw [hm2 _ (by omega)]; exact h4, fun s hs => by rw [hm2 _ (by omega), hm2 _ (by omega)]; exact h5 s hs⟩
             · intro i c' hi
               have hil := (List.getElem?_eq_some_iff.mp hi).1
               rw [List.length_append, List.length_singleton] at hil
               by_cases ei : i = kp.length
               · subst ei
                 rw [List.getElem?_append_right (Nat.le_refl _), Nat.sub_self] at hi
                 cases hi
                 rw [hmv, hmv, hmv, hmv, hmv, if_pos (by omega), if_pos (by omega), if_pos (by omega), if_pos (by omega), if_pos (by omega), FrO.up (h + 4) (by omega), FrO.up (h + 6) (by omega), FrO.up (h + 7) (by omega), FrO.up (h + 8) (by omega), up2_o, if_pos rfl]
                 exact ⟨by rw [w0, ho]; rfl, rfl, w2, w3, w4⟩
               · rw [List.getElem?_append_left (by omega)] at hi
                 rw [hmv, hmv, hmv, hmv, hmv, if_neg (by omega), if_neg (by omega), if_neg (by omega), if_neg (by omega), if_neg (by omega), FrO.up (h + 4) (by omega), FrO.up (h + 6) (by omega), FrO.up (h + 7) (by omega), FrO.up (h + 8) (by omega), up2_o, if_neg (by omega)]
                 exact hA1 i c' hi
             · intro i c' hi
               have hx := hrow _ (fun q _ _ => rfl) i c' hi
               rw [hmv, hmv, hmv, hmv, hmv, if_neg (by omega), if_neg (by omega), if_neg (by omega), if_neg (by omega), if_neg (by omega)]
               exact hx
             · intro s hs
               rw [hmv, if_neg (by omega), FrO.up _ (by omega), List.append_assoc]
               exact hW1 s hs
             · intro q hq
               have : I45 q = I1 q := by funext j; rw [hmv, if_neg (by omega), FrO.up _ (by omega)]
               rw [this]; exact hF1 q hq)
          | (have hk1 : (decC c) 1 ≠ 0 := by show c 1 - 1 ≠ 0; omega
             have hpe : p = kp.length := by omega
             have hkp2 : keptL (a.2.1.map decC) = (kp ++ [decC c]) ++ keptL (cs.map decC) := by rw [hkp, keptL_1 hk1, List.append_assoc]; rfl
             have hi2 : IV m k (g, (kp ++ [decC c]) ++ cs.map decC, T) := by rw [List.append_assoc]; exact hI1
             have h9 := ih (kp ++ [decC c]) g T (p + 1) _ hi2 hd1 ?_ (hrow _ (fun q _ _ => rfl)) (by simp; omega) (by omega) ?_ (hF1.tr (FrS.o FrO.up (by omega) (by omega))) hkp2 (by rw [han, ansG_1 hk1]) (fun c' hc' => hl c' (List.mem_cons_of_mem _ hc'))
             · rw [List.length_append] at h9
               exact aw_pick [2, 3, 1, 0] rfl h9
             · intro i c' hi
               have hil := (List.getElem?_eq_some_iff.mp hi).1
               rw [List.length_append, List.length_singleton] at hil
               rw [FrO.up (h + 4) (by omega), FrO.up (h + 6) (by omega), FrO.up (h + 7) (by omega), FrO.up (h + 8) (by omega), up2_o]
               by_cases ei : i = kp.length
               · subst ei
                 rw [List.getElem?_append_right (Nat.le_refl _), Nat.sub_self] at hi
                 cases hi
                 rw [if_pos (by omega), ← hpe]
                 exact ⟨by rw [w0, ho]; rfl, rfl, w2, w3, w4⟩
               · rw [List.getElem?_append_left (by omega)] at hi
                 rw [if_neg (by omega)]
                 exact hA1 i c' hi
             · intro s hs
               rw [FrO.up _ (by omega), List.append_assoc]
               exact hW1 s hs)
          | (have hk0' : (decC c) 1 = 0 := hc34
             have hS2 := hP107.1
             have hF2 := hP107.2
             have hian := IV.ans hI1
             have h9 := ih kp (outG g (c 2)) (sT T o (outR g (c 2) (c 3) (c 4) (T o))) (p + 1) I107 (by rw [ho]; exact hian) hS2 ?_ ?_ (by omega) (by omega) ?_ ?_ (by rw [hkp, keptL_0 hk0']) (by rw [han, ansG_0 hk0', ho]; rfl) (fun c' hc' => hl c' (List.mem_cons_of_mem _ hc'))
             · exact aw_pick [2, 3, 1, 0] rfl h9
             · intro i c' hi
               have hil := (List.getElem?_eq_some_iff.mp hi).1
               rw [hF2.1 (h + 4) (by omega), hF2.1 (h + 5) (by omega), hF2.1 (h + 6) (by omega), hF2.1 (h + 7) (by omega), hF2.1 (h + 8) (by omega), FrO.up (h + 4) (by omega), FrO.up (h + 5) (by omega), FrO.up (h + 6) (by omega), FrO.up (h + 7) (by omega), FrO.up (h + 8) (by omega), FrO.up (h + 4) (by omega), FrO.up (h + 6) (by omega), FrO.up (h + 7) (by omega), FrO.up (h + 8) (by omega), up2_o, if_neg (by omega)]
               exact hA1 i c' hi
             · exact hrow I107 (fun q h1 h2 => by rw [hF2.1 _ (by omega), FrO.up _ (by omega)])
             · intro s hs
               rw [hF2.2.2 s hs]
               by_cases es : s = o
               · subst es
                 rw [up2_o, if_pos rfl]
                 refine congrArg nI ?_
                 rw [cnt_app, cnt_cons, cnt_app, if_pos (show decC c 0 = s from ho.symm)]; omega
               · rw [FrO.up _ (by omega), FrO.up _ (by omega), hW1 s hs]
                 refine congrArg nI ?_
                 rw [cnt_app, cnt_cons, cnt_app, if_neg (fun q => es (q.symm.trans ho.symm))]; omega
             · exact hF1.tr ((FrS.o FrO.up (by omega) (by omega)).tr ((FrS.o FrO.up (by omega) (by omega)).tr hF2.s)))
  refine run_of (ls := [(0, .ref (G.1 h))]) (by decide +kernel) rfl rfl (Nat.le_of_ble_eq_true rfl) ?_
  refine aw_aload_n dX1_tick_0 rfl ?_
  refine aw_getI dX1_tick_1 flX1_40 rfl (by assumption) hn ?_
  refine aw_istore_n (ls' := [(1, _), (0, _)]) dX1_tick_4 (by decide) rfl ?_
  refine aw_iconst (v := nI 0) dX1_tick_5 rfl ?_
  refine aw_istore_n (ls' := [(2, _), (1, _), (0, _)]) dX1_tick_6 (by decide) rfl ?_
  refine aw_iconst (v := nI 0) dX1_tick_7 rfl ?_
  refine aw_istore_n (ls' := [(3, _), (2, _), (1, _), (0, _)]) dX1_tick_8 (by decide) rfl ?_
  have hI2 := IV.dec (g := a.1) (T := a.2.2) (L := a.2.1) a.2.1.length hI
  rw [decF_all] at hI2
  have hcd : ∀ s, cnt (a.2.1.map decC) s = onWayN a s := fun s => by
    unfold cnt onWayN; rw [List.countP_map]; rfl
  exact aw_pick [3, 2, 1, 0] rfl (loop2 a.2.1 [] a.1 a.2.2 0 I hI2 hSG (fun p c hp => by simp at hp) (fun i c hi => by rw [Nat.zero_add]; exact hA i c hi) (Nat.le_refl _) (by rw [Nat.zero_add, hn0]) (fun s hs => by rw [List.nil_append, hcd]; exact hW s hs) FrS.rf rfl rfl hl1)
end CLASS6
