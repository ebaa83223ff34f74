/-! THE CLASS: a state's own cells -/
/-- a state: its object and what hangs on it, in one row of cells -/
def LSt (G : GG) (K : Nat → Option (Nat × Nat)) (R : Nat → Nat → Value) (h : Nat) : Prop :=
  K h = some (1, 7) ∧ R h 0 = .ref (G.1 (h + 1)) ∧ K (h + 1) = some (13, 4) ∧ (∀ i, i < 4 → R (h + 1) i = .ref (G.1 (h + 9 + 2 * i))) ∧ R h 1 = .ref (G.1 (h + 2)) ∧ K (h + 2) = some (10, 5) ∧ R h 2 = .ref (G.1 (h + 3)) ∧ K (h + 3) = some (14, 5) ∧
  R (h + 3) 0 = .ref (G.1 (h + 4)) ∧ R (h + 3) 1 = .ref (G.1 (h + 5)) ∧ R (h + 3) 2 = .ref (G.1 (h + 6)) ∧ R (h + 3) 3 = .ref (G.1 (h + 7)) ∧ R (h + 3) 4 = .ref (G.1 (h + 8)) ∧
  K (h + 4) = some (10, 16) ∧ K (h + 5) = some (10, 16) ∧ K (h + 6) = some (10, 16) ∧ K (h + 7) = some (10, 16) ∧ K (h + 8) = some (10, 16) ∧ (∀ i, i < 4 → LT K R G (h + 9 + 2 * i)) ∧ h ≤ 800
/-- settings, counts and stores -/
def SG (I : Nat → Nat → Int32) (h : Nat) (g : Nat → Nat) (T : Nat → Rw) : Prop :=
  (∀ i, i < 5 → I (h + 2) i = nI (g i)) ∧ I h 4 = nI (g 5) ∧ I h 5 = nI (g 7) ∧ I h 6 = nI (g 8) ∧ ∀ st, st < 4 → SR (I (h + 9 + 2 * st)) (I (h + 9 + 2 * st + 1)) (T st)
def CA (I : Nat → Nat → Int32) (h : Nat) (L : List Cl) : Prop := ∀ (p : Nat) (c : Cl), L[p]? = some c → I (h + 4) p = nI (c 0) ∧ I (h + 5) p = nI (c 1) ∧ I (h + 6) p = nI (c 2) ∧ I (h + 7) p = nI (c 3) ∧ I (h + 8) p = nI (c 4)
def CW (I : Nat → Nat → Int32) (h : Nat) (n : Nat → Nat) : Prop := ∀ st, st < 4 → I (h + 9 + 2 * st) 12 = nI (n st)
/-- a state of the class -/
def CSt (I : Nat → Nat → Int32) (h : Nat) (a : AA) : Prop := SG I h a.1 a.2.2 ∧ CA I h a.2.1 ∧ I h 3 = nI a.2.1.length ∧ CW I h (onWayN a)
/-- calls and counts of those on their way stay, and what is not the state's -/
def FrD (h : Nat) (I I' : Nat → Nat → Int32) : Prop := (∀ q, (q < h ∨ (h + 3 ≤ q ∧ q ≤ h + 8) ∨ h + 17 ≤ q) → I' q = I q) ∧ I' h 3 = I h 3 ∧ ∀ st, st < 4 → I' (h + 9 + 2 * st) 12 = I (h + 9 + 2 * st) 12
theorem FrD.rf {h : Nat} {I : Nat → Nat → Int32} : FrD h I I := ⟨fun _ _ => rfl, rfl, fun _ _ => rfl⟩
theorem FrD.tr {h : Nat} {I I' I'' : Nat → Nat → Int32} (a : FrD h I I') (b : FrD h I' I'') : FrD h I I'' := ⟨fun q hq => (b.1 q hq).trans (a.1 q hq), b.2.1.trans a.2.1, fun s hs => (b.2.2 s hs).trans (a.2.2 s hs)⟩
theorem FrD.st {h st : Nat} {I I' : Nat → Nat → Int32} (hst : st < 4) (hF : FrO (h + 9 + 2 * st) I I') (h12 : I' (h + 9 + 2 * st) 12 = I (h + 9 + 2 * st) 12) : FrD h I I' :=
  ⟨fun q hq => hF q (by omega), by rw [hF h (by omega)], fun s hs => by
    by_cases e : s = st
    · subst e; exact h12
    · rw [hF _ (by omega)]⟩
theorem FrD.o {h j : Nat} {x : Int32} {I : Nat → Nat → Int32} (hj : j ≠ 3) : FrD h I (up2 I h j x) :=
  ⟨fun q hq => FrO.up q (by omega), by rw [up2_o, if_neg (by omega)], fun s hs => by rw [FrO.up _ (by omega)]⟩
theorem SG.row {I I' : Nat → Nat → Int32} {h st : Nat} {g : Nat → Nat} {T : Nat → Rw} {t : Rw} (hS : SG I h g T) (hst : st < 4) (hR : SR (I' (h + 9 + 2 * st)) (I' (h + 9 + 2 * st + 1)) t) (hF : FrO (h + 9 + 2 * st) I I') : SG I' h g (sT T st t) := by
  obtain ⟨h1, h2, h3, h4, h5⟩ := hS
  refine ⟨fun i hi => by rw [hF _ (by omega)]; exact h1 i hi, by rw [hF _ (by omega)]; exact h2, by rw [hF _ (by omega)]; exact h3, by rw [hF _ (by omega)]; exact h4, fun s hs => ?_⟩
  by_cases e : s = st
  · subst e; rw [sT_s]; exact hR
  · rw [sT_n e, hF _ (by omega), hF _ (by omega)]; exact h5 s hs
theorem SG.good {I : Nat → Nat → Int32} {h v : Nat} {g : Nat → Nat} {T : Nat → Rw} (hS : SG I h g T) : SG (up2 I h 5 (nI v)) h (u1 g 7 v) T := by
  obtain ⟨h1, h2, h3, h4, h5⟩ := hS
  refine ⟨fun i hi => by rw [FrO.up _ (by omega), u1_n (by omega)]; exact h1 i hi, by rw [up2_o, if_neg (by decide), u1_n (by decide)]; exact h2, by rw [up2_o, if_pos rfl, u1_s], by rw [up2_o, if_neg (by decide), u1_n (by decide)]; exact h4, fun s hs => by rw [FrO.up _ (by omega), FrO.up _ (by omega)]; exact h5 s hs⟩
theorem SG.trials {I : Nat → Nat → Int32} {h v : Nat} {g : Nat → Nat} {T : Nat → Rw} (hS : SG I h g T) : SG (up2 I h 6 (nI v)) h (u1 g 8 v) T := by
  obtain ⟨h1, h2, h3, h4, h5⟩ := hS
  refine ⟨fun i hi => by rw [FrO.up _ (by omega), u1_n (by omega)]; exact h1 i hi, by rw [up2_o, if_neg (by decide), u1_n (by decide)]; exact h2, by rw [up2_o, if_neg (by decide), u1_n (by decide)]; exact h3, by rw [up2_o, if_pos rfl, u1_s], fun s hs => by rw [FrO.up _ (by omega), FrO.up _ (by omega)]; exact h5 s hs⟩
theorem SG.gone {I : Nat → Nat → Int32} {h v : Nat} {g : Nat → Nat} {T : Nat → Rw} (hS : SG I h g T) : SG (up2 I h 4 (nI v)) h (u1 g 5 v) T := by
  obtain ⟨h1, h2, h3, h4, h5⟩ := hS
  refine ⟨fun i hi => by rw [FrO.up _ (by omega), u1_n (by omega)]; exact h1 i hi, by rw [up2_o, if_pos rfl, u1_s], by rw [up2_o, if_neg (by decide), u1_n (by decide)]; exact h3, by rw [up2_o, if_neg (by decide), u1_n (by decide)]; exact h4, fun s hs => by rw [FrO.up _ (by omega), FrO.up _ (by omega)]; exact h5 s hs⟩
/-- the count of bad outcomes lies in the stores alone -/
theorem SG.g6 {I : Nat → Nat → Int32} {h v : Nat} {g : Nat → Nat} {T : Nat → Rw} (hS : SG I h g T) : SG I h (u1 g 6 v) T := by
  obtain ⟨h1, h2, h3, h4, h5⟩ := hS
  exact ⟨fun i hi => by rw [u1_n (by omega)]; exact h1 i hi, h2, h3, h4, h5⟩
theorem SR.bad {f r : Nat → Int32} {t : Rw} {v : Nat} (hS : SR f r t) : SR (fun j => if j = 11 then nI v else f j) r (u1 t 9 v) := by
  obtain ⟨s0, s1, ⟨nx, s2, s2a, s2b⟩, s3, s4, s5, s6, s78, s9, s10, s11, s13⟩ := hS
  exact ⟨fun j hj => by rw [u1_n (by omega)]; exact s0 j hj, s1, ⟨nx, s2, s2a, s2b⟩, s3, s4, s5, s6, s78, s9, s10, rfl, s13⟩
theorem SR.thru {f r : Nat → Int32} {t : Rw} {v : Nat} (hS : SR f r t) : SR (fun j => if j = 9 then nI v else f j) r (u1 t 7 v) := by
  obtain ⟨s0, s1, ⟨nx, s2, s2a, s2b⟩, s3, s4, s5, s6, s78, s9, s10, s11, s13⟩ := hS
  exact ⟨fun j hj => by rw [u1_n (by omega)]; exact s0 j hj, s1, ⟨nx, s2, s2a, s2b⟩, s3, s4, s5, s6, s78, rfl, s10, s11, s13⟩
theorem SR.refu {f r : Nat → Int32} {t : Rw} {v : Nat} (hS : SR f r t) : SR (fun j => if j = 10 then nI v else f j) r (u1 t 8 v) := by
  obtain ⟨s0, s1, ⟨nx, s2, s2a, s2b⟩, s3, s4, s5, s6, s78, s9, s10, s11, s13⟩ := hS
  exact ⟨fun j hj => by rw [u1_n (by omega)]; exact s0 j hj, s1, ⟨nx, s2, s2a, s2b⟩, s3, s4, s5, s6, s78, s9, rfl, s11, s13⟩
theorem SR.way {f r : Nat → Int32} {t : Rw} {x : Int32} (hS : SR f r t) : SR (fun j => if j = 12 then x else f j) r t := by
  obtain ⟨s0, s1, ⟨nx, s2, s2a, s2b⟩, s3, s4, s5, s6, s78, s9, s10, s11, s13⟩ := hS
  exact ⟨s0, s1, ⟨nx, s2, s2a, s2b⟩, s3, s4, s5, s6, s78, s9, s10, s11, s13⟩
theorem SR.up {I : Nat → Nat → Int32} {o j : Nat} {x : Int32} {t : Rw} (h : SR (fun k => if k = j then x else I o k) (I (o + 1)) t) : SR (up2 I o j x o) (up2 I o j x (o + 1)) t := by
  rw [FrO.up (o + 1) (by omega)]
  have : up2 I o j x o = fun k => if k = j then x else I o k := funext fun k => up2_o
  rw [this]; exact h
section CLASS3
variable {G : GG} {K : Nat → Option (Nat × Nat)} {R : Nat → Nat → Value} {I : Nat → Nat → Int32} {J : Nat → Nat → Int64} {z : Nat} {σ : Sg} {a : AA} {m k : Nat}
variable {h b st : Nat} {g : Nat → Nat} {T : Nat → Rw}
theorem c_isFull {n : Nat} (hL : LSt G K R h) (hn : I h 3 = nI n) (h16 : n ≤ 16) : Run G YX1_isFull [.ref (G.1 h)] (K, R, I, J, z) (Rd (K, R, I, J, z) (.int (nI (if n = 16 then 1 else 0)))) := by
  obtain ⟨hk0, hr0, hk1, hsr, hr1, hk2, hr2, hk3, hc0, hc1, hc2, hc3, hc4, hkc0, hkc1, hkc2, hkc3, hkc4, hTs, hh⟩ := id hL
  refine run_of (ls := [(0, .ref (G.1 h))]) (by decide +kernel) rfl rfl (Nat.le_of_ble_eq_true rfl) ?_
  refine aw_aload_n dX1_isFull_0 rfl ?_
  refine aw_getI dX1_isFull_1 flX1_40 rfl (by assumption) hn ?_
  refine aw_bipush (v := nI 16) dX1_isFull_4 rfl ?_
  refine aw_icmp_ltN (tgt := 13) dX1_isFull_6 (by decide) (by omega) (by omega) (fun hc6 => ?_) (fun hc6 => ?_)
  · refine aw_iconst (v := nI 0) dX1_isFull_13 rfl ?_
    exact aw_zret dX1_isFull_14 rfl rfl (Nat.zero_le _) (Nat.zero_le _) ⟨by first | rw [if_pos (by omega)] | rw [if_neg (by omega)], rfl⟩
  · refine aw_iconst (v := nI 1) dX1_isFull_9 rfl ?_
    refine aw_goto (tgt := 14) dX1_isFull_10 (by decide) ?_
    exact aw_zret dX1_isFull_14 rfl rfl (Nat.zero_le _) (Nat.zero_le _) ⟨by first | rw [if_pos (by omega)] | rw [if_neg (by omega)], rfl⟩
theorem c_isBad {d : Nat} (hL : LSt G K R h) (hS : SG I h g T) (hg : SK g) (hd : d ≤ 99) : Run G YX1_isBad [.ref (G.1 h), .int (nI d)] (K, R, I, J, z) (Rd (K, R, I, J, z) (.int (nI (badN g d)))) := by
  obtain ⟨hk0, hr0, hk1, hsr, hr1, hk2, hr2, hk3, hc0, hc1, hc2, hc3, hc4, hkc0, hkc1, hkc2, hkc3, hkc4, hTs, hh⟩ := id hL
  have hg0 := hg.1.2
  refine run_of (ls := [(0, .ref (G.1 h)), (1, .int (nI d))]) (by decide +kernel) rfl rfl (Nat.le_of_ble_eq_true rfl) ?_
  refine aw_iload_n dX1_isBad_0 rfl ?_
  refine aw_if_eqN (tgt := 14) dX1_isBad_1 (by decide) (by omega) (fun hc1 => ?_) (fun hc1 => ?_)
  · refine aw_iconst (v := nI 1) dX1_isBad_14 rfl ?_
    refine aw_goto (tgt := 19) dX1_isBad_15 (by decide) ?_
    exact aw_zret dX1_isBad_19 rfl rfl (Nat.zero_le _) (Nat.zero_le _) ⟨by unfold badN; first | rw [if_pos (by omega)] | rw [if_neg (by omega)], rfl⟩
  · refine aw_iload_n dX1_isBad_4 rfl ?_
    refine aw_aload_n dX1_isBad_5 rfl ?_
    refine aw_getR dX1_isBad_6 flX1_17 rfl (by assumption) (by assumption) ?_
    refine aw_iconst (v := nI 0) dX1_isBad_9 rfl ?_
    refine aw_iald dX1_isBad_10 (by assumption) (by omega) rfl (by omega) (hS.1 0 (by decide)) ?_
    refine aw_icmp_leN (tgt := 18) dX1_isBad_11 (by decide) (by omega) (by omega) (fun hc11 => ?_) (fun hc11 => ?_)
    · refine aw_iconst (v := nI 0) dX1_isBad_18 rfl ?_
      exact aw_zret dX1_isBad_19 rfl rfl (Nat.zero_le _) (Nat.zero_le _) ⟨by unfold badN; first | rw [if_pos (by omega)] | rw [if_neg (by omega)], rfl⟩
    · refine aw_iconst (v := nI 1) dX1_isBad_14 rfl ?_
      refine aw_goto (tgt := 19) dX1_isBad_15 (by decide) ?_
      exact aw_zret dX1_isBad_19 rfl rfl (Nat.zero_le _) (Nat.zero_le _) ⟨by unfold badN; first | rw [if_pos (by omega)] | rw [if_neg (by omega)], rfl⟩
theorem c_nextCut (hL : LSt G K R h) (hS : SG I h g T) (hg : SK g) (hst : st < 4) (hb : RK b (T st)) (hbb : b ≤ 900000000) : Run G YX1_nextCut [.ref (G.1 h), .ref (G.1 (h + 9 + 2 * st))] (K, R, I, J, z) (Rd (K, R, I, J, z) (.int (nI (min (2 * T st 6) (g 4))))) := by
  obtain ⟨hk0, hr0, hk1, hsr, hr1, hk2, hr2, hk3, hc0, hc1, hc2, hc3, hc4, hkc0, hkc1, hkc2, hkc3, hkc4, hTs, hh⟩ := id hL
  have hT := hTs st hst
  have hSR := hS.2.2.2.2 st hst
  obtain ⟨s0, s1, ⟨nx, s2, s2a, s2b⟩, s3, s4, s5, s6, s78, s9, s10, s11, s13⟩ := id hSR
  obtain ⟨b0, b1, b2', b3, b4, b5, b6, b7, b8, b9, b10, b11, b12⟩ := id hb
  obtain ⟨⟨g0, g0'⟩, ⟨g1, g1'⟩, ⟨g2, g2'⟩, ⟨g3, g3'⟩, ⟨g4, g4'⟩⟩ := id hg
  have hKo := hT.1
  refine run_of (ls := [(0, .ref (G.1 h)), (1, .ref (G.1 (h + 9 + 2 * st)))]) (by decide +kernel) rfl rfl (Nat.le_of_ble_eq_true rfl) ?_
  refine aw_iconst (v := nI 2) dX1_nextCut_0 rfl ?_
  refine aw_aload_n dX1_nextCut_1 rfl ?_
  refine aw_getI dX1_nextCut_2 flX1_132 rfl (by assumption) s5 ?_
  first | refine aw_imulN dX1_nextCut_5 ?_ | refine aw_imul dX1_nextCut_5 ?_
  refine aw_aload_n dX1_nextCut_6 rfl ?_
  refine aw_getR dX1_nextCut_7 flX1_17 rfl (by assumption) (by assumption) ?_
  refine aw_iconst (v := nI 4) dX1_nextCut_10 rfl ?_
  refine aw_iald dX1_nextCut_11 (by assumption) (by omega) rfl (by omega) (hS.1 4 (by decide)) ?_
  refine aw_min dX1_nextCut_12 lkX1_135 (by omega) (by omega) (Nat.le_of_ble_eq_true rfl) (Nat.le_of_ble_eq_true rfl) ⟨Nat.zero_le _, Nat.zero_le _⟩ ?_
  exact aw_iret dX1_nextCut_15 rfl (Nat.zero_le _) (Nat.zero_le _) ⟨rfl, rfl⟩
theorem c_settleTrial {e : Nat} (hL : LSt G K R h) (hS : SG I h g T) (hg : SK g) (hst : st < 4) (hb : RK b (T st)) (hbb : b ≤ 900000000) (he : e ≤ 1) : Run G YX1_settleTrial [.ref (G.1 h), .ref (G.1 (h + 9 + 2 * st)), .int (nI e)] (K, R, I, J, z) (Up K R J z none (fun I' => SR (I' (h + 9 + 2 * st)) (I' (h + 9 + 2 * st + 1)) (if e = 1 then cutR (min (2 * T st 6) (g 4)) (T st) else closeR (T st)) ∧ I' (h + 9 + 2 * st) 12 = I (h + 9 + 2 * st) 12 ∧ FrO (h + 9 + 2 * st) I I')) := by
  obtain ⟨hk0, hr0, hk1, hsr, hr1, hk2, hr2, hk3, hc0, hc1, hc2, hc3, hc4, hkc0, hkc1, hkc2, hkc3, hkc4, hTs, hh⟩ := id hL
  have hT := hTs st hst
  have hSR := hS.2.2.2.2 st hst
  obtain ⟨s0, s1, ⟨nx, s2, s2a, s2b⟩, s3, s4, s5, s6, s78, s9, s10, s11, s13⟩ := id hSR
  obtain ⟨b0, b1, b2', b3, b4, b5, b6, b7, b8, b9, b10, b11, b12⟩ := id hb
  obtain ⟨⟨g0, g0'⟩, ⟨g1, g1'⟩, ⟨g2, g2'⟩, ⟨g3, g3'⟩, ⟨g4, g4'⟩⟩ := id hg
  have hKo := hT.1
  refine run_of (ls := [(0, .ref (G.1 h)), (1, .ref (G.1 (h + 9 + 2 * st))), (2, .int (nI e))]) (by decide +kernel) rfl rfl (Nat.le_of_ble_eq_true rfl) ?_
  refine aw_iload_n dX1_settleTrial_0 rfl ?_
  refine aw_if_eqN (tgt := 16) dX1_settleTrial_1 (by decide) (by omega) (fun hc1 => ?_) (fun hc1 => ?_)
  · refine aw_aload_n dX1_settleTrial_16 rfl ?_
    refine aw_vUp0 dX1_settleTrial_17 cvX1_129 ⟨Nat.le_of_ble_eq_true rfl, Nat.le_of_ble_eq_true rfl⟩ (by assumption) ⟨_, rfl, rfl⟩ (s_shut hT hSR hb (by omega)) rfl rfl (Nat.le_of_ble_eq_true rfl) ⟨rfl, rfl⟩ ⟨Nat.zero_le _, Nat.zero_le _⟩ (fun I17 hP17 => ?_)
    refine aw_vret dX1_settleTrial_20 rfl (Nat.zero_le _) (Nat.zero_le _) ?_
    first
    | (rw [if_neg (by omega)]; exact ⟨rfl, _, rfl, hP17⟩)
    | (rw [if_pos (by omega)]; exact ⟨rfl, _, rfl, hP10⟩)
  · refine aw_aload_n dX1_settleTrial_4 rfl ?_
    refine aw_aload_n dX1_settleTrial_5 rfl ?_
    refine aw_aload_n dX1_settleTrial_6 rfl ?_
    refine aw_vRd dX1_settleTrial_7 cvX1_121 ⟨Nat.le_of_ble_eq_true rfl, Nat.le_of_ble_eq_true rfl⟩ (by assumption) ⟨_, rfl, rfl⟩ (c_nextCut hL hS hg hst hb hbb) rfl rfl (Nat.le_of_ble_eq_true rfl) ⟨rfl, rfl⟩ ⟨Nat.zero_le _, Nat.zero_le _⟩ ?_
    refine aw_vUp0 dX1_settleTrial_10 cvX1_125 ⟨Nat.le_of_ble_eq_true rfl, Nat.le_of_ble_eq_true rfl⟩ (by assumption) ⟨_, rfl, rfl⟩ (s_cutOff hT hSR hb (by omega)) rfl rfl (Nat.le_of_ble_eq_true rfl) ⟨rfl, rfl⟩ ⟨Nat.zero_le _, Nat.zero_le _⟩ (fun I10 hP10 => ?_)
    refine aw_goto (tgt := 20) dX1_settleTrial_13 (by decide) ?_
    refine aw_vret dX1_settleTrial_20 rfl (Nat.zero_le _) (Nat.zero_le _) ?_
    first
    | (rw [if_neg (by omega)]; exact ⟨rfl, _, rfl, hP17⟩)
    | (rw [if_pos (by omega)]; exact ⟨rfl, _, rfl, hP10⟩)
theorem c_settleInWindow {e : Nat} (hL : LSt G K R h) (hS : SG I h g T) (hg : SK g) (hst : st < 4) (hb : RK b (T st)) (hbb : b ≤ 900000000) (he : e ≤ 1) (h2t : T st 2 = 0) : Run G YX1_settleInWindow [.ref (G.1 h), .ref (G.1 (h + 9 + 2 * st)), .int (nI e)] (K, R, I, J, z) (Up K R J z none (fun I' => SR (I' (h + 9 + 2 * st)) (I' (h + 9 + 2 * st + 1)) (winR g (noteR e (T st))) ∧ I' (h + 9 + 2 * st) 12 = I (h + 9 + 2 * st) 12 ∧ FrO (h + 9 + 2 * st) I I')) := by
  obtain ⟨hk0, hr0, hk1, hsr, hr1, hk2, hr2, hk3, hc0, hc1, hc2, hc3, hc4, hkc0, hkc1, hkc2, hkc3, hkc4, hTs, hh⟩ := id hL
  have hT := hTs st hst
  have hSR := hS.2.2.2.2 st hst
  obtain ⟨s0, s1, ⟨nx, s2, s2a, s2b⟩, s3, s4, s5, s6, s78, s9, s10, s11, s13⟩ := id hSR
  obtain ⟨b0, b1, b2', b3, b4, b5, b6, b7, b8, b9, b10, b11, b12⟩ := id hb
  obtain ⟨⟨g0, g0'⟩, ⟨g1, g1'⟩, ⟨g2, g2'⟩, ⟨g3, g3'⟩, ⟨g4, g4'⟩⟩ := id hg
  have hKo := hT.1
  have hbn := RK.note hb he h2t
  have hn2 : noteR e (T st) 2 = 0 := h2t
  have hn4 : noteR e (T st) 4 ≤ 16 := hbn.2.2.2.2.2.1
  have hbw := badWinR_le (t := noteR e (T st)) hg
  have hiw : inWinR g (noteR e (T st)) = min (noteR e (T st) 4) (g 1) := by unfold inWinR; rw [if_pos hn2]
  refine run_of (ls := [(0, .ref (G.1 h)), (1, .ref (G.1 (h + 9 + 2 * st))), (2, .int (nI e))]) (by decide +kernel) rfl rfl (Nat.le_of_ble_eq_true rfl) ?_
  refine aw_aload_n dX1_settleInWindow_0 rfl ?_
  refine aw_iload_n dX1_settleInWindow_1 rfl ?_
  refine aw_vUp0 dX1_settleInWindow_2 cvX1_141 ⟨Nat.le_of_ble_eq_true rfl, Nat.le_of_ble_eq_true rfl⟩ (by assumption) ⟨_, rfl, rfl⟩ (s_noteOutcome hT hSR hb (by omega) he h2t) rfl rfl (Nat.le_of_ble_eq_true rfl) ⟨rfl, rfl⟩ ⟨Nat.zero_le _, Nat.zero_le _⟩ (fun I2 hP2 => ?_)
  refine aw_aload_n dX1_settleInWindow_5 rfl ?_
  refine aw_getR dX1_settleInWindow_6 flX1_17 rfl (by assumption) (by assumption) ?_
  refine aw_iconst (v := nI 1) dX1_settleInWindow_9 rfl ?_
  refine aw_iald dX1_settleInWindow_10 (by assumption) (by omega) rfl (by omega) (show _ = nI (g 1) by rw [hP2.2.2 _ (by omega)]; exact hS.1 1 (by decide)) ?_
  refine aw_istore_n (ls' := [(3, _), (0, _), (1, _), (2, _)]) dX1_settleInWindow_11 (by decide) rfl ?_
  refine aw_aload_n dX1_settleInWindow_12 rfl ?_
  refine aw_getI dX1_settleInWindow_13 flX1_145 rfl (by assumption) (show _ = nI (noteR e (T st) 4) from (hP2.1.2.2.2.2.2.2.2.1 hn2).2) ?_
  refine aw_iload_n dX1_settleInWindow_16 rfl ?_
  refine aw_icmp_ltN (tgt := 44) dX1_settleInWindow_17 (by decide) (by omega) (by omega) (fun hc17 => ?_) (fun hc17 => ?_)
  · refine aw_vret dX1_settleInWindow_44 rfl (Nat.zero_le _) (Nat.zero_le _) ?_
    first
    | (refine ⟨rfl, _, rfl, ?_, hP41.2.1.trans hP2.2.1, hP2.2.2.tr hP41.2.2⟩
       rw [winR, if_pos ⟨by omega, by omega⟩]; exact hP41.1)
    | (refine ⟨rfl, _, rfl, ?_, hP2.2.1, hP2.2.2⟩
       rw [winR, if_neg (fun q => by have := q.1; have := q.2; omega)]; exact hP2.1)
  · refine aw_aload_n dX1_settleInWindow_20 rfl ?_
    refine aw_iload_n dX1_settleInWindow_21 rfl ?_
    refine aw_vRd dX1_settleInWindow_22 cvX1_148 ⟨Nat.le_of_ble_eq_true rfl, Nat.le_of_ble_eq_true rfl⟩ (by assumption) ⟨_, rfl, rfl⟩ (s_badInWindow hT hP2.1 hbn (by omega) hg) rfl rfl (Nat.le_of_ble_eq_true rfl) ⟨rfl, rfl⟩ ⟨Nat.zero_le _, Nat.zero_le _⟩ ?_
    refine aw_aload_n dX1_settleInWindow_25 rfl ?_
    refine aw_getR dX1_settleInWindow_26 flX1_17 rfl (by assumption) (by assumption) ?_
    refine aw_iconst (v := nI 2) dX1_settleInWindow_29 rfl ?_
    refine aw_iald dX1_settleInWindow_30 (by assumption) (by omega) rfl (by omega) (show _ = nI (g 2) by rw [hP2.2.2 _ (by omega)]; exact hS.1 2 (by decide)) ?_
    refine aw_icmp_ltN (tgt := 44) dX1_settleInWindow_31 (by decide) (by omega) (by omega) (fun hc31 => ?_) (fun hc31 => ?_)
    · refine aw_vret dX1_settleInWindow_44 rfl (Nat.zero_le _) (Nat.zero_le _) ?_
      first
      | (refine ⟨rfl, _, rfl, ?_, hP41.2.1.trans hP2.2.1, hP2.2.2.tr hP41.2.2⟩
         rw [winR, if_pos ⟨by omega, by omega⟩]; exact hP41.1)
      | (refine ⟨rfl, _, rfl, ?_, hP2.2.1, hP2.2.2⟩
         rw [winR, if_neg (fun q => by have := q.1; have := q.2; omega)]; exact hP2.1)
    · refine aw_aload_n dX1_settleInWindow_34 rfl ?_
      refine aw_aload_n dX1_settleInWindow_35 rfl ?_
      refine aw_getR dX1_settleInWindow_36 flX1_17 rfl (by assumption) (by assumption) ?_
      refine aw_iconst (v := nI 3) dX1_settleInWindow_39 rfl ?_
      refine aw_iald dX1_settleInWindow_40 (by assumption) (by omega) rfl (by omega) (show _ = nI (g 3) by rw [hP2.2.2 _ (by omega)]; exact hS.1 3 (by decide)) ?_
      refine aw_vUp0 dX1_settleInWindow_41 cvX1_125 ⟨Nat.le_of_ble_eq_true rfl, Nat.le_of_ble_eq_true rfl⟩ (by assumption) ⟨_, rfl, rfl⟩ (s_cutOff (n := g 3) hT hP2.1 hbn (by omega)) rfl rfl (Nat.le_of_ble_eq_true rfl) ⟨rfl, rfl⟩ ⟨Nat.zero_le _, Nat.zero_le _⟩ (fun I41 hP41 => ?_)
      refine aw_vret dX1_settleInWindow_44 rfl (Nat.zero_le _) (Nat.zero_le _) ?_
      first
      | (refine ⟨rfl, _, rfl, ?_, hP41.2.1.trans hP2.2.1, hP2.2.2.tr hP41.2.2⟩
         rw [winR, if_pos ⟨by omega, by omega⟩]; exact hP41.1)
      | (refine ⟨rfl, _, rfl, ?_, hP2.2.1, hP2.2.2⟩
         rw [winR, if_neg (fun q => by have := q.1; have := q.2; omega)]; exact hP2.1)
theorem c_settle {d tr since : Nat} (hL : LSt G K R h) (hS : SG I h g T) (hg : SK g) (hst : st < 4) (hb : RK b (T st)) (hbb : b ≤ 900000000) (hd : d ≤ 99) (htr : tr ≤ 1) (hs : since ≤ 1000000000) (h9b : T st 9 ≤ 1000000000) (h7b : g 7 ≤ 1000000000) : Run G YX1_settle [.ref (G.1 h), .ref (G.1 (h + 9 + 2 * st)), .int (nI d), .int (nI tr), .int (nI since)] (K, R, I, J, z) (Up K R J z none (fun I' => SG I' h (outG g d) (sT T st (outR g d tr since (T st))) ∧ FrD h I I')) := by
  obtain ⟨hk0, hr0, hk1, hsr, hr1, hk2, hr2, hk3, hc0, hc1, hc2, hc3, hc4, hkc0, hkc1, hkc2, hkc3, hkc4, hTs, hh⟩ := id hL
  have hT := hTs st hst
  have hSR := hS.2.2.2.2 st hst
  obtain ⟨s0, s1, ⟨nx, s2, s2a, s2b⟩, s3, s4, s5, s6, s78, s9, s10, s11, s13⟩ := id hSR
  obtain ⟨b0, b1, b2', b3, b4, b5, b6, b7, b8, b9, b10, b11, b12⟩ := id hb
  obtain ⟨⟨g0, g0'⟩, ⟨g1, g1'⟩, ⟨g2, g2'⟩, ⟨g3, g3'⟩, ⟨g4, g4'⟩⟩ := id hg
  have hKo := hT.1
  obtain ⟨e, he⟩ : ∃ e, e = badN g d := ⟨_, rfl⟩
  have he1 : e ≤ 1 := by rw [he]; exact badN_le _ _
  have key : ∀ I1, SG I1 h (u1 (u1 g 6 (g 6 + e)) 7 (g 7 + (1 - e))) (sT T st (u1 (T st) 9 (T st 9 + e))) → FrD h I I1 → AW G YX1_settle (MZ G YX1_settle (Up K R J z none (fun I' => SG I' h (outG g d) (sT T st (outR g d tr since (T st))) ∧ FrD h I I'))) 35 [(0, .ref (G.1 h)), (1, .ref (G.1 (h + 9 + 2 * st))), (2, .int (nI d)), (3, .int (nI tr)), (4, .int (nI since)), (5, .int (nI e))] [] (K, R, I1, J, z) 0 0 := by
    intro I1 hS1 hF1
    have hSR1 := hS1.2.2.2.2 st hst
    rw [sT_s] at hSR1
    have hb1 := RK.u9 (v := T st 9 + e) hb
    have hb1' : RK b (sT T st (u1 (T st) 9 (T st 9 + e)) st) := by rw [sT_s]; exact hb1
    have hg1' : SK (u1 (u1 g 6 (g 6 + e)) 7 (g 7 + (1 - e))) := hg
    have hSRs := hS1.2.2.2.2 st hst
    refine aw_iload_n dX1_settle_35 rfl ?_
    refine aw_iconst (v := nI 1) dX1_settle_36 rfl ?_
    refine aw_icmp_neN (tgt := 50) dX1_settle_37 (by decide) (by omega) (by omega) (fun hc37 => ?_) (fun hc37 => ?_)
    · refine aw_aload_n dX1_settle_50 rfl ?_
      refine aw_getI dX1_settle_51 flX1_61 rfl (by assumption) (show _ = nI (T st 2) from hSR1.2.2.2.1) ?_
      refine aw_if_neN (tgt := 73) dX1_settle_54 (by decide) (by omega) (fun hc54 => ?_) (fun hc54 => ?_)
      · refine aw_vret dX1_settle_73 rfl (Nat.zero_le _) (Nat.zero_le _) ?_
        rw [he] at hS1 hSR1 hb1
        first
        | (refine ⟨rfl, _, rfl, ?_, hF1.tr (FrD.st hst hP44.2.2 hP44.2.1)⟩
           have h9 := SG.row hS1 hst hP44.1 hP44.2.2
           rw [sT_sT, sT_s] at h9
           unfold outR
           rw [if_pos (by omega)]
           rw [he] at h9
           exact h9)
        | (refine ⟨rfl, _, rfl, ?_, hF1.tr (FrD.st hst hP70.2.2 hP70.2.1)⟩
           have h9 := SG.row hS1 hst hP70.1 hP70.2.2
           rw [sT_sT, sT_s] at h9
           unfold outR
           rw [if_neg (by omega), if_pos ⟨hc54, hc63⟩]
           rw [he] at h9
           exact h9)
        | (refine ⟨rfl, _, rfl, ?_, hF1⟩
           unfold outR
           rw [if_neg (by omega), if_neg (fun q => by have := q.1; have := q.2; omega)]
           exact hS1)
      · refine aw_aload_n dX1_settle_57 rfl ?_
        refine aw_getI dX1_settle_58 flX1_77 rfl (by assumption) (show _ = nI (T st 11) from hSR1.2.2.2.2.2.2.1) ?_
        refine aw_iload dX1_settle_61 rfl ?_
        refine aw_icmp_neN (tgt := 73) dX1_settle_63 (by decide) (by omega) (by omega) (fun hc63 => ?_) (fun hc63 => ?_)
        · refine aw_vret dX1_settle_73 rfl (Nat.zero_le _) (Nat.zero_le _) ?_
          rw [he] at hS1 hSR1 hb1
          first
          | (refine ⟨rfl, _, rfl, ?_, hF1.tr (FrD.st hst hP44.2.2 hP44.2.1)⟩
             have h9 := SG.row hS1 hst hP44.1 hP44.2.2
             rw [sT_sT, sT_s] at h9
             unfold outR
             rw [if_pos (by omega)]
             rw [he] at h9
             exact h9)
          | (refine ⟨rfl, _, rfl, ?_, hF1.tr (FrD.st hst hP70.2.2 hP70.2.1)⟩
             have h9 := SG.row hS1 hst hP70.1 hP70.2.2
             rw [sT_sT, sT_s] at h9
             unfold outR
             rw [if_neg (by omega), if_pos ⟨hc54, hc63⟩]
             rw [he] at h9
             exact h9)
          | (refine ⟨rfl, _, rfl, ?_, hF1⟩
             unfold outR
             rw [if_neg (by omega), if_neg (fun q => by have := q.1; have := q.2; omega)]
             exact hS1)
        · refine aw_aload_n dX1_settle_66 rfl ?_
          refine aw_aload_n dX1_settle_67 rfl ?_
          refine aw_iload dX1_settle_68 rfl ?_
          refine aw_vUp0 dX1_settle_70 cvX1_118 ⟨Nat.le_of_ble_eq_true rfl, Nat.le_of_ble_eq_true rfl⟩ (by assumption) ⟨_, rfl, rfl⟩ (c_settleInWindow (e := e) hL hS1 hg1' hst hb1' hbb he1 (by rw [sT_s]; exact hc54)) rfl rfl (Nat.le_of_ble_eq_true rfl) ⟨rfl, rfl⟩ ⟨Nat.zero_le _, Nat.zero_le _⟩ (fun I70 hP70 => ?_)
          refine aw_vret dX1_settle_73 rfl (Nat.zero_le _) (Nat.zero_le _) ?_
          rw [he] at hS1 hSR1 hb1
          first
          | (refine ⟨rfl, _, rfl, ?_, hF1.tr (FrD.st hst hP44.2.2 hP44.2.1)⟩
             have h9 := SG.row hS1 hst hP44.1 hP44.2.2
             rw [sT_sT, sT_s] at h9
             unfold outR
             rw [if_pos (by omega)]
             rw [he] at h9
             exact h9)
          | (refine ⟨rfl, _, rfl, ?_, hF1.tr (FrD.st hst hP70.2.2 hP70.2.1)⟩
             have h9 := SG.row hS1 hst hP70.1 hP70.2.2
             rw [sT_sT, sT_s] at h9
             unfold outR
             rw [if_neg (by omega), if_pos ⟨hc54, hc63⟩]
             rw [he] at h9
             exact h9)
          | (refine ⟨rfl, _, rfl, ?_, hF1⟩
             unfold outR
             rw [if_neg (by omega), if_neg (fun q => by have := q.1; have := q.2; omega)]
             exact hS1)
    · refine aw_aload_n dX1_settle_40 rfl ?_
      refine aw_aload_n dX1_settle_41 rfl ?_
      refine aw_iload dX1_settle_42 rfl ?_
      refine aw_vUp0 dX1_settle_44 cvX1_114 ⟨Nat.le_of_ble_eq_true rfl, Nat.le_of_ble_eq_true rfl⟩ (by assumption) ⟨_, rfl, rfl⟩ (c_settleTrial (e := e) hL hS1 hg1' hst hb1' hbb he1) rfl rfl (Nat.le_of_ble_eq_true rfl) ⟨rfl, rfl⟩ ⟨Nat.zero_le _, Nat.zero_le _⟩ (fun I44 hP44 => ?_)
      refine aw_goto (tgt := 73) dX1_settle_47 (by decide) ?_
      refine aw_vret dX1_settle_73 rfl (Nat.zero_le _) (Nat.zero_le _) ?_
      rw [he] at hS1 hSR1 hb1
      first
      | (refine ⟨rfl, _, rfl, ?_, hF1.tr (FrD.st hst hP44.2.2 hP44.2.1)⟩
         have h9 := SG.row hS1 hst hP44.1 hP44.2.2
         rw [sT_sT, sT_s] at h9
         unfold outR
         rw [if_pos (by omega)]
         rw [he] at h9
         exact h9)
      | (refine ⟨rfl, _, rfl, ?_, hF1.tr (FrD.st hst hP70.2.2 hP70.2.1)⟩
         have h9 := SG.row hS1 hst hP70.1 hP70.2.2
         rw [sT_sT, sT_s] at h9
         unfold outR
         rw [if_neg (by omega), if_pos ⟨hc54, hc63⟩]
         rw [he] at h9
         exact h9)
      | (refine ⟨rfl, _, rfl, ?_, hF1⟩
         unfold outR
         rw [if_neg (by omega), if_neg (fun q => by have := q.1; have := q.2; omega)]
         exact hS1)
  have hw : ∀ w, w = badN g d → w ≤ 1 → Run G YX1_isBad [.ref (G.1 h), .int (nI d)] (K, R, I, J, z) (Rd (K, R, I, J, z) (.int (nI w))) := fun w hw _ => by rw [hw]; exact c_isBad hL hS hg hd
  refine run_of (ls := [(0, .ref (G.1 h)), (1, .ref (G.1 (h + 9 + 2 * st))), (2, .int (nI d)), (3, .int (nI tr)), (4, .int (nI since))]) (by decide +kernel) rfl rfl (Nat.le_of_ble_eq_true rfl) ?_
  refine aw_aload_n dX1_settle_0 rfl ?_
  refine aw_iload_n dX1_settle_1 rfl ?_
  refine aw_vRd dX1_settle_2 cvX1_108 ⟨Nat.le_of_ble_eq_true rfl, Nat.le_of_ble_eq_true rfl⟩ (by assumption) ⟨_, rfl, rfl⟩ (hw e he he1) rfl rfl (Nat.le_of_ble_eq_true rfl) ⟨rfl, rfl⟩ ⟨Nat.zero_le _, Nat.zero_le _⟩ ?_
  refine aw_istore (ls' := [(5, _), (0, _), (1, _), (2, _), (3, _), (4, _)]) dX1_settle_5 (by decide) rfl ?_
  refine aw_iload dX1_settle_7 rfl ?_
  refine aw_if_eqN (tgt := 25) dX1_settle_9 (by decide) (by omega) (fun hc9 => ?_) (fun hc9 => ?_)
  · refine aw_aload_n dX1_settle_25 rfl ?_
    refine aw_dup dX1_settle_26 rfl ?_
    refine aw_getI dX1_settle_27 flX1_47 rfl (by assumption) hS.2.2.1 ?_
    refine aw_iconst (v := nI 1) dX1_settle_30 rfl ?_
    first | refine aw_iaddN dX1_settle_31 ?_ | refine aw_iadd dX1_settle_31 ?_
    refine aw_putI dX1_settle_32 flX1_47 rfl (by intro r hr; cases hr; rfl) (by assumption) (by omega) rfl rfl ?_
    first
    | (have e0 : e = 0 := by omega
       refine aw_pick [1, 2, 3, 4, 5, 0] rfl (key _ ?_ (FrD.o (by decide)))
       have h9 := SG.good (v := g 7 + 1) (SG.g6 (v := g 6 + e) hS)
       rw [e0] at h9 ⊢
       have hid : sT T st (u1 (T st) 9 (T st 9 + 0)) = T := by
         have : u1 (T st) 9 (T st 9 + 0) = T st := by funext k; unfold u1; split
                                                      · next q => rw [q]; rfl
                                                      · rfl
         rw [this, sT_id]
       rw [hid]; exact h9)
    | (have e1 : e = 1 := by omega
       refine aw_pick [1, 2, 3, 4, 5, 0] rfl (key _ ?_ (FrD.st hst FrO.up (by rw [up2_o, if_neg (by decide)])))
       have h9 := SG.row hS hst (SR.up (SR.bad (v := T st 9 + 1) hSR)) FrO.up
       rw [e1]
       have h8 := SG.g6 (v := g 6 + 1) h9
       have hid : u1 (u1 g 6 (g 6 + 1)) 7 (g 7 + (1 - 1)) = u1 g 6 (g 6 + 1) := by
         funext k; unfold u1
         by_cases q : k = 7
         · subst q; rfl
         · rw [if_neg q]
       rw [hid]; exact h8)
  · refine aw_aload_n dX1_settle_12 rfl ?_
    refine aw_dup dX1_settle_13 rfl ?_
    refine aw_getI dX1_settle_14 flX1_111 rfl (by assumption) s11 ?_
    refine aw_iconst (v := nI 1) dX1_settle_17 rfl ?_
    first | refine aw_iaddN dX1_settle_18 ?_ | refine aw_iadd dX1_settle_18 ?_
    refine aw_putI dX1_settle_19 flX1_111 rfl (by intro r hr; cases hr; rfl) (by assumption) (by omega) rfl rfl ?_
    refine aw_goto (tgt := 35) dX1_settle_22 (by decide) ?_
    first
    | (have e0 : e = 0 := by omega
       refine aw_pick [1, 2, 3, 4, 5, 0] rfl (key _ ?_ (FrD.o (by decide)))
       have h9 := SG.good (v := g 7 + 1) (SG.g6 (v := g 6 + e) hS)
       rw [e0] at h9 ⊢
       have hid : sT T st (u1 (T st) 9 (T st 9 + 0)) = T := by
         have : u1 (T st) 9 (T st 9 + 0) = T st := by funext k; unfold u1; split
                                                      · next q => rw [q]; rfl
                                                      · rfl
         rw [this, sT_id]
       rw [hid]; exact h9)
    | (have e1 : e = 1 := by omega
       refine aw_pick [1, 2, 3, 4, 5, 0] rfl (key _ ?_ (FrD.st hst FrO.up (by rw [up2_o, if_neg (by decide)])))
       have h9 := SG.row hS hst (SR.up (SR.bad (v := T st 9 + 1) hSR)) FrO.up
       rw [e1]
       have h8 := SG.g6 (v := g 6 + 1) h9
       have hid : u1 (u1 g 6 (g 6 + 1)) 7 (g 7 + (1 - 1)) = u1 g 6 (g 6 + 1) := by
         funext k; unfold u1
         by_cases q : k = 7
         · subst q; rfl
         · rw [if_neg q]
       rw [hid]; exact h8)
end CLASS3
