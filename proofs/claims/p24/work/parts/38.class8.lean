/-! THE CLASS: closing by hand, copies, looks -/
theorem uniqP {P : Cl → Bool} : ∀ {L : List Cl} {i j : Nat} {c c' : Cl}, L.countP P ≤ 1 → L[i]? = some c → P c = true → L[j]? = some c' → P c' = true → i = j
  | [], _, _, _, _, _, h, _, _, _ => by simp at h
  | x :: L, 0, 0, _, _, _, _, _, _, _ => rfl
  | x :: L, 0, j + 1, c, c', hc, h1, h2, h3, h4 => by
    rw [List.getElem?_cons_zero] at h1
    cases h1
    rw [List.countP_cons_of_pos h2] at hc
    have h0 : L.countP P = 0 := by omega
    rw [List.countP_eq_zero] at h0
    rw [List.getElem?_cons_succ] at h3
    exact absurd h4 (h0 c' (List.mem_of_getElem? h3))
  | x :: L, i + 1, 0, c, c', hc, h1, h2, h3, h4 => by
    rw [List.getElem?_cons_zero] at h3
    cases h3
    rw [List.countP_cons_of_pos h4] at hc
    have h0 : L.countP P = 0 := by omega
    rw [List.countP_eq_zero] at h0
    rw [List.getElem?_cons_succ] at h1
    exact absurd h2 (h0 c (List.mem_of_getElem? h1))
  | x :: L, i + 1, j + 1, c, c', hc, h1, h2, h3, h4 => by
    rw [List.getElem?_cons_succ] at h1 h3
    rw [List.countP_cons] at hc
    exact congrArg (· + 1) (uniqP (by omega) h1 h2 h3 h4)
theorem clrC_0 {st : Nat} {c : Cl} (h : ¬ isT st c = true) (h3 : c 3 ≤ 1) : clrC st c = c := by
  unfold clrC
  split
  · next e =>
    have h30 : c 3 = 0 := by
      simp [isT, e] at h; omega
    funext j; unfold u1; split
    · next q => rw [q, h30]
    · rfl
  · rfl
theorem onWay_shut {a : AA} {st : Nat} : onWayN (shutA a st) = onWayN a := by
  funext s
  unfold onWayN shutA
  rw [List.countP_map]
  congr 1
  funext c
  show (clrC st c 0 == s) = (c 0 == s)
  unfold clrC; split <;> rfl
def sumN (a : AA) (w : Nat) : Nat → Nat
  | 0 => 0
  | n + 1 => sumN a w n + tellN a n w
theorem sumN_5 (a : AA) : ∀ n, sumN a 5 n = ovN a 2 n
  | 0 => rfl
  | n + 1 => by rw [sumN, ovN, sumN_5 a n]; rfl
theorem sumN_6 (a : AA) : ∀ n, sumN a 6 n = ovN a 3 n
  | 0 => rfl
  | n + 1 => by rw [sumN, ovN, sumN_6 a n]; rfl
theorem sumN_7 {m k : Nat} {a : AA} (h : IV m k a) : sumN a 7 4 = a.1 6 := by
  rw [h.2.2.2.2.2.1]; simp only [sumN, tellN]; omega
/-- in how many ticks a store is free, as the class counts -/
def freeN (a : AA) (st : Nat) : Nat := match trF st a.2.1 0 with
  | none => a.2.2 st 5
  | some p => match a.2.1[p]? with
    | none => 0
    | some c => if badN a.1 (c 2) = 0 then c 1 else c 1 + (min (2 * a.2.2 st 6) (a.1 4) - 1)
section CLASS8
variable {G : GG} {K : Nat → Option (Nat × Nat)} {R : Nat → Nat → Value} {I : Nat → Nat → Int32} {J : Nat → Nat → Int64} {z : Nat} {σ : Sg} {a : AA} {m k : Nat}
variable {h b st : Nat} {g : Nat → Nat} {T : Nat → Rw} {L : List Cl}
theorem c_copyFrom {q : Nat} (hL : LSt G K R h) (hL2 : LSt G K R q) (hne : q + 17 ≤ h ∨ h + 17 ≤ q) (hS : CSt I q a) (h16 : a.2.1.length ≤ 16) : Run G YX1_copyFrom [.ref (G.1 h), .ref (G.1 q)] (K, R, I, J, z) (Up K R J z none (fun I' => CSt I' h a ∧ FrS h I I')) := by
  obtain ⟨hk0, hr0, hk1, hsr, hr1, hk2, hr2, hk3, hc0, hc1, hc2, hc3, hc4, hkc0, hkc1, hkc2, hkc3, hkc4, hTs, hh⟩ := id hL
  obtain ⟨jk0, jr0, jk1, jsr, jr1, jk2, jr2, jk3, jc0, jc1, jc2, jc3, jc4, jkc0, jkc1, jkc2, jkc3, jkc4, jTs, jh⟩ := id hL2
  obtain ⟨⟨g0, g4, g5, g6, gS⟩, hA, hn, hW⟩ := id hS
  have loop2 : ∀ (d f : Nat) (I1 : Nat → Nat → Int32), 5 - f = d → f ≤ 5 → FrS h I I1 → (∀ s, s < 4 → SR (I1 (h + 9 + 2 * s)) (I1 (h + 9 + 2 * s + 1)) (a.2.2 s) ∧ I1 (h + 9 + 2 * s) 12 = I (q + 9 + 2 * s) 12) → (∀ i, i < 5 → I1 (h + 2) i = I (q + 2) i) → (∀ e, e < f → ∀ j, j < 16 → I1 (h + 4 + e) j = I (q + 4 + e) j) → AW G YX1_copyFrom (MZ G YX1_copyFrom (Up K R J z none (fun I' => CSt I' h a ∧ FrS h I I'))) 44 [(0, .ref (G.1 h)), (1, .ref (G.1 q)), (2, .int (nI f))] [] (K, R, I1, J, z) 0 0 := by
    intro d
    induction d using Nat.strongRecOn with
    | _ d ih =>
    intro f I1 hd hf hF h1 h2 h3
    have hq : ∀ c, q ≤ c → c < q + 17 → I1 c = I c := fun c c1 c2 => hF c (by omega)
    rcases Nat.lt_or_ge f 5 with hlt | hge
    rotate_left
    · have hfe : f = 5 := by omega
      subst hfe
      refine aw_iload_n dX1_copyFrom_44 rfl ?_
      refine aw_iconst (v := nI 5) dX1_copyFrom_45 rfl ?_
      refine aw_icmp_geN (tgt := 74) dX1_copyFrom_46 (by decide) (by omega) (by omega) (fun hc46 => ?_) (fun hc46 => absurd hc46 (by decide))
      refine aw_aload_n dX1_copyFrom_74 rfl ?_
      refine aw_aload_n dX1_copyFrom_75 rfl ?_
      refine aw_getI dX1_copyFrom_76 flX1_40 rfl (by assumption) (show _ = nI a.2.1.length by rw [hq q (by omega) (by omega)]; exact hn) ?_
      refine aw_putI dX1_copyFrom_79 flX1_40 rfl (by intro r hr; cases hr; rfl) (by assumption) (by omega) rfl rfl ?_
      refine aw_aload_n dX1_copyFrom_82 rfl ?_
      refine aw_aload_n dX1_copyFrom_83 rfl ?_
      refine aw_getI dX1_copyFrom_84 flX1_44 rfl (by assumption) (show _ = nI (a.1 5) by rw [FrO.up q (by omega), hq q (by omega) (by omega)]; exact g4) ?_
      refine aw_putI dX1_copyFrom_87 flX1_44 rfl (by intro r hr; cases hr; rfl) (by assumption) (by omega) rfl rfl ?_
      refine aw_aload_n dX1_copyFrom_90 rfl ?_
      refine aw_aload_n dX1_copyFrom_91 rfl ?_
      refine aw_getI dX1_copyFrom_92 flX1_47 rfl (by assumption) (show _ = nI (a.1 7) by rw [FrO.up q (by omega), FrO.up q (by omega), hq q (by omega) (by omega)]; exact g5) ?_
      refine aw_putI dX1_copyFrom_95 flX1_47 rfl (by intro r hr; cases hr; rfl) (by assumption) (by omega) rfl rfl ?_
      refine aw_aload_n dX1_copyFrom_98 rfl ?_
      refine aw_aload_n dX1_copyFrom_99 rfl ?_
      refine aw_getI dX1_copyFrom_100 flX1_50 rfl (by assumption) (show _ = nI (a.1 8) by rw [FrO.up q (by omega), FrO.up q (by omega), FrO.up q (by omega), hq q (by omega) (by omega)]; exact g6) ?_
      refine aw_putI dX1_copyFrom_103 flX1_50 rfl (by intro r hr; cases hr; rfl) (by assumption) (by omega) rfl rfl ?_
      refine aw_vret dX1_copyFrom_106 rfl (Nat.zero_le _) (Nat.zero_le _) ?_
      have hx : ∀ c, c ≠ h → up2 (up2 (up2 (up2 I1 h 3 (nI a.2.1.length)) h 4 (nI (a.1 5))) h 5 (nI (a.1 7))) h 6 (nI (a.1 8)) c = I1 c := fun c hc => by rw [FrO.up (c) (by omega), FrO.up (c) (by omega), FrO.up (c) (by omega), FrO.up (c) (by omega)]
      refine ⟨rfl, _, rfl, ⟨⟨fun i hi => ?_, ?_, ?_, ?_, fun s hs => ?_⟩, fun p c hp => ?_, ?_, fun s hs => ?_⟩, fun c hc => ?_⟩
      · rw [hx _ (by omega), h2 i hi]; exact g0 i hi
      · simp only [up2_o]; rfl
      · simp only [up2_o]; rfl
      · simp only [up2_o]; rfl
      · rw [hx _ (by omega), hx _ (by omega)]; exact (h1 s hs).1
      · have hpl := (List.getElem?_eq_some_iff.mp hp).1
        have e0 := h3 0 (by decide) p (by omega)
        have e1 := h3 1 (by decide) p (by omega)
        have e2 := h3 2 (by decide) p (by omega)
        have e3 := h3 3 (by decide) p (by omega)
        have e4 := h3 4 (by decide) p (by omega)
        rw [hx _ (by omega), hx _ (by omega), hx _ (by omega), hx _ (by omega), hx _ (by omega)]
        obtain ⟨a0, a1, a2, a3, a4⟩ := hA p c hp
        exact ⟨e0.trans a0, e1.trans a1, e2.trans a2, e3.trans a3, e4.trans a4⟩
      · simp only [up2_o]; rfl
      · rw [hx _ (by omega), (h1 s hs).2]; exact hW s hs
      · rw [hx _ (by omega)]; exact hF c hc
    · obtain ⟨hcf, hkf⟩ := hL.cf f hlt
      obtain ⟨jcf, jkf⟩ := hL2.cf f hlt
      refine aw_iload_n dX1_copyFrom_44 rfl ?_
      refine aw_iconst (v := nI 5) dX1_copyFrom_45 rfl ?_
      refine aw_icmp_geN (tgt := 74) dX1_copyFrom_46 (by decide) (by omega) (by omega) (fun hc46 => absurd hc46 (by omega)) (fun hc46 => ?_)
      refine aw_aload_n dX1_copyFrom_49 rfl ?_
      refine aw_getR dX1_copyFrom_50 flX1_23 rfl (by assumption) (by assumption) ?_
      refine aw_iload_n dX1_copyFrom_53 rfl ?_
      refine aw_aald dX1_copyFrom_54 (by assumption) (by omega) (by omega) rfl (by omega) jcf ?_
      refine aw_iconst (v := nI 0) dX1_copyFrom_55 rfl ?_
      refine aw_aload_n dX1_copyFrom_56 rfl ?_
      refine aw_getR dX1_copyFrom_57 flX1_23 rfl (by assumption) (by assumption) ?_
      refine aw_iload_n dX1_copyFrom_60 rfl ?_
      refine aw_aald dX1_copyFrom_61 (by assumption) (by omega) (by omega) rfl (by omega) hcf ?_
      refine aw_iconst (v := nI 0) dX1_copyFrom_62 rfl ?_
      refine aw_bipush (v := nI 16) dX1_copyFrom_63 rfl ?_
      refine aw_copy (mm := 16) dX1_copyFrom_65 lkX1_30 acN acS acI jkf hkf (by omega) (by omega) (by omega) (by omega) (Nat.le_of_ble_eq_true rfl) (Nat.le_of_ble_eq_true rfl) ?_
      refine aw_iincN (k := 1) (ls' := [(2, _), (0, _), (1, _)]) dX1_copyFrom_68 rfl rfl (by decide) rfl ?_
      refine aw_goto (tgt := 44) dX1_copyFrom_71 (by decide) ?_
      exact aw_pick [1, 2, 0] rfl (ih (5 - (f + 1)) (by omega) (f + 1) _ rfl (by omega) (fun c hc => by funext j; unfold cpyI; rw [if_neg (by omega)]; exact congrFun (hF c hc) j) (fun s hs => by
        have e1 : cpyI I1 (q + 4 + f) (h + 4 + f) 16 (h + 9 + 2 * s) = I1 (h + 9 + 2 * s) := by funext j; unfold cpyI; rw [if_neg (by omega)]
        have e2 : cpyI I1 (q + 4 + f) (h + 4 + f) 16 (h + 9 + 2 * s + 1) = I1 (h + 9 + 2 * s + 1) := by funext j; unfold cpyI; rw [if_neg (by omega)]
        rw [e1, e2]; exact h1 s hs) (fun i hi => by unfold cpyI; rw [if_neg (by omega)]; exact h2 i hi) (fun e he j hj => by
        unfold cpyI
        by_cases ee : e = f
        · subst ee; rw [if_pos ⟨rfl, hj⟩, hq _ (by omega) (by omega)]
        · rw [if_neg (by omega)]; exact h3 e (by omega) j hj))
  have loop1 : ∀ (d i : Nat) (I1 : Nat → Nat → Int32), 4 - i = d → i ≤ 4 → FrS h I I1 → (∀ s, s < i → SR (I1 (h + 9 + 2 * s)) (I1 (h + 9 + 2 * s + 1)) (a.2.2 s) ∧ I1 (h + 9 + 2 * s) 12 = I (q + 9 + 2 * s) 12) → AW G YX1_copyFrom (MZ G YX1_copyFrom (Up K R J z none (fun I' => CSt I' h a ∧ FrS h I I'))) 2 [(0, .ref (G.1 h)), (1, .ref (G.1 q)), (2, .int (nI i))] [] (K, R, I1, J, z) 0 0 := by
    intro d
    induction d using Nat.strongRecOn with
    | _ d ih =>
    intro i I1 hd hi hF h1
    have hq : ∀ c, q ≤ c → c < q + 17 → I1 c = I c := fun c c1 c2 => hF c (by omega)
    rcases Nat.lt_or_ge i 4 with hlt | hge
    rotate_left
    · have hie : i = 4 := by omega
      subst hie
      refine aw_iload_n dX1_copyFrom_2 rfl ?_
      refine aw_iconst (v := nI 4) dX1_copyFrom_3 rfl ?_
      refine aw_icmp_geN (tgt := 28) dX1_copyFrom_4 (by decide) (by omega) (by omega) (fun hc4 => ?_) (fun hc4 => absurd hc4 (by decide))
      refine aw_aload_n dX1_copyFrom_28 rfl ?_
      refine aw_getR dX1_copyFrom_29 flX1_17 rfl (by assumption) (by assumption) ?_
      refine aw_iconst (v := nI 0) dX1_copyFrom_32 rfl ?_
      refine aw_aload_n dX1_copyFrom_33 rfl ?_
      refine aw_getR dX1_copyFrom_34 flX1_17 rfl (by assumption) (by assumption) ?_
      refine aw_iconst (v := nI 0) dX1_copyFrom_37 rfl ?_
      refine aw_iconst (v := nI 5) dX1_copyFrom_38 rfl ?_
      refine aw_copy (mm := 5) dX1_copyFrom_39 lkX1_30 acN acS acI jk2 hk2 (by omega) (by omega) (by omega) (by omega) (Nat.le_of_ble_eq_true rfl) (Nat.le_of_ble_eq_true rfl) ?_
      refine aw_iconst (v := nI 0) dX1_copyFrom_42 rfl ?_
      refine aw_istore_n (ls' := [(2, _), (0, _), (1, _)]) dX1_copyFrom_43 (by decide) rfl ?_
      exact aw_pick [1, 2, 0] rfl (loop2 5 0 _ rfl (by decide) (fun c hc => by funext j; unfold cpyI; rw [if_neg (by omega)]; exact congrFun (hF c hc) j) (fun s hs => by
        have e1 : cpyI I1 (q + 2) (h + 2) 5 (h + 9 + 2 * s) = I1 (h + 9 + 2 * s) := by funext j; unfold cpyI; rw [if_neg (by omega)]
        have e2 : cpyI I1 (q + 2) (h + 2) 5 (h + 9 + 2 * s + 1) = I1 (h + 9 + 2 * s + 1) := by funext j; unfold cpyI; rw [if_neg (by omega)]
        rw [e1, e2]; exact h1 s hs) (fun i hi => by unfold cpyI; rw [if_pos ⟨rfl, hi⟩, hq _ (by omega) (by omega)]) (fun e he => absurd he (by omega)))
    · have hT := hTs i hlt
      have hT2 := jTs i hlt
      have hKo := hT.1
      refine aw_iload_n dX1_copyFrom_2 rfl ?_
      refine aw_iconst (v := nI 4) dX1_copyFrom_3 rfl ?_
      refine aw_icmp_geN (tgt := 28) dX1_copyFrom_4 (by decide) (by omega) (by omega) (fun hc4 => absurd hc4 (by omega)) (fun hc4 => ?_)
      refine aw_aload_n dX1_copyFrom_7 rfl ?_
      refine aw_getR dX1_copyFrom_8 flX1_11 rfl (by assumption) (by assumption) ?_
      refine aw_iload_n dX1_copyFrom_11 rfl ?_
      refine aw_aald dX1_copyFrom_12 (by assumption) (by omega) (by omega) rfl (by omega) (hsr i hlt) ?_
      refine aw_aload_n dX1_copyFrom_13 rfl ?_
      refine aw_getR dX1_copyFrom_14 flX1_11 rfl (by assumption) (by assumption) ?_
      refine aw_iload_n dX1_copyFrom_17 rfl ?_
      refine aw_aald dX1_copyFrom_18 (by assumption) (by omega) (by omega) rfl (by omega) (jsr i hlt) ?_
      refine aw_vUp0 dX1_copyFrom_19 cvX1_36 ⟨Nat.le_of_ble_eq_true rfl, Nat.le_of_ble_eq_true rfl⟩ (by assumption) ⟨_, rfl, rfl⟩ (s_copyFrom hT hT2 (by omega) (show SR (I1 (q + 9 + 2 * i)) (I1 (q + 9 + 2 * i + 1)) (a.2.2 i) by rw [hq _ (by omega) (by omega), hq _ (by omega) (by omega)]; exact gS i hlt)) rfl rfl (Nat.le_of_ble_eq_true rfl) ⟨rfl, rfl⟩ ⟨Nat.zero_le _, Nat.zero_le _⟩ (fun I19 hP19 => ?_)
      refine aw_iincN (k := 1) (ls' := [(2, _), (0, _), (1, _)]) dX1_copyFrom_22 rfl rfl (by decide) rfl ?_
      refine aw_goto (tgt := 2) dX1_copyFrom_25 (by decide) ?_
      exact aw_pick [1, 2, 0] rfl (ih (4 - (i + 1)) (by omega) (i + 1) I19 rfl (by omega) (fun c hc => by rw [hP19.2.2 c (by omega) (by omega)]; exact hF c hc) (fun s hs => by
        by_cases e : s = i
        · subst e; exact ⟨hP19.1, by rw [hP19.2.1, hq _ (by omega) (by omega)]⟩
        · rw [hP19.2.2 _ (by omega) (by omega), hP19.2.2 (h + 9 + 2 * s + 1) (by omega) (by omega)]; exact h1 s (by omega)))
  refine run_of (ls := [(0, .ref (G.1 h)), (1, .ref (G.1 q))]) (by decide +kernel) rfl rfl (Nat.le_of_ble_eq_true rfl) ?_
  refine aw_iconst (v := nI 0) dX1_copyFrom_0 rfl ?_
  refine aw_istore_n (ls' := [(2, _), (0, _), (1, _)]) dX1_copyFrom_1 (by decide) rfl ?_
  exact aw_pick [1, 2, 0] rfl (loop1 4 0 I rfl (by decide) FrS.rf (fun s hs => absurd hs (by omega)))
theorem c_closeByHand (hL : LSt G K R h) (hS : CSt I h a) (hI : IV m k a) (hmk : m + k ≤ 900000000) (hst : st < 4) : Run G YX1_closeByHand [.ref (G.1 h), .int (nI st)] (K, R, I, J, z) (Up K R J z (some (.int (nI (a.2.2 st 2)))) (fun I' => CSt I' h (shutA a st) ∧ FrS h I I')) := by
  obtain ⟨hk0, hr0, hk1, hsr, hr1, hk2, hr2, hk3, hc0, hc1, hc2, hc3, hc4, hkc0, hkc1, hkc2, hkc3, hkc4, hTs, hh⟩ := id hL
  obtain ⟨hSG, hA, hn, hW⟩ := id hS
  have hT := hTs st hst
  have hSR := hSG.2.2.2.2 st hst
  have hg := hI.1
  have h16 := hI.2.1
  have hb := (hI.2.2.2.2.1 st hst).up hI.b
  have hC : ∀ c ∈ a.2.1, c 0 < 4 ∧ c 3 ≤ 1 := fun c hc => ⟨(hI.2.2.1 c hc).1, (hI.2.2.1 c hc).2.2.2.2.1⟩
  obtain ⟨s0, s1, ⟨nx, s2, s2a, s2b⟩, s3, s4, s5, s6, s78, s9, s10, s11, s13⟩ := id hSR
  obtain ⟨b0, b1, b2', b3, b4, b5, b6, b7, b8, b9, b10, b11, b12⟩ := id hb
  have hKo := hT.1
  have hTo := c_trialOf (J := J) (z := z) hL hA hn h16 hC hst
  have fin : ∀ I1 : Nat → Nat → Int32, (∀ q, q ≠ h + 7 → I1 q = I q) → (∀ (p : Nat) (c : Cl), a.2.1[p]? = some c → I1 (h + 7) p = nI (clrC st c 3)) → ∀ x, AW G YX1_closeByHand (MZ G YX1_closeByHand (Up K R J z (some (.int (nI (a.2.2 st 2)))) (fun I' => CSt I' h (shutA a st) ∧ FrS h I I'))) 30 [(0, .ref (G.1 h)), (1, .int (nI st)), (2, .int (nI (a.2.2 st 2))), (3, x)] [] (K, R, I1, J, z) 0 0 := by
    intro I1 h1 h7 x
    have hSR1 : SR (I1 (h + 9 + 2 * st)) (I1 (h + 9 + 2 * st + 1)) (a.2.2 st) := by rw [h1 _ (by omega), h1 _ (by omega)]; exact hSR
    have hSG1 : SG I1 h a.1 a.2.2 := by
      obtain ⟨g1, g2, g3, g4, g5⟩ := hSG
      exact ⟨fun i hi => by rw [h1 _ (by omega)]; exact g1 i hi, by rw [h1 _ (by omega)]; exact g2, by rw [h1 _ (by omega)]; exact g3, by rw [h1 _ (by omega)]; exact g4, fun s hs => by rw [h1 _ (by omega), h1 _ (by omega)]; exact g5 s hs⟩
    refine aw_aload_n dX1_closeByHand_30 rfl ?_
    refine aw_getR dX1_closeByHand_31 flX1_11 rfl (by assumption) (by assumption) ?_
    refine aw_iload_n dX1_closeByHand_34 rfl ?_
    refine aw_aald dX1_closeByHand_35 (by assumption) (by omega) (by omega) rfl (by omega) (hsr st hst) ?_
    refine aw_vUp0 dX1_closeByHand_36 cvX1_129 ⟨Nat.le_of_ble_eq_true rfl, Nat.le_of_ble_eq_true rfl⟩ (by assumption) ⟨_, rfl, rfl⟩ (s_shut hT hSR1 hb (by omega)) rfl rfl (Nat.le_of_ble_eq_true rfl) ⟨rfl, rfl⟩ ⟨Nat.zero_le _, Nat.zero_le _⟩ (fun I36 hP36 => ?_)
    refine aw_iload_n dX1_closeByHand_39 rfl ?_
    refine aw_iret dX1_closeByHand_40 rfl (Nat.zero_le _) (Nat.zero_le _) ?_
    refine ⟨rfl, _, rfl, ⟨SG.row hSG1 hst hP36.1 hP36.2.2, fun p c hp => ?_, ?_, ?_⟩, fun q hq => by rw [hP36.2.2 q (by omega), h1 q (by omega)]⟩
    · have hp2 : (a.2.1.map (clrC st))[p]? = some c := hp
      rw [List.getElem?_map] at hp2
      rcases hq : a.2.1[p]? with _ | c0
      · rw [hq] at hp2; cases hp2
      · rw [hq] at hp2
        cases hp2
        obtain ⟨a0, a1, a2, a3, a4⟩ := hA p c0 hq
        have hk : ∀ w, w ≠ 3 → clrC st c0 w = c0 w := fun w hw => by
          unfold clrC; split
          · exact u1_n hw
          · rfl
        rw [hP36.2.2 _ (by omega), hP36.2.2 _ (by omega), hP36.2.2 _ (by omega), hP36.2.2 _ (by omega), hP36.2.2 _ (by omega), h1 (h + 4) (by omega), h1 (h + 5) (by omega), h1 (h + 6) (by omega), h1 (h + 8) (by omega), hk 0 (by decide), hk 1 (by decide), hk 2 (by decide), hk 4 (by decide)]
        exact ⟨a0, a1, a2, h7 p c0 hq, a4⟩
    · rw [hP36.2.2 h (by omega), h1 h (by omega)]
      show _ = nI (a.2.1.map (clrC st)).length
      rw [List.length_map]; exact hn
    · rw [onWay_shut]
      exact hW.fr (fun s hs => by
        rw [(FrD.st hst hP36.2.2 hP36.2.1).2.2 s hs, h1 _ (by omega)])
  rcases htr : trF st a.2.1 0 with _ | p
  · rw [htr] at hTo
    have hh := trF_has st a.2.1 0
    rw [htr] at hh
    have hno : ∀ c ∈ a.2.1, ¬ isT st c = true := fun c hc => by
      have := List.any_eq_false.mp hh.symm c hc
      exact this
    refine run_of (ls := [(0, .ref (G.1 h)), (1, .int (nI st))]) (by decide +kernel) rfl rfl (Nat.le_of_ble_eq_true rfl) ?_
    refine aw_aload_n dX1_closeByHand_0 rfl ?_
    refine aw_getR dX1_closeByHand_1 flX1_11 rfl (by assumption) (by assumption) ?_
    refine aw_iload_n dX1_closeByHand_4 rfl ?_
    refine aw_aald dX1_closeByHand_5 (by assumption) (by omega) (by omega) rfl (by omega) (hsr st hst) ?_
    refine aw_getI dX1_closeByHand_6 flX1_61 rfl (by assumption) s3 ?_
    refine aw_istore_n (ls' := [(2, _), (0, _), (1, _)]) dX1_closeByHand_9 (by decide) rfl ?_
    refine aw_aload_n dX1_closeByHand_10 rfl ?_
    refine aw_iload_n dX1_closeByHand_11 rfl ?_
    refine aw_vRd dX1_closeByHand_12 cvX1_64 ⟨Nat.le_of_ble_eq_true rfl, Nat.le_of_ble_eq_true rfl⟩ (by assumption) ⟨_, rfl, rfl⟩ (hTo) rfl rfl (Nat.le_of_ble_eq_true rfl) ⟨rfl, rfl⟩ ⟨Nat.zero_le _, Nat.zero_le _⟩ ?_
    refine aw_istore_n (ls' := [(3, _), (2, _), (0, _), (1, _)]) dX1_closeByHand_15 (by decide) rfl ?_
    refine aw_iload_n dX1_closeByHand_16 rfl ?_
    refine aw_iconst (v := (-1)) dX1_closeByHand_17 rfl ?_
    refine aw_icmp_eq (tgt := 30) dX1_closeByHand_18 (by decide) (fun hc18 => ?_) (fun hc18 => absurd rfl hc18)
    exact aw_pick [2, 3, 1, 0] rfl (fin I (fun _ _ => rfl) (fun p c hp => by rw [clrC_0 (hno c (List.mem_of_getElem? hp)) (hC c (List.mem_of_getElem? hp)).2]; exact (hA p c hp).2.2.2.1) _)
  · rw [htr] at hTo
    obtain ⟨-, c, hc, hcT⟩ := trF_at htr
    rw [Nat.sub_zero] at hc
    have hpl := (List.getElem?_eq_some_iff.mp hc).1
    refine run_of (ls := [(0, .ref (G.1 h)), (1, .int (nI st))]) (by decide +kernel) rfl rfl (Nat.le_of_ble_eq_true rfl) ?_
    refine aw_aload_n dX1_closeByHand_0 rfl ?_
    refine aw_getR dX1_closeByHand_1 flX1_11 rfl (by assumption) (by assumption) ?_
    refine aw_iload_n dX1_closeByHand_4 rfl ?_
    refine aw_aald dX1_closeByHand_5 (by assumption) (by omega) (by omega) rfl (by omega) (hsr st hst) ?_
    refine aw_getI dX1_closeByHand_6 flX1_61 rfl (by assumption) s3 ?_
    refine aw_istore_n (ls' := [(2, _), (0, _), (1, _)]) dX1_closeByHand_9 (by decide) rfl ?_
    refine aw_aload_n dX1_closeByHand_10 rfl ?_
    refine aw_iload_n dX1_closeByHand_11 rfl ?_
    refine aw_vRd dX1_closeByHand_12 cvX1_64 ⟨Nat.le_of_ble_eq_true rfl, Nat.le_of_ble_eq_true rfl⟩ (by assumption) ⟨_, rfl, rfl⟩ (hTo) rfl rfl (Nat.le_of_ble_eq_true rfl) ⟨rfl, rfl⟩ ⟨Nat.zero_le _, Nat.zero_le _⟩ ?_
    refine aw_istore_n (ls' := [(3, _), (2, _), (0, _), (1, _)]) dX1_closeByHand_15 (by decide) rfl ?_
    refine aw_iload_n dX1_closeByHand_16 rfl ?_
    refine aw_iconst (v := (-1)) dX1_closeByHand_17 rfl ?_
    refine aw_icmp_eq (tgt := 30) dX1_closeByHand_18 (by decide) (fun hc18 => absurd hc18 (nI_m1 (by omega))) (fun hc18 => ?_)
    show AW G _ _ _ _ _ _ 0 0
    refine aw_aload_n dX1_closeByHand_21 rfl ?_
    refine aw_getR dX1_closeByHand_22 flX1_23 rfl (by assumption) (by assumption) ?_
    refine aw_iconst (v := nI 3) dX1_closeByHand_25 rfl ?_
    refine aw_aald dX1_closeByHand_26 (by assumption) (by omega) (by omega) rfl (by omega) (by assumption) ?_
    refine aw_iload_n dX1_closeByHand_27 rfl ?_
    refine aw_iconst (v := nI 0) dX1_closeByHand_28 rfl ?_
    refine aw_iast dX1_closeByHand_29 (by assumption) (by omega) (by omega) rfl (by omega) ?_
    refine aw_pick [2, 3, 1, 0] rfl (fin _ (fun q hq => FrO.up q hq) (fun p2 c2 hp2 => ?_) _)
    rw [up2_o]
    by_cases e : p2 = p
    · subst e
      cases Option.some.inj (hp2.symm.trans hc)
      have h0 : c 0 = st := by simp [isT] at hcT; exact hcT.1
      rw [if_pos rfl, clrC, if_pos h0, u1_s]
    · rw [if_neg e]
      have hno : ¬ isT st c2 = true := fun q => e (uniqP (hI.2.2.2.1 st) hp2 q hc hcT)
      rw [clrC_0 hno (hC c2 (List.mem_of_getElem? hp2)).2]
      exact (hA p2 c2 hp2).2.2.2.1
end CLASS8
