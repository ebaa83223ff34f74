/-! THE CLASS: calls -/
/-- the first trial of a store -/
def trF (st : Nat) : List Cl → Nat → Option Nat
  | [], _ => none
  | c :: cs, n => if isT st c = true then some n else trF st cs (n + 1)
theorem trF_has (st : Nat) : ∀ (L : List Cl) (n : Nat), (trF st L n).isSome = L.any (fun c => c 0 == st && c 3 == 1)
  | [], _ => rfl
  | c :: cs, n => by
    unfold trF
    rw [List.any_cons]
    by_cases e : isT st c = true
    · rw [if_pos e]
      have : (c 0 == st && c 3 == 1) = true := e
      rw [this]; rfl
    · rw [if_neg e]
      have : (c 0 == st && c 3 == 1) = false := by simpa [isT] using e
      rw [this, Bool.false_or]; exact trF_has st cs (n + 1)
theorem trF_at {st : Nat} : ∀ {L : List Cl} {n p : Nat}, trF st L n = some p → n ≤ p ∧ ∃ c, L[p - n]? = some c ∧ isT st c = true
  | [], _, _, h => by cases h
  | c :: cs, n, p, h => by
    unfold trF at h
    split at h
    · next e => cases h; exact ⟨Nat.le_refl _, c, by rw [Nat.sub_self]; rfl, e⟩
    · obtain ⟨h1, c', h2, h3⟩ := trF_at h
      refine ⟨by omega, c', ?_, h3⟩
      rw [show p - n = (p - (n + 1)) + 1 by omega, List.getElem?_cons_succ]; exact h2
theorem callN_0 {a : AA} {st : Nat} (h : a.2.2 st 2 = 0) : 1 = callN a st := by
  have : refd a st = false := by simp [refd, h]
  unfold callN trN; rw [if_neg (by rw [this]; decide), if_neg (by omega)]
theorem callN_1' {a : AA} {st : Nat} (h : a.2.2 st 2 = 1) : 0 = callN a st := by
  have : refd a st = true := by simp [refd, h]
  unfold callN; rw [if_pos this]
theorem callN_2t {a : AA} {st : Nat} (h : a.2.2 st 2 = 2) (h' : hasTr a st = true) : 0 = callN a st := by
  have : refd a st = true := by simp [refd, h, h']
  unfold callN; rw [if_pos this]
theorem callN_2f {a : AA} {st : Nat} (h : a.2.2 st 2 = 2) (h' : hasTr a st = false) : 2 = callN a st := by
  have : refd a st = false := by simp [refd, h, h']
  unfold callN trN; rw [if_neg (by rw [this]; decide), if_pos h]
theorem callN_z {a : AA} {st : Nat} : callN a st = 0 ↔ refd a st = true := by
  unfold callN; split
  · next h => simp [h]
  · next h => simp [h]
theorem u1_comm {f : Nat → Nat} {i j x y : Nat} (h : i ≠ j) : u1 (u1 f i x) j y = u1 (u1 f j y) i x := by
  funext k; unfold u1
  by_cases e : k = i
  · subst e; rw [if_pos rfl, if_neg h, if_pos rfl]
  · rw [if_neg e, if_neg e]
def FrS (h : Nat) (I I' : Nat → Nat → Int32) : Prop := ∀ q, (q < h ∨ h + 17 ≤ q) → I' q = I q
theorem FrS.tr {h : Nat} {I I' I'' : Nat → Nat → Int32} (a : FrS h I I') (b : FrS h I' I'') : FrS h I I'' := fun q hq => (b q hq).trans (a q hq)
theorem FrS.rf {h : Nat} {I : Nat → Nat → Int32} : FrS h I I := fun _ _ => rfl
theorem FrD.s {h : Nat} {I I' : Nat → Nat → Int32} (a : FrD h I I') : FrS h I I' := fun q hq => a.1 q (by omega)
theorem FrS.o {h o : Nat} {I I' : Nat → Nat → Int32} (a : FrO o I I') (h1 : h ≤ o) (h2 : o < h + 17) : FrS h I I' := fun q hq => a q (by omega)
theorem CA.fr {h : Nat} {I I' : Nat → Nat → Int32} {L : List Cl} (hA : CA I h L) (h1 : ∀ q, h + 4 ≤ q → q ≤ h + 8 → I' q = I q) : CA I' h L := fun p c hp => by
  rw [h1 _ (by omega) (by omega), h1 _ (by omega) (by omega), h1 _ (by omega) (by omega), h1 _ (by omega) (by omega), h1 _ (by omega) (by omega)]; exact hA p c hp
theorem CW.fr {h : Nat} {I I' : Nat → Nat → Int32} {n : Nat → Nat} (hW : CW I h n) (h1 : ∀ st, st < 4 → I' (h + 9 + 2 * st) 12 = I (h + 9 + 2 * st) 12) : CW I' h n := fun s hs => by rw [h1 s hs]; exact hW s hs
section CLASS4
variable {G : GG} {K : Nat → Option (Nat × Nat)} {R : Nat → Nat → Value} {I : Nat → Nat → Int32} {J : Nat → Nat → Int64} {z : Nat} {σ : Sg} {a : AA} {m k : Nat}
variable {h b st : Nat} {g : Nat → Nat} {T : Nat → Rw} {L : List Cl}
theorem c_trialOf (hL : LSt G K R h) (hA : CA I h L) (hn : I h 3 = nI L.length) (h16 : L.length ≤ 16) (hC : ∀ c ∈ L, c 0 < 4 ∧ c 3 ≤ 1) (hst : st < 4) : Run G YX1_trialOf [.ref (G.1 h), .int (nI st)] (K, R, I, J, z) (Rd (K, R, I, J, z) (.int (oI (trF st L 0)))) := by
  obtain ⟨hk0, hr0, hk1, hsr, hr1, hk2, hr2, hk3, hc0, hc1, hc2, hc3, hc4, hkc0, hkc1, hkc2, hkc3, hkc4, hTs, hh⟩ := id hL
  have loop : ∀ (suf pre : List Cl), L = pre ++ suf → trF st L 0 = trF st suf pre.length → AW G YX1_trialOf (MZ G YX1_trialOf (Rd (K, R, I, J, z) (.int (oI (trF st L 0))))) 2 [(0, .ref (G.1 h)), (1, .int (nI st)), (2, .int (nI pre.length))] [] (K, R, I, J, z) 0 0 := by
    intro suf
    induction suf with
    | nil =>
      intro pre hp ht
      rw [List.append_nil] at hp
      subst hp
      refine aw_iload_n dX1_trialOf_2 rfl ?_
      refine aw_aload_n dX1_trialOf_3 rfl ?_
      refine aw_getI dX1_trialOf_4 flX1_40 rfl (by assumption) hn ?_
      refine aw_icmp_geN (tgt := 42) dX1_trialOf_7 (by decide) (by omega) (by omega) (fun hc7 => ?_) (fun hc7 => absurd hc7 (by omega))
      refine aw_iconst (v := (-1)) dX1_trialOf_42 rfl ?_
      exact aw_iret dX1_trialOf_43 rfl (Nat.zero_le _) (Nat.zero_le _) ⟨by rw [ht]; rfl, rfl⟩
    | cons c cs ih =>
      intro pre hp ht
      have hlen : L.length = pre.length + cs.length + 1 := by rw [hp]; simp [Nat.add_assoc]
      have hc : L[pre.length]? = some c := by rw [hp]; simp
      obtain ⟨a0, a1, a2, a3, a4⟩ := hA pre.length c hc
      obtain ⟨c0, c3⟩ := hC c (List.mem_of_getElem? hc)
      refine aw_iload_n dX1_trialOf_2 rfl ?_
      refine aw_aload_n dX1_trialOf_3 rfl ?_
      refine aw_getI dX1_trialOf_4 flX1_40 rfl (by assumption) hn ?_
      refine aw_icmp_geN (tgt := 42) dX1_trialOf_7 (by decide) (by omega) (by omega) (fun hc7 => absurd hc7 (by omega)) (fun hc7 => ?_)
      refine aw_aload_n dX1_trialOf_10 rfl ?_
      refine aw_getR dX1_trialOf_11 flX1_23 rfl (by assumption) (by assumption) ?_
      refine aw_iconst (v := nI 0) dX1_trialOf_14 rfl ?_
      refine aw_aald dX1_trialOf_15 (by assumption) (by omega) (by omega) rfl (by omega) (by assumption) ?_
      refine aw_iload_n dX1_trialOf_16 rfl ?_
      refine aw_iald dX1_trialOf_17 (by assumption) (by omega) rfl (by omega) a0 ?_
      refine aw_iload_n dX1_trialOf_18 rfl ?_
      refine aw_icmp_neN (tgt := 36) dX1_trialOf_19 (by decide) (by omega) (by omega) (fun hc19 => ?_) (fun hc19 => ?_)
      · refine aw_iincN (k := 1) (ls' := [(2, _), (0, _), (1, _)]) dX1_trialOf_36 rfl rfl (by decide) rfl ?_
        refine aw_goto (tgt := 2) dX1_trialOf_39 (by decide) ?_
        have ht2 : trF st (c :: cs) pre.length = trF st cs (pre.length + 1) := by
          rw [trF, if_neg (fun q => by simp [isT] at q; omega)]
        have h9 := ih (pre ++ [c]) (by rw [hp, List.append_assoc]; rfl) (by rw [ht, ht2, List.length_append]; rfl)
        rw [List.length_append] at h9
        exact aw_pick [1, 2, 0] rfl h9
      · refine aw_aload_n dX1_trialOf_22 rfl ?_
        refine aw_getR dX1_trialOf_23 flX1_23 rfl (by assumption) (by assumption) ?_
        refine aw_iconst (v := nI 3) dX1_trialOf_26 rfl ?_
        refine aw_aald dX1_trialOf_27 (by assumption) (by omega) (by omega) rfl (by omega) (by assumption) ?_
        refine aw_iload_n dX1_trialOf_28 rfl ?_
        refine aw_iald dX1_trialOf_29 (by assumption) (by omega) rfl (by omega) a3 ?_
        refine aw_iconst (v := nI 1) dX1_trialOf_30 rfl ?_
        refine aw_icmp_neN (tgt := 36) dX1_trialOf_31 (by decide) (by omega) (by omega) (fun hc31 => ?_) (fun hc31 => ?_)
        · refine aw_iincN (k := 1) (ls' := [(2, _), (0, _), (1, _)]) dX1_trialOf_36 rfl rfl (by decide) rfl ?_
          refine aw_goto (tgt := 2) dX1_trialOf_39 (by decide) ?_
          have ht2 : trF st (c :: cs) pre.length = trF st cs (pre.length + 1) := by
            rw [trF, if_neg (fun q => by simp [isT] at q; omega)]
          have h9 := ih (pre ++ [c]) (by rw [hp, List.append_assoc]; rfl) (by rw [ht, ht2, List.length_append]; rfl)
          rw [List.length_append] at h9
          exact aw_pick [1, 2, 0] rfl h9
        · refine aw_iload_n dX1_trialOf_34 rfl ?_
          exact aw_iret dX1_trialOf_35 rfl (Nat.zero_le _) (Nat.zero_le _) ⟨by rw [ht, trF, if_pos (by simp [isT]; omega)]; rfl, rfl⟩
  refine run_of (ls := [(0, .ref (G.1 h)), (1, .int (nI st))]) (by decide +kernel) rfl rfl (Nat.le_of_ble_eq_true rfl) ?_
  refine aw_iconst (v := nI 0) dX1_trialOf_0 rfl ?_
  refine aw_istore_n (ls' := [(2, _), (0, _), (1, _)]) dX1_trialOf_1 (by decide) rfl ?_
  exact aw_pick [1, 2, 0] rfl (loop L [] rfl rfl)
theorem c_answerFor (hL : LSt G K R h) (hS : CSt I h a) (hI : IV m k a) (hmk : m + k ≤ 900000000) (hst : st < 4) : Run G YX1_answerFor [.ref (G.1 h), .int (nI st)] (K, R, I, J, z) (Rd (K, R, I, J, z) (.int (nI (callN a st)))) := by
  obtain ⟨hk0, hr0, hk1, hsr, hr1, hk2, hr2, hk3, hc0, hc1, hc2, hc3, hc4, hkc0, hkc1, hkc2, hkc3, hkc4, hTs, hh⟩ := id hL
  obtain ⟨hSG, hA, hn, hW⟩ := id hS
  have hT := hTs st hst
  have hSR := hSG.2.2.2.2 st hst
  have hg := hI.1
  have h16 := hI.2.1
  have hb := (hI.2.2.2.2.1 st hst).up hI.b
  have hC : ∀ c ∈ a.2.1, c 0 < 4 ∧ c 3 ≤ 1 := fun c hc => ⟨(hI.2.2.1 c hc).1, (hI.2.2.1 c hc).2.2.2.2.1⟩
  obtain ⟨s0, s1, ⟨nx, s2, s2a, s2b⟩, s3, s4, s5, s6, s78, s9, s10, s11, s13⟩ := id hSR
  obtain ⟨b0, b1, b2', b3, b4, b5, b6, b7, b8, b9, b10, b11, b12⟩ := id hb
  have hKo := hT.1
  have hh := trF_has st a.2.1 0
  rcases htr : trF st a.2.1 0 with _ | p
  · have hf : hasTr a st = false := by rw [htr] at hh; exact hh.symm
    have ho := c_trialOf (J := J) (z := z) hL hA hn h16 hC hst
    rw [htr] at ho
    refine run_of (ls := [(0, .ref (G.1 h)), (1, .int (nI st))]) (by decide +kernel) rfl rfl (Nat.le_of_ble_eq_true rfl) ?_
    refine aw_aload_n dX1_answerFor_0 rfl ?_
    refine aw_getR dX1_answerFor_1 flX1_11 rfl (by assumption) (by assumption) ?_
    refine aw_iload_n dX1_answerFor_4 rfl ?_
    refine aw_aald dX1_answerFor_5 (by assumption) (by omega) (by omega) rfl (by omega) (hsr st hst) ?_
    refine aw_getI dX1_answerFor_6 flX1_61 rfl (by assumption) s3 ?_
    refine aw_istore_n (ls' := [(2, _), (0, _), (1, _)]) dX1_answerFor_9 (by decide) rfl ?_
    refine aw_iload_n dX1_answerFor_10 rfl ?_
    refine aw_if_neN (tgt := 16) dX1_answerFor_11 (by decide) (by omega) (fun hc11 => ?_) (fun hc11 => ?_)
    · refine aw_iload_n dX1_answerFor_16 rfl ?_
      refine aw_iconst (v := nI 2) dX1_answerFor_17 rfl ?_
      refine aw_icmp_neN (tgt := 34) dX1_answerFor_18 (by decide) (by omega) (by omega) (fun hc18 => ?_) (fun hc18 => ?_)
      · refine aw_iconst (v := nI 0) dX1_answerFor_34 rfl ?_
        exact aw_iret dX1_answerFor_35 rfl (Nat.zero_le _) (Nat.zero_le _) ⟨by first | rw [← callN_0 hc11] | rw [← callN_2f hc18 hf] | rw [← callN_1' (show a.2.2 st 2 = 1 by omega)], rfl⟩
      · refine aw_aload_n dX1_answerFor_21 rfl ?_
        refine aw_iload_n dX1_answerFor_22 rfl ?_
        refine aw_vRd dX1_answerFor_23 cvX1_64 ⟨Nat.le_of_ble_eq_true rfl, Nat.le_of_ble_eq_true rfl⟩ (by assumption) ⟨_, rfl, rfl⟩ (ho) rfl rfl (Nat.le_of_ble_eq_true rfl) ⟨rfl, rfl⟩ ⟨Nat.zero_le _, Nat.zero_le _⟩ ?_
        refine aw_iconst (v := (-1)) dX1_answerFor_26 rfl ?_
        refine aw_icmp_ne (tgt := 34) dX1_answerFor_27 (by decide) (fun hc27 => absurd rfl hc27) (fun hc27 => ?_)
        refine aw_iconst (v := nI 2) dX1_answerFor_30 rfl ?_
        refine aw_goto (tgt := 35) dX1_answerFor_31 (by decide) ?_
        exact aw_iret dX1_answerFor_35 rfl (Nat.zero_le _) (Nat.zero_le _) ⟨by first | rw [← callN_0 hc11] | rw [← callN_2f hc18 hf] | rw [← callN_1' (show a.2.2 st 2 = 1 by omega)], rfl⟩
    · refine aw_iconst (v := nI 1) dX1_answerFor_14 rfl ?_
      exact aw_iret dX1_answerFor_15 rfl (Nat.zero_le _) (Nat.zero_le _) ⟨by first | rw [← callN_0 hc11] | rw [← callN_2f hc18 hf] | rw [← callN_1' (show a.2.2 st 2 = 1 by omega)], rfl⟩
  · have ht : hasTr a st = true := by rw [htr] at hh; exact hh.symm
    obtain ⟨-, c, hc, -⟩ := trF_at htr
    have hpl := (List.getElem?_eq_some_iff.mp hc).1
    have ho := c_trialOf (J := J) (z := z) hL hA hn h16 hC hst
    rw [htr] at ho
    refine run_of (ls := [(0, .ref (G.1 h)), (1, .int (nI st))]) (by decide +kernel) rfl rfl (Nat.le_of_ble_eq_true rfl) ?_
    refine aw_aload_n dX1_answerFor_0 rfl ?_
    refine aw_getR dX1_answerFor_1 flX1_11 rfl (by assumption) (by assumption) ?_
    refine aw_iload_n dX1_answerFor_4 rfl ?_
    refine aw_aald dX1_answerFor_5 (by assumption) (by omega) (by omega) rfl (by omega) (hsr st hst) ?_
    refine aw_getI dX1_answerFor_6 flX1_61 rfl (by assumption) s3 ?_
    refine aw_istore_n (ls' := [(2, _), (0, _), (1, _)]) dX1_answerFor_9 (by decide) rfl ?_
    refine aw_iload_n dX1_answerFor_10 rfl ?_
    refine aw_if_neN (tgt := 16) dX1_answerFor_11 (by decide) (by omega) (fun hc11 => ?_) (fun hc11 => ?_)
    · refine aw_iload_n dX1_answerFor_16 rfl ?_
      refine aw_iconst (v := nI 2) dX1_answerFor_17 rfl ?_
      refine aw_icmp_neN (tgt := 34) dX1_answerFor_18 (by decide) (by omega) (by omega) (fun hc18 => ?_) (fun hc18 => ?_)
      · refine aw_iconst (v := nI 0) dX1_answerFor_34 rfl ?_
        exact aw_iret dX1_answerFor_35 rfl (Nat.zero_le _) (Nat.zero_le _) ⟨by first | rw [← callN_0 hc11] | rw [← callN_2t hc18 ht] | rw [← callN_1' (show a.2.2 st 2 = 1 by omega)], rfl⟩
      · refine aw_aload_n dX1_answerFor_21 rfl ?_
        refine aw_iload_n dX1_answerFor_22 rfl ?_
        refine aw_vRd dX1_answerFor_23 cvX1_64 ⟨Nat.le_of_ble_eq_true rfl, Nat.le_of_ble_eq_true rfl⟩ (by assumption) ⟨_, rfl, rfl⟩ (ho) rfl rfl (Nat.le_of_ble_eq_true rfl) ⟨rfl, rfl⟩ ⟨Nat.zero_le _, Nat.zero_le _⟩ ?_
        refine aw_iconst (v := (-1)) dX1_answerFor_26 rfl ?_
        refine aw_icmp_ne (tgt := 34) dX1_answerFor_27 (by decide) (fun hc27 => ?_) (fun hc27 => absurd hc27 (nI_m1 (by omega)))
        refine aw_iconst (v := nI 0) dX1_answerFor_34 rfl ?_
        exact aw_iret dX1_answerFor_35 rfl (Nat.zero_le _) (Nat.zero_le _) ⟨by first | rw [← callN_0 hc11] | rw [← callN_2t hc18 ht] | rw [← callN_1' (show a.2.2 st 2 = 1 by omega)], rfl⟩
    · refine aw_iconst (v := nI 1) dX1_answerFor_14 rfl ?_
      exact aw_iret dX1_answerFor_15 rfl (Nat.zero_le _) (Nat.zero_le _) ⟨by first | rw [← callN_0 hc11] | rw [← callN_2t hc18 ht] | rw [← callN_1' (show a.2.2 st 2 = 1 by omega)], rfl⟩
theorem c_blocks (hL : LSt G K R h) (hS : CSt I h a) (hI : IV m k a) (hmk : m + k ≤ 900000000) (hst : st < 4) : Run G YX1_blocks [.ref (G.1 h), .int (nI st)] (K, R, I, J, z) (Rd (K, R, I, J, z) (.int (nI (if a.2.1.length = 16 ∧ refd a st = false then 1 else 0)))) := by
  obtain ⟨hk0, hr0, hk1, hsr, hr1, hk2, hr2, hk3, hc0, hc1, hc2, hc3, hc4, hkc0, hkc1, hkc2, hkc3, hkc4, hTs, hh⟩ := id hL
  obtain ⟨hSG, hA, hn, hW⟩ := id hS
  have hT := hTs st hst
  have hSR := hSG.2.2.2.2 st hst
  have hg := hI.1
  have h16 := hI.2.1
  have hb := (hI.2.2.2.2.1 st hst).up hI.b
  have hC : ∀ c ∈ a.2.1, c 0 < 4 ∧ c 3 ≤ 1 := fun c hc => ⟨(hI.2.2.1 c hc).1, (hI.2.2.1 c hc).2.2.2.2.1⟩
  obtain ⟨s0, s1, ⟨nx, s2, s2a, s2b⟩, s3, s4, s5, s6, s78, s9, s10, s11, s13⟩ := id hSR
  obtain ⟨b0, b1, b2', b3, b4, b5, b6, b7, b8, b9, b10, b11, b12⟩ := id hb
  have hKo := hT.1
  have hcn := callN_le a st
  have hcz := callN_z (a := a) (st := st)
  refine run_of (ls := [(0, .ref (G.1 h)), (1, .int (nI st))]) (by decide +kernel) rfl rfl (Nat.le_of_ble_eq_true rfl) ?_
  refine aw_aload_n dX1_blocks_0 rfl ?_
  refine aw_vRd dX1_blocks_1 cvX1_53 ⟨Nat.le_of_ble_eq_true rfl, Nat.le_of_ble_eq_true rfl⟩ (by assumption) ⟨_, rfl, rfl⟩ (c_isFull hL hn h16) rfl rfl (Nat.le_of_ble_eq_true rfl) ⟨rfl, rfl⟩ ⟨Nat.zero_le _, Nat.zero_le _⟩ ?_
  have hfx : (if a.2.1.length = 16 then 1 else 0) ≤ 1 := by split <;> omega
  obtain ⟨w, hw⟩ : ∃ w, w = (if a.2.1.length = 16 then 1 else 0) := ⟨_, rfl⟩
  rw [← hw] at hfx ⊢
  refine aw_if_eqN (tgt := 19) dX1_blocks_4 (by decide) (by omega) (fun hc4 => ?_) (fun hc4 => ?_)
  · refine aw_iconst (v := nI 0) dX1_blocks_19 rfl ?_
    refine aw_zret dX1_blocks_20 rfl (by first | rfl | (split <;> rfl)) (Nat.zero_le _) (Nat.zero_le _) ?_
    refine ⟨?_, rfl⟩
    first
    | (have h1 : a.2.1.length ≠ 16 := fun q => by rw [if_pos q] at hw; omega
       rw [if_neg (fun q => h1 q.1)])
    | (have h1 : a.2.1.length = 16 := by
         rcases Nat.decEq a.2.1.length 16 with q | q
         · rw [if_neg q] at hw; omega
         · exact q
       by_cases hq : callN a st = 0
       · have h2 := hcz.mp hq
         rw [if_pos hq, if_neg (fun q => by rw [h2] at q; exact absurd q.2 (by decide))]
       · have h2 : refd a st = false := by
           cases q : refd a st
           · rfl
           · exact absurd (hcz.mpr q) hq
         rw [if_neg hq, if_pos ⟨h1, h2⟩])
  · refine aw_aload_n dX1_blocks_7 rfl ?_
    refine aw_iload_n dX1_blocks_8 rfl ?_
    refine aw_vRd dX1_blocks_9 cvX1_57 ⟨Nat.le_of_ble_eq_true rfl, Nat.le_of_ble_eq_true rfl⟩ (by assumption) ⟨_, rfl, rfl⟩ (c_answerFor hL hS hI hmk hst) rfl rfl (Nat.le_of_ble_eq_true rfl) ⟨rfl, rfl⟩ ⟨Nat.zero_le _, Nat.zero_le _⟩ ?_
    refine aw_dia (tgt := 19) (jn := 20) (c1 := 1) (c0 := 0) dX1_blocks_12 (by decide) dX1_blocks_15 rfl dX1_blocks_16 (by decide) dX1_blocks_19 rfl rfl (by omega) rfl ?_
    refine aw_zret dX1_blocks_20 rfl (by first | rfl | (split <;> rfl)) (Nat.zero_le _) (Nat.zero_le _) ?_
    refine ⟨?_, rfl⟩
    first
    | (have h1 : a.2.1.length ≠ 16 := fun q => by rw [if_pos q] at hw; omega
       rw [if_neg (fun q => h1 q.1)])
    | (have h1 : a.2.1.length = 16 := by
         rcases Nat.decEq a.2.1.length 16 with q | q
         · rw [if_neg q] at hw; omega
         · exact q
       by_cases hq : callN a st = 0
       · have h2 := hcz.mp hq
         rw [if_pos hq, if_neg (fun q => by rw [h2] at q; exact absurd q.2 (by decide))]
       · have h2 : refd a st = false := by
           cases q : refd a st
           · rfl
           · exact absurd (hcz.mpr q) hq
         rw [if_neg hq, if_pos ⟨h1, h2⟩])
theorem c_sendOff {n : Nat → Nat} {d tr : Nat} (hL : LSt G K R h) (hS : SG I h g T) (hA : CA I h L) (hn : I h 3 = nI L.length) (hW : CW I h n) (hl : L.length < 16) (hst : st < 4) : Run G YX1_sendOff [.ref (G.1 h), .int (nI st), .int (nI d), .int (nI tr)] (K, R, I, J, z) (Up K R J z none (fun I' => SG I' h g T ∧ CA I' h (L ++ [mkC st d tr (T st 11)]) ∧ I' h 3 = nI (L.length + 1) ∧ CW I' h (u1 n st (n st + 1)) ∧ FrS h I I')) := by
  obtain ⟨hk0, hr0, hk1, hsr, hr1, hk2, hr2, hk3, hc0, hc1, hc2, hc3, hc4, hkc0, hkc1, hkc2, hkc3, hkc4, hTs, hh⟩ := id hL
  have hT := hTs st hst
  have hKo := hT.1
  have hSR := hS.2.2.2.2 st hst
  have s6 := hSR.2.2.2.2.2.2.1
  have hw := hW st hst
  have hfull := c_isFull (J := J) (z := z) hL hn (by omega)
  rw [if_neg (by omega)] at hfull
  refine run_of (ls := [(0, .ref (G.1 h)), (1, .int (nI st)), (2, .int (nI d)), (3, .int (nI tr))]) (by decide +kernel) rfl rfl (Nat.le_of_ble_eq_true rfl) ?_
  refine aw_aload_n dX1_sendOff_0 rfl ?_
  refine aw_vRd dX1_sendOff_1 cvX1_53 ⟨Nat.le_of_ble_eq_true rfl, Nat.le_of_ble_eq_true rfl⟩ (by assumption) ⟨_, rfl, rfl⟩ (hfull) rfl rfl (Nat.le_of_ble_eq_true rfl) ⟨rfl, rfl⟩ ⟨Nat.zero_le _, Nat.zero_le _⟩ ?_
  refine aw_if_eqN (tgt := 8) dX1_sendOff_4 (by decide) (by omega) (fun hc4 => ?_) (fun hc4 => absurd rfl hc4)
  refine aw_aload_n dX1_sendOff_8 rfl ?_
  refine aw_getR dX1_sendOff_9 flX1_23 rfl (by assumption) (by assumption) ?_
  refine aw_iconst (v := nI 0) dX1_sendOff_12 rfl ?_
  refine aw_aald dX1_sendOff_13 (by assumption) (by omega) (by omega) rfl (by omega) (by assumption) ?_
  refine aw_aload_n dX1_sendOff_14 rfl ?_
  refine aw_getI dX1_sendOff_15 flX1_40 rfl (by assumption) hn ?_
  refine aw_iload_n dX1_sendOff_18 rfl ?_
  refine aw_iast dX1_sendOff_19 (by assumption) (by omega) (by omega) rfl (by omega) ?_
  refine aw_aload_n dX1_sendOff_20 rfl ?_
  refine aw_getR dX1_sendOff_21 flX1_23 rfl (by assumption) (by assumption) ?_
  refine aw_iconst (v := nI 1) dX1_sendOff_24 rfl ?_
  refine aw_aald dX1_sendOff_25 (by assumption) (by omega) (by omega) rfl (by omega) (by assumption) ?_
  refine aw_aload_n dX1_sendOff_26 rfl ?_
  refine aw_getI dX1_sendOff_27 flX1_40 rfl (by assumption) (show _ = nI L.length by rw [FrO.up (h) (by omega)]; exact hn) ?_
  refine aw_iload_n dX1_sendOff_30 rfl ?_
  refine aw_iast dX1_sendOff_31 (by assumption) (by omega) (by omega) rfl (by omega) ?_
  refine aw_aload_n dX1_sendOff_32 rfl ?_
  refine aw_getR dX1_sendOff_33 flX1_23 rfl (by assumption) (by assumption) ?_
  refine aw_iconst (v := nI 2) dX1_sendOff_36 rfl ?_
  refine aw_aald dX1_sendOff_37 (by assumption) (by omega) (by omega) rfl (by omega) (by assumption) ?_
  refine aw_aload_n dX1_sendOff_38 rfl ?_
  refine aw_getI dX1_sendOff_39 flX1_40 rfl (by assumption) (show _ = nI L.length by rw [FrO.up (h) (by omega), FrO.up (h) (by omega)]; exact hn) ?_
  refine aw_iload_n dX1_sendOff_42 rfl ?_
  refine aw_iast dX1_sendOff_43 (by assumption) (by omega) (by omega) rfl (by omega) ?_
  refine aw_aload_n dX1_sendOff_44 rfl ?_
  refine aw_getR dX1_sendOff_45 flX1_23 rfl (by assumption) (by assumption) ?_
  refine aw_iconst (v := nI 3) dX1_sendOff_48 rfl ?_
  refine aw_aald dX1_sendOff_49 (by assumption) (by omega) (by omega) rfl (by omega) (by assumption) ?_
  refine aw_aload_n dX1_sendOff_50 rfl ?_
  refine aw_getI dX1_sendOff_51 flX1_40 rfl (by assumption) (show _ = nI L.length by rw [FrO.up (h) (by omega), FrO.up (h) (by omega), FrO.up (h) (by omega)]; exact hn) ?_
  refine aw_iload_n dX1_sendOff_54 rfl ?_
  refine aw_iast dX1_sendOff_55 (by assumption) (by omega) (by omega) rfl (by omega) ?_
  refine aw_aload_n dX1_sendOff_56 rfl ?_
  refine aw_getR dX1_sendOff_57 flX1_23 rfl (by assumption) (by assumption) ?_
  refine aw_iconst (v := nI 4) dX1_sendOff_60 rfl ?_
  refine aw_aald dX1_sendOff_61 (by assumption) (by omega) (by omega) rfl (by omega) (by assumption) ?_
  refine aw_aload_n dX1_sendOff_62 rfl ?_
  refine aw_getI dX1_sendOff_63 flX1_40 rfl (by assumption) (show _ = nI L.length by rw [FrO.up (h) (by omega), FrO.up (h) (by omega), FrO.up (h) (by omega), FrO.up (h) (by omega)]; exact hn) ?_
  refine aw_aload_n dX1_sendOff_66 rfl ?_
  refine aw_getR dX1_sendOff_67 flX1_11 rfl (by assumption) (by assumption) ?_
  refine aw_iload_n dX1_sendOff_70 rfl ?_
  refine aw_aald dX1_sendOff_71 (by assumption) (by omega) (by omega) rfl (by omega) (hsr st hst) ?_
  refine aw_getI dX1_sendOff_72 flX1_77 rfl (by assumption) (show _ = nI (T st 11) by rw [FrO.up (h + 9 + 2 * st) (by omega), FrO.up (h + 9 + 2 * st) (by omega), FrO.up (h + 9 + 2 * st) (by omega), FrO.up (h + 9 + 2 * st) (by omega)]; exact s6) ?_
  refine aw_iast dX1_sendOff_75 (by assumption) (by omega) (by omega) rfl (by omega) ?_
  refine aw_aload_n dX1_sendOff_76 rfl ?_
  refine aw_dup dX1_sendOff_77 rfl ?_
  refine aw_getI dX1_sendOff_78 flX1_40 rfl (by assumption) (show _ = nI L.length by rw [FrO.up (h) (by omega), FrO.up (h) (by omega), FrO.up (h) (by omega), FrO.up (h) (by omega), FrO.up (h) (by omega)]; exact hn) ?_
  refine aw_iconst (v := nI 1) dX1_sendOff_81 rfl ?_
  first | refine aw_iaddN dX1_sendOff_82 ?_ | refine aw_iadd dX1_sendOff_82 ?_
  refine aw_putI dX1_sendOff_83 flX1_40 rfl (by intro r hr; cases hr; rfl) (by assumption) (by omega) rfl rfl ?_
  refine aw_aload_n dX1_sendOff_86 rfl ?_
  refine aw_getR dX1_sendOff_87 flX1_11 rfl (by assumption) (by assumption) ?_
  refine aw_iload_n dX1_sendOff_90 rfl ?_
  refine aw_aald dX1_sendOff_91 (by assumption) (by omega) (by omega) rfl (by omega) (hsr st hst) ?_
  refine aw_dup dX1_sendOff_92 rfl ?_
  refine aw_getI dX1_sendOff_93 flX1_88 rfl (by assumption) (show _ = nI (n st) by rw [FrO.up (h + 9 + 2 * st) (by omega), FrO.up (h + 9 + 2 * st) (by omega), FrO.up (h + 9 + 2 * st) (by omega), FrO.up (h + 9 + 2 * st) (by omega), FrO.up (h + 9 + 2 * st) (by omega), FrO.up (h + 9 + 2 * st) (by omega)]; exact hw) ?_
  refine aw_iconst (v := nI 1) dX1_sendOff_96 rfl ?_
  first | refine aw_iaddN dX1_sendOff_97 ?_ | refine aw_iadd dX1_sendOff_97 ?_
  refine aw_putI dX1_sendOff_98 flX1_88 rfl (by intro r hr; cases hr; rfl) (by assumption) (by omega) rfl rfl ?_
  refine aw_vret dX1_sendOff_101 rfl (Nat.zero_le _) (Nat.zero_le _) ?_
  refine ⟨rfl, _, rfl, ?_, ?_, ?_, ?_, ?_⟩
  · obtain ⟨h1, h2, h3, h4, h5⟩ := hS
    refine ⟨fun i hi => by rw [FrO.up (h + 2) (by omega), FrO.up (h + 2) (by omega), FrO.up (h + 2) (by omega), FrO.up (h + 2) (by omega), FrO.up (h + 2) (by omega), FrO.up (h + 2) (by omega), FrO.up (h + 2) (by omega)]; exact h1 i hi, by rw [FrO.up (h) (by omega), up2_o, if_neg (by decide), FrO.up (h) (by omega), FrO.up (h) (by omega), FrO.up (h) (by omega), FrO.up (h) (by omega), FrO.up (h) (by omega)]; exact h2, by rw [FrO.up (h) (by omega), up2_o, if_neg (by decide), FrO.up (h) (by omega), FrO.up (h) (by omega), FrO.up (h) (by omega), FrO.up (h) (by omega), FrO.up (h) (by omega)]; exact h3, by rw [FrO.up (h) (by omega), up2_o, if_neg (by decide), FrO.up (h) (by omega), FrO.up (h) (by omega), FrO.up (h) (by omega), FrO.up (h) (by omega), FrO.up (h) (by omega)]; exact h4, fun s hs => ?_⟩
    by_cases e : s = st
    · subst e
      refine SR.up ?_
      rw [FrO.up (h + 9 + 2 * s) (by omega), FrO.up (h + 9 + 2 * s) (by omega), FrO.up (h + 9 + 2 * s) (by omega), FrO.up (h + 9 + 2 * s) (by omega), FrO.up (h + 9 + 2 * s) (by omega), FrO.up (h + 9 + 2 * s) (by omega), FrO.up (h + 9 + 2 * s + 1) (by omega), FrO.up (h + 9 + 2 * s + 1) (by omega), FrO.up (h + 9 + 2 * s + 1) (by omega), FrO.up (h + 9 + 2 * s + 1) (by omega), FrO.up (h + 9 + 2 * s + 1) (by omega), FrO.up (h + 9 + 2 * s + 1) (by omega)]
      exact SR.way hSR
    · rw [FrO.up (h + 9 + 2 * s) (by omega), FrO.up (h + 9 + 2 * s) (by omega), FrO.up (h + 9 + 2 * s) (by omega), FrO.up (h + 9 + 2 * s) (by omega), FrO.up (h + 9 + 2 * s) (by omega), FrO.up (h + 9 + 2 * s) (by omega), FrO.up (h + 9 + 2 * s) (by omega), FrO.up (h + 9 + 2 * s + 1) (by omega), FrO.up (h + 9 + 2 * s + 1) (by omega), FrO.up (h + 9 + 2 * s + 1) (by omega), FrO.up (h + 9 + 2 * s + 1) (by omega), FrO.up (h + 9 + 2 * s + 1) (by omega), FrO.up (h + 9 + 2 * s + 1) (by omega), FrO.up (h + 9 + 2 * s + 1) (by omega)]; exact h5 s hs
  · intro p c hp
    have hpl := (List.getElem?_eq_some_iff.mp hp).1
    rw [List.length_append, List.length_singleton] at hpl
    rw [FrO.up (h + 4) (by omega), FrO.up (h + 4) (by omega), FrO.up (h + 4) (by omega), FrO.up (h + 4) (by omega), FrO.up (h + 4) (by omega), FrO.up (h + 4) (by omega), FrO.up (h + 5) (by omega), FrO.up (h + 5) (by omega), FrO.up (h + 5) (by omega), FrO.up (h + 5) (by omega), FrO.up (h + 5) (by omega), FrO.up (h + 6) (by omega), FrO.up (h + 6) (by omega), FrO.up (h + 6) (by omega), FrO.up (h + 6) (by omega), FrO.up (h + 7) (by omega), FrO.up (h + 7) (by omega), FrO.up (h + 7) (by omega), FrO.up (h + 8) (by omega), FrO.up (h + 8) (by omega)]
    rw [up2_o, up2_o, up2_o, up2_o, up2_o, FrO.up (h + 5) (by omega), FrO.up (h + 6) (by omega), FrO.up (h + 6) (by omega), FrO.up (h + 7) (by omega), FrO.up (h + 7) (by omega), FrO.up (h + 7) (by omega), FrO.up (h + 8) (by omega), FrO.up (h + 8) (by omega), FrO.up (h + 8) (by omega), FrO.up (h + 8) (by omega)]
    by_cases e : p = L.length
    · subst e
      rw [List.getElem?_append_right (Nat.le_refl _), Nat.sub_self] at hp
      cases hp
      rw [if_pos rfl, if_pos rfl, if_pos rfl, if_pos rfl, if_pos rfl]
      exact ⟨rfl, rfl, rfl, rfl, rfl⟩
    · rw [if_neg e, if_neg e, if_neg e, if_neg e, if_neg e]
      rw [List.getElem?_append_left (by omega)] at hp
      exact hA p c hp
  · rw [FrO.up (h) (by omega), up2_o, if_pos rfl]
  · intro s hs
    by_cases e : s = st
    · subst e; rw [up2_o, if_pos rfl, u1_s]
    · rw [FrO.up (h + 9 + 2 * s) (by omega), FrO.up (h + 9 + 2 * s) (by omega), FrO.up (h + 9 + 2 * s) (by omega), FrO.up (h + 9 + 2 * s) (by omega), FrO.up (h + 9 + 2 * s) (by omega), FrO.up (h + 9 + 2 * s) (by omega), FrO.up (h + 9 + 2 * s) (by omega), u1_n e]; exact hW s hs
  · intro q hq
    rw [FrO.up (q) (by omega), FrO.up (q) (by omega), FrO.up (q) (by omega), FrO.up (q) (by omega), FrO.up (q) (by omega), FrO.up (q) (by omega), FrO.up (q) (by omega)]
end CLASS4
