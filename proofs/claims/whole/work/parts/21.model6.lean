/-! THE REFERENCE: a call is dropped -/
theorem RM_drop {f f' : Nat → Int32} {g : Nat → Nat} {T : Nat → Rw} {L1 L2 : List Cl} {c : Cl} (hM : RM f (g, L1 ++ c :: L2, T)) (h16 : (L1 ++ c :: L2).length ≤ 16) (hf : ∀ j, f' j = if 10 + 5 * L1.length ≤ j ∧ j < 10 + 5 * (L1 ++ L2).length then f (j + 5) else if j = 9 then nI (L1 ++ L2).length else f j) : RM f' (g, L1 ++ L2, T) := by
  obtain ⟨h1, h2, h3, h4⟩ := hM
  have hl : (L1 ++ c :: L2).length = (L1 ++ L2).length + 1 := by simp [Nat.add_assoc]
  have hl1 : L1.length ≤ (L1 ++ L2).length := by simp
  refine ⟨fun k hk => ?_, ?_, fun p c' hp w hw => ?_, fun s hs w hw => ?_⟩
  · rw [hf, if_neg (by omega), if_neg (by omega)]; exact h1 k hk
  · rw [hf, if_neg (by omega), if_pos rfl]
  · have hp : (L1 ++ L2)[p]? = some c' := hp
    have hpl := (List.getElem?_eq_some_iff.mp hp).1
    by_cases e : p < L1.length
    · rw [hf, if_neg (by omega), if_neg (by omega)]
      refine h3 p c' ?_ w hw
      show (L1 ++ c :: L2)[p]? = some c'
      rw [List.getElem?_append_left e] at hp ⊢; exact hp
    · rw [hf, if_pos (by omega)]
      have h := h3 (p + 1) c' (by
        show (L1 ++ c :: L2)[p + 1]? = some c'
        rw [List.getElem?_append_right (by omega)] at hp ⊢
        rw [show p + 1 - L1.length = (p - L1.length) + 1 by omega, List.getElem?_cons_succ]; exact hp) w hw
      rw [show 10 + 5 * p + w + 5 = 10 + 5 * (p + 1) + w by omega]; exact h
  · rw [hf, if_neg (by omega), if_neg (by omega)]; exact h4 s hs w hw
section MODEL6
variable {G : GG} {K : Nat → Option (Nat × Nat)} {R : Nat → Nat → Value} {I : Nat → Nat → Int32} {J : Nat → Nat → Int64} {z : Nat} {σ : Sg} {a : AA} {m k : Nat}
theorem r_drops (hL : LM G K R) {g : Nat → Nat} {T : Nat → Rw} {L1 L2 : List Cl} {c : Cl} {p : Nat} (hp : p = L1.length) (hM : RM (I 141) (g, L1 ++ c :: L2, T)) (h16 : (L1 ++ c :: L2).length ≤ 16) : Run G YX4_drops [.ref (G.1 140), .int (nI p)] (K, R, I, J, z) (Up K R J z none (fun I' => RM (I' 141) (g, L1 ++ L2, T) ∧ FrO 141 I I')) := by
  obtain ⟨hk0, hr1, hk1, hr2, hk2, hr3, hk3, hr5, hk5, hr9, hk9⟩ := hL
  have hL : LM G K R := ⟨hk0, hr1, hk1, hr2, hk2, hr3, hk3, hr5, hk5, hr9, hk9⟩
  have hl : (L1 ++ c :: L2).length = (L1 ++ L2).length + 1 := by simp [Nat.add_assoc]
  have hl1 : L1.length ≤ (L1 ++ L2).length := by simp
  generalize hn : (L1 ++ L2).length = n at hl hl1
  have loop2 : ∀ (d q : Nat) (I1 : Nat → Nat → Int32), 5 - q = d → q ≤ 5 → RM (I1 141) (g, L1 ++ L2, T) → FrO 141 I I1 → AW G YX4_drops (MZ G YX4_drops (Up K R J z none (fun I' => RM (I' 141) (g, L1 ++ L2, T) ∧ FrO 141 I I'))) 56 [(0, .ref (G.1 140)), (2, .int (nI q))] [] (K, R, I1, J, z) 0 0 := by
    intro d
    induction d using Nat.strongRecOn with
    | _ d ih =>
    intro q I1 hd hq hM1 hF1
    refine aw_iload_n dX4_drops_56 rfl ?_
    refine aw_iconst (v := nI 5) dX4_drops_57 rfl ?_
    refine aw_icmp_geN (tgt := 87) dX4_drops_58 (by decide) (by omega) (by omega) (fun hc58 => ?_) (fun hc58 => ?_)
    · exact aw_vret dX4_drops_87 rfl (Nat.zero_le _) (Nat.zero_le _) ⟨rfl, I1, rfl, hM1, hF1⟩
    · refine aw_aload_n dX4_drops_61 rfl ?_
      refine aw_getR dX4_drops_62 flX4_7 rfl (by assumption) (by assumption) ?_
      refine aw_bipush (v := nI 10) dX4_drops_65 rfl ?_
      refine aw_iconst (v := nI 5) dX4_drops_67 rfl ?_
      refine aw_aload_n dX4_drops_68 rfl ?_
      refine aw_getR dX4_drops_69 flX4_7 rfl (by assumption) (by assumption) ?_
      refine aw_bipush (v := nI 9) dX4_drops_72 rfl ?_
      refine aw_iald dX4_drops_74 (by assumption) (by omega) rfl (by omega) (show _ = nI n from hn ▸ hM1.2.1) ?_
      first | refine aw_imulN dX4_drops_75 ?_ | refine aw_imul dX4_drops_75 ?_
      first | refine aw_iaddN dX4_drops_76 ?_ | refine aw_iadd dX4_drops_76 ?_
      refine aw_iload_n dX4_drops_77 rfl ?_
      first | refine aw_iaddN dX4_drops_78 ?_ | refine aw_iadd dX4_drops_78 ?_
      refine aw_iconst (v := nI 0) dX4_drops_79 rfl ?_
      refine aw_iast dX4_drops_80 (by assumption) (by omega) (by omega) rfl (by omega) ?_
      refine aw_iincN (k := 1) (ls' := [(2, _), (0, _)]) dX4_drops_81 rfl rfl (by decide) rfl ?_
      refine aw_goto (tgt := 56) dX4_drops_84 (by decide) ?_
      exact aw_pick [1, 0] rfl (ih (5 - (q + 1)) (by omega) (q + 1) _ rfl (by omega) (RM_sl hM1 (i := 10 + 5 * n + q) (by show 10 + 5 * (L1 ++ L2).length ≤ _; omega) (by omega) (fun j => up2_o)) (hF1.tr FrO.up))
  have loop1 : ∀ (d q : Nat) (I1 : Nat → Nat → Int32), 5 * n - q = d → 5 * p ≤ q → q ≤ 5 * n → (∀ j, I1 141 j = if 10 + 5 * p ≤ j ∧ j < 10 + q then I 141 (j + 5) else if j = 9 then nI n else I 141 j) → FrO 141 I I1 → AW G YX4_drops (MZ G YX4_drops (Up K R J z none (fun I' => RM (I' 141) (g, L1 ++ L2, T) ∧ FrO 141 I I'))) 15 [(0, .ref (G.1 140)), (2, .int (nI q))] [] (K, R, I1, J, z) 0 0 := by
    intro d
    induction d using Nat.strongRecOn with
    | _ d ih =>
    intro q I1 hd hq1 hq2 hI1 hF1
    refine aw_iload_n dX4_drops_15 rfl ?_
    refine aw_iconst (v := nI 5) dX4_drops_16 rfl ?_
    refine aw_aload_n dX4_drops_17 rfl ?_
    refine aw_getR dX4_drops_18 flX4_7 rfl (by assumption) (by assumption) ?_
    refine aw_bipush (v := nI 9) dX4_drops_21 rfl ?_
    refine aw_iald dX4_drops_23 (by assumption) (by omega) rfl (by omega) (show _ = nI n by rw [hI1, if_neg (by omega), if_pos rfl]) ?_
    first | refine aw_imulN dX4_drops_24 ?_ | refine aw_imul dX4_drops_24 ?_
    refine aw_icmp_geN (tgt := 54) dX4_drops_25 (by decide) (by omega) (by omega) (fun hc25 => ?_) (fun hc25 => ?_)
    · refine aw_iconst (v := nI 0) dX4_drops_54 rfl ?_
      refine aw_istore_n (ls' := [(2, _), (0, _)]) dX4_drops_55 (by decide) rfl ?_
      exact aw_pick [1, 0] rfl (loop2 5 0 I1 rfl (by omega) (RM_drop hM h16 (fun j => by rw [hI1, ← hp, hn, show q = 5 * n by omega])) hF1)
    · refine aw_aload_n dX4_drops_28 rfl ?_
      refine aw_getR dX4_drops_29 flX4_7 rfl (by assumption) (by assumption) ?_
      refine aw_bipush (v := nI 10) dX4_drops_32 rfl ?_
      refine aw_iload_n dX4_drops_34 rfl ?_
      first | refine aw_iaddN dX4_drops_35 ?_ | refine aw_iadd dX4_drops_35 ?_
      refine aw_aload_n dX4_drops_36 rfl ?_
      refine aw_getR dX4_drops_37 flX4_7 rfl (by assumption) (by assumption) ?_
      refine aw_bipush (v := nI 10) dX4_drops_40 rfl ?_
      refine aw_iload_n dX4_drops_42 rfl ?_
      first | refine aw_iaddN dX4_drops_43 ?_ | refine aw_iadd dX4_drops_43 ?_
      refine aw_iconst (v := nI 5) dX4_drops_44 rfl ?_
      first | refine aw_iaddN dX4_drops_45 ?_ | refine aw_iadd dX4_drops_45 ?_
      refine aw_iald dX4_drops_46 (by assumption) (by omega) rfl (by omega) (show _ = I 141 (10 + q + 5) by rw [hI1, if_neg (by omega), if_neg (by omega)]) ?_
      refine aw_iast dX4_drops_47 (by assumption) (by omega) (by omega) rfl (by omega) ?_
      refine aw_iincN (k := 1) (ls' := [(2, _), (0, _)]) dX4_drops_48 rfl rfl (by decide) rfl ?_
      refine aw_goto (tgt := 15) dX4_drops_51 (by decide) ?_
      exact aw_pick [1, 0] rfl (ih (5 * n - (q + 1)) (by omega) (q + 1) _ rfl (by omega) (by omega) (fun j => by
        rw [up2_o]
        by_cases e : j = 10 + q
        · subst e; rw [if_pos rfl, if_pos (by omega)]
        · rw [if_neg e, hI1]
          by_cases e2 : 10 + 5 * p ≤ j ∧ j < 10 + q
          · rw [if_pos e2, if_pos (by omega)]
          · rw [if_neg e2, if_neg (c := 10 + 5 * p ≤ j ∧ j < 10 + (q + 1)) (by omega)]) (hF1.tr FrO.up))
  refine run_of (ls := [(0, .ref (G.1 140)), (1, .int (nI p))]) (by decide +kernel) rfl rfl (Nat.le_of_ble_eq_true rfl) ?_
  refine aw_aload_n dX4_drops_0 rfl ?_
  refine aw_getR dX4_drops_1 flX4_7 rfl (by assumption) (by assumption) ?_
  refine aw_bipush (v := nI 9) dX4_drops_4 rfl ?_
  refine aw_dup2 dX4_drops_6 rfl rfl ?_
  refine aw_iald dX4_drops_7 (by assumption) (by omega) rfl (by omega) (show _ = nI (n + 1) from hl ▸ hM.2.1) ?_
  refine aw_iconst (v := nI 1) dX4_drops_8 rfl ?_
  first | refine aw_isubN dX4_drops_9 (by omega) ?_ | refine aw_isub dX4_drops_9 ?_
  refine aw_iast dX4_drops_10 (by assumption) (by omega) (by omega) rfl (by omega) ?_
  refine aw_iconst (v := nI 5) dX4_drops_11 rfl ?_
  refine aw_iload_n dX4_drops_12 rfl ?_
  first | refine aw_imulN dX4_drops_13 ?_ | refine aw_imul dX4_drops_13 ?_
  refine aw_istore_n (ls' := [(2, _), (0, _), (1, _)]) dX4_drops_14 (by decide) rfl ?_
  exact aw_pick [1, 0] rfl (loop1 (5 * n - 5 * p) (5 * p) _ rfl (by omega) (by omega) (fun j => by
    rw [up2_o, if_neg (c := 10 + 5 * p ≤ j ∧ j < 10 + 5 * p) (by omega)]; rfl) FrO.up)
end MODEL6
