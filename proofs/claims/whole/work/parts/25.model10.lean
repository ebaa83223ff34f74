/-! THE REFERENCE: states kept, put aside, taken back -/
theorem RM_congr {f f' : Nat → Int32} {a : AA} (hM : RM f a) (h16 : a.2.1.length ≤ 16) (hf : ∀ k, k < 218 → f' k = f k) : RM f' a := by
  obtain ⟨h1, h2, h3, h4⟩ := hM
  refine ⟨fun k hk => ?_, ?_, fun p c hp w hw => ?_, fun s hs w hw => ?_⟩
  · rw [hf _ (by omega)]; exact h1 k hk
  · rw [hf _ (by decide)]; exact h2
  · have hpl := (List.getElem?_eq_some_iff.mp hp).1
    rw [hf _ (by omega)]; exact h3 p c hp w hw
  · rw [hf _ (by omega)]; exact h4 s hs w hw
/-- the states kept -/
def RH (I : Nat → Nat → Int32) (hs : List AA) : Prop :=
  I 140 4 = nI hs.length ∧ hs.length ≤ 6 ∧ ∀ (i : Nat) (x : AA), hs[i]? = some x → RM (fun k => I 143 (218 * i + k)) x ∧ x.2.1.length ≤ 16
def pushH (hs : List AA) (a : AA) : List AA := (if hs.length = 6 then hs.tail else hs) ++ [a]
theorem pushH_len {hs : List AA} {a : AA} (h : hs.length ≤ 6) : (pushH hs a).length ≤ 6 := by
  unfold pushH; split <;> simp <;> omega
section MODEL10
variable {G : GG} {K : Nat → Option (Nat × Nat)} {R : Nat → Nat → Value} {I : Nat → Nat → Int32} {J : Nat → Nat → Int64} {z : Nat} {σ : Sg} {a : AA} {hs : List AA} {m k : Nat}
theorem r_putAside (hL : LM G K R) : Run G YX4_putAside [.ref (G.1 140)] (K, R, I, J, z) (Up K R J z none (fun I' => FrO 142 I I' ∧ ∀ k, k < 218 → I' 142 k = I 141 k)) := by
  obtain ⟨hk0, hr1, hk1, hr2, hk2, hr3, hk3, hr5, hk5, hr9, hk9⟩ := hL
  have loop : ∀ (d q : Nat) (I1 : Nat → Nat → Int32), 218 - q = d → q ≤ 218 → FrO 142 I I1 → (∀ k, k < q → I1 142 k = I 141 k) → AW G YX4_putAside (MZ G YX4_putAside (Up K R J z none (fun I' => FrO 142 I I' ∧ ∀ k, k < 218 → I' 142 k = I 141 k))) 2 [(0, .ref (G.1 140)), (1, .int (nI q))] [] (K, R, I1, J, z) 0 0 := by
    intro d
    induction d using Nat.strongRecOn with
    | _ d ih =>
    intro q I1 hd hq hF hk
    refine aw_iload_n dX4_putAside_2 rfl ?_
    refine aw_sipush (v := nI 218) dX4_putAside_3 rfl ?_
    refine aw_icmp_geN (tgt := 27) dX4_putAside_6 (by decide) (by omega) (by omega) (fun hc6 => ?_) (fun hc6 => ?_)
    · exact aw_vret dX4_putAside_27 rfl (Nat.zero_le _) (Nat.zero_le _) ⟨rfl, I1, rfl, hF, fun k hk2 => hk k (by omega)⟩
    · refine aw_aload_n dX4_putAside_9 rfl ?_
      refine aw_getR dX4_putAside_10 flX4_13 rfl (by assumption) (by assumption) ?_
      refine aw_iload_n dX4_putAside_13 rfl ?_
      refine aw_aload_n dX4_putAside_14 rfl ?_
      refine aw_getR dX4_putAside_15 flX4_7 rfl (by assumption) (by assumption) ?_
      refine aw_iload_n dX4_putAside_18 rfl ?_
      refine aw_iald dX4_putAside_19 (by assumption) (by omega) rfl (by omega) (show _ = I 141 q by rw [hF 141 (by decide)]) ?_
      refine aw_iast dX4_putAside_20 (by assumption) (by omega) (by omega) rfl (by omega) ?_
      refine aw_iincN (k := 1) (ls' := [(1, _), (0, _)]) dX4_putAside_21 rfl rfl (by decide) rfl ?_
      refine aw_goto (tgt := 2) dX4_putAside_24 (by decide) ?_
      exact aw_pick [1, 0] rfl (ih (218 - (q + 1)) (by omega) (q + 1) _ rfl (by omega) (hF.tr FrO.up) (fun k hk2 => by
        rw [up2_o]
        by_cases e : k = q
        · rw [if_pos e, e]
        · rw [if_neg e]; exact hk k (by omega)))
  refine run_of (ls := [(0, .ref (G.1 140))]) (by decide +kernel) rfl rfl (Nat.le_of_ble_eq_true rfl) ?_
  refine aw_iconst (v := nI 0) dX4_putAside_0 rfl ?_
  refine aw_istore_n (ls' := [(1, _), (0, _)]) dX4_putAside_1 (by decide) rfl ?_
  exact aw_pick [1, 0] rfl (loop 218 0 I rfl (by decide) FrO.rf (fun k hk => absurd hk (by omega)))
theorem r_takeBack (hL : LM G K R) : Run G YX4_takeBack [.ref (G.1 140)] (K, R, I, J, z) (Up K R J z none (fun I' => FrO 141 I I' ∧ ∀ k, k < 218 → I' 141 k = I 142 k)) := by
  obtain ⟨hk0, hr1, hk1, hr2, hk2, hr3, hk3, hr5, hk5, hr9, hk9⟩ := hL
  have loop : ∀ (d q : Nat) (I1 : Nat → Nat → Int32), 218 - q = d → q ≤ 218 → FrO 141 I I1 → (∀ k, k < q → I1 141 k = I 142 k) → AW G YX4_takeBack (MZ G YX4_takeBack (Up K R J z none (fun I' => FrO 141 I I' ∧ ∀ k, k < 218 → I' 141 k = I 142 k))) 2 [(0, .ref (G.1 140)), (1, .int (nI q))] [] (K, R, I1, J, z) 0 0 := by
    intro d
    induction d using Nat.strongRecOn with
    | _ d ih =>
    intro q I1 hd hq hF hk
    refine aw_iload_n dX4_takeBack_2 rfl ?_
    refine aw_sipush (v := nI 218) dX4_takeBack_3 rfl ?_
    refine aw_icmp_geN (tgt := 27) dX4_takeBack_6 (by decide) (by omega) (by omega) (fun hc6 => ?_) (fun hc6 => ?_)
    · exact aw_vret dX4_takeBack_27 rfl (Nat.zero_le _) (Nat.zero_le _) ⟨rfl, I1, rfl, hF, fun k hk2 => hk k (by omega)⟩
    · refine aw_aload_n dX4_takeBack_9 rfl ?_
      refine aw_getR dX4_takeBack_10 flX4_7 rfl (by assumption) (by assumption) ?_
      refine aw_iload_n dX4_takeBack_13 rfl ?_
      refine aw_aload_n dX4_takeBack_14 rfl ?_
      refine aw_getR dX4_takeBack_15 flX4_13 rfl (by assumption) (by assumption) ?_
      refine aw_iload_n dX4_takeBack_18 rfl ?_
      refine aw_iald dX4_takeBack_19 (by assumption) (by omega) rfl (by omega) (show _ = I 142 q by rw [hF 142 (by decide)]) ?_
      refine aw_iast dX4_takeBack_20 (by assumption) (by omega) (by omega) rfl (by omega) ?_
      refine aw_iincN (k := 1) (ls' := [(1, _), (0, _)]) dX4_takeBack_21 rfl rfl (by decide) rfl ?_
      refine aw_goto (tgt := 2) dX4_takeBack_24 (by decide) ?_
      exact aw_pick [1, 0] rfl (ih (218 - (q + 1)) (by omega) (q + 1) _ rfl (by omega) (hF.tr FrO.up) (fun k hk2 => by
        rw [up2_o]
        by_cases e : k = q
        · rw [if_pos e, e]
        · rw [if_neg e]; exact hk k (by omega)))
  refine run_of (ls := [(0, .ref (G.1 140))]) (by decide +kernel) rfl rfl (Nat.le_of_ble_eq_true rfl) ?_
  refine aw_iconst (v := nI 0) dX4_takeBack_0 rfl ?_
  refine aw_istore_n (ls' := [(1, _), (0, _)]) dX4_takeBack_1 (by decide) rfl ?_
  exact aw_pick [1, 0] rfl (loop 218 0 I rfl (by decide) FrO.rf (fun k hk => absurd hk (by omega)))
theorem r_saves (hL : LM G K R) (hM : RM (I 141) a) (h16 : a.2.1.length ≤ 16) (hH : RH I hs) : Run G YX4_saves [.ref (G.1 140)] (K, R, I, J, z) (Up K R J z none (fun I' => RH I' (pushH hs a) ∧ (∀ q, q ≠ 143 → q ≠ 140 → I' q = I q) ∧ ∀ j, j ≠ 4 → I' 140 j = I 140 j)) := by
  obtain ⟨hk0, hr1, hk1, hr2, hk2, hr3, hk3, hr5, hk5, hr9, hk9⟩ := hL
  obtain ⟨hn, hn6, hx⟩ := hH
  have loop2 : ∀ (I0 : Nat → Nat → Int32) (hs0 : List AA), hs0.length ≤ 5 → pushH hs a = hs0 ++ [a] → I0 140 4 = nI hs0.length → (∀ q, q ≠ 143 → q ≠ 140 → I0 q = I q) → (∀ j, j ≠ 4 → I0 140 j = I 140 j) → (∀ (i : Nat) (x : AA), hs0[i]? = some x → RM (fun k => I0 143 (218 * i + k)) x ∧ x.2.1.length ≤ 16) →
      ∀ (d q : Nat) (I1 : Nat → Nat → Int32), 218 - q = d → q ≤ 218 → FrO 143 I0 I1 → (∀ j, I1 143 j = if 218 * hs0.length ≤ j ∧ j < 218 * hs0.length + q then I 141 (j - 218 * hs0.length) else I0 143 j) → AW G YX4_saves (MZ G YX4_saves (Up K R J z none (fun I' => RH I' (pushH hs a) ∧ (∀ q, q ≠ 143 → q ≠ 140 → I' q = I q) ∧ ∀ j, j ≠ 4 → I' 140 j = I 140 j))) 52 [(0, .ref (G.1 140)), (1, .int (nI q))] [] (K, R, I1, J, z) 0 0 := by
    intro I0 hs0 h5 hp hI0 hF0 hj0 hx0 d
    induction d using Nat.strongRecOn with
    | _ d ih =>
    intro q I1 hd hq hF hk
    have hn1 : I1 140 4 = nI hs0.length := by rw [hF 140 (by decide)]; exact hI0
    refine aw_iload_n dX4_saves_52 rfl ?_
    refine aw_sipush (v := nI 218) dX4_saves_53 rfl ?_
    refine aw_icmp_geN (tgt := 86) dX4_saves_56 (by decide) (by omega) (by omega) (fun hc56 => ?_) (fun hc56 => ?_)
    · refine aw_aload_n dX4_saves_86 rfl ?_
      refine aw_dup dX4_saves_87 rfl ?_
      refine aw_getI dX4_saves_88 flX4_37 rfl (by assumption) hn1 ?_
      refine aw_iconst (v := nI 1) dX4_saves_91 rfl ?_
      first | refine aw_iaddN dX4_saves_92 ?_ | refine aw_iadd dX4_saves_92 ?_
      refine aw_putI dX4_saves_93 flX4_37 rfl (by intro r hr; cases hr; rfl) (by assumption) (by omega) rfl rfl ?_
      exact aw_vret dX4_saves_96 rfl (Nat.zero_le _) (Nat.zero_le _) (by
  have hq : q = 218 := by omega
  subst hq
  refine ⟨rfl, _, rfl, ⟨?_, pushH_len hn6, fun i x hix => ?_⟩, fun q h1 h2 => ?_, fun j hj => ?_⟩
  · rw [hp]; simp [up2]
  · rw [hp] at hix
    have hil := (List.getElem?_eq_some_iff.mp hix).1
    rw [List.length_append, List.length_singleton] at hil
    by_cases e : i < hs0.length
    · rw [List.getElem?_append_left e] at hix
      obtain ⟨g1, g2⟩ := hx0 i x hix
      refine ⟨RM_congr g1 g2 (fun k hk2 => ?_), g2⟩
      show up2 I1 140 4 _ 143 (218 * i + k) = _
      rw [show up2 I1 140 4 (nI (hs0.length + 1)) 143 = I1 143 from FrO.up 143 (by decide), hk, if_neg (by omega)]
    · have hie : i = hs0.length := by omega
      subst hie
      rw [List.getElem?_append_right (Nat.le_refl _), Nat.sub_self] at hix
      cases hix
      refine ⟨RM_congr hM h16 (fun k hk2 => ?_), h16⟩
      show up2 I1 140 4 _ 143 (218 * hs0.length + k) = _
      rw [show up2 I1 140 4 (nI (hs0.length + 1)) 143 = I1 143 from FrO.up 143 (by decide), hk, if_pos (by omega)]
      exact congrArg (I 141) (by omega)
  · rw [FrO.up q h2, hF q h1, hF0 q h1 h2]
  · rw [up2_o, if_neg hj, hF 140 (by decide), hj0 j hj])
    · refine aw_aload_n dX4_saves_59 rfl ?_
      refine aw_getR dX4_saves_60 flX4_16 rfl (by assumption) (by assumption) ?_
      refine aw_sipush (v := nI 218) dX4_saves_63 rfl ?_
      refine aw_aload_n dX4_saves_66 rfl ?_
      refine aw_getI dX4_saves_67 flX4_37 rfl (by assumption) hn1 ?_
      first | refine aw_imulN dX4_saves_70 ?_ | refine aw_imul dX4_saves_70 ?_
      refine aw_iload_n dX4_saves_71 rfl ?_
      first | refine aw_iaddN dX4_saves_72 ?_ | refine aw_iadd dX4_saves_72 ?_
      refine aw_aload_n dX4_saves_73 rfl ?_
      refine aw_getR dX4_saves_74 flX4_7 rfl (by assumption) (by assumption) ?_
      refine aw_iload_n dX4_saves_77 rfl ?_
      refine aw_iald dX4_saves_78 (by assumption) (by omega) rfl (by omega) (show _ = I 141 q by rw [hF 141 (by decide), hF0 141 (by decide) (by decide)]) ?_
      refine aw_iast dX4_saves_79 (by assumption) (by omega) (by omega) rfl (by omega) ?_
      refine aw_iincN (k := 1) (ls' := [(1, _), (0, _)]) dX4_saves_80 rfl rfl (by decide) rfl ?_
      refine aw_goto (tgt := 52) dX4_saves_83 (by decide) ?_
      exact aw_pick [1, 0] rfl (ih (218 - (q + 1)) (by omega) (q + 1) _ rfl (by omega) (hF.tr FrO.up) (fun j => by
        rw [up2_o]
        by_cases e : j = 218 * hs0.length + q
        · subst e; rw [if_pos rfl, if_pos (by omega)]; exact congrArg (I 141) (by omega)
        · rw [if_neg e, hk]
          by_cases e2 : 218 * hs0.length ≤ j ∧ j < 218 * hs0.length + q
          · rw [if_pos e2, if_pos (by omega)]
          · rw [if_neg e2, if_neg (by omega)]))
  have loop1 : hs.length = 6 → ∀ (d q : Nat) (I1 : Nat → Nat → Int32), 1090 - q = d → q ≤ 1090 → FrO 143 I I1 → (∀ j, I1 143 j = if j < q then I 143 (j + 218) else I 143 j) → AW G YX4_saves (MZ G YX4_saves (Up K R J z none (fun I' => RH I' (pushH hs a) ∧ (∀ q, q ≠ 143 → q ≠ 140 → I' q = I q) ∧ ∀ j, j ≠ 4 → I' 140 j = I 140 j))) 11 [(0, .ref (G.1 140)), (1, .int (nI q))] [] (K, R, I1, J, z) 0 0 := by
    intro hs6 d
    induction d using Nat.strongRecOn with
    | _ d ih =>
    intro q I1 hd hq hF hk
    have hn1 : I1 140 4 = nI 6 := by rw [hF 140 (by decide), hn, hs6]
    refine aw_iload_n dX4_saves_11 rfl ?_
    refine aw_sipush (v := nI 1090) dX4_saves_12 rfl ?_
    refine aw_icmp_geN (tgt := 40) dX4_saves_15 (by decide) (by omega) (by omega) (fun hc15 => ?_) (fun hc15 => ?_)
    · refine aw_aload_n dX4_saves_40 rfl ?_
      refine aw_dup dX4_saves_41 rfl ?_
      refine aw_getI dX4_saves_42 flX4_37 rfl (by assumption) hn1 ?_
      refine aw_iconst (v := nI 1) dX4_saves_45 rfl ?_
      first | refine aw_isubN dX4_saves_46 (by omega) ?_ | refine aw_isub dX4_saves_46 ?_
      refine aw_putI dX4_saves_47 flX4_37 rfl (by intro r hr; cases hr; rfl) (by assumption) (by omega) rfl rfl ?_
      refine aw_iconst (v := nI 0) dX4_saves_50 rfl ?_
      refine aw_istore_n (ls' := [(1, _), (0, _)]) dX4_saves_51 (by decide) rfl ?_
      have htl : hs.tail.length = 5 := by rw [List.length_tail]; omega
      refine aw_pick [1, 0] rfl (loop2 (up2 I1 140 4 (nI (6 - 1))) hs.tail (by omega) (by unfold pushH; rw [if_pos hs6]) (by rw [htl]; simp [up2]) (fun q h1 h2 => by rw [FrO.up q h2, hF q h1]) (fun j hj => by rw [up2_o, if_neg hj, hF 140 (by decide)]) (fun i x hix => ?_) 218 0 _ rfl (by decide) FrO.rf (fun j => by rw [if_neg (by omega)]))
      have hil := (List.getElem?_eq_some_iff.mp hix).1
      have hix2 : hs[i + 1]? = some x := by rw [List.getElem?_tail] at hix; exact hix
      obtain ⟨g1, g2⟩ := hx (i + 1) x hix2
      refine ⟨RM_congr g1 g2 (fun k hk2 => ?_), g2⟩
      show up2 I1 140 4 _ 143 (218 * i + k) = _
      rw [show up2 I1 140 4 (nI (6 - 1)) 143 = I1 143 from FrO.up 143 (by decide), hk, if_pos (by omega)]
      exact congrArg (I 143) (by omega)
    · refine aw_aload_n dX4_saves_18 rfl ?_
      refine aw_getR dX4_saves_19 flX4_16 rfl (by assumption) (by assumption) ?_
      refine aw_iload_n dX4_saves_22 rfl ?_
      refine aw_aload_n dX4_saves_23 rfl ?_
      refine aw_getR dX4_saves_24 flX4_16 rfl (by assumption) (by assumption) ?_
      refine aw_iload_n dX4_saves_27 rfl ?_
      refine aw_sipush (v := nI 218) dX4_saves_28 rfl ?_
      first | refine aw_iaddN dX4_saves_31 ?_ | refine aw_iadd dX4_saves_31 ?_
      refine aw_iald dX4_saves_32 (by assumption) (by omega) rfl (by omega) (show _ = I 143 (q + 218) by rw [hk, if_neg (by omega)]) ?_
      refine aw_iast dX4_saves_33 (by assumption) (by omega) (by omega) rfl (by omega) ?_
      refine aw_iincN (k := 1) (ls' := [(1, _), (0, _)]) dX4_saves_34 rfl rfl (by decide) rfl ?_
      refine aw_goto (tgt := 11) dX4_saves_37 (by decide) ?_
      exact aw_pick [1, 0] rfl (ih (1090 - (q + 1)) (by omega) (q + 1) _ rfl (by omega) (hF.tr FrO.up) (fun j => by
        rw [up2_o]
        by_cases e : j = q
        · subst e; rw [if_pos rfl, if_pos (by omega)]
        · rw [if_neg e, hk]
          by_cases e2 : j < q
          · rw [if_pos e2, if_pos (by omega)]
          · rw [if_neg e2, if_neg (by omega)]))
  refine run_of (ls := [(0, .ref (G.1 140))]) (by decide +kernel) rfl rfl (Nat.le_of_ble_eq_true rfl) ?_
  refine aw_aload_n dX4_saves_0 rfl ?_
  refine aw_getI dX4_saves_1 flX4_37 rfl (by assumption) hn ?_
  refine aw_bipush (v := nI 6) dX4_saves_4 rfl ?_
  refine aw_icmp_neN (tgt := 50) dX4_saves_6 (by decide) (by omega) (by omega) (fun hc6 => ?_) (fun hc6 => ?_)
  · refine aw_iconst (v := nI 0) dX4_saves_50 rfl ?_
    refine aw_istore_n (ls' := [(1, _), (0, _)]) dX4_saves_51 (by decide) rfl ?_
    exact aw_pick [1, 0] rfl (loop2 I hs (by omega) (by unfold pushH; rw [if_neg hc6]) hn (fun _ _ _ => rfl) (fun _ _ => rfl) hx 218 0 I rfl (by decide) FrO.rf (fun j => by rw [if_neg (by omega)]))
  · refine aw_iconst (v := nI 0) dX4_saves_9 rfl ?_
    refine aw_istore_n (ls' := [(1, _), (0, _)]) dX4_saves_10 (by decide) rfl ?_
    exact aw_pick [1, 0] rfl (loop1 hc6 1090 0 I rfl (by decide) FrO.rf (fun j => by rw [if_neg (by omega)]))
end MODEL10
