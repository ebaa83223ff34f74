/-! THE CLASS: a row is read -/
def RWr (I : Nat → Nat → Int32) (q : Nat) (r : List Nat) : Prop := ∀ j, j < 20 → I q j = nI (r.getD j 0)
theorem getD_app {r : List Nat} {v j : Nat} : (r ++ [v]).getD j 0 = if j = r.length then v else r.getD j 0 := by
  rw [List.getD_eq_getElem?_getD, List.getD_eq_getElem?_getD]
  by_cases e : j = r.length
  · subst e; rw [if_pos rfl, List.getElem?_append_right (Nat.le_refl _), Nat.sub_self]; rfl
  · rw [if_neg e]
    rcases Nat.lt_or_ge j r.length with h | h
    · rw [List.getElem?_append_left h]
    · rw [List.getElem?_eq_none (by simp; omega), List.getElem?_eq_none h]
theorem RWr.app {I I' : Nat → Nat → Int32} {q v : Nat} {r : List Nat} (h : RWr I q r) (h' : ∀ j, I' q j = if j = r.length then nI v else I q j) : RWr I' q (r ++ [v]) := fun j hj => by
  rw [h', getD_app]
  by_cases e : j = r.length
  · rw [if_pos e, if_pos e]
  · rw [if_neg e, if_neg e]; exact h j hj
section CLASS11
variable {G : GG} {K : Nat → Option (Nat × Nat)} {R : Nat → Nat → Value} {I : Nat → Nat → Int32} {J : Nat → Nat → Int64} {z : Nat} {σ : Sg} {a : AA} {m k : Nat}
variable {B : List Nat} {o b : Nat} {t : Rw}
theorem s_fill {q : Nat} (hq : K q = some (10, 20)) (hq9 : q < 1000) : Run G YJ7_fill_53178 [.ref (G.1 q), .int (nI 0)] (K, R, I, J, z) (Up K R J z none (fun I' => FrO q I I' ∧ ∀ j, j < 20 → I' q j = nI 0)) := by
  have loop : ∀ (d i : Nat) (I1 : Nat → Nat → Int32), 20 - i = d → i ≤ 20 → FrO q I I1 → (∀ j, j < i → I1 q j = nI 0) → AW G YJ7_fill_53178 (MZ G YJ7_fill_53178 (Up K R J z none (fun I' => FrO q I I' ∧ ∀ j, j < 20 → I' q j = nI 0))) 5 [(0, .ref (G.1 q)), (1, .int (nI 0)), (2, .int (nI i)), (3, .int (nI 20))] [] (K, R, I1, J, z) 0 0 := by
    intro d
    induction d using Nat.strongRecOn with
    | _ d ih =>
    intro i I1 hd hi hF h1
    refine aw_iload_n dJ7_fill_53178_5 rfl ?_
    refine aw_iload_n dJ7_fill_53178_6 rfl ?_
    refine aw_icmp_geN (tgt := 20) dJ7_fill_53178_7 (by decide) (by omega) (by omega) (fun hc7 => ?_) (fun hc7 => ?_)
    · exact aw_vret dJ7_fill_53178_20 rfl (Nat.zero_le _) (Nat.zero_le _) ⟨rfl, _, rfl, hF, fun j hj => h1 j (by omega)⟩
    · refine aw_aload_n dJ7_fill_53178_10 rfl ?_
      refine aw_iload_n dJ7_fill_53178_11 rfl ?_
      refine aw_iload_n dJ7_fill_53178_12 rfl ?_
      refine aw_iast dJ7_fill_53178_13 (by assumption) (by omega) (by omega) rfl (by omega) ?_
      refine aw_iincN (k := 1) (ls' := [(2, _), (0, _), (1, _), (3, _)]) dJ7_fill_53178_14 rfl rfl (by decide) rfl ?_
      refine aw_goto (tgt := 5) dJ7_fill_53178_17 (by decide) ?_
      exact aw_pick [1, 2, 0, 3] rfl (ih (20 - (i + 1)) (by omega) (i + 1) _ rfl (by omega) (hF.tr FrO.up) (fun j hj => by
        rw [up2_o]
        by_cases e : j = i
        · rw [if_pos e]
        · rw [if_neg e]; exact h1 j (by omega)))
  refine run_of (ls := [(0, .ref (G.1 q)), (1, .int (nI 0))]) (by decide +kernel) rfl rfl (Nat.le_of_ble_eq_true rfl) ?_
  refine aw_iconst (v := nI 0) dJ7_fill_53178_0 rfl ?_
  refine aw_istore_n (ls' := [(2, _), (0, _), (1, _)]) dJ7_fill_53178_1 (by decide) rfl ?_
  refine aw_aload_n dJ7_fill_53178_2 rfl ?_
  refine aw_alen dJ7_fill_53178_3 (by assumption) (by omega) ?_
  refine aw_istore_n (ls' := [(3, _), (2, _), (0, _), (1, _)]) dJ7_fill_53178_4 (by decide) rfl ?_
  exact aw_pick [2, 3, 1, 0] rfl (loop 20 0 I rfl (by decide) FrO.rf (fun j hj => absurd hj (by omega)))
theorem d_readInto {q : Nat} (hD : LD G K R) (hB : RDt I B) (hq : K q = some (10, 20)) (hq9 : q < 1000) (hqd : q ≠ 36) (hqd2 : q ≠ 37) (hok : (rdAll B).1 = true) : Run G YX0_readInto [.ref (G.1 36), .ref (G.1 q)] (K, R, I, J, z) (Up K R J z (some (.int (nI (rdAll B).2.2.length))) (fun I' => RWr I' q (rdAll B).2.2 ∧ FrO q I I')) := by
  obtain ⟨hk0, hr0, hk1⟩ := id hD
  obtain ⟨t1, t60, tc⟩ := id hB
  have hdlt : ∀ p, dig (B.getD p 0) = true → p < B.length := fun p hp => by
    rcases Nat.lt_or_ge p B.length with w | w
    · exact w
    · rw [getD_ge w, dig_0] at hp; cases hp
  have dg : ∀ (p pl x : Nat) (I1 : Nat → Nat → Int32), FrO q I I1 → dig (B.getD p 0) = true → pl < 20 → I1 q pl = nI x → x ≤ 9 → (∀ I2, I2 = up2 I1 q pl (nI (10 * x + (B.getD p 0 - 48))) → AW G YX0_readInto (MZ G YX0_readInto (Up K R J z (some (.int (nI (rdAll B).2.2.length))) (fun I' => RWr I' q (rdAll B).2.2 ∧ FrO q I I'))) 9 [(0, .ref (G.1 36)), (1, .ref (G.1 q)), (2, .int (nI pl)), (3, .int (nI (p + 1)))] [] (K, R, I2, J, z) 0 0) → AW G YX0_readInto (MZ G YX0_readInto (Up K R J z (some (.int (nI (rdAll B).2.2.length))) (fun I' => RWr I' q (rdAll B).2.2 ∧ FrO q I I'))) 9 [(0, .ref (G.1 36)), (1, .ref (G.1 q)), (2, .int (nI pl)), (3, .int (nI p))] [] (K, R, I1, J, z) 0 0 := by
    intro p pl x I1 hF hd hpl hx hx9 kk
    have hp := hdlt p hd
    have hdd := dig_t hd
    obtain ⟨c1, c2, c3⟩ := tc p _ (getD_lt hp)
    have c1' : I1 37 p = nI (B.getD p 0) := by rw [hF 37 (by omega)]; exact c1
    have t1' : I1 36 1 = nI B.length := by rw [hF 36 (by omega)]; exact t1
    have k9 := kk _ rfl
    refine aw_iload_n dX0_readInto_9 rfl ?_
    refine aw_aload_n dX0_readInto_10 rfl ?_
    refine aw_getI dX0_readInto_11 flX0_15 rfl (by assumption) t1' ?_
    refine aw_icmp_geN (tgt := 65) dX0_readInto_14 (by decide) (by omega) (by omega) (fun hc14 => absurd hc14 (by omega)) (fun hc14 => ?_)
    refine aw_iload_n dX0_readInto_17 rfl ?_
    refine aw_aload_n dX0_readInto_18 rfl ?_
    refine aw_alen dX0_readInto_19 (by assumption) (by omega) ?_
    refine aw_icmp_geN (tgt := 65) dX0_readInto_20 (by decide) (by omega) (by omega) (fun hc20 => absurd hc20 (by omega)) (fun hc20 => ?_)
    refine aw_aload_n dX0_readInto_23 rfl ?_
    refine aw_getR dX0_readInto_24 flX0_11 rfl (by assumption) (by assumption) ?_
    refine aw_iload_n dX0_readInto_27 rfl ?_
    refine aw_iald dX0_readInto_28 (by assumption) (by omega) rfl (by omega) c1' ?_
    refine aw_bipush (v := nI 44) dX0_readInto_29 rfl ?_
    refine aw_icmp_neN (tgt := 40) dX0_readInto_31 (by decide) (by omega) (by omega) (fun hc31 => ?_) (fun hc31 => absurd hc31 (by omega))
    refine aw_aload_n dX0_readInto_40 rfl ?_
    refine aw_iload_n dX0_readInto_41 rfl ?_
    refine aw_bipush (v := nI 10) dX0_readInto_42 rfl ?_
    refine aw_aload_n dX0_readInto_44 rfl ?_
    refine aw_iload_n dX0_readInto_45 rfl ?_
    refine aw_iald dX0_readInto_46 (by assumption) (by omega) rfl (by omega) hx ?_
    first | refine aw_imulN dX0_readInto_47 ?_ | refine aw_imul dX0_readInto_47 ?_
    refine aw_aload_n dX0_readInto_48 rfl ?_
    refine aw_getR dX0_readInto_49 flX0_11 rfl (by assumption) (by assumption) ?_
    refine aw_iload_n dX0_readInto_52 rfl ?_
    refine aw_iald dX0_readInto_53 (by assumption) (by omega) rfl (by omega) c1' ?_
    refine aw_bipush (v := nI 48) dX0_readInto_54 rfl ?_
    first | refine aw_isubN dX0_readInto_56 (by omega) ?_ | refine aw_isub dX0_readInto_56 ?_
    first | refine aw_iaddN dX0_readInto_57 ?_ | refine aw_iadd dX0_readInto_57 ?_
    refine aw_iast dX0_readInto_58 (by assumption) (by omega) (by omega) rfl (by omega) ?_
    refine aw_iincN (k := 1) (ls' := [(3, _), (0, _), (1, _), (2, _)]) dX0_readInto_59 rfl rfl (by decide) rfl ?_
    refine aw_goto (tgt := 9) dX0_readInto_62 (by decide) ?_
    exact aw_pick [1, 2, 3, 0] rfl k9
  have num : ∀ (p : Nat) (r : List Nat) (I1 : Nat → Nat → Int32), FrO q I I1 → r.length < 20 → RWr I1 q r → (rdNum B p r).1 = true → (∀ I2, FrO q I I2 → RWr I2 q (rdNum B p r).2.2 → AW G YX0_readInto (MZ G YX0_readInto (Up K R J z (some (.int (nI (rdAll B).2.2.length))) (fun I' => RWr I' q (rdAll B).2.2 ∧ FrO q I I'))) 9 [(0, .ref (G.1 36)), (1, .ref (G.1 q)), (2, .int (nI r.length)), (3, .int (nI (rdNum B p r).2.1))] [] (K, R, I2, J, z) 0 0) → AW G YX0_readInto (MZ G YX0_readInto (Up K R J z (some (.int (nI (rdAll B).2.2.length))) (fun I' => RWr I' q (rdAll B).2.2 ∧ FrO q I I'))) 9 [(0, .ref (G.1 36)), (1, .ref (G.1 q)), (2, .int (nI r.length)), (3, .int (nI p))] [] (K, R, I1, J, z) 0 0 := by
    intro p r I1 hF hl hR h1 kk
    cases hd : dig (B.getD p 0) with
    | false => rw [rdNum_f hd] at h1; cases h1
    | true =>
      have hdd := dig_t hd
      have h0 : I1 q r.length = nI 0 := by rw [hR _ hl, getD_ge (Nat.le_refl _)]
      refine dg p r.length 0 I1 hF hd hl h0 (by decide) (fun I2 hI2 => ?_)
      by_cases h2 : 48 < B.getD p 0 ∧ dig (B.getD (p + 1) 0) = true
      · rw [rdNum_2 hd h2] at kk
        refine dg (p + 1) r.length (B.getD p 0 - 48) I2 (by rw [hI2]; exact hF.tr FrO.up) h2.2 hl (by rw [hI2, up2_o, if_pos rfl, Nat.mul_zero, Nat.zero_add]) (by omega) (fun I3 hI3 => ?_)
        refine kk I3 (by rw [hI3, hI2]; exact hF.tr (FrO.up.tr FrO.up)) (hR.app (fun j => ?_))
        rw [hI3, up2_o, hI2, up2_o]
        by_cases e : j = r.length
        · rw [if_pos e, if_pos e]
        · rw [if_neg e, if_neg e, if_neg e]
      · rw [rdNum_1 hd h2] at kk
        refine kk I2 (by rw [hI2]; exact hF.tr FrO.up) (hR.app (fun j => ?_))
        rw [hI2, up2_o, Nat.mul_zero, Nat.zero_add]
  have loop : ∀ (f p : Nat) (r : List Nat) (I1 : Nat → Nat → Int32), rdLoop B f p r = rdAll B → B.length ≤ p + f → p ≤ 200 → 1 ≤ r.length → r.length ≤ 20 → FrO q I I1 → RWr I1 q r → AW G YX0_readInto (MZ G YX0_readInto (Up K R J z (some (.int (nI (rdAll B).2.2.length))) (fun I' => RWr I' q (rdAll B).2.2 ∧ FrO q I I'))) 9 [(0, .ref (G.1 36)), (1, .ref (G.1 q)), (2, .int (nI (r.length - 1))), (3, .int (nI p))] [] (K, R, I1, J, z) 0 0 := by
    intro f
    have fin : ∀ (p : Nat) (r : List Nat) (I1 : Nat → Nat → Int32), (true, p, r) = rdAll B → B.length ≤ p → p ≤ 200 → 1 ≤ r.length → r.length ≤ 20 → FrO q I I1 → RWr I1 q r → AW G YX0_readInto (MZ G YX0_readInto (Up K R J z (some (.int (nI (rdAll B).2.2.length))) (fun I' => RWr I' q (rdAll B).2.2 ∧ FrO q I I'))) 9 [(0, .ref (G.1 36)), (1, .ref (G.1 q)), (2, .int (nI (r.length - 1))), (3, .int (nI p))] [] (K, R, I1, J, z) 0 0 := by
      intro p r I1 he hp hp2 hr hr2 hF hR
      have t1' : I1 36 1 = nI B.length := by rw [hF 36 (by omega)]; exact t1
      refine aw_iload_n dX0_readInto_9 rfl ?_
      refine aw_aload_n dX0_readInto_10 rfl ?_
      refine aw_getI dX0_readInto_11 flX0_15 rfl (by assumption) t1' ?_
      refine aw_icmp_geN (tgt := 65) dX0_readInto_14 (by decide) (by omega) (by omega) (fun hc14 => ?_) (fun hc14 => absurd hc14 (by omega))
      refine aw_iload_n dX0_readInto_65 rfl ?_
      refine aw_iconst (v := nI 1) dX0_readInto_66 rfl ?_
      first | refine aw_iaddN dX0_readInto_67 ?_ | refine aw_iadd dX0_readInto_67 ?_
      refine aw_aload_n dX0_readInto_68 rfl ?_
      refine aw_alen dX0_readInto_69 (by assumption) (by omega) ?_
      refine aw_min dX0_readInto_70 lkX0_37 (by omega) (by omega) (Nat.le_of_ble_eq_true rfl) (Nat.le_of_ble_eq_true rfl) ⟨Nat.zero_le _, Nat.zero_le _⟩ ?_
      exact aw_iret dX0_readInto_73 rfl (Nat.zero_le _) (Nat.zero_le _) ⟨by rw [← he, Nat.sub_add_cancel hr, Nat.min_eq_left hr2], _, rfl, by rw [← he]; exact hR, hF⟩
    induction f with
    | zero =>
      intro p r I1 he hf hp hr hr2 hF hR
      exact fin p r I1 he (by omega) hp hr hr2 hF hR
    | succ f ih =>
      intro p r I1 he hf hp hr hr2 hF hR
      rcases Nat.lt_or_ge p B.length with hlt | hge
      rotate_left
      · rw [rdLoop, if_neg (by omega)] at he
        exact fin p r I1 he hge hp hr hr2 hF hR
      · rw [rdLoop, if_pos hlt] at he
        by_cases hc : B.getD p 0 = 44 ∧ r.length < 20
        rotate_left
        · rw [if_neg hc] at he; rw [← he] at hok; cases hok
        · rw [if_pos hc] at he
          cases hn : (rdNum B (p + 1) r).1 with
          | false => rw [if_neg (by rw [hn]; decide)] at he; rw [← he, hn] at hok; cases hok
          | true =>
            rw [if_pos hn] at he
            obtain ⟨n1, n2, n3⟩ := rdNum_t hn
            obtain ⟨c1, c2, c3⟩ := tc p _ (getD_lt hlt)
            have c1' : I1 37 p = nI (B.getD p 0) := by rw [hF 37 (by omega)]; exact c1
            have t1' : I1 36 1 = nI B.length := by rw [hF 36 (by omega)]; exact t1
            have k9 := num (p + 1) r I1 hF hc.2 hR hn (fun I2 hF2 hR2 => by
              have h9 := ih (rdNum B (p + 1) r).2.1 (rdNum B (p + 1) r).2.2 I2 he (by omega) (by omega) (by omega) (by omega) hF2 hR2
              rw [show (rdNum B (p + 1) r).2.2.length - 1 = r.length by omega] at h9
              exact h9)
            refine aw_iload_n dX0_readInto_9 rfl ?_
            refine aw_aload_n dX0_readInto_10 rfl ?_
            refine aw_getI dX0_readInto_11 flX0_15 rfl (by assumption) t1' ?_
            refine aw_icmp_geN (tgt := 65) dX0_readInto_14 (by decide) (by omega) (by omega) (fun hc14 => absurd hc14 (by omega)) (fun hc14 => ?_)
            refine aw_iload_n dX0_readInto_17 rfl ?_
            refine aw_aload_n dX0_readInto_18 rfl ?_
            refine aw_alen dX0_readInto_19 (by assumption) (by omega) ?_
            refine aw_icmp_geN (tgt := 65) dX0_readInto_20 (by decide) (by omega) (by omega) (fun hc20 => absurd hc20 (by omega)) (fun hc20 => ?_)
            refine aw_aload_n dX0_readInto_23 rfl ?_
            refine aw_getR dX0_readInto_24 flX0_11 rfl (by assumption) (by assumption) ?_
            refine aw_iload_n dX0_readInto_27 rfl ?_
            refine aw_iald dX0_readInto_28 (by assumption) (by omega) rfl (by omega) c1' ?_
            refine aw_bipush (v := nI 44) dX0_readInto_29 rfl ?_
            refine aw_icmp_neN (tgt := 40) dX0_readInto_31 (by decide) (by omega) (by omega) (fun hc31 => absurd hc.1 hc31) (fun hc31 => ?_)
            refine aw_iincN (k := 1) (ls' := [(2, _), (0, _), (1, _), (3, _)]) dX0_readInto_34 rfl rfl (by decide) rfl ?_
            rw [Nat.sub_add_cancel hr]
            refine aw_goto (tgt := 59) dX0_readInto_37 (by decide) ?_
            refine aw_iincN (k := 1) (ls' := [(3, _), (2, _), (0, _), (1, _)]) dX0_readInto_59 rfl rfl (by decide) rfl ?_
            refine aw_goto (tgt := 9) dX0_readInto_62 (by decide) ?_
            exact aw_pick [2, 3, 1, 0] rfl k9
  refine run_of (ls := [(0, .ref (G.1 36)), (1, .ref (G.1 q))]) (by decide +kernel) rfl rfl (Nat.le_of_ble_eq_true rfl) ?_
  refine aw_aload_n dX0_readInto_0 rfl ?_
  refine aw_iconst (v := nI 0) dX0_readInto_1 rfl ?_
  refine aw_sUp0 dX0_readInto_2 cvX0_31 ⟨Nat.le_of_ble_eq_true rfl, Nat.le_of_ble_eq_true rfl⟩ (s_fill hq hq9) rfl rfl (Nat.le_of_ble_eq_true rfl) ⟨rfl, rfl⟩ ⟨Nat.zero_le _, Nat.zero_le _⟩ (fun I2 hP2 => ?_)
  refine aw_iconst (v := nI 0) dX0_readInto_5 rfl ?_
  refine aw_istore_n (ls' := [(2, _), (0, _), (1, _)]) dX0_readInto_6 (by decide) rfl ?_
  refine aw_iconst (v := nI 0) dX0_readInto_7 rfl ?_
  refine aw_istore_n (ls' := [(3, _), (2, _), (0, _), (1, _)]) dX0_readInto_8 (by decide) rfl ?_
  have hn : (rdNum B 0 []).1 = true := by
    cases q : (rdNum B 0 []).1
    · unfold rdAll at hok; rw [if_neg (by rw [q]; decide), q] at hok; cases hok
    · rfl
  obtain ⟨n1, n2, n3⟩ := rdNum_t hn
  have n3 : (rdNum B 0 []).2.2.length = 1 := n3
  have he : rdLoop B B.length (rdNum B 0 []).2.1 (rdNum B 0 []).2.2 = rdAll B := by unfold rdAll; rw [if_pos hn]
  exact aw_pick [2, 3, 1, 0] rfl (num 0 [] I2 hP2.1 (by decide) (fun j hj => by rw [hP2.2 j hj, getD_ge (Nat.zero_le _)]) hn (fun I3 hF3 hR3 => by
    have h9 := loop B.length (rdNum B 0 []).2.1 (rdNum B 0 []).2.2 I3 he (by omega) (by omega) (by omega) (by omega) hF3 hR3
    rw [n3] at h9
    exact h9))
theorem s_takeRow (hT : LT K R G o) (hS : SR (I o) (I (o + 1)) t) (ho38 : 38 ≤ o ∨ o + 1 < 36) (hD : LD G K R) (hB : RDt I B) (hok : (rdAll B).1 = true) : Run G YX2_takeRow [.ref (G.1 o), .ref (G.1 36)] (K, R, I, J, z) (Up K R J z (some (.int (nI (t 0)))) (fun I' => SR (I' o) (I' (o + 1)) (rowR (rdAll B).2.2 t) ∧ I' o 12 = I o 12 ∧ ∀ q, q ≠ o → q ≠ o + 1 → I' q = I q)) := by
  obtain ⟨hk0, hr0, hk1, ho⟩ := hT
  obtain ⟨s0, s1, ⟨nx, s2, s2a, s2b⟩, s3, s4, s5, s6, s78, s9, s10, s11, s13⟩ := id hS
  have hD1 := hD.1
  refine run_of (ls := [(0, .ref (G.1 o)), (1, .ref (G.1 36))]) (by decide +kernel) rfl rfl (Nat.le_of_ble_eq_true rfl) ?_
  refine aw_aload_n dX2_takeRow_0 rfl ?_
  refine aw_getI dX2_takeRow_1 flX2_15 rfl (by assumption) s1 ?_
  refine aw_istore_n (ls' := [(2, _), (0, _), (1, _)]) dX2_takeRow_4 (by decide) rfl ?_
  refine aw_aload_n dX2_takeRow_5 rfl ?_
  refine aw_aload_n dX2_takeRow_6 rfl ?_
  refine aw_aload_n dX2_takeRow_7 rfl ?_
  refine aw_getR dX2_takeRow_8 flX2_9 rfl (by assumption) (by assumption) ?_
  refine aw_vUp dX2_takeRow_11 cvX2_61 ⟨Nat.le_of_ble_eq_true rfl, Nat.le_of_ble_eq_true rfl⟩ (by assumption) ⟨_, rfl, rfl⟩ (d_readInto hD hB hk1 (by omega) (by omega) (by omega) hok) rfl rfl (Nat.le_of_ble_eq_true rfl) ⟨rfl, rfl⟩ ⟨Nat.zero_le _, Nat.zero_le _⟩ (fun I11 hP11 => ?_)
  refine aw_putI dX2_takeRow_14 flX2_15 rfl (by intro r hr; cases hr; rfl) (by assumption) (by omega) rfl rfl ?_
  refine aw_aload_n dX2_takeRow_17 rfl ?_
  refine aw_iconst (v := nI 0) dX2_takeRow_18 rfl ?_
  refine aw_putI dX2_takeRow_19 flX2_28 rfl (by intro r hr; cases hr; rfl) (by assumption) (by omega) rfl rfl ?_
  refine aw_iload_n dX2_takeRow_22 rfl ?_
  refine aw_iret dX2_takeRow_23 rfl (Nat.zero_le _) (Nat.zero_le _) ?_
  have hl1 := rdAll_1 hok
  refine ⟨rfl, _, rfl, ⟨fun j hj => ?_, ?_, ⟨0, ?_, by decide, ?_⟩, ?_, ?_, ?_, ?_, fun w => ⟨?_, ?_⟩, ?_, ?_, ?_, ?_⟩, ?_, fun q h1 h2 => ?_⟩
  · rw [FrO.up (o + 1) (by omega), FrO.up (o + 1) (by omega), hP11.1 j hj]
    refine congrArg nI ?_
    unfold rowR
    rw [if_neg (by omega), if_neg (by omega), if_pos (by omega), Nat.add_sub_cancel_left]
  · rw [up2_o, if_neg (by decide), up2_o, if_pos rfl]; rfl
  · rw [up2_o, if_pos rfl]
  · show (if 0 < (rdAll B).2.2.length then 0 else 0) = 0
    split <;> rfl
  all_goals first
  | (rw [up2_o, if_neg (by decide), up2_o, if_neg (by decide), hP11.2 o (by omega)]; first | exact s3 | exact s4 | exact s5 | exact s6 | exact (s78 w).1 | exact (s78 w).2 | exact s9 | exact s10 | exact s11 | exact s13)
  | (rw [up2_o, if_neg (by decide), up2_o, if_neg (by decide), hP11.2 o (by omega)]; done)
  | (rw [FrO.up q h1, FrO.up q h1, hP11.2 q h2])
end CLASS11
