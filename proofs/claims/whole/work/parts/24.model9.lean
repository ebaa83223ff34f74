/-! THE REFERENCE: the healthiest store, what is told -/
theorem bestN_c {a : AA} {q : Nat} (h : a.2.2 q 2 ≠ 0) : bestN a (q + 1) = bestN a q := by rw [bestN, if_neg h]
theorem bestN_n {a : AA} {q : Nat} (h : a.2.2 q 2 = 0) (hb : bestN a q = none) : bestN a (q + 1) = some q := by rw [bestN, if_pos h, hb]
theorem bestN_y {a : AA} {q b : Nat} (h : a.2.2 q 2 = 0) (hb : bestN a q = some b) (hc : badWinR a.1 (a.2.2 q) < badWinR a.1 (a.2.2 b) ∨ (badWinR a.1 (a.2.2 q) = badWinR a.1 (a.2.2 b) ∧ onWayN a q < onWayN a b)) : bestN a (q + 1) = some q := by
  rw [bestN, if_pos h, hb]; exact if_pos hc
theorem bestN_k {a : AA} {q b : Nat} (h : a.2.2 q 2 = 0) (hb : bestN a q = some b) (hc : ¬ (badWinR a.1 (a.2.2 q) < badWinR a.1 (a.2.2 b) ∨ (badWinR a.1 (a.2.2 q) = badWinR a.1 (a.2.2 b) ∧ onWayN a q < onWayN a b))) : bestN a (q + 1) = some b := by
  rw [bestN, if_pos h, hb]; exact if_neg hc
/-- what is told of a store -/
def tellN (a : AA) (st : Nat) : Nat → Nat
  | 0 => a.2.2 st 2
  | 1 => inWinR a.1 (a.2.2 st)
  | 2 => badWinR a.1 (a.2.2 st)
  | 3 => a.2.2 st 5
  | 4 => a.2.2 st 6
  | 5 => a.2.2 st 7
  | 6 => a.2.2 st 8
  | 7 => a.2.2 st 9
  | 8 => onWayN a st
  | 9 => a.2.2 st 10
  | _ => a.2.2 st (12 + a.2.2 st 1)
/-- over the first n stores -/
def ovN (a : AA) (w : Nat) : Nat → Nat
  | 0 => 0
  | n + 1 => ovN a w n + (if w = 6 then (if a.2.2 n 2 = 0 then 1 else 0) else a.2.2 n (if w = 2 then 7 else 8))
def cntN (a : AA) (sm : Nat) : Nat → Nat
  | 0 => a.1 5
  | 1 => a.2.1.length
  | 2 => ovN a 2 4
  | 3 => ovN a 3 4
  | 4 => a.1 6
  | 5 => a.1 7
  | 6 => ovN a 6 4
  | 7 => a.1 8
  | _ => sm
section MODEL9
variable {G : GG} {K : Nat → Option (Nat × Nat)} {R : Nat → Nat → Value} {I : Nat → Nat → Int32} {J : Nat → Nat → Int64} {z : Nat} {σ : Sg} {a : AA} {m k : Nat}
theorem r_bestStore (hL : LM G K R) (hM : RM (I 141) a) (hI : IV m k a) : Run G YX4_bestStore [.ref (G.1 140)] (K, R, I, J, z) (Rd (K, R, I, J, z) (.int (oI (bestN a 4)))) := by
  obtain ⟨hk0, hr1, hk1, hr2, hk2, hr3, hk3, hr5, hk5, hr9, hk9⟩ := hL
  have hL : LM G K R := ⟨hk0, hr1, hk1, hr2, hk2, hr3, hk3, hr5, hk5, hr9, hk9⟩
  have h16 := hI.2.1
  have hg := hI.1
  have hC : ∀ c ∈ a.2.1, c 0 < 4 ∧ c 3 ≤ 1 := fun c hc => ⟨(hI.2.2.1 c hc).1, (hI.2.2.1 c hc).2.2.2.2.1⟩
  have loop : ∀ (d q : Nat), 4 - q = d → q ≤ 4 → AW G YX4_bestStore (MZ G YX4_bestStore (Rd (K, R, I, J, z) (.int (oI (bestN a 4))))) 4 [(0, .ref (G.1 140)), (1, .int (oI (bestN a q))), (2, .int (nI q))] [] (K, R, I, J, z) 0 0 := by
    intro d
    induction d with
    | zero =>
      intro q hd hq
      refine aw_iload_n dX4_bestStore_4 rfl ?_
      refine aw_iconst (v := nI 4) dX4_bestStore_5 rfl ?_
      refine aw_icmp_geN (tgt := 89) dX4_bestStore_6 (by decide) (by omega) (by omega) (fun hc6 => ?_) (fun hc6 => absurd hc6 (by omega))
      refine aw_iload_n dX4_bestStore_89 rfl ?_
      exact aw_iret dX4_bestStore_90 rfl (Nat.zero_le _) (Nat.zero_le _) ⟨by rw [show q = 4 by omega], rfl⟩
    | succ d ih =>
      intro q hd hq
      have hRq := hI.2.2.2.2.1 q (by omega)
      have hq2 : a.2.2 q 2 ≤ 2 := hRq.2.2.2.1
      have hih := ih (q + 1) (by omega) (by omega)
      have w1 := onWayN_le a q
      have x1 := badWinR_le (t := a.2.2 q) hg
      cases hb : bestN a q with
      | none =>
        rw [show oI none = -1 from rfl]
        refine aw_iload_n dX4_bestStore_4 rfl ?_
        refine aw_iconst (v := nI 4) dX4_bestStore_5 rfl ?_
        refine aw_icmp_geN (tgt := 89) dX4_bestStore_6 (by decide) (by omega) (by omega) (fun hc6 => absurd hc6 (by omega)) (fun hc6 => ?_)
        refine aw_aload_n dX4_bestStore_9 rfl ?_
        refine aw_iload_n dX4_bestStore_10 rfl ?_
        refine aw_iconst (v := nI 2) dX4_bestStore_11 rfl ?_
        refine aw_vRd dX4_bestStore_12 cvX4_40 ⟨Nat.le_of_ble_eq_true rfl, Nat.le_of_ble_eq_true rfl⟩ (by assumption) ⟨_, rfl, rfl⟩ (r_of (w := 2) hL hM (by omega) (by decide)) rfl rfl (Nat.le_of_ble_eq_true rfl) ⟨rfl, rfl⟩ ⟨Nat.zero_le _, Nat.zero_le _⟩ ?_
        refine aw_if_neN (tgt := 83) dX4_bestStore_15 (by decide) (by omega) (fun hc15 => ?_) (fun hc15 => ?_)
        · refine aw_iincN (k := 1) (ls' := [(2, _), (0, _), (1, _)]) dX4_bestStore_83 rfl rfl (by decide) rfl ?_
          refine aw_goto (tgt := 4) dX4_bestStore_86 (by decide) ?_
          first
          | (rw [bestN_c hc15, hb] at hih; exact aw_pick [1, 2, 0] rfl hih)
          | (rw [bestN_n hc15 hb] at hih; exact aw_pick [1, 2, 0] rfl hih)
        · refine aw_iload_n dX4_bestStore_18 rfl ?_
          refine aw_iconst (v := (-1)) dX4_bestStore_19 rfl ?_
          refine aw_icmp_ne (tgt := 27) dX4_bestStore_20 (by decide) (fun hc20 => absurd rfl hc20) (fun hc20 => ?_)
          refine aw_iconst (v := nI 1) dX4_bestStore_23 rfl ?_
          refine aw_goto (tgt := 38) dX4_bestStore_24 (by decide) ?_
          refine aw_istore_n (ls' := [(3, _), (0, _), (1, _), (2, _)]) dX4_bestStore_38 (by decide) rfl ?_
          refine aw_iload_n dX4_bestStore_39 rfl ?_
          refine aw_iconst (v := (-1)) dX4_bestStore_40 rfl ?_
          refine aw_icmp_eq (tgt := 61) dX4_bestStore_41 (by decide) (fun hc41 => ?_) (fun hc41 => absurd rfl hc41)
          refine aw_iconst (v := nI 0) dX4_bestStore_61 rfl ?_
          refine aw_istore (ls' := [(4, _), (3, _), (0, _), (1, _), (2, _)]) dX4_bestStore_62 (by decide) rfl ?_
          refine aw_iload_n dX4_bestStore_64 rfl ?_
          refine aw_if_gtN (tgt := 77) dX4_bestStore_65 (by decide) (by omega) (fun hc65 => ?_) (fun hc65 => absurd hc65 (by omega))
          refine aw_iload_n dX4_bestStore_77 rfl ?_
          refine aw_goto (tgt := 82) dX4_bestStore_78 (by decide) ?_
          refine aw_istore_n (ls' := [(1, _), (4, _), (3, _), (0, _), (2, _)]) dX4_bestStore_82 (by decide) rfl ?_
          refine aw_iincN (k := 1) (ls' := [(2, _), (1, _), (4, _), (3, _), (0, _)]) dX4_bestStore_83 rfl rfl (by decide) rfl ?_
          refine aw_goto (tgt := 4) dX4_bestStore_86 (by decide) ?_
          first
          | (rw [bestN_c hc15, hb] at hih; exact aw_pick [4, 1, 0] rfl hih)
          | (rw [bestN_n hc15 hb] at hih; exact aw_pick [4, 1, 0] rfl hih)
      | some b =>
        obtain ⟨hbq, hb2⟩ := bestN_lt hb
        have hRb := hI.2.2.2.2.1 b (by omega)
        have w2 := onWayN_le a b
        have x2 := badWinR_le (t := a.2.2 b) hg
        rw [show oI (some b) = nI b from rfl]
        refine aw_iload_n dX4_bestStore_4 rfl ?_
        refine aw_iconst (v := nI 4) dX4_bestStore_5 rfl ?_
        refine aw_icmp_geN (tgt := 89) dX4_bestStore_6 (by decide) (by omega) (by omega) (fun hc6 => absurd hc6 (by omega)) (fun hc6 => ?_)
        refine aw_aload_n dX4_bestStore_9 rfl ?_
        refine aw_iload_n dX4_bestStore_10 rfl ?_
        refine aw_iconst (v := nI 2) dX4_bestStore_11 rfl ?_
        refine aw_vRd dX4_bestStore_12 cvX4_40 ⟨Nat.le_of_ble_eq_true rfl, Nat.le_of_ble_eq_true rfl⟩ (by assumption) ⟨_, rfl, rfl⟩ (r_of (w := 2) hL hM (by omega) (by decide)) rfl rfl (Nat.le_of_ble_eq_true rfl) ⟨rfl, rfl⟩ ⟨Nat.zero_le _, Nat.zero_le _⟩ ?_
        refine aw_if_neN (tgt := 83) dX4_bestStore_15 (by decide) (by omega) (fun hc15 => ?_) (fun hc15 => ?_)
        · refine aw_iincN (k := 1) (ls' := [(2, _), (0, _), (1, _)]) dX4_bestStore_83 rfl rfl (by decide) rfl ?_
          refine aw_goto (tgt := 4) dX4_bestStore_86 (by decide) ?_
          first
          | (rw [bestN_c hc15, hb] at hih; exact aw_pick [1, 2, 0] rfl hih)
          | exact absurd hc74 (by decide)
          | (rw [bestN_y hc15 hb (Or.inl ((sub_pos (by omega) (by omega)).mp hc65))] at hih; exact aw_pick [1, 2, 0] rfl hih)
          | (have e1 := (sub_zero' (by omega) (by omega)).mp hc69
             rw [bestN_y hc15 hb (Or.inr ⟨e1.symm, hc54⟩)] at hih; exact aw_pick [1, 2, 0] rfl hih)
          | (have e1 := (sub_zero' (by omega) (by omega)).mp hc69
             rw [bestN_k hc15 hb (by omega)] at hih; exact aw_pick [1, 2, 0] rfl hih)
          | (have e1 : ¬ badWinR a.1 (a.2.2 q) < badWinR a.1 (a.2.2 b) := fun q1 => hc65 ((sub_pos (by omega) (by omega)).mpr q1)
             have e2 : ¬ badWinR a.1 (a.2.2 b) = badWinR a.1 (a.2.2 q) := fun q1 => hc69 ((sub_zero' (by omega) (by omega)).mpr q1)
             rw [bestN_k hc15 hb (by omega)] at hih; exact aw_pick [1, 2, 0] rfl hih)
        · refine aw_iload_n dX4_bestStore_18 rfl ?_
          refine aw_iconst (v := (-1)) dX4_bestStore_19 rfl ?_
          refine aw_icmp_ne (tgt := 27) dX4_bestStore_20 (by decide) (fun hc20 => ?_) (fun hc20 => absurd hc20 (nI_m1 (by omega)))
          refine aw_aload_n dX4_bestStore_27 rfl ?_
          refine aw_iload_n dX4_bestStore_28 rfl ?_
          refine aw_vRd dX4_bestStore_29 cvX4_60 ⟨Nat.le_of_ble_eq_true rfl, Nat.le_of_ble_eq_true rfl⟩ (by assumption) ⟨_, rfl, rfl⟩ (r_badInWindow hL hM (by omega) hg hRb) rfl rfl (Nat.le_of_ble_eq_true rfl) ⟨rfl, rfl⟩ ⟨Nat.zero_le _, Nat.zero_le _⟩ ?_
          refine aw_aload_n dX4_bestStore_32 rfl ?_
          refine aw_iload_n dX4_bestStore_33 rfl ?_
          refine aw_vRd dX4_bestStore_34 cvX4_60 ⟨Nat.le_of_ble_eq_true rfl, Nat.le_of_ble_eq_true rfl⟩ (by assumption) ⟨_, rfl, rfl⟩ (r_badInWindow hL hM (by omega) hg hRq) rfl rfl (Nat.le_of_ble_eq_true rfl) ⟨rfl, rfl⟩ ⟨Nat.zero_le _, Nat.zero_le _⟩ ?_
          refine aw_isub dX4_bestStore_37 ?_
          refine aw_istore_n (ls' := [(3, _), (0, _), (1, _), (2, _)]) dX4_bestStore_38 (by decide) rfl ?_
          refine aw_iload_n dX4_bestStore_39 rfl ?_
          refine aw_iconst (v := (-1)) dX4_bestStore_40 rfl ?_
          refine aw_icmp_eq (tgt := 61) dX4_bestStore_41 (by decide) (fun hc41 => absurd hc41 (nI_m1 (by omega))) (fun hc41 => ?_)
          refine aw_aload_n dX4_bestStore_44 rfl ?_
          refine aw_iload_n dX4_bestStore_45 rfl ?_
          refine aw_vRd dX4_bestStore_46 cvX4_103 ⟨Nat.le_of_ble_eq_true rfl, Nat.le_of_ble_eq_true rfl⟩ (by assumption) ⟨_, rfl, rfl⟩ (r_onWayOf hL hM (by omega) h16 hC) rfl rfl (Nat.le_of_ble_eq_true rfl) ⟨rfl, rfl⟩ ⟨Nat.zero_le _, Nat.zero_le _⟩ ?_
          refine aw_aload_n dX4_bestStore_49 rfl ?_
          refine aw_iload_n dX4_bestStore_50 rfl ?_
          refine aw_vRd dX4_bestStore_51 cvX4_103 ⟨Nat.le_of_ble_eq_true rfl, Nat.le_of_ble_eq_true rfl⟩ (by assumption) ⟨_, rfl, rfl⟩ (r_onWayOf hL hM (by omega) h16 hC) rfl rfl (Nat.le_of_ble_eq_true rfl) ⟨rfl, rfl⟩ ⟨Nat.zero_le _, Nat.zero_le _⟩ ?_
          refine aw_icmp_geN (tgt := 61) dX4_bestStore_54 (by decide) (by omega) (by omega) (fun hc54 => ?_) (fun hc54 => ?_)
          · refine aw_iconst (v := nI 0) dX4_bestStore_61 rfl ?_
            refine aw_istore (ls' := [(4, _), (3, _), (0, _), (1, _), (2, _)]) dX4_bestStore_62 (by decide) rfl ?_
            refine aw_iload_n dX4_bestStore_64 rfl ?_
            refine aw_if_gt (tgt := 77) dX4_bestStore_65 (by decide) (fun hc65 => ?_) (fun hc65 => ?_)
            · refine aw_iload_n dX4_bestStore_77 rfl ?_
              refine aw_goto (tgt := 82) dX4_bestStore_78 (by decide) ?_
              refine aw_istore_n (ls' := [(1, _), (4, _), (3, _), (0, _), (2, _)]) dX4_bestStore_82 (by decide) rfl ?_
              refine aw_iincN (k := 1) (ls' := [(2, _), (1, _), (4, _), (3, _), (0, _)]) dX4_bestStore_83 rfl rfl (by decide) rfl ?_
              refine aw_goto (tgt := 4) dX4_bestStore_86 (by decide) ?_
              first
              | (rw [bestN_c hc15, hb] at hih; exact aw_pick [4, 1, 0] rfl hih)
              | exact absurd hc74 (by decide)
              | (rw [bestN_y hc15 hb (Or.inl ((sub_pos (by omega) (by omega)).mp hc65))] at hih; exact aw_pick [4, 1, 0] rfl hih)
              | (have e1 := (sub_zero' (by omega) (by omega)).mp hc69
                 rw [bestN_y hc15 hb (Or.inr ⟨e1.symm, hc54⟩)] at hih; exact aw_pick [4, 1, 0] rfl hih)
              | (have e1 := (sub_zero' (by omega) (by omega)).mp hc69
                 rw [bestN_k hc15 hb (by omega)] at hih; exact aw_pick [4, 1, 0] rfl hih)
              | (have e1 : ¬ badWinR a.1 (a.2.2 q) < badWinR a.1 (a.2.2 b) := fun q1 => hc65 ((sub_pos (by omega) (by omega)).mpr q1)
                 have e2 : ¬ badWinR a.1 (a.2.2 b) = badWinR a.1 (a.2.2 q) := fun q1 => hc69 ((sub_zero' (by omega) (by omega)).mpr q1)
                 rw [bestN_k hc15 hb (by omega)] at hih; exact aw_pick [4, 1, 0] rfl hih)
            · refine aw_iload_n dX4_bestStore_68 rfl ?_
              refine aw_if_ne (tgt := 81) dX4_bestStore_69 (by decide) (fun hc69 => ?_) (fun hc69 => ?_)
              · refine aw_iload_n dX4_bestStore_81 rfl ?_
                refine aw_istore_n (ls' := [(1, _), (4, _), (3, _), (0, _), (2, _)]) dX4_bestStore_82 (by decide) rfl ?_
                refine aw_iincN (k := 1) (ls' := [(2, _), (1, _), (4, _), (3, _), (0, _)]) dX4_bestStore_83 rfl rfl (by decide) rfl ?_
                refine aw_goto (tgt := 4) dX4_bestStore_86 (by decide) ?_
                first
                | (rw [bestN_c hc15, hb] at hih; exact aw_pick [4, 1, 0] rfl hih)
                | exact absurd hc74 (by decide)
                | (rw [bestN_y hc15 hb (Or.inl ((sub_pos (by omega) (by omega)).mp hc65))] at hih; exact aw_pick [4, 1, 0] rfl hih)
                | (have e1 := (sub_zero' (by omega) (by omega)).mp hc69
                   rw [bestN_y hc15 hb (Or.inr ⟨e1.symm, hc54⟩)] at hih; exact aw_pick [4, 1, 0] rfl hih)
                | (have e1 := (sub_zero' (by omega) (by omega)).mp hc69
                   rw [bestN_k hc15 hb (by omega)] at hih; exact aw_pick [4, 1, 0] rfl hih)
                | (have e1 : ¬ badWinR a.1 (a.2.2 q) < badWinR a.1 (a.2.2 b) := fun q1 => hc65 ((sub_pos (by omega) (by omega)).mpr q1)
                   have e2 : ¬ badWinR a.1 (a.2.2 b) = badWinR a.1 (a.2.2 q) := fun q1 => hc69 ((sub_zero' (by omega) (by omega)).mpr q1)
                   rw [bestN_k hc15 hb (by omega)] at hih; exact aw_pick [4, 1, 0] rfl hih)
              · refine aw_iload dX4_bestStore_72 rfl ?_
                refine aw_if_eqN (tgt := 81) dX4_bestStore_74 (by decide) (by omega) (fun hc74 => ?_) (fun hc74 => ?_)
                · refine aw_iload_n dX4_bestStore_81 rfl ?_
                  refine aw_istore_n (ls' := [(1, _), (4, _), (3, _), (0, _), (2, _)]) dX4_bestStore_82 (by decide) rfl ?_
                  refine aw_iincN (k := 1) (ls' := [(2, _), (1, _), (4, _), (3, _), (0, _)]) dX4_bestStore_83 rfl rfl (by decide) rfl ?_
                  refine aw_goto (tgt := 4) dX4_bestStore_86 (by decide) ?_
                  first
                  | (rw [bestN_c hc15, hb] at hih; exact aw_pick [4, 1, 0] rfl hih)
                  | exact absurd hc74 (by decide)
                  | (rw [bestN_y hc15 hb (Or.inl ((sub_pos (by omega) (by omega)).mp hc65))] at hih; exact aw_pick [4, 1, 0] rfl hih)
                  | (have e1 := (sub_zero' (by omega) (by omega)).mp hc69
                     rw [bestN_y hc15 hb (Or.inr ⟨e1.symm, hc54⟩)] at hih; exact aw_pick [4, 1, 0] rfl hih)
                  | (have e1 := (sub_zero' (by omega) (by omega)).mp hc69
                     rw [bestN_k hc15 hb (by omega)] at hih; exact aw_pick [4, 1, 0] rfl hih)
                  | (have e1 : ¬ badWinR a.1 (a.2.2 q) < badWinR a.1 (a.2.2 b) := fun q1 => hc65 ((sub_pos (by omega) (by omega)).mpr q1)
                     have e2 : ¬ badWinR a.1 (a.2.2 b) = badWinR a.1 (a.2.2 q) := fun q1 => hc69 ((sub_zero' (by omega) (by omega)).mpr q1)
                     rw [bestN_k hc15 hb (by omega)] at hih; exact aw_pick [4, 1, 0] rfl hih)
                · refine aw_iload_n dX4_bestStore_77 rfl ?_
                  refine aw_goto (tgt := 82) dX4_bestStore_78 (by decide) ?_
                  refine aw_istore_n (ls' := [(1, _), (4, _), (3, _), (0, _), (2, _)]) dX4_bestStore_82 (by decide) rfl ?_
                  refine aw_iincN (k := 1) (ls' := [(2, _), (1, _), (4, _), (3, _), (0, _)]) dX4_bestStore_83 rfl rfl (by decide) rfl ?_
                  refine aw_goto (tgt := 4) dX4_bestStore_86 (by decide) ?_
                  first
                  | (rw [bestN_c hc15, hb] at hih; exact aw_pick [4, 1, 0] rfl hih)
                  | exact absurd hc74 (by decide)
                  | (rw [bestN_y hc15 hb (Or.inl ((sub_pos (by omega) (by omega)).mp hc65))] at hih; exact aw_pick [4, 1, 0] rfl hih)
                  | (have e1 := (sub_zero' (by omega) (by omega)).mp hc69
                     rw [bestN_y hc15 hb (Or.inr ⟨e1.symm, hc54⟩)] at hih; exact aw_pick [4, 1, 0] rfl hih)
                  | (have e1 := (sub_zero' (by omega) (by omega)).mp hc69
                     rw [bestN_k hc15 hb (by omega)] at hih; exact aw_pick [4, 1, 0] rfl hih)
                  | (have e1 : ¬ badWinR a.1 (a.2.2 q) < badWinR a.1 (a.2.2 b) := fun q1 => hc65 ((sub_pos (by omega) (by omega)).mpr q1)
                     have e2 : ¬ badWinR a.1 (a.2.2 b) = badWinR a.1 (a.2.2 q) := fun q1 => hc69 ((sub_zero' (by omega) (by omega)).mpr q1)
                     rw [bestN_k hc15 hb (by omega)] at hih; exact aw_pick [4, 1, 0] rfl hih)
          · refine aw_iconst (v := nI 1) dX4_bestStore_57 rfl ?_
            refine aw_goto (tgt := 62) dX4_bestStore_58 (by decide) ?_
            refine aw_istore (ls' := [(4, _), (3, _), (0, _), (1, _), (2, _)]) dX4_bestStore_62 (by decide) rfl ?_
            refine aw_iload_n dX4_bestStore_64 rfl ?_
            refine aw_if_gt (tgt := 77) dX4_bestStore_65 (by decide) (fun hc65 => ?_) (fun hc65 => ?_)
            · refine aw_iload_n dX4_bestStore_77 rfl ?_
              refine aw_goto (tgt := 82) dX4_bestStore_78 (by decide) ?_
              refine aw_istore_n (ls' := [(1, _), (4, _), (3, _), (0, _), (2, _)]) dX4_bestStore_82 (by decide) rfl ?_
              refine aw_iincN (k := 1) (ls' := [(2, _), (1, _), (4, _), (3, _), (0, _)]) dX4_bestStore_83 rfl rfl (by decide) rfl ?_
              refine aw_goto (tgt := 4) dX4_bestStore_86 (by decide) ?_
              first
              | (rw [bestN_c hc15, hb] at hih; exact aw_pick [4, 1, 0] rfl hih)
              | exact absurd hc74 (by decide)
              | (rw [bestN_y hc15 hb (Or.inl ((sub_pos (by omega) (by omega)).mp hc65))] at hih; exact aw_pick [4, 1, 0] rfl hih)
              | (have e1 := (sub_zero' (by omega) (by omega)).mp hc69
                 rw [bestN_y hc15 hb (Or.inr ⟨e1.symm, hc54⟩)] at hih; exact aw_pick [4, 1, 0] rfl hih)
              | (have e1 := (sub_zero' (by omega) (by omega)).mp hc69
                 rw [bestN_k hc15 hb (by omega)] at hih; exact aw_pick [4, 1, 0] rfl hih)
              | (have e1 : ¬ badWinR a.1 (a.2.2 q) < badWinR a.1 (a.2.2 b) := fun q1 => hc65 ((sub_pos (by omega) (by omega)).mpr q1)
                 have e2 : ¬ badWinR a.1 (a.2.2 b) = badWinR a.1 (a.2.2 q) := fun q1 => hc69 ((sub_zero' (by omega) (by omega)).mpr q1)
                 rw [bestN_k hc15 hb (by omega)] at hih; exact aw_pick [4, 1, 0] rfl hih)
            · refine aw_iload_n dX4_bestStore_68 rfl ?_
              refine aw_if_ne (tgt := 81) dX4_bestStore_69 (by decide) (fun hc69 => ?_) (fun hc69 => ?_)
              · refine aw_iload_n dX4_bestStore_81 rfl ?_
                refine aw_istore_n (ls' := [(1, _), (4, _), (3, _), (0, _), (2, _)]) dX4_bestStore_82 (by decide) rfl ?_
                refine aw_iincN (k := 1) (ls' := [(2, _), (1, _), (4, _), (3, _), (0, _)]) dX4_bestStore_83 rfl rfl (by decide) rfl ?_
                refine aw_goto (tgt := 4) dX4_bestStore_86 (by decide) ?_
                first
                | (rw [bestN_c hc15, hb] at hih; exact aw_pick [4, 1, 0] rfl hih)
                | exact absurd hc74 (by decide)
                | (rw [bestN_y hc15 hb (Or.inl ((sub_pos (by omega) (by omega)).mp hc65))] at hih; exact aw_pick [4, 1, 0] rfl hih)
                | (have e1 := (sub_zero' (by omega) (by omega)).mp hc69
                   rw [bestN_y hc15 hb (Or.inr ⟨e1.symm, hc54⟩)] at hih; exact aw_pick [4, 1, 0] rfl hih)
                | (have e1 := (sub_zero' (by omega) (by omega)).mp hc69
                   rw [bestN_k hc15 hb (by omega)] at hih; exact aw_pick [4, 1, 0] rfl hih)
                | (have e1 : ¬ badWinR a.1 (a.2.2 q) < badWinR a.1 (a.2.2 b) := fun q1 => hc65 ((sub_pos (by omega) (by omega)).mpr q1)
                   have e2 : ¬ badWinR a.1 (a.2.2 b) = badWinR a.1 (a.2.2 q) := fun q1 => hc69 ((sub_zero' (by omega) (by omega)).mpr q1)
                   rw [bestN_k hc15 hb (by omega)] at hih; exact aw_pick [4, 1, 0] rfl hih)
              · refine aw_iload dX4_bestStore_72 rfl ?_
                refine aw_if_eqN (tgt := 81) dX4_bestStore_74 (by decide) (by omega) (fun hc74 => ?_) (fun hc74 => ?_)
                · refine aw_iload_n dX4_bestStore_81 rfl ?_
                  refine aw_istore_n (ls' := [(1, _), (4, _), (3, _), (0, _), (2, _)]) dX4_bestStore_82 (by decide) rfl ?_
                  refine aw_iincN (k := 1) (ls' := [(2, _), (1, _), (4, _), (3, _), (0, _)]) dX4_bestStore_83 rfl rfl (by decide) rfl ?_
                  refine aw_goto (tgt := 4) dX4_bestStore_86 (by decide) ?_
                  first
                  | (rw [bestN_c hc15, hb] at hih; exact aw_pick [4, 1, 0] rfl hih)
                  | exact absurd hc74 (by decide)
                  | (rw [bestN_y hc15 hb (Or.inl ((sub_pos (by omega) (by omega)).mp hc65))] at hih; exact aw_pick [4, 1, 0] rfl hih)
                  | (have e1 := (sub_zero' (by omega) (by omega)).mp hc69
                     rw [bestN_y hc15 hb (Or.inr ⟨e1.symm, hc54⟩)] at hih; exact aw_pick [4, 1, 0] rfl hih)
                  | (have e1 := (sub_zero' (by omega) (by omega)).mp hc69
                     rw [bestN_k hc15 hb (by omega)] at hih; exact aw_pick [4, 1, 0] rfl hih)
                  | (have e1 : ¬ badWinR a.1 (a.2.2 q) < badWinR a.1 (a.2.2 b) := fun q1 => hc65 ((sub_pos (by omega) (by omega)).mpr q1)
                     have e2 : ¬ badWinR a.1 (a.2.2 b) = badWinR a.1 (a.2.2 q) := fun q1 => hc69 ((sub_zero' (by omega) (by omega)).mpr q1)
                     rw [bestN_k hc15 hb (by omega)] at hih; exact aw_pick [4, 1, 0] rfl hih)
                · refine aw_iload_n dX4_bestStore_77 rfl ?_
                  refine aw_goto (tgt := 82) dX4_bestStore_78 (by decide) ?_
                  refine aw_istore_n (ls' := [(1, _), (4, _), (3, _), (0, _), (2, _)]) dX4_bestStore_82 (by decide) rfl ?_
                  refine aw_iincN (k := 1) (ls' := [(2, _), (1, _), (4, _), (3, _), (0, _)]) dX4_bestStore_83 rfl rfl (by decide) rfl ?_
                  refine aw_goto (tgt := 4) dX4_bestStore_86 (by decide) ?_
                  first
                  | (rw [bestN_c hc15, hb] at hih; exact aw_pick [4, 1, 0] rfl hih)
                  | exact absurd hc74 (by decide)
                  | (rw [bestN_y hc15 hb (Or.inl ((sub_pos (by omega) (by omega)).mp hc65))] at hih; exact aw_pick [4, 1, 0] rfl hih)
                  | (have e1 := (sub_zero' (by omega) (by omega)).mp hc69
                     rw [bestN_y hc15 hb (Or.inr ⟨e1.symm, hc54⟩)] at hih; exact aw_pick [4, 1, 0] rfl hih)
                  | (have e1 := (sub_zero' (by omega) (by omega)).mp hc69
                     rw [bestN_k hc15 hb (by omega)] at hih; exact aw_pick [4, 1, 0] rfl hih)
                  | (have e1 : ¬ badWinR a.1 (a.2.2 q) < badWinR a.1 (a.2.2 b) := fun q1 => hc65 ((sub_pos (by omega) (by omega)).mpr q1)
                     have e2 : ¬ badWinR a.1 (a.2.2 b) = badWinR a.1 (a.2.2 q) := fun q1 => hc69 ((sub_zero' (by omega) (by omega)).mpr q1)
                     rw [bestN_k hc15 hb (by omega)] at hih; exact aw_pick [4, 1, 0] rfl hih)
  refine run_of (ls := [(0, .ref (G.1 140))]) (by decide +kernel) rfl rfl (Nat.le_of_ble_eq_true rfl) ?_
  refine aw_iconst (v := (-1)) dX4_bestStore_0 rfl ?_
  refine aw_istore_n (ls' := [(1, _), (0, _)]) dX4_bestStore_1 (by decide) rfl ?_
  refine aw_iconst (v := nI 0) dX4_bestStore_2 rfl ?_
  refine aw_istore_n (ls' := [(2, _), (1, _), (0, _)]) dX4_bestStore_3 (by decide) rfl ?_
  exact aw_pick [2, 1, 0] rfl (loop 4 0 rfl (by decide))
theorem r_tellsStore (hL : LM G K R) (hM : RM (I 141) a) (hI : IV m k a) {st w : Nat} (hst : st < 4) (hw : w ≤ 10) : Run G YX4_tellsStore [.ref (G.1 140), .int (nI st), .int (nI w)] (K, R, I, J, z) (Rd (K, R, I, J, z) (.int (nI (tellN a st w)))) := by
  obtain ⟨hk0, hr1, hk1, hr2, hk2, hr3, hk3, hr5, hk5, hr9, hk9⟩ := hL
  have hL : LM G K R := ⟨hk0, hr1, hk1, hr2, hk2, hr3, hk3, hr5, hk5, hr9, hk9⟩
  have h16 := hI.2.1
  have hg := hI.1
  have hC : ∀ c ∈ a.2.1, c 0 < 4 ∧ c 3 ≤ 1 := fun c hc => ⟨(hI.2.2.1 c hc).1, (hI.2.2.1 c hc).2.2.2.2.1⟩
  have hR := hI.2.2.2.2.1 st hst
  have h1 := hR.2.2.1
  have h0 := hR.2.1
  rcases (show w = 0 ∨ w = 1 ∨ w = 2 ∨ w = 3 ∨ w = 4 ∨ w = 5 ∨ w = 6 ∨ w = 7 ∨ w = 8 ∨ w = 9 ∨ w = 10 by omega) with rfl | rfl | rfl | rfl | rfl | rfl | rfl | rfl | rfl | rfl | rfl
  · refine run_of (ls := [(0, .ref (G.1 140)), (1, .int (nI st)), (2, .int (nI 0))]) (by decide +kernel) rfl rfl (Nat.le_of_ble_eq_true rfl) ?_
    refine aw_iload_n dX4_tellsStore_0 rfl ?_
    refine aw_tableIn (tgt := 56) dX4_tellsStore_1 (by decide) (by decide) rfl (by decide) ?_
    refine aw_aload_n dX4_tellsStore_56 rfl ?_
    refine aw_iload_n dX4_tellsStore_57 rfl ?_
    refine aw_iconst (v := nI 2) dX4_tellsStore_58 rfl ?_
    refine aw_vRd dX4_tellsStore_59 cvX4_40 ⟨Nat.le_of_ble_eq_true rfl, Nat.le_of_ble_eq_true rfl⟩ (by assumption) ⟨_, rfl, rfl⟩ (r_of (w := 2) hL hM hst (by decide)) rfl rfl (Nat.le_of_ble_eq_true rfl) ⟨rfl, rfl⟩ ⟨Nat.zero_le _, Nat.zero_le _⟩ ?_
    exact aw_iret dX4_tellsStore_62 rfl (Nat.zero_le _) (Nat.zero_le _) ⟨rfl, rfl⟩
  · refine run_of (ls := [(0, .ref (G.1 140)), (1, .int (nI st)), (2, .int (nI 1))]) (by decide +kernel) rfl rfl (Nat.le_of_ble_eq_true rfl) ?_
    refine aw_iload_n dX4_tellsStore_0 rfl ?_
    refine aw_tableIn (tgt := 63) dX4_tellsStore_1 (by decide) (by decide) rfl (by decide) ?_
    refine aw_aload_n dX4_tellsStore_63 rfl ?_
    refine aw_iload_n dX4_tellsStore_64 rfl ?_
    refine aw_vRd dX4_tellsStore_65 cvX4_44 ⟨Nat.le_of_ble_eq_true rfl, Nat.le_of_ble_eq_true rfl⟩ (by assumption) ⟨_, rfl, rfl⟩ (r_inWindow hL hM hst hg hR) rfl rfl (Nat.le_of_ble_eq_true rfl) ⟨rfl, rfl⟩ ⟨Nat.zero_le _, Nat.zero_le _⟩ ?_
    exact aw_iret dX4_tellsStore_68 rfl (Nat.zero_le _) (Nat.zero_le _) ⟨rfl, rfl⟩
  · refine run_of (ls := [(0, .ref (G.1 140)), (1, .int (nI st)), (2, .int (nI 2))]) (by decide +kernel) rfl rfl (Nat.le_of_ble_eq_true rfl) ?_
    refine aw_iload_n dX4_tellsStore_0 rfl ?_
    refine aw_tableIn (tgt := 69) dX4_tellsStore_1 (by decide) (by decide) rfl (by decide) ?_
    refine aw_aload_n dX4_tellsStore_69 rfl ?_
    refine aw_iload_n dX4_tellsStore_70 rfl ?_
    refine aw_vRd dX4_tellsStore_71 cvX4_60 ⟨Nat.le_of_ble_eq_true rfl, Nat.le_of_ble_eq_true rfl⟩ (by assumption) ⟨_, rfl, rfl⟩ (r_badInWindow hL hM hst hg hR) rfl rfl (Nat.le_of_ble_eq_true rfl) ⟨rfl, rfl⟩ ⟨Nat.zero_le _, Nat.zero_le _⟩ ?_
    exact aw_iret dX4_tellsStore_74 rfl (Nat.zero_le _) (Nat.zero_le _) ⟨rfl, rfl⟩
  · refine run_of (ls := [(0, .ref (G.1 140)), (1, .int (nI st)), (2, .int (nI 3))]) (by decide +kernel) rfl rfl (Nat.le_of_ble_eq_true rfl) ?_
    refine aw_iload_n dX4_tellsStore_0 rfl ?_
    refine aw_tableIn (tgt := 75) dX4_tellsStore_1 (by decide) (by decide) rfl (by decide) ?_
    refine aw_aload_n dX4_tellsStore_75 rfl ?_
    refine aw_iload_n dX4_tellsStore_76 rfl ?_
    refine aw_iconst (v := nI 5) dX4_tellsStore_77 rfl ?_
    refine aw_vRd dX4_tellsStore_78 cvX4_40 ⟨Nat.le_of_ble_eq_true rfl, Nat.le_of_ble_eq_true rfl⟩ (by assumption) ⟨_, rfl, rfl⟩ (r_of (w := 5) hL hM hst (by decide)) rfl rfl (Nat.le_of_ble_eq_true rfl) ⟨rfl, rfl⟩ ⟨Nat.zero_le _, Nat.zero_le _⟩ ?_
    exact aw_iret dX4_tellsStore_81 rfl (Nat.zero_le _) (Nat.zero_le _) ⟨rfl, rfl⟩
  · refine run_of (ls := [(0, .ref (G.1 140)), (1, .int (nI st)), (2, .int (nI 4))]) (by decide +kernel) rfl rfl (Nat.le_of_ble_eq_true rfl) ?_
    refine aw_iload_n dX4_tellsStore_0 rfl ?_
    refine aw_tableIn (tgt := 82) dX4_tellsStore_1 (by decide) (by decide) rfl (by decide) ?_
    refine aw_aload_n dX4_tellsStore_82 rfl ?_
    refine aw_iload_n dX4_tellsStore_83 rfl ?_
    refine aw_bipush (v := nI 6) dX4_tellsStore_84 rfl ?_
    refine aw_vRd dX4_tellsStore_86 cvX4_40 ⟨Nat.le_of_ble_eq_true rfl, Nat.le_of_ble_eq_true rfl⟩ (by assumption) ⟨_, rfl, rfl⟩ (r_of (w := 6) hL hM hst (by decide)) rfl rfl (Nat.le_of_ble_eq_true rfl) ⟨rfl, rfl⟩ ⟨Nat.zero_le _, Nat.zero_le _⟩ ?_
    exact aw_iret dX4_tellsStore_89 rfl (Nat.zero_le _) (Nat.zero_le _) ⟨rfl, rfl⟩
  · refine run_of (ls := [(0, .ref (G.1 140)), (1, .int (nI st)), (2, .int (nI 5))]) (by decide +kernel) rfl rfl (Nat.le_of_ble_eq_true rfl) ?_
    refine aw_iload_n dX4_tellsStore_0 rfl ?_
    refine aw_tableIn (tgt := 90) dX4_tellsStore_1 (by decide) (by decide) rfl (by decide) ?_
    refine aw_aload_n dX4_tellsStore_90 rfl ?_
    refine aw_iload_n dX4_tellsStore_91 rfl ?_
    refine aw_bipush (v := nI 7) dX4_tellsStore_92 rfl ?_
    refine aw_iload_n dX4_tellsStore_94 rfl ?_
    first | refine aw_iaddN dX4_tellsStore_95 ?_ | refine aw_iadd dX4_tellsStore_95 ?_
    refine aw_iconst (v := nI 5) dX4_tellsStore_96 rfl ?_
    first | refine aw_isubN dX4_tellsStore_97 (by omega) ?_ | refine aw_isub dX4_tellsStore_97 ?_
    refine aw_vRd dX4_tellsStore_98 cvX4_40 ⟨Nat.le_of_ble_eq_true rfl, Nat.le_of_ble_eq_true rfl⟩ (by assumption) ⟨_, rfl, rfl⟩ (r_of (w := 7) hL hM hst (by decide)) rfl rfl (Nat.le_of_ble_eq_true rfl) ⟨rfl, rfl⟩ ⟨Nat.zero_le _, Nat.zero_le _⟩ ?_
    exact aw_iret dX4_tellsStore_101 rfl (Nat.zero_le _) (Nat.zero_le _) ⟨rfl, rfl⟩
  · refine run_of (ls := [(0, .ref (G.1 140)), (1, .int (nI st)), (2, .int (nI 6))]) (by decide +kernel) rfl rfl (Nat.le_of_ble_eq_true rfl) ?_
    refine aw_iload_n dX4_tellsStore_0 rfl ?_
    refine aw_tableIn (tgt := 90) dX4_tellsStore_1 (by decide) (by decide) rfl (by decide) ?_
    refine aw_aload_n dX4_tellsStore_90 rfl ?_
    refine aw_iload_n dX4_tellsStore_91 rfl ?_
    refine aw_bipush (v := nI 7) dX4_tellsStore_92 rfl ?_
    refine aw_iload_n dX4_tellsStore_94 rfl ?_
    first | refine aw_iaddN dX4_tellsStore_95 ?_ | refine aw_iadd dX4_tellsStore_95 ?_
    refine aw_iconst (v := nI 5) dX4_tellsStore_96 rfl ?_
    first | refine aw_isubN dX4_tellsStore_97 (by omega) ?_ | refine aw_isub dX4_tellsStore_97 ?_
    refine aw_vRd dX4_tellsStore_98 cvX4_40 ⟨Nat.le_of_ble_eq_true rfl, Nat.le_of_ble_eq_true rfl⟩ (by assumption) ⟨_, rfl, rfl⟩ (r_of (w := 8) hL hM hst (by decide)) rfl rfl (Nat.le_of_ble_eq_true rfl) ⟨rfl, rfl⟩ ⟨Nat.zero_le _, Nat.zero_le _⟩ ?_
    exact aw_iret dX4_tellsStore_101 rfl (Nat.zero_le _) (Nat.zero_le _) ⟨rfl, rfl⟩
  · refine run_of (ls := [(0, .ref (G.1 140)), (1, .int (nI st)), (2, .int (nI 7))]) (by decide +kernel) rfl rfl (Nat.le_of_ble_eq_true rfl) ?_
    refine aw_iload_n dX4_tellsStore_0 rfl ?_
    refine aw_tableIn (tgt := 90) dX4_tellsStore_1 (by decide) (by decide) rfl (by decide) ?_
    refine aw_aload_n dX4_tellsStore_90 rfl ?_
    refine aw_iload_n dX4_tellsStore_91 rfl ?_
    refine aw_bipush (v := nI 7) dX4_tellsStore_92 rfl ?_
    refine aw_iload_n dX4_tellsStore_94 rfl ?_
    first | refine aw_iaddN dX4_tellsStore_95 ?_ | refine aw_iadd dX4_tellsStore_95 ?_
    refine aw_iconst (v := nI 5) dX4_tellsStore_96 rfl ?_
    first | refine aw_isubN dX4_tellsStore_97 (by omega) ?_ | refine aw_isub dX4_tellsStore_97 ?_
    refine aw_vRd dX4_tellsStore_98 cvX4_40 ⟨Nat.le_of_ble_eq_true rfl, Nat.le_of_ble_eq_true rfl⟩ (by assumption) ⟨_, rfl, rfl⟩ (r_of (w := 9) hL hM hst (by decide)) rfl rfl (Nat.le_of_ble_eq_true rfl) ⟨rfl, rfl⟩ ⟨Nat.zero_le _, Nat.zero_le _⟩ ?_
    exact aw_iret dX4_tellsStore_101 rfl (Nat.zero_le _) (Nat.zero_le _) ⟨rfl, rfl⟩
  · refine run_of (ls := [(0, .ref (G.1 140)), (1, .int (nI st)), (2, .int (nI 8))]) (by decide +kernel) rfl rfl (Nat.le_of_ble_eq_true rfl) ?_
    refine aw_iload_n dX4_tellsStore_0 rfl ?_
    refine aw_tableIn (tgt := 102) dX4_tellsStore_1 (by decide) (by decide) rfl (by decide) ?_
    refine aw_aload_n dX4_tellsStore_102 rfl ?_
    refine aw_iload_n dX4_tellsStore_103 rfl ?_
    refine aw_vRd dX4_tellsStore_104 cvX4_103 ⟨Nat.le_of_ble_eq_true rfl, Nat.le_of_ble_eq_true rfl⟩ (by assumption) ⟨_, rfl, rfl⟩ (r_onWayOf hL hM hst h16 hC) rfl rfl (Nat.le_of_ble_eq_true rfl) ⟨rfl, rfl⟩ ⟨Nat.zero_le _, Nat.zero_le _⟩ ?_
    exact aw_iret dX4_tellsStore_107 rfl (Nat.zero_le _) (Nat.zero_le _) ⟨rfl, rfl⟩
  · refine run_of (ls := [(0, .ref (G.1 140)), (1, .int (nI st)), (2, .int (nI 9))]) (by decide +kernel) rfl rfl (Nat.le_of_ble_eq_true rfl) ?_
    refine aw_iload_n dX4_tellsStore_0 rfl ?_
    refine aw_tableIn (tgt := 108) dX4_tellsStore_1 (by decide) (by decide) rfl (by decide) ?_
    refine aw_aload_n dX4_tellsStore_108 rfl ?_
    refine aw_iload_n dX4_tellsStore_109 rfl ?_
    refine aw_bipush (v := nI 10) dX4_tellsStore_110 rfl ?_
    refine aw_vRd dX4_tellsStore_112 cvX4_40 ⟨Nat.le_of_ble_eq_true rfl, Nat.le_of_ble_eq_true rfl⟩ (by assumption) ⟨_, rfl, rfl⟩ (r_of (w := 10) hL hM hst (by decide)) rfl rfl (Nat.le_of_ble_eq_true rfl) ⟨rfl, rfl⟩ ⟨Nat.zero_le _, Nat.zero_le _⟩ ?_
    exact aw_iret dX4_tellsStore_115 rfl (Nat.zero_le _) (Nat.zero_le _) ⟨rfl, rfl⟩
  · refine run_of (ls := [(0, .ref (G.1 140)), (1, .int (nI st)), (2, .int (nI 10))]) (by decide +kernel) rfl rfl (Nat.le_of_ble_eq_true rfl) ?_
    refine aw_iload_n dX4_tellsStore_0 rfl ?_
    refine aw_tableOut (tgt := 116) dX4_tellsStore_1 (by decide) (by decide) ?_
    refine aw_aload_n dX4_tellsStore_116 rfl ?_
    refine aw_iload_n dX4_tellsStore_117 rfl ?_
    refine aw_bipush (v := nI 12) dX4_tellsStore_118 rfl ?_
    refine aw_aload_n dX4_tellsStore_120 rfl ?_
    refine aw_iload_n dX4_tellsStore_121 rfl ?_
    refine aw_iconst (v := nI 1) dX4_tellsStore_122 rfl ?_
    refine aw_vRd dX4_tellsStore_123 cvX4_40 ⟨Nat.le_of_ble_eq_true rfl, Nat.le_of_ble_eq_true rfl⟩ (by assumption) ⟨_, rfl, rfl⟩ (r_of (w := 1) hL hM hst (by decide)) rfl rfl (Nat.le_of_ble_eq_true rfl) ⟨rfl, rfl⟩ ⟨Nat.zero_le _, Nat.zero_le _⟩ ?_
    first | refine aw_iaddN dX4_tellsStore_126 ?_ | refine aw_iadd dX4_tellsStore_126 ?_
    refine aw_vRd dX4_tellsStore_127 cvX4_40 ⟨Nat.le_of_ble_eq_true rfl, Nat.le_of_ble_eq_true rfl⟩ (by assumption) ⟨_, rfl, rfl⟩ (r_of (w := 12 + a.2.2 st 1) hL hM hst (by omega)) rfl rfl (Nat.le_of_ble_eq_true rfl) ⟨rfl, rfl⟩ ⟨Nat.zero_le _, Nat.zero_le _⟩ ?_
    exact aw_iret dX4_tellsStore_130 rfl (Nat.zero_le _) (Nat.zero_le _) ⟨rfl, rfl⟩
theorem r_overStores (hL : LM G K R) (hM : RM (I 141) a) (hI : IV m k a) {w : Nat} (hw : w = 2 ∨ w = 3 ∨ w = 6) : Run G YX4_overStores [.ref (G.1 140), .int (nI w)] (K, R, I, J, z) (Rd (K, R, I, J, z) (.int (nI (ovN a w 4)))) := by
  obtain ⟨hk0, hr1, hk1, hr2, hk2, hr3, hk3, hr5, hk5, hr9, hk9⟩ := hL
  have hL : LM G K R := ⟨hk0, hr1, hk1, hr2, hk2, hr3, hk3, hr5, hk5, hr9, hk9⟩
  have loop : ∀ (d q : Nat), 4 - q = d → q ≤ 4 → AW G YX4_overStores (MZ G YX4_overStores (Rd (K, R, I, J, z) (.int (nI (ovN a w 4))))) 4 [(0, .ref (G.1 140)), (1, .int (nI w)), (2, .int (nI (ovN a w q))), (3, .int (nI q))] [] (K, R, I, J, z) 0 0 := by
    intro d
    induction d with
    | zero =>
      intro q hd hq
      refine aw_iload_n dX4_overStores_4 rfl ?_
      refine aw_iconst (v := nI 4) dX4_overStores_5 rfl ?_
      refine aw_icmp_geN (tgt := 58) dX4_overStores_6 (by decide) (by omega) (by omega) (fun hc6 => ?_) (fun hc6 => absurd hc6 (by omega))
      refine aw_iload_n dX4_overStores_58 rfl ?_
      exact aw_iret dX4_overStores_59 rfl (Nat.zero_le _) (Nat.zero_le _) ⟨by rw [show q = 4 by omega], rfl⟩
    | succ d ih =>
      intro q hd hq
      have hRq := hI.2.2.2.2.1 q (by omega)
      have hq2 : a.2.2 q 2 ≤ 2 := hRq.2.2.2.1
      refine aw_iload_n dX4_overStores_4 rfl ?_
      refine aw_iconst (v := nI 4) dX4_overStores_5 rfl ?_
      refine aw_icmp_geN (tgt := 58) dX4_overStores_6 (by decide) (by omega) (by omega) (fun hc6 => absurd hc6 (by omega)) (fun hc6 => ?_)
      refine aw_iload_n dX4_overStores_9 rfl ?_
      refine aw_iload_n dX4_overStores_10 rfl ?_
      refine aw_bipush (v := nI 6) dX4_overStores_11 rfl ?_
      refine aw_icmp_neN (tgt := 33) dX4_overStores_13 (by decide) (by omega) (by omega) (fun hc13 => ?_) (fun hc13 => ?_)
      · refine aw_aload_n dX4_overStores_33 rfl ?_
        refine aw_iload_n dX4_overStores_34 rfl ?_
        refine aw_iload_n dX4_overStores_35 rfl ?_
        refine aw_iconst (v := nI 2) dX4_overStores_36 rfl ?_
        refine aw_icmp_neN (tgt := 45) dX4_overStores_37 (by decide) (by omega) (by omega) (fun hc37 => ?_) (fun hc37 => ?_)
        · refine aw_bipush (v := nI 8) dX4_overStores_45 rfl ?_
          refine aw_vRd dX4_overStores_47 cvX4_40 ⟨Nat.le_of_ble_eq_true rfl, Nat.le_of_ble_eq_true rfl⟩ (by assumption) ⟨_, rfl, rfl⟩ (r_ofv (v := a.2.2 q (if w = 2 then 7 else 8)) hL hM (by omega) (by decide) (by first | rw [if_pos hc37] | rw [if_neg hc37])) rfl rfl (Nat.le_of_ble_eq_true rfl) ⟨rfl, rfl⟩ ⟨Nat.zero_le _, Nat.zero_le _⟩ ?_
          refine aw_top (x' := nI (if w = 6 then (if a.2.2 q 2 = 0 then 1 else 0) else a.2.2 q (if w = 2 then 7 else 8))) (congrArg nI (by first | rw [if_pos hc13, if_pos hc22] | rw [if_pos hc13, if_neg hc22] | rw [if_neg hc13])) ?_
          first | refine aw_iaddN dX4_overStores_50 ?_ | refine aw_iadd dX4_overStores_50 ?_
          refine aw_istore_n (ls' := [(2, _), (0, _), (1, _), (3, _)]) dX4_overStores_51 (by decide) rfl ?_
          refine aw_iincN (k := 1) (ls' := [(3, _), (2, _), (0, _), (1, _)]) dX4_overStores_52 rfl rfl (by decide) rfl ?_
          refine aw_goto (tgt := 4) dX4_overStores_55 (by decide) ?_
          exact aw_pick [2, 3, 1, 0] rfl (ih (q + 1) (by omega) (by omega))
        · refine aw_bipush (v := nI 7) dX4_overStores_40 rfl ?_
          refine aw_goto (tgt := 47) dX4_overStores_42 (by decide) ?_
          refine aw_vRd dX4_overStores_47 cvX4_40 ⟨Nat.le_of_ble_eq_true rfl, Nat.le_of_ble_eq_true rfl⟩ (by assumption) ⟨_, rfl, rfl⟩ (r_ofv (v := a.2.2 q (if w = 2 then 7 else 8)) hL hM (by omega) (by decide) (by first | rw [if_pos hc37] | rw [if_neg hc37])) rfl rfl (Nat.le_of_ble_eq_true rfl) ⟨rfl, rfl⟩ ⟨Nat.zero_le _, Nat.zero_le _⟩ ?_
          refine aw_top (x' := nI (if w = 6 then (if a.2.2 q 2 = 0 then 1 else 0) else a.2.2 q (if w = 2 then 7 else 8))) (congrArg nI (by first | rw [if_pos hc13, if_pos hc22] | rw [if_pos hc13, if_neg hc22] | rw [if_neg hc13])) ?_
          first | refine aw_iaddN dX4_overStores_50 ?_ | refine aw_iadd dX4_overStores_50 ?_
          refine aw_istore_n (ls' := [(2, _), (0, _), (1, _), (3, _)]) dX4_overStores_51 (by decide) rfl ?_
          refine aw_iincN (k := 1) (ls' := [(3, _), (2, _), (0, _), (1, _)]) dX4_overStores_52 rfl rfl (by decide) rfl ?_
          refine aw_goto (tgt := 4) dX4_overStores_55 (by decide) ?_
          exact aw_pick [2, 3, 1, 0] rfl (ih (q + 1) (by omega) (by omega))
      · refine aw_aload_n dX4_overStores_16 rfl ?_
        refine aw_iload_n dX4_overStores_17 rfl ?_
        refine aw_iconst (v := nI 2) dX4_overStores_18 rfl ?_
        refine aw_vRd dX4_overStores_19 cvX4_40 ⟨Nat.le_of_ble_eq_true rfl, Nat.le_of_ble_eq_true rfl⟩ (by assumption) ⟨_, rfl, rfl⟩ (r_of (w := 2) hL hM (by omega) (by decide)) rfl rfl (Nat.le_of_ble_eq_true rfl) ⟨rfl, rfl⟩ ⟨Nat.zero_le _, Nat.zero_le _⟩ ?_
        refine aw_if_neN (tgt := 29) dX4_overStores_22 (by decide) (by omega) (fun hc22 => ?_) (fun hc22 => ?_)
        · refine aw_iconst (v := nI 0) dX4_overStores_29 rfl ?_
          refine aw_goto (tgt := 50) dX4_overStores_30 (by decide) ?_
          refine aw_top (x' := nI (if w = 6 then (if a.2.2 q 2 = 0 then 1 else 0) else a.2.2 q (if w = 2 then 7 else 8))) (congrArg nI (by first | rw [if_pos hc13, if_pos hc22] | rw [if_pos hc13, if_neg hc22] | rw [if_neg hc13])) ?_
          first | refine aw_iaddN dX4_overStores_50 ?_ | refine aw_iadd dX4_overStores_50 ?_
          refine aw_istore_n (ls' := [(2, _), (0, _), (1, _), (3, _)]) dX4_overStores_51 (by decide) rfl ?_
          refine aw_iincN (k := 1) (ls' := [(3, _), (2, _), (0, _), (1, _)]) dX4_overStores_52 rfl rfl (by decide) rfl ?_
          refine aw_goto (tgt := 4) dX4_overStores_55 (by decide) ?_
          exact aw_pick [2, 3, 1, 0] rfl (ih (q + 1) (by omega) (by omega))
        · refine aw_iconst (v := nI 1) dX4_overStores_25 rfl ?_
          refine aw_goto (tgt := 50) dX4_overStores_26 (by decide) ?_
          refine aw_top (x' := nI (if w = 6 then (if a.2.2 q 2 = 0 then 1 else 0) else a.2.2 q (if w = 2 then 7 else 8))) (congrArg nI (by first | rw [if_pos hc13, if_pos hc22] | rw [if_pos hc13, if_neg hc22] | rw [if_neg hc13])) ?_
          first | refine aw_iaddN dX4_overStores_50 ?_ | refine aw_iadd dX4_overStores_50 ?_
          refine aw_istore_n (ls' := [(2, _), (0, _), (1, _), (3, _)]) dX4_overStores_51 (by decide) rfl ?_
          refine aw_iincN (k := 1) (ls' := [(3, _), (2, _), (0, _), (1, _)]) dX4_overStores_52 rfl rfl (by decide) rfl ?_
          refine aw_goto (tgt := 4) dX4_overStores_55 (by decide) ?_
          exact aw_pick [2, 3, 1, 0] rfl (ih (q + 1) (by omega) (by omega))
  refine run_of (ls := [(0, .ref (G.1 140)), (1, .int (nI w))]) (by decide +kernel) rfl rfl (Nat.le_of_ble_eq_true rfl) ?_
  refine aw_iconst (v := nI 0) dX4_overStores_0 rfl ?_
  refine aw_istore_n (ls' := [(2, _), (0, _), (1, _)]) dX4_overStores_1 (by decide) rfl ?_
  refine aw_iconst (v := nI 0) dX4_overStores_2 rfl ?_
  refine aw_istore_n (ls' := [(3, _), (2, _), (0, _), (1, _)]) dX4_overStores_3 (by decide) rfl ?_
  exact aw_pick [2, 3, 1, 0] rfl (loop 4 0 rfl (by decide))
theorem r_counts (hL : LM G K R) (hM : RM (I 141) a) (hI : IV m k a) {w sm : Nat} (hsm : I 140 4 = nI sm) (hw : w ≤ 8) : Run G YX4_counts [.ref (G.1 140), .int (nI w)] (K, R, I, J, z) (Rd (K, R, I, J, z) (.int (nI (cntN a sm w)))) := by
  obtain ⟨hk0, hr1, hk1, hr2, hk2, hr3, hk3, hr5, hk5, hr9, hk9⟩ := hL
  have hL : LM G K R := ⟨hk0, hr1, hk1, hr2, hk2, hr3, hk3, hr5, hk5, hr9, hk9⟩
  rcases (show w = 0 ∨ w = 1 ∨ w = 2 ∨ w = 3 ∨ w = 4 ∨ w = 5 ∨ w = 6 ∨ w = 7 ∨ w = 8 by omega) with rfl | rfl | rfl | rfl | rfl | rfl | rfl | rfl | rfl
  · refine run_of (ls := [(0, .ref (G.1 140)), (1, .int (nI 0))]) (by decide +kernel) rfl rfl (Nat.le_of_ble_eq_true rfl) ?_
    refine aw_iload_n dX4_counts_0 rfl ?_
    refine aw_tableIn (tgt := 48) dX4_counts_1 (by decide) (by decide) rfl (by decide) ?_
    refine aw_aload_n dX4_counts_48 rfl ?_
    refine aw_getR dX4_counts_49 flX4_7 rfl (by assumption) (by assumption) ?_
    refine aw_iconst (v := nI 5) dX4_counts_52 rfl ?_
    refine aw_iald dX4_counts_53 (by assumption) (by omega) rfl (by omega) (hM.1 5 (by decide)) ?_
    exact aw_iret dX4_counts_54 rfl (Nat.zero_le _) (Nat.zero_le _) ⟨rfl, rfl⟩
  · refine run_of (ls := [(0, .ref (G.1 140)), (1, .int (nI 1))]) (by decide +kernel) rfl rfl (Nat.le_of_ble_eq_true rfl) ?_
    refine aw_iload_n dX4_counts_0 rfl ?_
    refine aw_tableIn (tgt := 55) dX4_counts_1 (by decide) (by decide) rfl (by decide) ?_
    refine aw_aload_n dX4_counts_55 rfl ?_
    refine aw_getR dX4_counts_56 flX4_7 rfl (by assumption) (by assumption) ?_
    refine aw_bipush (v := nI 9) dX4_counts_59 rfl ?_
    refine aw_iald dX4_counts_61 (by assumption) (by omega) rfl (by omega) hM.2.1 ?_
    exact aw_iret dX4_counts_62 rfl (Nat.zero_le _) (Nat.zero_le _) ⟨rfl, rfl⟩
  · refine run_of (ls := [(0, .ref (G.1 140)), (1, .int (nI 2))]) (by decide +kernel) rfl rfl (Nat.le_of_ble_eq_true rfl) ?_
    refine aw_iload_n dX4_counts_0 rfl ?_
    refine aw_tableIn (tgt := 63) dX4_counts_1 (by decide) (by decide) rfl (by decide) ?_
    refine aw_aload_n dX4_counts_63 rfl ?_
    refine aw_iload_n dX4_counts_64 rfl ?_
    refine aw_vRd dX4_counts_65 cvX4_138 ⟨Nat.le_of_ble_eq_true rfl, Nat.le_of_ble_eq_true rfl⟩ (by assumption) ⟨_, rfl, rfl⟩ (r_overStores (w := 2) hL hM hI (by decide)) rfl rfl (Nat.le_of_ble_eq_true rfl) ⟨rfl, rfl⟩ ⟨Nat.zero_le _, Nat.zero_le _⟩ ?_
    exact aw_iret dX4_counts_68 rfl (Nat.zero_le _) (Nat.zero_le _) ⟨rfl, rfl⟩
  · refine run_of (ls := [(0, .ref (G.1 140)), (1, .int (nI 3))]) (by decide +kernel) rfl rfl (Nat.le_of_ble_eq_true rfl) ?_
    refine aw_iload_n dX4_counts_0 rfl ?_
    refine aw_tableIn (tgt := 63) dX4_counts_1 (by decide) (by decide) rfl (by decide) ?_
    refine aw_aload_n dX4_counts_63 rfl ?_
    refine aw_iload_n dX4_counts_64 rfl ?_
    refine aw_vRd dX4_counts_65 cvX4_138 ⟨Nat.le_of_ble_eq_true rfl, Nat.le_of_ble_eq_true rfl⟩ (by assumption) ⟨_, rfl, rfl⟩ (r_overStores (w := 3) hL hM hI (by decide)) rfl rfl (Nat.le_of_ble_eq_true rfl) ⟨rfl, rfl⟩ ⟨Nat.zero_le _, Nat.zero_le _⟩ ?_
    exact aw_iret dX4_counts_68 rfl (Nat.zero_le _) (Nat.zero_le _) ⟨rfl, rfl⟩
  · refine run_of (ls := [(0, .ref (G.1 140)), (1, .int (nI 4))]) (by decide +kernel) rfl rfl (Nat.le_of_ble_eq_true rfl) ?_
    refine aw_iload_n dX4_counts_0 rfl ?_
    refine aw_tableIn (tgt := 69) dX4_counts_1 (by decide) (by decide) rfl (by decide) ?_
    refine aw_aload_n dX4_counts_69 rfl ?_
    refine aw_getR dX4_counts_70 flX4_7 rfl (by assumption) (by assumption) ?_
    refine aw_bipush (v := nI 6) dX4_counts_73 rfl ?_
    refine aw_iald dX4_counts_75 (by assumption) (by omega) rfl (by omega) (hM.1 6 (by decide)) ?_
    exact aw_iret dX4_counts_76 rfl (Nat.zero_le _) (Nat.zero_le _) ⟨rfl, rfl⟩
  · refine run_of (ls := [(0, .ref (G.1 140)), (1, .int (nI 5))]) (by decide +kernel) rfl rfl (Nat.le_of_ble_eq_true rfl) ?_
    refine aw_iload_n dX4_counts_0 rfl ?_
    refine aw_tableIn (tgt := 77) dX4_counts_1 (by decide) (by decide) rfl (by decide) ?_
    refine aw_aload_n dX4_counts_77 rfl ?_
    refine aw_getR dX4_counts_78 flX4_7 rfl (by assumption) (by assumption) ?_
    refine aw_bipush (v := nI 7) dX4_counts_81 rfl ?_
    refine aw_iald dX4_counts_83 (by assumption) (by omega) rfl (by omega) (hM.1 7 (by decide)) ?_
    exact aw_iret dX4_counts_84 rfl (Nat.zero_le _) (Nat.zero_le _) ⟨rfl, rfl⟩
  · refine run_of (ls := [(0, .ref (G.1 140)), (1, .int (nI 6))]) (by decide +kernel) rfl rfl (Nat.le_of_ble_eq_true rfl) ?_
    refine aw_iload_n dX4_counts_0 rfl ?_
    refine aw_tableIn (tgt := 63) dX4_counts_1 (by decide) (by decide) rfl (by decide) ?_
    refine aw_aload_n dX4_counts_63 rfl ?_
    refine aw_iload_n dX4_counts_64 rfl ?_
    refine aw_vRd dX4_counts_65 cvX4_138 ⟨Nat.le_of_ble_eq_true rfl, Nat.le_of_ble_eq_true rfl⟩ (by assumption) ⟨_, rfl, rfl⟩ (r_overStores (w := 6) hL hM hI (by decide)) rfl rfl (Nat.le_of_ble_eq_true rfl) ⟨rfl, rfl⟩ ⟨Nat.zero_le _, Nat.zero_le _⟩ ?_
    exact aw_iret dX4_counts_68 rfl (Nat.zero_le _) (Nat.zero_le _) ⟨rfl, rfl⟩
  · refine run_of (ls := [(0, .ref (G.1 140)), (1, .int (nI 7))]) (by decide +kernel) rfl rfl (Nat.le_of_ble_eq_true rfl) ?_
    refine aw_iload_n dX4_counts_0 rfl ?_
    refine aw_tableIn (tgt := 85) dX4_counts_1 (by decide) (by decide) rfl (by decide) ?_
    refine aw_aload_n dX4_counts_85 rfl ?_
    refine aw_getR dX4_counts_86 flX4_7 rfl (by assumption) (by assumption) ?_
    refine aw_bipush (v := nI 8) dX4_counts_89 rfl ?_
    refine aw_iald dX4_counts_91 (by assumption) (by omega) rfl (by omega) (hM.1 8 (by decide)) ?_
    exact aw_iret dX4_counts_92 rfl (Nat.zero_le _) (Nat.zero_le _) ⟨rfl, rfl⟩
  · refine run_of (ls := [(0, .ref (G.1 140)), (1, .int (nI 8))]) (by decide +kernel) rfl rfl (Nat.le_of_ble_eq_true rfl) ?_
    refine aw_iload_n dX4_counts_0 rfl ?_
    refine aw_tableOut (tgt := 93) dX4_counts_1 (by decide) (by decide) ?_
    refine aw_aload_n dX4_counts_93 rfl ?_
    refine aw_getI dX4_counts_94 flX4_37 rfl (by assumption) hsm ?_
    exact aw_iret dX4_counts_97 rfl (Nat.zero_le _) (Nat.zero_le _) ⟨rfl, rfl⟩
end MODEL9
