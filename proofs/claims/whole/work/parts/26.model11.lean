/-! THE REFERENCE: texts -/
/-- the buffer -/
def RB (I : Nat → Nat → Int32) (B : List Nat) : Prop := I 140 6 = nI B.length ∧ B.length ≤ 60 ∧ ∀ (i c : Nat), B[i]? = some c → I 144 i = nI c ∧ 33 ≤ c ∧ c ≤ 126
def dig (c : Nat) : Bool := decide (48 ≤ c ∧ c ≤ 57)
/-- one number is read -/
def rdNum (B : List Nat) (p : Nat) (r : List Nat) : Bool × Nat × List Nat :=
  if dig (B.getD p 0) = true then (if 48 < B.getD p 0 ∧ dig (B.getD (p + 1) 0) = true then (true, p + 2, r ++ [10 * (B.getD p 0 - 48) + (B.getD (p + 1) 0 - 48)]) else (true, p + 1, r ++ [B.getD p 0 - 48])) else (false, p, r)
/-- the further ones, with commas ahead -/
def rdLoop (B : List Nat) : Nat → Nat → List Nat → Bool × Nat × List Nat
  | 0, p, r => (true, p, r)
  | f + 1, p, r => if p < B.length then (if B.getD p 0 = 44 ∧ r.length < 20 then (if (rdNum B (p + 1) r).1 = true then rdLoop B f (rdNum B (p + 1) r).2.1 (rdNum B (p + 1) r).2.2 else rdNum B (p + 1) r) else (false, p, r)) else (true, p, r)
def rdAll (B : List Nat) : Bool × Nat × List Nat := if (rdNum B 0 []).1 = true then rdLoop B B.length (rdNum B 0 []).2.1 (rdNum B 0 []).2.2 else rdNum B 0 []
/-- where the reading stands -/
def RX (I : Nat → Nat → Int32) (x : Bool × Nat × List Nat) : Prop := I 140 8 = nI (b2 x.1) ∧ I 140 7 = nI x.2.1 ∧ I 140 10 = nI x.2.2.length ∧ ∀ (i v : Nat), x.2.2[i]? = some v → I 145 i = nI v
/-- the reading touches its own cells alone -/
def FrX (I I' : Nat → Nat → Int32) : Prop := (∀ q, q ≠ 140 → q ≠ 145 → I' q = I q) ∧ ∀ j, j ≠ 7 → j ≠ 8 → j ≠ 10 → I' 140 j = I 140 j
theorem FrX.rf {I : Nat → Nat → Int32} : FrX I I := ⟨fun _ _ _ => rfl, fun _ _ _ _ => rfl⟩
theorem FrX.tr {I I' I'' : Nat → Nat → Int32} (h : FrX I I') (h' : FrX I' I'') : FrX I I'' := ⟨fun q h1 h2 => (h'.1 q h1 h2).trans (h.1 q h1 h2), fun j h1 h2 h3 => (h'.2 j h1 h2 h3).trans (h.2 j h1 h2 h3)⟩
theorem FrX.up {I : Nat → Nat → Int32} {j : Nat} {v : Int32} (h : j = 7 ∨ j = 8 ∨ j = 10) : FrX I (up2 I 140 j v) := ⟨fun q h1 _ => FrO.up q h1, fun k h1 h2 h3 => by rw [up2_o, if_neg (by omega)]⟩
theorem FrX.up5 {I : Nat → Nat → Int32} {j : Nat} {v : Int32} : FrX I (up2 I 145 j v) := ⟨fun q _ h2 => FrO.up q h2, fun k _ _ _ => by rw [FrO.up 140 (by decide)]⟩
theorem RB.fr {I I' : Nat → Nat → Int32} {B : List Nat} (h : RB I B) (hF : FrX I I') : RB I' B := ⟨by rw [hF.2 6 (by decide) (by decide) (by decide)]; exact h.1, h.2.1, fun i c hi => by rw [hF.1 144 (by decide) (by decide)]; exact h.2.2 i c hi⟩
theorem getD_lt {B : List Nat} {p : Nat} (h : p < B.length) : B[p]? = some (B.getD p 0) := by rw [List.getD_eq_getElem?_getD, List.getElem?_eq_getElem h]; rfl
theorem getD_ge {B : List Nat} {p : Nat} (h : B.length ≤ p) : B.getD p 0 = 0 := by rw [List.getD_eq_getElem?_getD, List.getElem?_eq_none h]; rfl
theorem RB.le {I : Nat → Nat → Int32} {B : List Nat} (h : RB I B) (p : Nat) : B.getD p 0 ≤ 126 := by
  rcases Nat.lt_or_ge p B.length with q | q
  · exact (h.2.2 p _ (getD_lt q)).2.2
  · rw [getD_ge q]; omega
theorem in_dig {c : Nat} (h : c ≤ 126) : (if nI 48 ≤ nI c ∧ nI c ≤ nI 57 then 1 else 0) = b2 (dig c) := by
  unfold b2 dig
  have e : (nI 48 ≤ nI c ∧ nI c ≤ nI 57) ↔ (48 ≤ c ∧ c ≤ 57) := by rw [nI_leI (by decide) (by omega), nI_leI (by omega) (by decide)]
  by_cases q : 48 ≤ c ∧ c ≤ 57
  · rw [if_pos (e.mpr q), if_pos (by simpa using q)]
  · rw [if_neg (fun w => q (e.mp w)), if_neg (by simpa using q)]
theorem rdNum_f {B : List Nat} {p : Nat} {r : List Nat} (h : dig (B.getD p 0) = false) : rdNum B p r = (false, p, r) := by
  unfold rdNum; rw [if_neg (by rw [h]; decide)]
theorem rdNum_1 {B : List Nat} {p : Nat} {r : List Nat} (h : dig (B.getD p 0) = true) (h' : ¬ (48 < B.getD p 0 ∧ dig (B.getD (p + 1) 0) = true)) : rdNum B p r = (true, p + 1, r ++ [B.getD p 0 - 48]) := by
  unfold rdNum; rw [if_pos h, if_neg h']
theorem rdNum_2 {B : List Nat} {p : Nat} {r : List Nat} (h : dig (B.getD p 0) = true) (h' : 48 < B.getD p 0 ∧ dig (B.getD (p + 1) 0) = true) : rdNum B p r = (true, p + 2, r ++ [10 * (B.getD p 0 - 48) + (B.getD (p + 1) 0 - 48)]) := by
  unfold rdNum; rw [if_pos h, if_pos h']
theorem nt1 {c c2 : Nat} (h : c - 48 = 0) : ¬ (48 < c ∧ dig c2 = true) := fun q => by have := q.1; omega
theorem nt2 {c : Nat} (h : b2 (dig c) ≠ 0) : dig c = true := by
  cases q : dig c
  · rw [q] at h; exact absurd rfl h
  · rfl
theorem nt3 {c c2 : Nat} (h : b2 (dig c2) = 0) : ¬ (48 < c ∧ dig c2 = true) := fun q => by rw [q.2] at h; cases h
theorem sd {w : Bool} {L p : Nat} (hx : w = false ∨ L ≤ p) (h18 : b2 w ≠ 0) (h : p < L) : False := by
  rcases hx with q | q
  · rw [q] at h18; exact h18 rfl
  · omega
theorem dig_t {c : Nat} (h : dig c = true) : 48 ≤ c ∧ c ≤ 57 := by simpa [dig] using h
section MODEL11
variable {G : GG} {K : Nat → Option (Nat × Nat)} {R : Nat → Nat → Value} {I : Nat → Nat → Int32} {J : Nat → Nat → Int64} {z : Nat} {σ : Sg} {a : AA} {B : List Nat} {m k : Nat}
theorem r_sign (hL : LM G K R) (hB : RB I B) {p : Nat} (hp : I 140 7 = nI p) (hp2 : p ≤ 1000) : Run G YX4_sign [.ref (G.1 140)] (K, R, I, J, z) (Rd (K, R, I, J, z) (.int (nI (B.getD p 0)))) := by
  obtain ⟨hk0, hr1, hk1, hr2, hk2, hr3, hk3, hr5, hk5, hr9, hk9⟩ := hL
  have h60 := hB.2.1
  refine run_of (ls := [(0, .ref (G.1 140))]) (by decide +kernel) rfl rfl (Nat.le_of_ble_eq_true rfl) ?_
  refine aw_aload_n dX4_sign_0 rfl ?_
  refine aw_getI dX4_sign_1 flX4_116 rfl (by assumption) hp ?_
  refine aw_aload_n dX4_sign_4 rfl ?_
  refine aw_getI dX4_sign_5 flX4_113 rfl (by assumption) hB.1 ?_
  refine aw_icmp_geN (tgt := 23) dX4_sign_8 (by decide) (by omega) (by omega) (fun hc8 => ?_) (fun hc8 => ?_)
  · refine aw_iconst (v := nI 0) dX4_sign_23 rfl ?_
    exact aw_iret dX4_sign_24 rfl (Nat.zero_le _) (Nat.zero_le _) ⟨by first | rfl | rw [getD_ge hc8], rfl⟩
  · refine aw_aload_n dX4_sign_11 rfl ?_
    refine aw_getR dX4_sign_12 flX4_19 rfl (by assumption) (by assumption) ?_
    refine aw_aload_n dX4_sign_15 rfl ?_
    refine aw_getI dX4_sign_16 flX4_116 rfl (by assumption) hp ?_
    refine aw_iald dX4_sign_19 (by assumption) (by omega) rfl (by omega) (hB.2.2 p _ (getD_lt hc8)).1 ?_
    refine aw_goto (tgt := 24) dX4_sign_20 (by decide) ?_
    exact aw_iret dX4_sign_24 rfl (Nat.zero_le _) (Nat.zero_le _) ⟨by first | rfl | rw [getD_ge hc8], rfl⟩
theorem r_in_dig {c : Nat} (h : c ≤ 126) : Run G YX4_in [.int (nI c), .int (nI 48), .int (nI 57)] σ (Rd σ (.int (nI (b2 (dig c))))) := by
  have := r_in (G := G) (σ := σ) (nI c) (nI 48) (nI 57)
  rw [in_dig h] at this; exact this
theorem rd_app {I0 I1 : Nat → Nat → Int32} {r : List Nat} {x : Nat} (hrv : ∀ (i v : Nat), r[i]? = some v → I0 145 i = nI v) {i v : Nat} (h : (r ++ [x])[i]? = some v) (h1 : ∀ j, I1 145 j = if j = r.length then nI x else I0 145 j) : I1 145 i = nI v := by
  have hil := (List.getElem?_eq_some_iff.mp h).1
  rw [List.length_append, List.length_singleton] at hil
  rw [h1]
  by_cases e : i = r.length
  · subst e
    rw [List.getElem?_append_right (Nat.le_refl _), Nat.sub_self] at h
    cases h
    rw [if_pos rfl]
  · rw [if_neg e]
    rw [List.getElem?_append_left (by omega)] at h
    exact hrv i v h
theorem r_readsNumber (hL : LM G K R) (hB : RB I B) {p : Nat} {r : List Nat} (hp : I 140 7 = nI p) (hp2 : p ≤ 900) (hr : I 140 10 = nI r.length) (hr2 : r.length < 20) (hrv : ∀ (i v : Nat), r[i]? = some v → I 145 i = nI v) : Run G YX4_readsNumber [.ref (G.1 140)] (K, R, I, J, z) (Up K R J z none (fun I' => RX I' (rdNum B p r) ∧ FrX I I')) := by
  obtain ⟨hk0, hr1, hk1, hr2, hk2, hr3, hk3, hr5, hk5, hr9, hk9⟩ := hL
  have hL : LM G K R := ⟨hk0, hr1, hk1, hr2, hk2, hr3, hk3, hr5, hk5, hr9, hk9⟩
  have hc1 := hB.le p
  have hc2 := hB.le (p + 1)
  have h60 := hB.2.1
  have hbd := b2_le (dig (B.getD p 0))
  have hbd2 := b2_le (dig (B.getD (p + 1) 0))
  have hB8 : RB (up2 I 140 8 (nI (b2 (dig (B.getD p 0))))) B := hB.fr (FrX.up (Or.inr (Or.inl rfl)))
  have hB7 : RB (up2 (up2 I 140 8 (nI (b2 (dig (B.getD p 0))))) 140 7 (nI (p + b2 (dig (B.getD p 0))))) B := hB8.fr (FrX.up (Or.inl rfl))
  cases hd : dig (B.getD p 0) with
  | false =>
    rw [hd] at hB8 hB7 hbd
    rw [show b2 false = 0 from rfl] at hB8 hB7 hbd
    refine run_of (ls := [(0, .ref (G.1 140))]) (by decide +kernel) rfl rfl (Nat.le_of_ble_eq_true rfl) ?_
    refine aw_aload_n dX4_readsNumber_0 rfl ?_
    refine aw_aload_n dX4_readsNumber_1 rfl ?_
    refine aw_vRd dX4_readsNumber_2 cvX4_119 ⟨Nat.le_of_ble_eq_true rfl, Nat.le_of_ble_eq_true rfl⟩ (by assumption) ⟨_, rfl, rfl⟩ (r_sign hL hB hp (by omega)) rfl rfl (Nat.le_of_ble_eq_true rfl) ⟨rfl, rfl⟩ ⟨Nat.zero_le _, Nat.zero_le _⟩ ?_
    refine aw_bipush (v := nI 48) dX4_readsNumber_5 rfl ?_
    refine aw_bipush (v := nI 57) dX4_readsNumber_7 rfl ?_
    refine aw_sRd dX4_readsNumber_9 cvX4_33 ⟨Nat.le_of_ble_eq_true rfl, Nat.le_of_ble_eq_true rfl⟩ (r_in_dig hc1) rfl rfl (Nat.le_of_ble_eq_true rfl) ⟨rfl, rfl⟩ ⟨Nat.zero_le _, Nat.zero_le _⟩ ?_
    rw [hd, show b2 false = 0 from rfl]
    refine aw_putI dX4_readsNumber_12 flX4_122 rfl (by intro r hr; cases hr; rfl) (by assumption) (by omega) rfl rfl ?_
    refine aw_aload_n dX4_readsNumber_15 rfl ?_
    refine aw_vRd dX4_readsNumber_16 cvX4_119 ⟨Nat.le_of_ble_eq_true rfl, Nat.le_of_ble_eq_true rfl⟩ (by assumption) ⟨_, rfl, rfl⟩ (r_sign hL hB8 (p := p) (by simp [up2, hp]) (by omega)) rfl rfl (Nat.le_of_ble_eq_true rfl) ⟨rfl, rfl⟩ ⟨Nat.zero_le _, Nat.zero_le _⟩ ?_
    refine aw_bipush (v := nI 48) dX4_readsNumber_19 rfl ?_
    first | refine aw_isubN dX4_readsNumber_21 (by omega) ?_ | refine aw_isub dX4_readsNumber_21 ?_
    refine aw_istore_n (ls' := [(1, _), (0, _)]) dX4_readsNumber_22 (by decide) rfl ?_
    refine aw_aload_n dX4_readsNumber_23 rfl ?_
    refine aw_dup dX4_readsNumber_24 rfl ?_
    refine aw_getI dX4_readsNumber_25 flX4_116 rfl (by assumption) (show _ = nI p by simp [up2, hp]) ?_
    refine aw_aload_n dX4_readsNumber_28 rfl ?_
    refine aw_getI dX4_readsNumber_29 flX4_122 rfl (by assumption) (show _ = nI 0 by simp [up2]) ?_
    refine aw_dia (tgt := 39) (jn := 40) (c1 := 1) (c0 := 0) dX4_readsNumber_32 (by decide) dX4_readsNumber_35 rfl dX4_readsNumber_36 (by decide) dX4_readsNumber_39 rfl rfl (by omega) (rfl : nI (if 0 = 0 then 0 else 1) = nI 0) ?_
    first | refine aw_iaddN dX4_readsNumber_40 ?_ | refine aw_iadd dX4_readsNumber_40 ?_
    refine aw_putI dX4_readsNumber_41 flX4_116 rfl (by intro r hr; cases hr; rfl) (by assumption) (by omega) rfl rfl ?_
    refine aw_aload_n dX4_readsNumber_44 rfl ?_
    refine aw_getI dX4_readsNumber_45 flX4_122 rfl (by assumption) (show _ = nI 0 by simp [up2]) ?_
    refine aw_if_eqN (tgt := 92) dX4_readsNumber_48 (by decide) (by omega) (fun hc48 => ?_) (fun hc48 => absurd rfl hc48)
    refine aw_aload_n dX4_readsNumber_92 rfl ?_
    refine aw_getI dX4_readsNumber_93 flX4_122 rfl (by assumption) (show _ = nI 0 by simp [up2]) ?_
    refine aw_if_eqN (tgt := 119) dX4_readsNumber_96 (by decide) (by omega) (fun hc96 => ?_) (fun hc96 => absurd rfl hc96)
    refine aw_vret dX4_readsNumber_119 rfl (Nat.zero_le _) (Nat.zero_le _) ?_
    refine ⟨rfl, _, rfl, ?_, (FrX.up (Or.inr (Or.inl rfl))).tr (FrX.up (Or.inl rfl))⟩
    rw [rdNum_f hd]
    exact ⟨by simp [up2, b2], by simp [up2], by simp [up2, hr], fun i v h => by simp [up2]; exact hrv i v h⟩
  | true =>
    obtain ⟨hd1, hd2⟩ := dig_t hd
    rw [hd] at hB8 hB7 hbd
    rw [show b2 true = 1 from rfl] at hB8 hB7 hbd
    refine run_of (ls := [(0, .ref (G.1 140))]) (by decide +kernel) rfl rfl (Nat.le_of_ble_eq_true rfl) ?_
    refine aw_aload_n dX4_readsNumber_0 rfl ?_
    refine aw_aload_n dX4_readsNumber_1 rfl ?_
    refine aw_vRd dX4_readsNumber_2 cvX4_119 ⟨Nat.le_of_ble_eq_true rfl, Nat.le_of_ble_eq_true rfl⟩ (by assumption) ⟨_, rfl, rfl⟩ (r_sign hL hB hp (by omega)) rfl rfl (Nat.le_of_ble_eq_true rfl) ⟨rfl, rfl⟩ ⟨Nat.zero_le _, Nat.zero_le _⟩ ?_
    refine aw_bipush (v := nI 48) dX4_readsNumber_5 rfl ?_
    refine aw_bipush (v := nI 57) dX4_readsNumber_7 rfl ?_
    refine aw_sRd dX4_readsNumber_9 cvX4_33 ⟨Nat.le_of_ble_eq_true rfl, Nat.le_of_ble_eq_true rfl⟩ (r_in_dig hc1) rfl rfl (Nat.le_of_ble_eq_true rfl) ⟨rfl, rfl⟩ ⟨Nat.zero_le _, Nat.zero_le _⟩ ?_
    rw [hd, show b2 true = 1 from rfl]
    refine aw_putI dX4_readsNumber_12 flX4_122 rfl (by intro r hr; cases hr; rfl) (by assumption) (by omega) rfl rfl ?_
    refine aw_aload_n dX4_readsNumber_15 rfl ?_
    refine aw_vRd dX4_readsNumber_16 cvX4_119 ⟨Nat.le_of_ble_eq_true rfl, Nat.le_of_ble_eq_true rfl⟩ (by assumption) ⟨_, rfl, rfl⟩ (r_sign hL hB8 (p := p) (by simp [up2, hp]) (by omega)) rfl rfl (Nat.le_of_ble_eq_true rfl) ⟨rfl, rfl⟩ ⟨Nat.zero_le _, Nat.zero_le _⟩ ?_
    refine aw_bipush (v := nI 48) dX4_readsNumber_19 rfl ?_
    first | refine aw_isubN dX4_readsNumber_21 (by omega) ?_ | refine aw_isub dX4_readsNumber_21 ?_
    refine aw_istore_n (ls' := [(1, _), (0, _)]) dX4_readsNumber_22 (by decide) rfl ?_
    refine aw_aload_n dX4_readsNumber_23 rfl ?_
    refine aw_dup dX4_readsNumber_24 rfl ?_
    refine aw_getI dX4_readsNumber_25 flX4_116 rfl (by assumption) (show _ = nI p by simp [up2, hp]) ?_
    refine aw_aload_n dX4_readsNumber_28 rfl ?_
    refine aw_getI dX4_readsNumber_29 flX4_122 rfl (by assumption) (show _ = nI 1 by simp [up2]) ?_
    refine aw_dia (tgt := 39) (jn := 40) (c1 := 1) (c0 := 0) dX4_readsNumber_32 (by decide) dX4_readsNumber_35 rfl dX4_readsNumber_36 (by decide) dX4_readsNumber_39 rfl rfl (by omega) (rfl : nI (if 1 = 0 then 0 else 1) = nI 1) ?_
    first | refine aw_iaddN dX4_readsNumber_40 ?_ | refine aw_iadd dX4_readsNumber_40 ?_
    refine aw_putI dX4_readsNumber_41 flX4_116 rfl (by intro r hr; cases hr; rfl) (by assumption) (by omega) rfl rfl ?_
    refine aw_aload_n dX4_readsNumber_44 rfl ?_
    refine aw_getI dX4_readsNumber_45 flX4_122 rfl (by assumption) (show _ = nI 1 by simp [up2]) ?_
    refine aw_if_eqN (tgt := 92) dX4_readsNumber_48 (by decide) (by omega) (fun hc48 => absurd hc48 (by decide)) (fun hc48 => ?_)
    refine aw_iload_n dX4_readsNumber_51 rfl ?_
    refine aw_if_leN (tgt := 92) dX4_readsNumber_52 (by decide) (by omega) (fun hc52 => ?_) (fun hc52 => ?_)
    · refine aw_aload_n dX4_readsNumber_92 rfl ?_
      refine aw_getI dX4_readsNumber_93 flX4_122 rfl (by assumption) (show _ = nI 1 by simp [up2]) ?_
      refine aw_if_eqN (tgt := 119) dX4_readsNumber_96 (by decide) (by omega) (fun hc96 => absurd hc96 (by decide)) (fun hc96 => ?_)
      refine aw_aload_n dX4_readsNumber_99 rfl ?_
      refine aw_getR dX4_readsNumber_100 flX4_22 rfl (by assumption) (by assumption) ?_
      refine aw_aload_n dX4_readsNumber_103 rfl ?_
      refine aw_getI dX4_readsNumber_104 flX4_126 rfl (by assumption) (show _ = nI r.length by simp [up2, hr]) ?_
      refine aw_iload_n dX4_readsNumber_107 rfl ?_
      refine aw_iast dX4_readsNumber_108 (by assumption) (by omega) (by omega) rfl (by omega) ?_
      refine aw_aload_n dX4_readsNumber_109 rfl ?_
      refine aw_dup dX4_readsNumber_110 rfl ?_
      refine aw_getI dX4_readsNumber_111 flX4_126 rfl (by assumption) (show _ = nI r.length by simp [up2, hr]) ?_
      refine aw_iconst (v := nI 1) dX4_readsNumber_114 rfl ?_
      first | refine aw_iaddN dX4_readsNumber_115 ?_ | refine aw_iadd dX4_readsNumber_115 ?_
      refine aw_putI dX4_readsNumber_116 flX4_126 rfl (by intro r hr; cases hr; rfl) (by assumption) (by omega) rfl rfl ?_
      refine aw_vret dX4_readsNumber_119 rfl (Nat.zero_le _) (Nat.zero_le _) ?_
      refine ⟨rfl, _, rfl, ?_, ?_⟩
      · first
        | (have hq := rdNum_1 (r := r) hd (nt1 (c2 := B.getD (p + 1) 0) hc52)
           rw [hq]
           exact ⟨by simp [up2, b2], by simp [up2], by simp [up2, hr], fun i v h => rd_app (I0 := I) hrv h (fun j => by simp [up2])⟩)
        | (have hq2 := nt2 hc66
           have hq := rdNum_2 (r := r) hd ⟨by omega, hq2⟩
           rw [hq]
           have e1 : 10 * (B.getD p 0 - 48) + (B.getD (p + 1) 0) - 48 = 10 * (B.getD p 0 - 48) + (B.getD (p + 1) 0 - 48) := by
             have := (dig_t hq2).1
             omega
           exact ⟨by simp [up2, b2], by simp [up2], by simp [up2, hr], fun i v h => rd_app (I0 := I) hrv h (fun j => by rw [← e1, ← pk_sub (show 48 ≤ _ by have := (dig_t hq2).1; omega)]; simp [up2])⟩)
        | (have hq := rdNum_1 (r := r) hd (nt3 hc66)
           rw [hq]
           exact ⟨by simp [up2, b2], by simp [up2], by simp [up2, hr], fun i v h => rd_app (I0 := I) hrv h (fun j => by simp [up2])⟩)
      · first
        | exact (FrX.up (Or.inr (Or.inl rfl))).tr ((FrX.up (Or.inl rfl)).tr (FrX.up5.tr (FrX.up (Or.inr (Or.inr rfl)))))
        | exact (FrX.up (Or.inr (Or.inl rfl))).tr ((FrX.up (Or.inl rfl)).tr ((FrX.up (Or.inl rfl)).tr (FrX.up5.tr (FrX.up (Or.inr (Or.inr rfl))))))
    · refine aw_aload_n dX4_readsNumber_55 rfl ?_
      refine aw_vRd dX4_readsNumber_56 cvX4_119 ⟨Nat.le_of_ble_eq_true rfl, Nat.le_of_ble_eq_true rfl⟩ (by assumption) ⟨_, rfl, rfl⟩ (r_sign hL hB7 (p := p + 1) (by simp [up2]) (by omega)) rfl rfl (Nat.le_of_ble_eq_true rfl) ⟨rfl, rfl⟩ ⟨Nat.zero_le _, Nat.zero_le _⟩ ?_
      refine aw_bipush (v := nI 48) dX4_readsNumber_59 rfl ?_
      refine aw_bipush (v := nI 57) dX4_readsNumber_61 rfl ?_
      refine aw_sRd dX4_readsNumber_63 cvX4_33 ⟨Nat.le_of_ble_eq_true rfl, Nat.le_of_ble_eq_true rfl⟩ (r_in_dig hc2) rfl rfl (Nat.le_of_ble_eq_true rfl) ⟨rfl, rfl⟩ ⟨Nat.zero_le _, Nat.zero_le _⟩ ?_
      refine aw_if_eqN (tgt := 92) dX4_readsNumber_66 (by decide) (by omega) (fun hc66 => ?_) (fun hc66 => ?_)
      · refine aw_aload_n dX4_readsNumber_92 rfl ?_
        refine aw_getI dX4_readsNumber_93 flX4_122 rfl (by assumption) (show _ = nI 1 by simp [up2]) ?_
        refine aw_if_eqN (tgt := 119) dX4_readsNumber_96 (by decide) (by omega) (fun hc96 => absurd hc96 (by decide)) (fun hc96 => ?_)
        refine aw_aload_n dX4_readsNumber_99 rfl ?_
        refine aw_getR dX4_readsNumber_100 flX4_22 rfl (by assumption) (by assumption) ?_
        refine aw_aload_n dX4_readsNumber_103 rfl ?_
        refine aw_getI dX4_readsNumber_104 flX4_126 rfl (by assumption) (show _ = nI r.length by simp [up2, hr]) ?_
        refine aw_iload_n dX4_readsNumber_107 rfl ?_
        refine aw_iast dX4_readsNumber_108 (by assumption) (by omega) (by omega) rfl (by omega) ?_
        refine aw_aload_n dX4_readsNumber_109 rfl ?_
        refine aw_dup dX4_readsNumber_110 rfl ?_
        refine aw_getI dX4_readsNumber_111 flX4_126 rfl (by assumption) (show _ = nI r.length by simp [up2, hr]) ?_
        refine aw_iconst (v := nI 1) dX4_readsNumber_114 rfl ?_
        first | refine aw_iaddN dX4_readsNumber_115 ?_ | refine aw_iadd dX4_readsNumber_115 ?_
        refine aw_putI dX4_readsNumber_116 flX4_126 rfl (by intro r hr; cases hr; rfl) (by assumption) (by omega) rfl rfl ?_
        refine aw_vret dX4_readsNumber_119 rfl (Nat.zero_le _) (Nat.zero_le _) ?_
        refine ⟨rfl, _, rfl, ?_, ?_⟩
        · first
          | (have hq := rdNum_1 (r := r) hd (nt1 (c2 := B.getD (p + 1) 0) hc52)
             rw [hq]
             exact ⟨by simp [up2, b2], by simp [up2], by simp [up2, hr], fun i v h => rd_app (I0 := I) hrv h (fun j => by simp [up2])⟩)
          | (have hq2 := nt2 hc66
             have hq := rdNum_2 (r := r) hd ⟨by omega, hq2⟩
             rw [hq]
             have e1 : 10 * (B.getD p 0 - 48) + (B.getD (p + 1) 0) - 48 = 10 * (B.getD p 0 - 48) + (B.getD (p + 1) 0 - 48) := by
               have := (dig_t hq2).1
               omega
             exact ⟨by simp [up2, b2], by simp [up2], by simp [up2, hr], fun i v h => rd_app (I0 := I) hrv h (fun j => by rw [← e1, ← pk_sub (show 48 ≤ _ by have := (dig_t hq2).1; omega)]; simp [up2])⟩)
          | (have hq := rdNum_1 (r := r) hd (nt3 hc66)
             rw [hq]
             exact ⟨by simp [up2, b2], by simp [up2], by simp [up2, hr], fun i v h => rd_app (I0 := I) hrv h (fun j => by simp [up2])⟩)
        · first
          | exact (FrX.up (Or.inr (Or.inl rfl))).tr ((FrX.up (Or.inl rfl)).tr (FrX.up5.tr (FrX.up (Or.inr (Or.inr rfl)))))
          | exact (FrX.up (Or.inr (Or.inl rfl))).tr ((FrX.up (Or.inl rfl)).tr ((FrX.up (Or.inl rfl)).tr (FrX.up5.tr (FrX.up (Or.inr (Or.inr rfl))))))
      · refine aw_bipush (v := nI 10) dX4_readsNumber_69 rfl ?_
        refine aw_iload_n dX4_readsNumber_71 rfl ?_
        first | refine aw_imulN dX4_readsNumber_72 ?_ | refine aw_imul dX4_readsNumber_72 ?_
        refine aw_aload_n dX4_readsNumber_73 rfl ?_
        refine aw_vRd dX4_readsNumber_74 cvX4_119 ⟨Nat.le_of_ble_eq_true rfl, Nat.le_of_ble_eq_true rfl⟩ (by assumption) ⟨_, rfl, rfl⟩ (r_sign hL hB7 (p := p + 1) (by simp [up2]) (by omega)) rfl rfl (Nat.le_of_ble_eq_true rfl) ⟨rfl, rfl⟩ ⟨Nat.zero_le _, Nat.zero_le _⟩ ?_
        first | refine aw_iaddN dX4_readsNumber_77 ?_ | refine aw_iadd dX4_readsNumber_77 ?_
        refine aw_bipush (v := nI 48) dX4_readsNumber_78 rfl ?_
        first | refine aw_isubN dX4_readsNumber_80 (by omega) ?_ | refine aw_isub dX4_readsNumber_80 ?_
        refine aw_istore_n (ls' := [(1, _), (0, _)]) dX4_readsNumber_81 (by decide) rfl ?_
        refine aw_aload_n dX4_readsNumber_82 rfl ?_
        refine aw_dup dX4_readsNumber_83 rfl ?_
        refine aw_getI dX4_readsNumber_84 flX4_116 rfl (by assumption) (show _ = nI (p + 1) by simp [up2]) ?_
        refine aw_iconst (v := nI 1) dX4_readsNumber_87 rfl ?_
        first | refine aw_iaddN dX4_readsNumber_88 ?_ | refine aw_iadd dX4_readsNumber_88 ?_
        refine aw_putI dX4_readsNumber_89 flX4_116 rfl (by intro r hr; cases hr; rfl) (by assumption) (by omega) rfl rfl ?_
        refine aw_aload_n dX4_readsNumber_92 rfl ?_
        refine aw_getI dX4_readsNumber_93 flX4_122 rfl (by assumption) (show _ = nI 1 by simp [up2]) ?_
        refine aw_if_eqN (tgt := 119) dX4_readsNumber_96 (by decide) (by omega) (fun hc96 => absurd hc96 (by decide)) (fun hc96 => ?_)
        refine aw_aload_n dX4_readsNumber_99 rfl ?_
        refine aw_getR dX4_readsNumber_100 flX4_22 rfl (by assumption) (by assumption) ?_
        refine aw_aload_n dX4_readsNumber_103 rfl ?_
        refine aw_getI dX4_readsNumber_104 flX4_126 rfl (by assumption) (show _ = nI r.length by simp [up2, hr]) ?_
        refine aw_iload_n dX4_readsNumber_107 rfl ?_
        refine aw_iast dX4_readsNumber_108 (by assumption) (by omega) (by omega) rfl (by omega) ?_
        refine aw_aload_n dX4_readsNumber_109 rfl ?_
        refine aw_dup dX4_readsNumber_110 rfl ?_
        refine aw_getI dX4_readsNumber_111 flX4_126 rfl (by assumption) (show _ = nI r.length by simp [up2, hr]) ?_
        refine aw_iconst (v := nI 1) dX4_readsNumber_114 rfl ?_
        first | refine aw_iaddN dX4_readsNumber_115 ?_ | refine aw_iadd dX4_readsNumber_115 ?_
        refine aw_putI dX4_readsNumber_116 flX4_126 rfl (by intro r hr; cases hr; rfl) (by assumption) (by omega) rfl rfl ?_
        refine aw_vret dX4_readsNumber_119 rfl (Nat.zero_le _) (Nat.zero_le _) ?_
        refine ⟨rfl, _, rfl, ?_, ?_⟩
        · first
          | (have hq := rdNum_1 (r := r) hd (nt1 (c2 := B.getD (p + 1) 0) hc52)
             rw [hq]
             exact ⟨by simp [up2, b2], by simp [up2], by simp [up2, hr], fun i v h => rd_app (I0 := I) hrv h (fun j => by simp [up2])⟩)
          | (have hq2 := nt2 hc66
             have hq := rdNum_2 (r := r) hd ⟨by omega, hq2⟩
             rw [hq]
             have e1 : 10 * (B.getD p 0 - 48) + (B.getD (p + 1) 0) - 48 = 10 * (B.getD p 0 - 48) + (B.getD (p + 1) 0 - 48) := by
               have := (dig_t hq2).1
               omega
             exact ⟨by simp [up2, b2], by simp [up2], by simp [up2, hr], fun i v h => rd_app (I0 := I) hrv h (fun j => by rw [← e1, ← pk_sub (show 48 ≤ _ by have := (dig_t hq2).1; omega)]; simp [up2])⟩)
          | (have hq := rdNum_1 (r := r) hd (nt3 hc66)
             rw [hq]
             exact ⟨by simp [up2, b2], by simp [up2], by simp [up2, hr], fun i v h => rd_app (I0 := I) hrv h (fun j => by simp [up2])⟩)
        · first
          | exact (FrX.up (Or.inr (Or.inl rfl))).tr ((FrX.up (Or.inl rfl)).tr (FrX.up5.tr (FrX.up (Or.inr (Or.inr rfl)))))
          | exact (FrX.up (Or.inr (Or.inl rfl))).tr ((FrX.up (Or.inl rfl)).tr ((FrX.up (Or.inl rfl)).tr (FrX.up5.tr (FrX.up (Or.inr (Or.inr rfl))))))
theorem rdNum_t {B : List Nat} {p : Nat} {r : List Nat} (h : (rdNum B p r).1 = true) : p < (rdNum B p r).2.1 ∧ (rdNum B p r).2.1 ≤ p + 2 ∧ (rdNum B p r).2.2.length = r.length + 1 := by
  unfold rdNum at h ⊢
  by_cases hd : dig (B.getD p 0) = true
  · rw [if_pos hd] at h ⊢
    split <;> simp
  · rw [if_neg hd] at h; cases h
theorem rdNum_p {B : List Nat} {p : Nat} {r : List Nat} : (rdNum B p r).2.1 ≤ p + 2 := by
  unfold rdNum
  split
  · split <;> simp
  · simp
theorem r_readsAll (hL : LM G K R) (hB : RB I B) : Run G YX4_readsAll [.ref (G.1 140)] (K, R, I, J, z) (Up K R J z none (fun I' => RX I' (rdAll B) ∧ FrX I I')) := by
  obtain ⟨hk0, hr1, hk1, hr2, hk2, hr3, hk3, hr5, hk5, hr9, hk9⟩ := hL
  have hL : LM G K R := ⟨hk0, hr1, hk1, hr2, hk2, hr3, hk3, hr5, hk5, hr9, hk9⟩
  have h60 := hB.2.1
  have stopd : ∀ (I1 : Nat → Nat → Int32) (x : Bool × Nat × List Nat), RX I1 x → FrX I I1 → x.2.1 ≤ 900 → (x.1 = false ∨ B.length ≤ x.2.1) → rdAll B = x → AW G YX4_readsAll (MZ G YX4_readsAll (Up K R J z none (fun I' => RX I' (rdAll B) ∧ FrX I I'))) 14 [(0, .ref (G.1 140))] [] (K, R, I1, J, z) 0 0 := by
    intro I1 x hX hF h9 hx he
    have hB1 := hB.fr hF
    have hb := b2_le x.1
    refine aw_aload_n dX4_readsAll_14 rfl ?_
    refine aw_getI dX4_readsAll_15 flX4_122 rfl (by assumption) hX.1 ?_
    refine aw_if_eqN (tgt := 94) dX4_readsAll_18 (by decide) (by omega) (fun hc18 => ?_) (fun hc18 => ?_)
    · exact aw_vret dX4_readsAll_94 rfl (Nat.zero_le _) (Nat.zero_le _) ⟨rfl, I1, rfl, by rw [he]; exact hX, hF⟩
    · refine aw_aload_n dX4_readsAll_21 rfl ?_
      refine aw_getI dX4_readsAll_22 flX4_116 rfl (by assumption) hX.2.1 ?_
      refine aw_aload_n dX4_readsAll_25 rfl ?_
      refine aw_getI dX4_readsAll_26 flX4_113 rfl (by assumption) hB1.1 ?_
      refine aw_icmp_geN (tgt := 94) dX4_readsAll_29 (by decide) (by omega) (by omega) (fun hc29 => ?_) (fun hc29 => (sd hx hc18 hc29).elim)
      exact aw_vret dX4_readsAll_94 rfl (Nat.zero_le _) (Nat.zero_le _) ⟨rfl, I1, rfl, by rw [he]; exact hX, hF⟩
  have loop : ∀ (f : Nat) (I1 : Nat → Nat → Int32) (p : Nat) (r : List Nat), RX I1 (true, p, r) → FrX I I1 → p ≤ 200 → B.length ≤ p + f → r.length ≤ 20 → rdAll B = rdLoop B f p r → AW G YX4_readsAll (MZ G YX4_readsAll (Up K R J z none (fun I' => RX I' (rdAll B) ∧ FrX I I'))) 14 [(0, .ref (G.1 140))] [] (K, R, I1, J, z) 0 0 := by
    intro f
    induction f with
    | zero =>
      intro I1 p r hX hF hp hf hr he
      exact stopd I1 (true, p, r) hX hF (by show p ≤ 900; omega) (Or.inr (by simpa using hf)) he
    | succ f ih =>
      intro I1 p r hX hF hp hf hr he
      rcases Nat.lt_or_ge p B.length with hpl | hpl
      · rw [rdLoop, if_pos hpl] at he
        have hB1 := hB.fr hF
        have hcl := hB1.le p
        have key : ∀ w : Bool, (w = true ↔ (B.getD p 0 = 44 ∧ r.length < 20)) → AW G YX4_readsAll (MZ G YX4_readsAll (Up K R J z none (fun I' => RX I' (rdAll B) ∧ FrX I I'))) 56 [(0, .ref (G.1 140))] [.int (nI (b2 w)), .ref (G.1 140)] (K, R, I1, J, z) 0 0 := by
          intro w hw
          cases w with
          | false =>
            rw [if_neg (fun q => by have := hw.mpr q; cases this)] at he
            rw [show b2 false = 0 from rfl]
            refine aw_putI dX4_readsAll_56 flX4_122 rfl (by intro r hr; cases hr; rfl) (by assumption) (by omega) rfl rfl ?_
            refine aw_aload_n dX4_readsAll_59 rfl ?_
            refine aw_dup dX4_readsAll_60 rfl ?_
            refine aw_getI dX4_readsAll_61 flX4_116 rfl (by assumption) (show _ = nI p by simp [up2]; exact hX.2.1) ?_
            refine aw_aload_n dX4_readsAll_64 rfl ?_
            refine aw_getI dX4_readsAll_65 flX4_122 rfl (by assumption) (show _ = nI 0 by simp [up2]) ?_
            refine aw_dia (tgt := 75) (jn := 76) (c1 := 1) (c0 := 0) dX4_readsAll_68 (by decide) dX4_readsAll_71 rfl dX4_readsAll_72 (by decide) dX4_readsAll_75 rfl rfl (by omega) (rfl : nI (if 0 = 0 then 0 else 1) = nI 0) ?_
            first | refine aw_iaddN dX4_readsAll_76 ?_ | refine aw_iadd dX4_readsAll_76 ?_
            refine aw_putI dX4_readsAll_77 flX4_116 rfl (by intro r hr; cases hr; rfl) (by assumption) (by omega) rfl rfl ?_
            refine aw_aload_n dX4_readsAll_80 rfl ?_
            refine aw_getI dX4_readsAll_81 flX4_122 rfl (by assumption) (show _ = nI 0 by simp [up2]) ?_
            refine aw_if_eqN (tgt := 14) dX4_readsAll_84 (by decide) (by omega) (fun hc84 => ?_) (fun hc84 => absurd rfl hc84)
            exact aw_pick [0] rfl (stopd _ (false, p, r) ⟨by simp [up2, b2], by simp [up2], by simp [up2]; exact hX.2.2.1, fun i v h => by simp [up2]; exact hX.2.2.2 i v h⟩ (hF.tr ((FrX.up (Or.inr (Or.inl rfl))).tr (FrX.up (Or.inl rfl)))) (by show p ≤ 900; omega) (Or.inl rfl) he)
          | true =>
            have hw1 := hw.mp rfl
            rw [if_pos hw1] at he
            rw [show b2 true = 1 from rfl]
            refine aw_putI dX4_readsAll_56 flX4_122 rfl (by intro r hr; cases hr; rfl) (by assumption) (by omega) rfl rfl ?_
            refine aw_aload_n dX4_readsAll_59 rfl ?_
            refine aw_dup dX4_readsAll_60 rfl ?_
            refine aw_getI dX4_readsAll_61 flX4_116 rfl (by assumption) (show _ = nI p by simp [up2]; exact hX.2.1) ?_
            refine aw_aload_n dX4_readsAll_64 rfl ?_
            refine aw_getI dX4_readsAll_65 flX4_122 rfl (by assumption) (show _ = nI 1 by simp [up2]) ?_
            refine aw_dia (tgt := 75) (jn := 76) (c1 := 1) (c0 := 0) dX4_readsAll_68 (by decide) dX4_readsAll_71 rfl dX4_readsAll_72 (by decide) dX4_readsAll_75 rfl rfl (by omega) (rfl : nI (if 1 = 0 then 0 else 1) = nI 1) ?_
            first | refine aw_iaddN dX4_readsAll_76 ?_ | refine aw_iadd dX4_readsAll_76 ?_
            refine aw_putI dX4_readsAll_77 flX4_116 rfl (by intro r hr; cases hr; rfl) (by assumption) (by omega) rfl rfl ?_
            refine aw_aload_n dX4_readsAll_80 rfl ?_
            refine aw_getI dX4_readsAll_81 flX4_122 rfl (by assumption) (show _ = nI 1 by simp [up2]) ?_
            refine aw_if_eqN (tgt := 14) dX4_readsAll_84 (by decide) (by omega) (fun hc84 => absurd hc84 (by decide)) (fun hc84 => ?_)
            refine aw_aload_n dX4_readsAll_87 rfl ?_
            refine aw_vUp0 dX4_readsAll_88 cvX4_129 ⟨Nat.le_of_ble_eq_true rfl, Nat.le_of_ble_eq_true rfl⟩ (by assumption) ⟨_, rfl, rfl⟩ (r_readsNumber (p := p + 1) (r := r) hL (hB1.fr ((FrX.up (Or.inr (Or.inl rfl))).tr (FrX.up (Or.inl rfl)))) (by simp [up2]) (by omega) (by simp [up2]; exact hX.2.2.1) hw1.2 (fun i v h => by simp [up2]; exact hX.2.2.2 i v h)) rfl rfl (Nat.le_of_ble_eq_true rfl) ⟨rfl, rfl⟩ ⟨Nat.zero_le _, Nat.zero_le _⟩ (fun I88 hP88 => ?_)
            refine aw_goto (tgt := 14) dX4_readsAll_91 (by decide) ?_
            have hF88 := hF.tr (((FrX.up (Or.inr (Or.inl rfl))).tr (FrX.up (Or.inl rfl))).tr hP88.2)
            have hnp := rdNum_p (B := B) (p := p + 1) (r := r)
            by_cases hn : (rdNum B (p + 1) r).1 = true
            · obtain ⟨n1, n2, n3⟩ := rdNum_t hn
              rw [if_pos hn] at he
              have hX88 := hP88.1
              rw [show rdNum B (p + 1) r = (true, (rdNum B (p + 1) r).2.1, (rdNum B (p + 1) r).2.2) by rw [← hn]] at hX88
              exact aw_pick [0] rfl (ih I88 _ _ hX88 hF88 (by omega) (by omega) (by omega) he)
            · rw [if_neg hn] at he
              exact aw_pick [0] rfl (stopd I88 _ hP88.1 hF88 (by omega) (Or.inl (by simpa using hn)) he)
        have hX1 : I1 140 8 = nI 1 := hX.1
        have hX2 : I1 140 7 = nI p := hX.2.1
        have hX3 : I1 140 10 = nI r.length := hX.2.2.1
        refine aw_aload_n dX4_readsAll_14 rfl ?_
        refine aw_getI dX4_readsAll_15 flX4_122 rfl (by assumption) hX1 ?_
        refine aw_if_eqN (tgt := 94) dX4_readsAll_18 (by decide) (by omega) (fun hc18 => absurd hc18 (by decide)) (fun hc18 => ?_)
        refine aw_aload_n dX4_readsAll_21 rfl ?_
        refine aw_getI dX4_readsAll_22 flX4_116 rfl (by assumption) hX2 ?_
        refine aw_aload_n dX4_readsAll_25 rfl ?_
        refine aw_getI dX4_readsAll_26 flX4_113 rfl (by assumption) hB1.1 ?_
        refine aw_icmp_geN (tgt := 94) dX4_readsAll_29 (by decide) (by omega) (by omega) (fun hc29 => absurd hc29 (by omega)) (fun hc29 => ?_)
        refine aw_aload_n dX4_readsAll_32 rfl ?_
        refine aw_aload_n dX4_readsAll_33 rfl ?_
        refine aw_vRd dX4_readsAll_34 cvX4_119 ⟨Nat.le_of_ble_eq_true rfl, Nat.le_of_ble_eq_true rfl⟩ (by assumption) ⟨_, rfl, rfl⟩ (r_sign hL hB1 hX2 (by omega)) rfl rfl (Nat.le_of_ble_eq_true rfl) ⟨rfl, rfl⟩ ⟨Nat.zero_le _, Nat.zero_le _⟩ ?_
        refine aw_bipush (v := nI 44) dX4_readsAll_37 rfl ?_
        refine aw_icmp_neN (tgt := 55) dX4_readsAll_39 (by decide) (by omega) (by omega) (fun hc39 => ?_) (fun hc39 => ?_)
        · refine aw_iconst (v := nI 0) dX4_readsAll_55 rfl ?_
          first
          | exact aw_pick [0] rfl (key true (by simp; exact ⟨hc39, hc48⟩))
          | exact aw_pick [0] rfl (key false (by simp; intro q; first | exact hc48 | exact absurd q hc39))
        · refine aw_aload_n dX4_readsAll_42 rfl ?_
          refine aw_getI dX4_readsAll_43 flX4_126 rfl (by assumption) hX3 ?_
          refine aw_bipush (v := nI 20) dX4_readsAll_46 rfl ?_
          refine aw_icmp_geN (tgt := 55) dX4_readsAll_48 (by decide) (by omega) (by omega) (fun hc48 => ?_) (fun hc48 => ?_)
          · refine aw_iconst (v := nI 0) dX4_readsAll_55 rfl ?_
            first
            | exact aw_pick [0] rfl (key true (by simp; exact ⟨hc39, hc48⟩))
            | exact aw_pick [0] rfl (key false (by simp; intro q; first | exact hc48 | exact absurd q hc39))
          · refine aw_iconst (v := nI 1) dX4_readsAll_51 rfl ?_
            refine aw_goto (tgt := 56) dX4_readsAll_52 (by decide) ?_
            first
            | exact aw_pick [0] rfl (key true (by simp; exact ⟨hc39, hc48⟩))
            | exact aw_pick [0] rfl (key false (by simp; intro q; first | exact hc48 | exact absurd q hc39))
      · exact stopd I1 (true, p, r) hX hF (by show p ≤ 900; omega) (Or.inr (by simpa using hpl)) (by rw [he, rdLoop, if_neg (by omega)])
  refine run_of (ls := [(0, .ref (G.1 140))]) (by decide +kernel) rfl rfl (Nat.le_of_ble_eq_true rfl) ?_
  refine aw_aload_n dX4_readsAll_0 rfl ?_
  refine aw_iconst (v := nI 0) dX4_readsAll_1 rfl ?_
  refine aw_putI dX4_readsAll_2 flX4_116 rfl (by intro r hr; cases hr; rfl) (by assumption) (by omega) rfl rfl ?_
  refine aw_aload_n dX4_readsAll_5 rfl ?_
  refine aw_iconst (v := nI 0) dX4_readsAll_6 rfl ?_
  refine aw_putI dX4_readsAll_7 flX4_126 rfl (by intro r hr; cases hr; rfl) (by assumption) (by omega) rfl rfl ?_
  refine aw_aload_n dX4_readsAll_10 rfl ?_
  refine aw_vUp0 dX4_readsAll_11 cvX4_129 ⟨Nat.le_of_ble_eq_true rfl, Nat.le_of_ble_eq_true rfl⟩ (by assumption) ⟨_, rfl, rfl⟩ (r_readsNumber (p := 0) (r := []) hL (hB.fr ((FrX.up (Or.inl rfl)).tr (FrX.up (Or.inr (Or.inr rfl))))) (by simp [up2]) (by decide) (by simp [up2]) (by decide) (fun i v h => by simp at h)) rfl rfl (Nat.le_of_ble_eq_true rfl) ⟨rfl, rfl⟩ ⟨Nat.zero_le _, Nat.zero_le _⟩ (fun I11 hP11 => ?_)
  have hF11 := ((FrX.up (Or.inl rfl)).tr (FrX.up (Or.inr (Or.inr rfl)))).tr hP11.2
  have hnp := rdNum_p (B := B) (p := 0) (r := [])
  by_cases hn : (rdNum B 0 []).1 = true
  · obtain ⟨n1, n2, n3⟩ := rdNum_t hn
    have hX11 := hP11.1
    rw [show rdNum B 0 [] = (true, (rdNum B 0 []).2.1, (rdNum B 0 []).2.2) by rw [← hn]] at hX11
    exact aw_pick [0] rfl (loop B.length I11 _ _ hX11 hF11 (by omega) (by omega) (by simp only [List.length_nil] at n3; omega) (by rw [rdAll, if_pos hn]))
  · exact aw_pick [0] rfl (stopd I11 _ hP11.1 hF11 (by omega) (Or.inl (by simpa using hn)) (by rw [rdAll, if_neg hn]))
end MODEL11
