/-! THE CLASS: texts -/
def fwL : List Nat → Nat → Nat → Option Nat → Nat
  | [], i, _, _ => i
  | c :: cs, i, n, x => if dig c = true then (match x with
      | some v => if v = 0 ∨ 9 < v then i else fwL cs (i + 1) n (some (c - 48 + 10 * v))
      | none => fwL cs (i + 1) n (some (c - 48))) else if c = 44 ∧ x ≠ none ∧ n < 20 then fwL cs (i + 1) (n + 1) none else i
theorem fw_d0 {c i n : Nat} {cs : List Nat} (h : dig c = true) : fwL (c :: cs) i n none = fwL cs (i + 1) n (some (c - 48)) := by rw [fwL, if_pos h]
theorem fw_d1 {c i n v : Nat} {cs : List Nat} (h : dig c = true) (hv : v = 0 ∨ 9 < v) : fwL (c :: cs) i n (some v) = i := by rw [fwL, if_pos h]; exact if_pos hv
theorem fw_d2 {c i n v : Nat} {cs : List Nat} (h : dig c = true) (hv : ¬ (v = 0 ∨ 9 < v)) : fwL (c :: cs) i n (some v) = fwL cs (i + 1) n (some (c - 48 + 10 * v)) := by rw [fwL, if_pos h]; exact if_neg hv
theorem fw_c {c i n : Nat} {x : Option Nat} {cs : List Nat} (h : dig c = false) (hc : c = 44 ∧ x ≠ none ∧ n < 20) : fwL (c :: cs) i n x = fwL cs (i + 1) (n + 1) none := by
  rcases x with _ | v
  · exact absurd rfl hc.2.1
  · rw [fwL, if_neg (by rw [h]; decide), if_pos hc]
theorem fw_e {c i n : Nat} {x : Option Nat} {cs : List Nat} (h : dig c = false) (hc : ¬ (c = 44 ∧ x ≠ none ∧ n < 20)) : fwL (c :: cs) i n x = i := by unfold fwL; rw [if_neg (by rw [h]; decide), if_neg hc]
theorem drop_at {B : List Nat} {p : Nat} (h : p < B.length) : B.drop p = B.getD p 0 :: B.drop (p + 1) := by
  rw [List.drop_eq_getElem_cons h, List.getD_eq_getElem?_getD, List.getElem?_eq_getElem h]; rfl
theorem dig_44 : dig 44 = false := by decide
theorem dig_0 : dig 0 = false := by decide
/-- a number is read -/
theorem fw_num {B : List Nat} {p : Nat} {r : List Nat} (hp : p ≤ B.length) : ((rdNum B p r).1 = false ∧ fwL (B.drop p) p (r.length + 1) none = p ∧ (rdNum B p r).2.1 = p) ∨
    ((rdNum B p r).1 = true ∧ (rdNum B p r).2.1 ≤ B.length ∧ p < (rdNum B p r).2.1 ∧ dig (B.getD ((rdNum B p r).2.1 - 1) 0) = true ∧ ∃ v, (rdNum B p r).2.2 = r ++ [v] ∧ v ≤ 99 ∧ (v = 0 ∨ 9 < v ∨ dig (B.getD (rdNum B p r).2.1 0) = false) ∧ fwL (B.drop p) p (r.length + 1) none = fwL (B.drop (rdNum B p r).2.1) (rdNum B p r).2.1 (r.length + 1) (some v)) := by
  have hlt : ∀ q, dig (B.getD q 0) = true → q < B.length := fun q hq => by
    rcases Nat.lt_or_ge q B.length with w | w
    · exact w
    · rw [getD_ge w, dig_0] at hq; cases hq
  cases hd : dig (B.getD p 0) with
  | false =>
    left
    rw [rdNum_f hd]
    refine ⟨rfl, ?_, rfl⟩
    rcases Nat.lt_or_ge p B.length with w | w
    · rw [drop_at w, fw_e hd (fun q => q.2.1 rfl)]
    · rw [List.drop_eq_nil_of_le w]; rfl
  | true =>
    right
    have h1 := hlt p hd
    have hd2 := dig_t hd
    by_cases h2 : 48 < B.getD p 0 ∧ dig (B.getD (p + 1) 0) = true
    · have h3 := hlt (p + 1) h2.2
      have hd3 := dig_t h2.2
      rw [rdNum_2 hd h2]
      refine ⟨rfl, h3, by show p < p + 2; omega, h2.2, _, rfl, by omega, by omega, ?_⟩
      show fwL (B.drop p) p (r.length + 1) none = fwL (B.drop (p + 2)) (p + 2) (r.length + 1) (some (10 * (B.getD p 0 - 48) + (B.getD (p + 1) 0 - 48)))
      rw [drop_at h1, fw_d0 hd, drop_at h3, fw_d2 h2.2 (by omega), Nat.add_comm (10 * _) _]
    · rw [rdNum_1 hd h2]
      refine ⟨rfl, h1, by show p < p + 1; omega, hd, _, rfl, by omega, ?_, ?_⟩
      · by_cases q : 48 < B.getD p 0
        · right; right
          show dig (B.getD (p + 1) 0) = false
          cases w : dig (B.getD (p + 1) 0)
          · rfl
          · exact absurd ⟨q, w⟩ h2
        · left; omega
      · rw [drop_at h1, fw_d0 hd]
/-- behind a number -/
theorem fw_loop {B : List Nat} : ∀ (f p : Nat) (r : List Nat) (v : Nat), p ≤ B.length → 1 ≤ p → B.length ≤ p + f → 1 ≤ r.length → dig (B.getD (p - 1) 0) = true → (v = 0 ∨ 9 < v ∨ dig (B.getD p 0) = false) →
    fwL (B.drop p) p r.length (some v) = (rdLoop B f p r).2.1 ∧ ((rdLoop B f p r).1 = true → (rdLoop B f p r).2.1 = B.length ∧ dig (B.getD (B.length - 1) 0) = true) ∧ ((rdLoop B f p r).1 = false → (rdLoop B f p r).2.1 < B.length ∨ ((rdLoop B f p r).2.1 = B.length ∧ B.getD (B.length - 1) 0 = 44)) := by
  intro f
  induction f with
  | zero =>
    intro p r v hp h1 hf hr hd hv
    have hpe : p = B.length := by omega
    subst hpe
    rw [rdLoop, List.drop_eq_nil_of_le (Nat.le_refl _)]
    exact ⟨rfl, fun _ => ⟨rfl, hd⟩, fun h => by cases h⟩
  | succ f ih =>
    intro p r v hp h1 hf hr hd hv
    rcases Nat.lt_or_ge p B.length with hlt | hge
    rotate_left
    · have hpe : p = B.length := by omega
      subst hpe
      rw [rdLoop, if_neg (by omega), List.drop_eq_nil_of_le (Nat.le_refl _)]
      exact ⟨rfl, fun _ => ⟨rfl, hd⟩, fun h => by cases h⟩
    · rw [rdLoop, if_pos hlt, drop_at hlt]
      by_cases hc : B.getD p 0 = 44 ∧ r.length < 20
      · rw [if_pos hc]
        have hdc : dig (B.getD p 0) = false := by rw [hc.1]; exact dig_44
        rw [fw_c hdc ⟨hc.1, by simp, hc.2⟩]
        rcases fw_num (B := B) (p := p + 1) (r := r) hlt with ⟨n1, n2, n3⟩ | ⟨n1, n2, n3, n4, w, n5, n6, n7, n8⟩
        · rw [if_neg (by rw [n1]; decide), n2, n3]
          refine ⟨rfl, fun h => (by rw [n1] at h; cases h), fun _ => ?_⟩
          rcases Nat.lt_or_ge (p + 1) B.length with q | q
          · exact Or.inl q
          · refine Or.inr ⟨by omega, ?_⟩
            rw [show B.length - 1 = p by omega]; exact hc.1
        · rw [if_pos n1, n8]
          have hl : (rdNum B (p + 1) r).2.2.length = r.length + 1 := by rw [n5]; simp
          have := ih (rdNum B (p + 1) r).2.1 (rdNum B (p + 1) r).2.2 w n2 (by omega) (by omega) (by omega) n4 n7
          rw [hl] at this
          exact this
      · rw [if_neg hc]
        refine ⟨?_, fun h => (by cases h), fun _ => Or.inl hlt⟩
        show fwL (B.getD p 0 :: B.drop (p + 1)) p r.length (some v) = p
        cases hdp : dig (B.getD p 0) with
        | false => exact fw_e hdp (fun q => hc ⟨q.1, q.2.2⟩)
        | true =>
          refine fw_d1 hdp ?_
          rcases hv with q | q | q
          · exact Or.inl q
          · exact Or.inr q
          · rw [hdp] at q; cases q
theorem fw_all {B : List Nat} : fwL B 0 1 none = (rdAll B).2.1 ∧ ((rdAll B).1 = true ↔ 0 < B.length ∧ B.getD (B.length - 1) 0 ≠ 44 ∧ fwL B 0 1 none = B.length) := by
  rcases fw_num (B := B) (p := 0) (r := []) (Nat.zero_le _) with ⟨n1, n2, n3⟩ | ⟨n1, n2, n3, n4, w, n5, n6, n7, n8⟩
  · have e : rdAll B = rdNum B 0 [] := by unfold rdAll; rw [if_neg (by rw [n1]; decide)]
    rw [List.drop_zero] at n2
    have n2 : fwL B 0 1 none = 0 := n2
    rw [e, n2, n3, n1]
    refine ⟨rfl, fun h => (by cases h), fun h => by omega⟩
  · have e : rdAll B = rdLoop B B.length (rdNum B 0 []).2.1 (rdNum B 0 []).2.2 := by unfold rdAll; rw [if_pos n1]
    rw [List.drop_zero] at n8
    have hl : (rdNum B 0 []).2.2.length = 1 := by rw [n5]; rfl
    obtain ⟨l1, l2, l3⟩ := fw_loop (B := B) B.length (rdNum B 0 []).2.1 (rdNum B 0 []).2.2 w n2 (by omega) (by omega) (by omega) n4 n7
    rw [hl] at l1
    have n8 : fwL B 0 1 none = fwL (B.drop (rdNum B 0 []).2.1) (rdNum B 0 []).2.1 1 (some w) := n8
    rw [e, n8, l1]
    refine ⟨rfl, fun h => ?_, fun h => ?_⟩
    · obtain ⟨q1, q2⟩ := l2 h
      have : 0 < B.length := by omega
      exact ⟨this, fun q => (by rw [q, dig_44] at q2; cases q2), q1⟩
    · cases hq : (rdLoop B B.length (rdNum B 0 []).2.1 (rdNum B 0 []).2.2).1 with
      | true => rfl
      | false =>
        rcases l3 hq with q | q
        · omega
        · exact absurd q.2 h.2.1
theorem ic1 {b : Bool} {P : Prop} (f : b = true ↔ P) (h : P) : (Sum.inl (some (Value.int (nI 1))) : RT) = Sum.inl (some (.int (nI (b2 b)))) := by rw [b2_t (f.mpr h)]
theorem ic0 {b : Bool} {P : Prop} (f : b = true ↔ P) (h : ¬ P) : (Sum.inl (some (Value.int (nI 0))) : RT) = Sum.inl (some (.int (nI (b2 b)))) := by
  cases b
  · rfl
  · exact absurd (f.mp rfl) h
def LD (G : GG) (K : Nat → Option (Nat × Nat)) (R : Nat → Nat → Value) : Prop := K 36 = some (0, 2) ∧ R 36 0 = .ref (G.1 37) ∧ K 37 = some (10, 60)
def RDt (I : Nat → Nat → Int32) (B : List Nat) : Prop := I 36 1 = nI B.length ∧ B.length ≤ 60 ∧ ∀ (i c : Nat), B[i]? = some c → I 37 i = nI c ∧ 33 ≤ c ∧ c ≤ 126
section CLASS10
variable {G : GG} {K : Nat → Option (Nat × Nat)} {R : Nat → Nat → Value} {I : Nat → Nat → Int32} {J : Nat → Nat → Int64} {z : Nat} {σ : Sg} {a : AA} {m k : Nat}
variable {B : List Nat}
theorem d_isDigit {c : Nat} (hc : c ≤ 126) : Run G YX0_isDigit [.int (nI c)] σ (Rd σ (.int (nI (b2 (dig c))))) := by
  refine run_of (ls := [(0, .int (nI c))]) (by decide +kernel) rfl rfl (Nat.le_of_ble_eq_true rfl) ?_
  refine aw_iload_n dX0_isDigit_0 rfl ?_
  refine aw_bipush (v := nI 48) dX0_isDigit_1 rfl ?_
  refine aw_icmp_ltN (tgt := 16) dX0_isDigit_3 (by decide) (by omega) (by omega) (fun hc3 => ?_) (fun hc3 => ?_)
  · refine aw_iconst (v := nI 0) dX0_isDigit_16 rfl ?_
    exact aw_zret dX0_isDigit_17 rfl rfl (Nat.zero_le _) (Nat.zero_le _) ⟨by first | rw [b2_t (show dig c = true by simp [dig]; omega)] | rw [b2_f (show dig c = false by simp [dig]; omega)], rfl⟩
  · refine aw_iload_n dX0_isDigit_6 rfl ?_
    refine aw_bipush (v := nI 57) dX0_isDigit_7 rfl ?_
    refine aw_icmp_gtN (tgt := 16) dX0_isDigit_9 (by decide) (by omega) (by omega) (fun hc9 => ?_) (fun hc9 => ?_)
    · refine aw_iconst (v := nI 0) dX0_isDigit_16 rfl ?_
      exact aw_zret dX0_isDigit_17 rfl rfl (Nat.zero_le _) (Nat.zero_le _) ⟨by first | rw [b2_t (show dig c = true by simp [dig]; omega)] | rw [b2_f (show dig c = false by simp [dig]; omega)], rfl⟩
    · refine aw_iconst (v := nI 1) dX0_isDigit_12 rfl ?_
      refine aw_goto (tgt := 17) dX0_isDigit_13 (by decide) ?_
      exact aw_zret dX0_isDigit_17 rfl rfl (Nat.zero_le _) (Nat.zero_le _) ⟨by first | rw [b2_t (show dig c = true by simp [dig]; omega)] | rw [b2_f (show dig c = false by simp [dig]; omega)], rfl⟩
theorem d_isFull (hD : LD G K R) (hB : RDt I B) : Run G YX0_isFull [.ref (G.1 36)] (K, R, I, J, z) (Rd (K, R, I, J, z) (.int (nI (if B.length = 60 then 1 else 0)))) := by
  obtain ⟨hk0, hr0, hk1⟩ := id hD
  obtain ⟨t1, t60, tc⟩ := id hB
  refine run_of (ls := [(0, .ref (G.1 36))]) (by decide +kernel) rfl rfl (Nat.le_of_ble_eq_true rfl) ?_
  refine aw_aload_n dX0_isFull_0 rfl ?_
  refine aw_getI dX0_isFull_1 flX0_15 rfl (by assumption) t1 ?_
  refine aw_bipush (v := nI 60) dX0_isFull_4 rfl ?_
  refine aw_icmp_ltN (tgt := 13) dX0_isFull_6 (by decide) (by omega) (by omega) (fun hc6 => ?_) (fun hc6 => ?_)
  · refine aw_iconst (v := nI 0) dX0_isFull_13 rfl ?_
    exact aw_zret dX0_isFull_14 rfl rfl (Nat.zero_le _) (Nat.zero_le _) ⟨by first | rw [if_pos (by omega)] | rw [if_neg (by omega)], rfl⟩
  · refine aw_iconst (v := nI 1) dX0_isFull_9 rfl ?_
    refine aw_goto (tgt := 14) dX0_isFull_10 (by decide) ?_
    exact aw_zret dX0_isFull_14 rfl rfl (Nat.zero_le _) (Nat.zero_le _) ⟨by first | rw [if_pos (by omega)] | rw [if_neg (by omega)], rfl⟩
theorem d_add {c : Nat} (hD : LD G K R) (hB : RDt I B) (hc1 : 33 ≤ c) (hc2 : c ≤ 126) (hl : B.length < 60) : Run G YX0_add [.ref (G.1 36), .int (nI c)] (K, R, I, J, z) (Up K R J z (some (.int (nI (B.length + 1)))) (fun I' => RDt I' (B ++ [c]) ∧ ∀ q, q ≠ 36 → q ≠ 37 → I' q = I q)) := by
  obtain ⟨hk0, hr0, hk1⟩ := id hD
  obtain ⟨t1, t60, tc⟩ := id hB
  have hf := d_isFull (J := J) (z := z) hD hB
  rw [if_neg (by omega)] at hf
  refine run_of (ls := [(0, .ref (G.1 36)), (1, .int (nI c))]) (by decide +kernel) rfl rfl (Nat.le_of_ble_eq_true rfl) ?_
  refine aw_aload_n dX0_add_0 rfl ?_
  refine aw_vRd dX0_add_1 cvX0_19 ⟨Nat.le_of_ble_eq_true rfl, Nat.le_of_ble_eq_true rfl⟩ (by assumption) ⟨_, rfl, rfl⟩ (hf) rfl rfl (Nat.le_of_ble_eq_true rfl) ⟨rfl, rfl⟩ ⟨Nat.zero_le _, Nat.zero_le _⟩ ?_
  refine aw_if_neN (tgt := 27) dX0_add_4 (by decide) (by omega) (fun hc4 => absurd rfl hc4) (fun hc4 => ?_)
  refine aw_aload_n dX0_add_7 rfl ?_
  refine aw_getR dX0_add_8 flX0_11 rfl (by assumption) (by assumption) ?_
  refine aw_aload_n dX0_add_11 rfl ?_
  refine aw_getI dX0_add_12 flX0_15 rfl (by assumption) t1 ?_
  refine aw_iload_n dX0_add_15 rfl ?_
  refine aw_iast dX0_add_16 (by assumption) (by omega) (by omega) rfl (by omega) ?_
  refine aw_aload_n dX0_add_17 rfl ?_
  refine aw_dup dX0_add_18 rfl ?_
  refine aw_getI dX0_add_19 flX0_15 rfl (by assumption) (show _ = nI B.length by rw [FrO.up 36 (by decide)]; exact t1) ?_
  refine aw_iconst (v := nI 1) dX0_add_22 rfl ?_
  first | refine aw_iaddN dX0_add_23 ?_ | refine aw_iadd dX0_add_23 ?_
  refine aw_putI dX0_add_24 flX0_15 rfl (by intro r hr; cases hr; rfl) (by assumption) (by omega) rfl rfl ?_
  refine aw_aload_n dX0_add_27 rfl ?_
  refine aw_getI dX0_add_28 flX0_15 rfl (by assumption) (show _ = nI (B.length + 1) by rw [up2_o, if_pos rfl]) ?_
  refine aw_iret dX0_add_31 rfl (Nat.zero_le _) (Nat.zero_le _) ?_
  refine ⟨rfl, _, rfl, ⟨by rw [up2_o, if_pos rfl]; simp, by simp; omega, fun i x hi => ?_⟩, fun q h1 h2 => by rw [FrO.up q h1, FrO.up q h2]⟩
  have hil := (List.getElem?_eq_some_iff.mp hi).1
  rw [List.length_append, List.length_singleton] at hil
  rw [FrO.up 37 (by decide), up2_o]
  by_cases e : i = B.length
  · subst e
    rw [List.getElem?_append_right (Nat.le_refl _), Nat.sub_self] at hi
    cases hi
    rw [if_pos rfl]; exact ⟨rfl, hc1, hc2⟩
  · rw [List.getElem?_append_left (by omega)] at hi
    rw [if_neg e]; exact tc i x hi
theorem d_empty (hD : LD G K R) (hB : RDt I B) : Run G YX0_empty [.ref (G.1 36)] (K, R, I, J, z) (Up K R J z (some (.int (nI B.length))) (fun I' => RDt I' [] ∧ FrO 36 I I')) := by
  obtain ⟨hk0, hr0, hk1⟩ := id hD
  obtain ⟨t1, t60, tc⟩ := id hB
  refine run_of (ls := [(0, .ref (G.1 36))]) (by decide +kernel) rfl rfl (Nat.le_of_ble_eq_true rfl) ?_
  refine aw_aload_n dX0_empty_0 rfl ?_
  refine aw_getI dX0_empty_1 flX0_15 rfl (by assumption) t1 ?_
  refine aw_istore_n (ls' := [(1, _), (0, _)]) dX0_empty_4 (by decide) rfl ?_
  refine aw_aload_n dX0_empty_5 rfl ?_
  refine aw_iconst (v := nI 0) dX0_empty_6 rfl ?_
  refine aw_putI dX0_empty_7 flX0_15 rfl (by intro r hr; cases hr; rfl) (by assumption) (by omega) rfl rfl ?_
  refine aw_iload_n dX0_empty_10 rfl ?_
  exact aw_iret dX0_empty_11 rfl (Nat.zero_le _) (Nat.zero_le _) ⟨rfl, _, rfl, ⟨by rw [up2_o, if_pos rfl]; rfl, Nat.zero_le _, fun i c hi => by simp at hi⟩, FrO.up⟩
theorem d_firstWrong (hD : LD G K R) (hB : RDt I B) : Run G YX0_firstWrong [.ref (G.1 36)] (K, R, I, J, z) (Rd (K, R, I, J, z) (.int (nI (fwL B 0 1 none)))) := by
  obtain ⟨hk0, hr0, hk1⟩ := id hD
  obtain ⟨t1, t60, tc⟩ := id hB
  have loop : ∀ (cs : List Nat) (p n : Nat) (x : Option Nat), B.drop p = cs → p + cs.length = B.length → (∀ v, x = some v → v ≤ 99) → n ≤ 20 → fwL B 0 1 none = fwL cs p n x → AW G YX0_firstWrong (MZ G YX0_firstWrong (Rd (K, R, I, J, z) (.int (nI (fwL B 0 1 none))))) 6 [(0, .ref (G.1 36)), (1, .int (nI n)), (2, .int (oI x)), (3, .int (nI p))] [] (K, R, I, J, z) 0 0 := by
    intro cs
    induction cs with
    | nil =>
      intro p n x hdr hpl hx hn he
      have hpl2 : p = B.length := hpl
      refine aw_iload_n dX0_firstWrong_6 rfl ?_
      refine aw_aload_n dX0_firstWrong_7 rfl ?_
      refine aw_getI dX0_firstWrong_8 flX0_15 rfl (by assumption) t1 ?_
      refine aw_icmp_geN (tgt := 103) dX0_firstWrong_11 (by decide) (by omega) (by omega) (fun hc11 => ?_) (fun hc11 => absurd hc11 (by omega))
      refine aw_aload_n dX0_firstWrong_103 rfl ?_
      refine aw_getI dX0_firstWrong_104 flX0_15 rfl (by assumption) t1 ?_
      exact aw_iret dX0_firstWrong_107 rfl (Nat.zero_le _) (Nat.zero_le _) ⟨by rw [he, ← hpl2]; rfl, rfl⟩
    | cons c cs ih =>
      intro p n x hdr hpl hx hn he
      have hpl2 : p + (cs.length + 1) = B.length := hpl
      have hlt : p < B.length := by omega
      have hcp : B[p]? = some c := by
        have := drop_at hlt
        rw [hdr] at this
        rw [getD_lt hlt]; exact congrArg some (List.cons.inj this).1.symm
      have hdr2 : B.drop (p + 1) = cs := by
        have := drop_at hlt
        rw [hdr] at this
        exact (List.cons.inj this).2.symm
      obtain ⟨hc1, hc2, hc3⟩ := tc p c hcp
      have hbd := b2_le (dig c)
      rcases x with _ | v
      · cases hd : dig c with
        | true =>
          have hdd := dig_t hd
          have hdg := d_isDigit (G := G) (σ := (K, R, I, J, z)) hc3
          rw [hd, b2_t rfl] at hdg
          rw [fw_d0 hd] at he
          have h9 := ih (p + 1) n (some (c - 48)) hdr2 (by omega) (fun v hv => by cases hv; omega) hn he
          refine aw_iload_n dX0_firstWrong_6 rfl ?_
          refine aw_aload_n dX0_firstWrong_7 rfl ?_
          refine aw_getI dX0_firstWrong_8 flX0_15 rfl (by assumption) t1 ?_
          refine aw_icmp_geN (tgt := 103) dX0_firstWrong_11 (by decide) (by omega) (by omega) (fun hc11 => absurd hc11 (by omega)) (fun hc11 => ?_)
          refine aw_aload_n dX0_firstWrong_14 rfl ?_
          refine aw_getR dX0_firstWrong_15 flX0_11 rfl (by assumption) (by assumption) ?_
          refine aw_iload_n dX0_firstWrong_18 rfl ?_
          refine aw_iald dX0_firstWrong_19 (by assumption) (by omega) rfl (by omega) hc1 ?_
          refine aw_sRd dX0_firstWrong_20 cvX0_23 ⟨Nat.le_of_ble_eq_true rfl, Nat.le_of_ble_eq_true rfl⟩ (hdg) rfl rfl (Nat.le_of_ble_eq_true rfl) ⟨rfl, rfl⟩ ⟨Nat.zero_le _, Nat.zero_le _⟩ ?_
          refine aw_if_eqN (tgt := 65) dX0_firstWrong_23 (by decide) (by omega) (fun hc23 => absurd hc23 (by decide)) (fun hc23 => ?_)
          show AW G _ _ _ [(0, _), (1, _), (2, .int (-1)), (3, _)] _ _ 0 0
          refine aw_iload_n dX0_firstWrong_26 rfl ?_
          refine aw_if_eq (tgt := 36) dX0_firstWrong_27 (by decide) (fun hc27 => absurd hc27 (by decide)) (fun hc27 => ?_)
          refine aw_iload_n dX0_firstWrong_30 rfl ?_
          refine aw_bipush (v := nI 9) dX0_firstWrong_31 rfl ?_
          refine aw_icmp_le (tgt := 38) dX0_firstWrong_33 (by decide) (fun hc33 => ?_) (fun hc33 => absurd (show (-1 : Int32) ≤ nI 9 by decide) hc33)
          refine aw_aload_n dX0_firstWrong_38 rfl ?_
          refine aw_getR dX0_firstWrong_39 flX0_11 rfl (by assumption) (by assumption) ?_
          refine aw_iload_n dX0_firstWrong_42 rfl ?_
          refine aw_iald dX0_firstWrong_43 (by assumption) (by omega) rfl (by omega) hc1 ?_
          refine aw_bipush (v := nI 48) dX0_firstWrong_44 rfl ?_
          first | refine aw_isubN dX0_firstWrong_46 (by omega) ?_ | refine aw_isub dX0_firstWrong_46 ?_
          refine aw_iload_n dX0_firstWrong_47 rfl ?_
          refine aw_iconst (v := (-1)) dX0_firstWrong_48 rfl ?_
          refine aw_icmp_ne (tgt := 56) dX0_firstWrong_49 (by decide) (fun hc49 => absurd rfl hc49) (fun hc49 => ?_)
          refine aw_iconst (v := nI 0) dX0_firstWrong_52 rfl ?_
          refine aw_goto (tgt := 60) dX0_firstWrong_53 (by decide) ?_
          first | refine aw_iaddN dX0_firstWrong_60 ?_ | refine aw_iadd dX0_firstWrong_60 ?_
          refine aw_istore_n (ls' := [(2, _), (0, _), (1, _), (3, _)]) dX0_firstWrong_61 (by decide) rfl ?_
          refine aw_goto (tgt := 97) dX0_firstWrong_62 (by decide) ?_
          refine aw_iincN (k := 1) (ls' := [(3, _), (2, _), (0, _), (1, _)]) dX0_firstWrong_97 rfl rfl (by decide) rfl ?_
          refine aw_goto (tgt := 6) dX0_firstWrong_100 (by decide) ?_
          exact aw_pick [2, 3, 1, 0] rfl h9
        | false =>
          have hdg := d_isDigit (G := G) (σ := (K, R, I, J, z)) hc3
          rw [hd, b2_f rfl] at hdg
          rw [fw_e hd (fun q => q.2.1 rfl)] at he
          refine aw_iload_n dX0_firstWrong_6 rfl ?_
          refine aw_aload_n dX0_firstWrong_7 rfl ?_
          refine aw_getI dX0_firstWrong_8 flX0_15 rfl (by assumption) t1 ?_
          refine aw_icmp_geN (tgt := 103) dX0_firstWrong_11 (by decide) (by omega) (by omega) (fun hc11 => absurd hc11 (by omega)) (fun hc11 => ?_)
          refine aw_aload_n dX0_firstWrong_14 rfl ?_
          refine aw_getR dX0_firstWrong_15 flX0_11 rfl (by assumption) (by assumption) ?_
          refine aw_iload_n dX0_firstWrong_18 rfl ?_
          refine aw_iald dX0_firstWrong_19 (by assumption) (by omega) rfl (by omega) hc1 ?_
          refine aw_sRd dX0_firstWrong_20 cvX0_23 ⟨Nat.le_of_ble_eq_true rfl, Nat.le_of_ble_eq_true rfl⟩ (hdg) rfl rfl (Nat.le_of_ble_eq_true rfl) ⟨rfl, rfl⟩ ⟨Nat.zero_le _, Nat.zero_le _⟩ ?_
          refine aw_if_eqN (tgt := 65) dX0_firstWrong_23 (by decide) (by omega) (fun hc23 => ?_) (fun hc23 => absurd rfl hc23)
          refine aw_aload_n dX0_firstWrong_65 rfl ?_
          refine aw_getR dX0_firstWrong_66 flX0_11 rfl (by assumption) (by assumption) ?_
          refine aw_iload_n dX0_firstWrong_69 rfl ?_
          refine aw_iald dX0_firstWrong_70 (by assumption) (by omega) rfl (by omega) hc1 ?_
          refine aw_bipush (v := nI 44) dX0_firstWrong_71 rfl ?_
          refine aw_icmp_neN (tgt := 95) dX0_firstWrong_73 (by decide) (by omega) (by omega) (fun hc73 => ?_) (fun hc73 => ?_)
          · refine aw_iload_n dX0_firstWrong_95 rfl ?_
            exact aw_iret dX0_firstWrong_96 rfl (Nat.zero_le _) (Nat.zero_le _) ⟨by rw [he], rfl⟩
          · refine aw_iload_n dX0_firstWrong_76 rfl ?_
            refine aw_iconst (v := (-1)) dX0_firstWrong_77 rfl ?_
            refine aw_icmp_eq (tgt := 95) dX0_firstWrong_78 (by decide) (fun hc78 => ?_) (fun hc78 => absurd rfl hc78)
            refine aw_iload_n dX0_firstWrong_95 rfl ?_
            exact aw_iret dX0_firstWrong_96 rfl (Nat.zero_le _) (Nat.zero_le _) ⟨by rw [he], rfl⟩
      · have hv99 := hx v rfl
        cases hd : dig c with
        | true =>
          have hdd := dig_t hd
          have hdg := d_isDigit (G := G) (σ := (K, R, I, J, z)) hc3
          rw [hd, b2_t rfl] at hdg
          refine aw_iload_n dX0_firstWrong_6 rfl ?_
          refine aw_aload_n dX0_firstWrong_7 rfl ?_
          refine aw_getI dX0_firstWrong_8 flX0_15 rfl (by assumption) t1 ?_
          refine aw_icmp_geN (tgt := 103) dX0_firstWrong_11 (by decide) (by omega) (by omega) (fun hc11 => absurd hc11 (by omega)) (fun hc11 => ?_)
          refine aw_aload_n dX0_firstWrong_14 rfl ?_
          refine aw_getR dX0_firstWrong_15 flX0_11 rfl (by assumption) (by assumption) ?_
          refine aw_iload_n dX0_firstWrong_18 rfl ?_
          refine aw_iald dX0_firstWrong_19 (by assumption) (by omega) rfl (by omega) hc1 ?_
          refine aw_sRd dX0_firstWrong_20 cvX0_23 ⟨Nat.le_of_ble_eq_true rfl, Nat.le_of_ble_eq_true rfl⟩ (hdg) rfl rfl (Nat.le_of_ble_eq_true rfl) ⟨rfl, rfl⟩ ⟨Nat.zero_le _, Nat.zero_le _⟩ ?_
          refine aw_if_eqN (tgt := 65) dX0_firstWrong_23 (by decide) (by omega) (fun hc23 => absurd hc23 (by decide)) (fun hc23 => ?_)
          show AW G _ _ _ [(0, _), (1, _), (2, .int (nI v)), (3, _)] _ _ 0 0
          refine aw_iload_n dX0_firstWrong_26 rfl ?_
          refine aw_if_eqN (tgt := 36) dX0_firstWrong_27 (by decide) (by omega) (fun hc27 => ?_) (fun hc27 => ?_)
          · refine aw_iload_n dX0_firstWrong_36 rfl ?_
            exact aw_iret dX0_firstWrong_37 rfl (Nat.zero_le _) (Nat.zero_le _) ⟨by first | rw [he, fw_d1 hd (Or.inl hc27)] | rw [he, fw_d1 hd (Or.inr hc33)], rfl⟩
          · refine aw_iload_n dX0_firstWrong_30 rfl ?_
            refine aw_bipush (v := nI 9) dX0_firstWrong_31 rfl ?_
            refine aw_icmp_leN (tgt := 38) dX0_firstWrong_33 (by decide) (by omega) (by omega) (fun hc33 => ?_) (fun hc33 => ?_)
            · refine aw_aload_n dX0_firstWrong_38 rfl ?_
              refine aw_getR dX0_firstWrong_39 flX0_11 rfl (by assumption) (by assumption) ?_
              refine aw_iload_n dX0_firstWrong_42 rfl ?_
              refine aw_iald dX0_firstWrong_43 (by assumption) (by omega) rfl (by omega) hc1 ?_
              refine aw_bipush (v := nI 48) dX0_firstWrong_44 rfl ?_
              first | refine aw_isubN dX0_firstWrong_46 (by omega) ?_ | refine aw_isub dX0_firstWrong_46 ?_
              refine aw_iload_n dX0_firstWrong_47 rfl ?_
              refine aw_iconst (v := (-1)) dX0_firstWrong_48 rfl ?_
              refine aw_icmp_ne (tgt := 56) dX0_firstWrong_49 (by decide) (fun hc49 => ?_) (fun hc49 => absurd hc49 (nI_m1 (by omega)))
              refine aw_bipush (v := nI 10) dX0_firstWrong_56 rfl ?_
              refine aw_iload_n dX0_firstWrong_58 rfl ?_
              first | refine aw_imulN dX0_firstWrong_59 ?_ | refine aw_imul dX0_firstWrong_59 ?_
              first | refine aw_iaddN dX0_firstWrong_60 ?_ | refine aw_iadd dX0_firstWrong_60 ?_
              refine aw_istore_n (ls' := [(2, _), (0, _), (1, _), (3, _)]) dX0_firstWrong_61 (by decide) rfl ?_
              refine aw_goto (tgt := 97) dX0_firstWrong_62 (by decide) ?_
              refine aw_iincN (k := 1) (ls' := [(3, _), (2, _), (0, _), (1, _)]) dX0_firstWrong_97 rfl rfl (by decide) rfl ?_
              refine aw_goto (tgt := 6) dX0_firstWrong_100 (by decide) ?_
              rw [fw_d2 hd (by omega)] at he
              exact aw_pick [2, 3, 1, 0] rfl (ih (p + 1) n (some (c - 48 + 10 * v)) hdr2 (by omega) (fun v hv => by cases hv; omega) hn he)
            · refine aw_iload_n dX0_firstWrong_36 rfl ?_
              exact aw_iret dX0_firstWrong_37 rfl (Nat.zero_le _) (Nat.zero_le _) ⟨by first | rw [he, fw_d1 hd (Or.inl hc27)] | rw [he, fw_d1 hd (Or.inr hc33)], rfl⟩
        | false =>
          have hdg := d_isDigit (G := G) (σ := (K, R, I, J, z)) hc3
          rw [hd, b2_f rfl] at hdg
          refine aw_iload_n dX0_firstWrong_6 rfl ?_
          refine aw_aload_n dX0_firstWrong_7 rfl ?_
          refine aw_getI dX0_firstWrong_8 flX0_15 rfl (by assumption) t1 ?_
          refine aw_icmp_geN (tgt := 103) dX0_firstWrong_11 (by decide) (by omega) (by omega) (fun hc11 => absurd hc11 (by omega)) (fun hc11 => ?_)
          refine aw_aload_n dX0_firstWrong_14 rfl ?_
          refine aw_getR dX0_firstWrong_15 flX0_11 rfl (by assumption) (by assumption) ?_
          refine aw_iload_n dX0_firstWrong_18 rfl ?_
          refine aw_iald dX0_firstWrong_19 (by assumption) (by omega) rfl (by omega) hc1 ?_
          refine aw_sRd dX0_firstWrong_20 cvX0_23 ⟨Nat.le_of_ble_eq_true rfl, Nat.le_of_ble_eq_true rfl⟩ (hdg) rfl rfl (Nat.le_of_ble_eq_true rfl) ⟨rfl, rfl⟩ ⟨Nat.zero_le _, Nat.zero_le _⟩ ?_
          refine aw_if_eqN (tgt := 65) dX0_firstWrong_23 (by decide) (by omega) (fun hc23 => ?_) (fun hc23 => absurd rfl hc23)
          refine aw_aload_n dX0_firstWrong_65 rfl ?_
          refine aw_getR dX0_firstWrong_66 flX0_11 rfl (by assumption) (by assumption) ?_
          refine aw_iload_n dX0_firstWrong_69 rfl ?_
          refine aw_iald dX0_firstWrong_70 (by assumption) (by omega) rfl (by omega) hc1 ?_
          refine aw_bipush (v := nI 44) dX0_firstWrong_71 rfl ?_
          refine aw_icmp_neN (tgt := 95) dX0_firstWrong_73 (by decide) (by omega) (by omega) (fun hc73 => ?_) (fun hc73 => ?_)
          · refine aw_iload_n dX0_firstWrong_95 rfl ?_
            exact aw_iret dX0_firstWrong_96 rfl (Nat.zero_le _) (Nat.zero_le _) ⟨by rw [he, fw_e hd (by omega)], rfl⟩
          · show AW G _ _ _ [(0, _), (1, _), (2, .int (nI v)), (3, _)] _ _ 0 0
            refine aw_iload_n dX0_firstWrong_76 rfl ?_
            refine aw_iconst (v := (-1)) dX0_firstWrong_77 rfl ?_
            refine aw_icmp_eq (tgt := 95) dX0_firstWrong_78 (by decide) (fun hc78 => absurd hc78 (nI_m1 (by omega))) (fun hc78 => ?_)
            refine aw_iload_n dX0_firstWrong_81 rfl ?_
            refine aw_bipush (v := nI 20) dX0_firstWrong_82 rfl ?_
            refine aw_icmp_geN (tgt := 95) dX0_firstWrong_84 (by decide) (by omega) (by omega) (fun hc84 => ?_) (fun hc84 => ?_)
            · refine aw_iload_n dX0_firstWrong_95 rfl ?_
              exact aw_iret dX0_firstWrong_96 rfl (Nat.zero_le _) (Nat.zero_le _) ⟨by rw [he, fw_e hd (by omega)], rfl⟩
            · refine aw_iincN (k := 1) (ls' := [(1, _), (0, _), (2, _), (3, _)]) dX0_firstWrong_87 rfl rfl (by decide) rfl ?_
              refine aw_iconst (v := (-1)) dX0_firstWrong_90 rfl ?_
              refine aw_istore_n (ls' := [(2, _), (1, _), (0, _), (3, _)]) dX0_firstWrong_91 (by decide) rfl ?_
              refine aw_goto (tgt := 97) dX0_firstWrong_92 (by decide) ?_
              refine aw_iincN (k := 1) (ls' := [(3, _), (2, _), (1, _), (0, _)]) dX0_firstWrong_97 rfl rfl (by decide) rfl ?_
              refine aw_goto (tgt := 6) dX0_firstWrong_100 (by decide) ?_
              rw [fw_c hd ⟨hc73, by simp, hc84⟩] at he
              exact aw_pick [3, 2, 1, 0] rfl (ih (p + 1) (n + 1) none hdr2 (by omega) (fun v hv => by cases hv) (by omega) he)
  refine run_of (ls := [(0, .ref (G.1 36))]) (by decide +kernel) rfl rfl (Nat.le_of_ble_eq_true rfl) ?_
  refine aw_iconst (v := nI 1) dX0_firstWrong_0 rfl ?_
  refine aw_istore_n (ls' := [(1, _), (0, _)]) dX0_firstWrong_1 (by decide) rfl ?_
  refine aw_iconst (v := (-1)) dX0_firstWrong_2 rfl ?_
  refine aw_istore_n (ls' := [(2, _), (1, _), (0, _)]) dX0_firstWrong_3 (by decide) rfl ?_
  refine aw_iconst (v := nI 0) dX0_firstWrong_4 rfl ?_
  refine aw_istore_n (ls' := [(3, _), (2, _), (1, _), (0, _)]) dX0_firstWrong_5 (by decide) rfl ?_
  exact aw_pick [3, 2, 1, 0] rfl (loop B 0 1 none rfl (Nat.zero_add _) (fun v hv => by cases hv) (by decide) rfl)
theorem d_isComplete (hD : LD G K R) (hB : RDt I B) : Run G YX0_isComplete [.ref (G.1 36)] (K, R, I, J, z) (Rd (K, R, I, J, z) (.int (nI (b2 (rdAll B).1)))) := by
  obtain ⟨hk0, hr0, hk1⟩ := id hD
  obtain ⟨t1, t60, tc⟩ := id hB
  obtain ⟨f1, f2⟩ := fw_all (B := B)
  have fwle : fwL B 0 1 none < 2 ^ 31 := by
    rw [f1]
    have h0 : ∀ f p r, (rdLoop B f p r).2.1 ≤ p + 3 * f := by
      intro f
      induction f with
      | zero => intro p r; exact Nat.le_refl _
      | succ f ih =>
        intro p r
        have hn := rdNum_p (B := B) (p := p + 1) (r := r)
        rw [rdLoop]
        split
        · split
          · split
            · have := ih (rdNum B (p + 1) r).2.1 (rdNum B (p + 1) r).2.2; omega
            · omega
          · show p ≤ _; omega
        · show p ≤ _; omega
    have hn := rdNum_p (B := B) (p := 0) (r := [])
    unfold rdAll
    split
    · have := h0 B.length (rdNum B 0 []).2.1 (rdNum B 0 []).2.2; omega
    · omega
  have hlast : 0 < B.length → I 37 (B.length - 1) = nI (B.getD (B.length - 1) 0) ∧ B.getD (B.length - 1) 0 ≤ 126 := fun h => by
    have := tc (B.length - 1) _ (getD_lt (by omega))
    exact ⟨this.1, this.2.2⟩
  refine run_of (ls := [(0, .ref (G.1 36))]) (by decide +kernel) rfl rfl (Nat.le_of_ble_eq_true rfl) ?_
  refine aw_aload_n dX0_isComplete_0 rfl ?_
  refine aw_getI dX0_isComplete_1 flX0_15 rfl (by assumption) t1 ?_
  refine aw_if_leN (tgt := 38) dX0_isComplete_4 (by decide) (by omega) (fun hc4 => ?_) (fun hc4 => ?_)
  · refine aw_iconst (v := nI 0) dX0_isComplete_38 rfl ?_
    exact aw_zret dX0_isComplete_39 rfl rfl (Nat.zero_le _) (Nat.zero_le _) ⟨by first | exact ic1 f2 ⟨hc4, hc20, hc31⟩ | exact ic0 f2 (by omega), rfl⟩
  · have hl2 := (hlast hc4).2
    refine aw_aload_n dX0_isComplete_7 rfl ?_
    refine aw_getR dX0_isComplete_8 flX0_11 rfl (by assumption) (by assumption) ?_
    refine aw_aload_n dX0_isComplete_11 rfl ?_
    refine aw_getI dX0_isComplete_12 flX0_15 rfl (by assumption) t1 ?_
    refine aw_iconst (v := nI 1) dX0_isComplete_15 rfl ?_
    first | refine aw_isubN dX0_isComplete_16 (by omega) ?_ | refine aw_isub dX0_isComplete_16 ?_
    refine aw_iald dX0_isComplete_17 (by assumption) (by omega) rfl (by omega) (hlast hc4).1 ?_
    refine aw_bipush (v := nI 44) dX0_isComplete_18 rfl ?_
    refine aw_icmp_eqN (tgt := 38) dX0_isComplete_20 (by decide) (by omega) (by omega) (fun hc20 => ?_) (fun hc20 => ?_)
    · refine aw_iconst (v := nI 0) dX0_isComplete_38 rfl ?_
      exact aw_zret dX0_isComplete_39 rfl rfl (Nat.zero_le _) (Nat.zero_le _) ⟨by first | exact ic1 f2 ⟨hc4, hc20, hc31⟩ | exact ic0 f2 (by omega), rfl⟩
    · refine aw_aload_n dX0_isComplete_23 rfl ?_
      refine aw_vRd dX0_isComplete_24 cvX0_27 ⟨Nat.le_of_ble_eq_true rfl, Nat.le_of_ble_eq_true rfl⟩ (by assumption) ⟨_, rfl, rfl⟩ (d_firstWrong hD hB) rfl rfl (Nat.le_of_ble_eq_true rfl) ⟨rfl, rfl⟩ ⟨Nat.zero_le _, Nat.zero_le _⟩ ?_
      refine aw_aload_n dX0_isComplete_27 rfl ?_
      refine aw_getI dX0_isComplete_28 flX0_15 rfl (by assumption) t1 ?_
      refine aw_icmp_neN (tgt := 38) dX0_isComplete_31 (by decide) (by omega) (by omega) (fun hc31 => ?_) (fun hc31 => ?_)
      · refine aw_iconst (v := nI 0) dX0_isComplete_38 rfl ?_
        exact aw_zret dX0_isComplete_39 rfl rfl (Nat.zero_le _) (Nat.zero_le _) ⟨by first | exact ic1 f2 ⟨hc4, hc20, hc31⟩ | exact ic0 f2 (by omega), rfl⟩
      · refine aw_iconst (v := nI 1) dX0_isComplete_34 rfl ?_
        refine aw_goto (tgt := 39) dX0_isComplete_35 (by decide) ?_
        exact aw_zret dX0_isComplete_39 rfl rfl (Nat.zero_le _) (Nat.zero_le _) ⟨by first | exact ic1 f2 ⟨hc4, hc20, hc31⟩ | exact ic0 f2 (by omega), rfl⟩
end CLASS10
