/-! THE REFERENCE: trials, refusals, calls -/
def b2 (b : Bool) : Nat := if b = true then 1 else 0
theorem b2_le (b : Bool) : b2 b ≤ 1 := by unfold b2; split <;> omega
theorem b2_t {b : Bool} (h : b = true) : b2 b = 1 := if_pos h
theorem b2_f {b : Bool} (h : b = false) : b2 b = 0 := by subst h; rfl
theorem b2_0 {b : Bool} : b2 b = 0 ↔ b = false := by cases b <;> simp [b2]
theorem any_take {α : Type} {L : List α} {k : Nat} {c : α} (p : α → Bool) (h : L[k]? = some c) : (L.take (k + 1)).any p = ((L.take k).any p || p c) := by
  rw [List.take_add_one, h]; simp
theorem dia01 {e : Nat} (h : e ≤ 1) : nI (if e = 0 then 0 else 1) = nI e := by rcases (show e = 0 ∨ e = 1 by omega) with h | h <;> rw [h] <;> rfl
theorem dia10 {e : Nat} (h : e ≤ 1) : nI (if e = 0 then 1 else 0) = nI (1 - e) := by rcases (show e = 0 ∨ e = 1 by omega) with h | h <;> rw [h] <;> rfl
theorem nar01 {e : Nat} (h : e ≤ 1) : narrow .boolean (.int (nI e)) = .int (nI e) := by rcases (show e = 0 ∨ e = 1 by omega) with h | h <;> rw [h] <;> rfl
theorem rf1 {a : AA} {st : Nat} (h : a.2.2 st 2 = 1) : 1 = b2 (refd a st) := by rw [b2_t]; simp [refd, h]
theorem rf2 {a : AA} {st : Nat} (h : a.2.2 st 2 ≠ 1) (h' : a.2.2 st 2 ≠ 2) : 0 = b2 (refd a st) := by rw [b2_f]; simp [refd, h, h']
theorem rf3 {a : AA} {st : Nat} (h : a.2.2 st 2 = 2) : b2 (hasTr a st) = b2 (refd a st) := congrArg b2 (by simp [refd, h])
theorem at1 {A : Bool} {st : Nat} {c : Cl} (h : b2 A ≠ 0) : 1 = b2 (A || isT st c) := by
  cases A with
  | false => exact absurd rfl h
  | true => rfl
theorem at2 {A : Bool} {st : Nat} {c : Cl} (h : c 0 = st) (h' : c 3 = 1) : 1 = b2 (A || isT st c) := by rw [b2_t]; simp [isT, h, h']
theorem at3 {A : Bool} {st : Nat} {c : Cl} (h : b2 A = 0) (h' : c 0 ≠ st) : 0 = b2 (A || isT st c) := by rw [b2_0.mp h, b2_f]; simp [isT, h']
theorem at4 {A : Bool} {st : Nat} {c : Cl} (h : b2 A = 0) (h' : c 3 ≠ 1) : 0 = b2 (A || isT st c) := by rw [b2_0.mp h, b2_f]; simp [isT, h']
section MODEL4
variable {G : GG} {K : Nat → Option (Nat × Nat)} {R : Nat → Nat → Value} {I : Nat → Nat → Int32} {J : Nat → Nat → Int64} {z : Nat} {σ : Sg} {a : AA} {m k : Nat}
theorem r_callOfv {v : Nat} (hL : LM G K R) (hM : RM (I 141) a) {p w : Nat} {c : Cl} (hp : a.2.1[p]? = some c) (h16 : a.2.1.length ≤ 16) (hw : w < 5) (hv : c w = v) : Run G YX4_callOf [.ref (G.1 140), .int (nI p), .int (nI w)] (K, R, I, J, z) (Rd (K, R, I, J, z) (.int (nI v))) := by
  subst hv; exact r_callOf hL hM hp h16 hw
theorem r_hasTrial (hL : LM G K R) (hM : RM (I 141) a) {st : Nat} (hst : st < 4) (h16 : a.2.1.length ≤ 16) (hC : ∀ c ∈ a.2.1, c 0 < 4 ∧ c 3 ≤ 1) : Run G YX4_hasTrial [.ref (G.1 140), .int (nI st)] (K, R, I, J, z) (Rd (K, R, I, J, z) (.int (nI (b2 (hasTr a st))))) := by
  obtain ⟨hk0, hr1, hk1, hr2, hk2, hr3, hk3, hr5, hk5, hr9, hk9⟩ := hL
  have hL : LM G K R := ⟨hk0, hr1, hk1, hr2, hk2, hr3, hk3, hr5, hk5, hr9, hk9⟩
  have loop : ∀ (d k : Nat), a.2.1.length - k = d → k ≤ a.2.1.length → AW G YX4_hasTrial (MZ G YX4_hasTrial (Rd (K, R, I, J, z) (.int (nI (b2 (hasTr a st)))))) 4 [(0, .ref (G.1 140)), (1, .int (nI st)), (2, .int (nI (b2 ((a.2.1.take k).any (isT st))))), (3, .int (nI k))] [] (K, R, I, J, z) 0 0 := by
    intro d
    induction d using Nat.strongRecOn with
    | _ d ih =>
    intro k hd hkl
    have hb := b2_le ((a.2.1.take k).any (isT st))
    refine aw_iload_n dX4_hasTrial_4 rfl ?_
    refine aw_aload_n dX4_hasTrial_5 rfl ?_
    refine aw_getR dX4_hasTrial_6 flX4_7 rfl (by assumption) (by assumption) ?_
    refine aw_bipush (v := nI 9) dX4_hasTrial_9 rfl ?_
    refine aw_iald dX4_hasTrial_11 (by assumption) (by omega) rfl (by omega) hM.2.1 ?_
    refine aw_icmp_geN (tgt := 51) dX4_hasTrial_12 (by decide) (by omega) (by omega) (fun hc12 => ?_) (fun hc12 => ?_)
    · refine aw_iload_n dX4_hasTrial_51 rfl ?_
      exact aw_zret dX4_hasTrial_52 rfl (nar01 hb) (Nat.zero_le _) (Nat.zero_le _) ⟨by rw [show k = a.2.1.length by omega, List.take_length]; rfl, rfl⟩
    · obtain ⟨c, hc⟩ : ∃ c, a.2.1[k]? = some c := ⟨_, List.getElem?_eq_getElem (by omega)⟩
      obtain ⟨hc0, hc3⟩ := hC c (List.mem_of_getElem? hc)
      refine aw_iload_n dX4_hasTrial_15 rfl ?_
      refine aw_if_neN (tgt := 39) dX4_hasTrial_16 (by decide) (by omega) (fun hc16 => ?_) (fun hc16 => ?_)
      · refine aw_iconst (v := nI 1) dX4_hasTrial_39 rfl ?_
        refine aw_goto (tgt := 44) dX4_hasTrial_40 (by decide) ?_
        refine aw_top (x' := nI (b2 ((a.2.1.take (k + 1)).any (isT st)))) (congrArg nI ?_) ?_
        · rw [any_take _ hc]
          first
          | exact at1 hc16
          | exact at2 hc26 hc36
          | exact at3 hc16 hc26
          | exact at4 hc16 hc36
        refine aw_istore_n (ls' := [(2, _), (0, _), (1, _), (3, _)]) dX4_hasTrial_44 (by decide) rfl ?_
        refine aw_iincN (k := 1) (ls' := [(3, _), (2, _), (0, _), (1, _)]) dX4_hasTrial_45 rfl rfl (by decide) rfl ?_
        refine aw_goto (tgt := 4) dX4_hasTrial_48 (by decide) ?_
        exact aw_pick [2, 3, 1, 0] rfl (ih (a.2.1.length - (k + 1)) (by omega) (k + 1) rfl (by omega))
      · refine aw_aload_n dX4_hasTrial_19 rfl ?_
        refine aw_iload_n dX4_hasTrial_20 rfl ?_
        refine aw_iconst (v := nI 0) dX4_hasTrial_21 rfl ?_
        refine aw_vRd dX4_hasTrial_22 cvX4_63 ⟨Nat.le_of_ble_eq_true rfl, Nat.le_of_ble_eq_true rfl⟩ (by assumption) ⟨_, rfl, rfl⟩ (r_callOfv (w := 0) (v := c 0) hL hM hc h16 (by decide) rfl) rfl rfl (Nat.le_of_ble_eq_true rfl) ⟨rfl, rfl⟩ ⟨Nat.zero_le _, Nat.zero_le _⟩ ?_
        refine aw_iload_n dX4_hasTrial_25 rfl ?_
        refine aw_icmp_neN (tgt := 43) dX4_hasTrial_26 (by decide) (by omega) (by omega) (fun hc26 => ?_) (fun hc26 => ?_)
        · refine aw_iconst (v := nI 0) dX4_hasTrial_43 rfl ?_
          refine aw_top (x' := nI (b2 ((a.2.1.take (k + 1)).any (isT st)))) (congrArg nI ?_) ?_
          · rw [any_take _ hc]
            first
            | exact at1 hc16
            | exact at2 hc26 hc36
            | exact at3 hc16 hc26
            | exact at4 hc16 hc36
          refine aw_istore_n (ls' := [(2, _), (0, _), (1, _), (3, _)]) dX4_hasTrial_44 (by decide) rfl ?_
          refine aw_iincN (k := 1) (ls' := [(3, _), (2, _), (0, _), (1, _)]) dX4_hasTrial_45 rfl rfl (by decide) rfl ?_
          refine aw_goto (tgt := 4) dX4_hasTrial_48 (by decide) ?_
          exact aw_pick [2, 3, 1, 0] rfl (ih (a.2.1.length - (k + 1)) (by omega) (k + 1) rfl (by omega))
        · refine aw_aload_n dX4_hasTrial_29 rfl ?_
          refine aw_iload_n dX4_hasTrial_30 rfl ?_
          refine aw_iconst (v := nI 3) dX4_hasTrial_31 rfl ?_
          refine aw_vRd dX4_hasTrial_32 cvX4_63 ⟨Nat.le_of_ble_eq_true rfl, Nat.le_of_ble_eq_true rfl⟩ (by assumption) ⟨_, rfl, rfl⟩ (r_callOfv (w := 3) (v := c 3) hL hM hc h16 (by decide) rfl) rfl rfl (Nat.le_of_ble_eq_true rfl) ⟨rfl, rfl⟩ ⟨Nat.zero_le _, Nat.zero_le _⟩ ?_
          refine aw_iconst (v := nI 1) dX4_hasTrial_35 rfl ?_
          refine aw_icmp_neN (tgt := 43) dX4_hasTrial_36 (by decide) (by omega) (by omega) (fun hc36 => ?_) (fun hc36 => ?_)
          · refine aw_iconst (v := nI 0) dX4_hasTrial_43 rfl ?_
            refine aw_top (x' := nI (b2 ((a.2.1.take (k + 1)).any (isT st)))) (congrArg nI ?_) ?_
            · rw [any_take _ hc]
              first
              | exact at1 hc16
              | exact at2 hc26 hc36
              | exact at3 hc16 hc26
              | exact at4 hc16 hc36
            refine aw_istore_n (ls' := [(2, _), (0, _), (1, _), (3, _)]) dX4_hasTrial_44 (by decide) rfl ?_
            refine aw_iincN (k := 1) (ls' := [(3, _), (2, _), (0, _), (1, _)]) dX4_hasTrial_45 rfl rfl (by decide) rfl ?_
            refine aw_goto (tgt := 4) dX4_hasTrial_48 (by decide) ?_
            exact aw_pick [2, 3, 1, 0] rfl (ih (a.2.1.length - (k + 1)) (by omega) (k + 1) rfl (by omega))
          · refine aw_iconst (v := nI 1) dX4_hasTrial_39 rfl ?_
            refine aw_goto (tgt := 44) dX4_hasTrial_40 (by decide) ?_
            refine aw_top (x' := nI (b2 ((a.2.1.take (k + 1)).any (isT st)))) (congrArg nI ?_) ?_
            · rw [any_take _ hc]
              first
              | exact at1 hc16
              | exact at2 hc26 hc36
              | exact at3 hc16 hc26
              | exact at4 hc16 hc36
            refine aw_istore_n (ls' := [(2, _), (0, _), (1, _), (3, _)]) dX4_hasTrial_44 (by decide) rfl ?_
            refine aw_iincN (k := 1) (ls' := [(3, _), (2, _), (0, _), (1, _)]) dX4_hasTrial_45 rfl rfl (by decide) rfl ?_
            refine aw_goto (tgt := 4) dX4_hasTrial_48 (by decide) ?_
            exact aw_pick [2, 3, 1, 0] rfl (ih (a.2.1.length - (k + 1)) (by omega) (k + 1) rfl (by omega))
  refine run_of (ls := [(0, .ref (G.1 140)), (1, .int (nI st))]) (by decide +kernel) rfl rfl (Nat.le_of_ble_eq_true rfl) ?_
  refine aw_iconst (v := nI 0) dX4_hasTrial_0 rfl ?_
  refine aw_istore_n (ls' := [(2, _), (0, _), (1, _)]) dX4_hasTrial_1 (by decide) rfl ?_
  refine aw_iconst (v := nI 0) dX4_hasTrial_2 rfl ?_
  refine aw_istore_n (ls' := [(3, _), (2, _), (0, _), (1, _)]) dX4_hasTrial_3 (by decide) rfl ?_
  exact aw_pick [2, 3, 1, 0] rfl (loop a.2.1.length 0 rfl (Nat.zero_le _))
theorem r_isRefused (hL : LM G K R) (hM : RM (I 141) a) {st b : Nat} (hst : st < 4) (h16 : a.2.1.length ≤ 16) (hC : ∀ c ∈ a.2.1, c 0 < 4 ∧ c 3 ≤ 1) (ht : RK b (a.2.2 st)) : Run G YX4_isRefused [.ref (G.1 140), .int (nI st)] (K, R, I, J, z) (Rd (K, R, I, J, z) (.int (nI (b2 (refd a st))))) := by
  obtain ⟨hk0, hr1, hk1, hr2, hk2, hr3, hk3, hr5, hk5, hr9, hk9⟩ := hL
  have hL : LM G K R := ⟨hk0, hr1, hk1, hr2, hk2, hr3, hk3, hr5, hk5, hr9, hk9⟩
  have h2 : a.2.2 st 2 ≤ 2 := ht.2.2.2.1
  have hb := b2_le (hasTr a st)
  refine run_of (ls := [(0, .ref (G.1 140)), (1, .int (nI st))]) (by decide +kernel) rfl rfl (Nat.le_of_ble_eq_true rfl) ?_
  refine aw_aload_n dX4_isRefused_0 rfl ?_
  refine aw_iload_n dX4_isRefused_1 rfl ?_
  refine aw_iconst (v := nI 2) dX4_isRefused_2 rfl ?_
  refine aw_vRd dX4_isRefused_3 cvX4_40 ⟨Nat.le_of_ble_eq_true rfl, Nat.le_of_ble_eq_true rfl⟩ (by assumption) ⟨_, rfl, rfl⟩ (r_of (w := 2) hL hM hst (by decide)) rfl rfl (Nat.le_of_ble_eq_true rfl) ⟨rfl, rfl⟩ ⟨Nat.zero_le _, Nat.zero_le _⟩ ?_
  refine aw_iconst (v := nI 1) dX4_isRefused_6 rfl ?_
  refine aw_icmp_eqN (tgt := 28) dX4_isRefused_7 (by decide) (by omega) (by omega) (fun hc7 => ?_) (fun hc7 => ?_)
  · refine aw_iconst (v := nI 1) dX4_isRefused_28 rfl ?_
    refine aw_goto (tgt := 33) dX4_isRefused_29 (by decide) ?_
    exact aw_zret dX4_isRefused_33 rfl (by first | rfl | exact nar01 hb) (Nat.zero_le _) (Nat.zero_le _) ⟨by
  first
  | exact congrArg (fun n => (Sum.inl (some (Value.int (nI n))) : RT)) (rf1 hc7)
  | exact congrArg (fun n => (Sum.inl (some (Value.int (nI n))) : RT)) (rf2 hc7 hc17)
  | exact congrArg (fun n => (Sum.inl (some (Value.int (nI n))) : RT)) (rf3 hc17), rfl⟩
  · refine aw_aload_n dX4_isRefused_10 rfl ?_
    refine aw_iload_n dX4_isRefused_11 rfl ?_
    refine aw_iconst (v := nI 2) dX4_isRefused_12 rfl ?_
    refine aw_vRd dX4_isRefused_13 cvX4_40 ⟨Nat.le_of_ble_eq_true rfl, Nat.le_of_ble_eq_true rfl⟩ (by assumption) ⟨_, rfl, rfl⟩ (r_of (w := 2) hL hM hst (by decide)) rfl rfl (Nat.le_of_ble_eq_true rfl) ⟨rfl, rfl⟩ ⟨Nat.zero_le _, Nat.zero_le _⟩ ?_
    refine aw_iconst (v := nI 2) dX4_isRefused_16 rfl ?_
    refine aw_icmp_neN (tgt := 32) dX4_isRefused_17 (by decide) (by omega) (by omega) (fun hc17 => ?_) (fun hc17 => ?_)
    · refine aw_iconst (v := nI 0) dX4_isRefused_32 rfl ?_
      exact aw_zret dX4_isRefused_33 rfl (by first | rfl | exact nar01 hb) (Nat.zero_le _) (Nat.zero_le _) ⟨by
  first
  | exact congrArg (fun n => (Sum.inl (some (Value.int (nI n))) : RT)) (rf1 hc7)
  | exact congrArg (fun n => (Sum.inl (some (Value.int (nI n))) : RT)) (rf2 hc7 hc17)
  | exact congrArg (fun n => (Sum.inl (some (Value.int (nI n))) : RT)) (rf3 hc17), rfl⟩
    · refine aw_aload_n dX4_isRefused_20 rfl ?_
      refine aw_iload_n dX4_isRefused_21 rfl ?_
      refine aw_vRd dX4_isRefused_22 cvX4_66 ⟨Nat.le_of_ble_eq_true rfl, Nat.le_of_ble_eq_true rfl⟩ (by assumption) ⟨_, rfl, rfl⟩ (r_hasTrial hL hM hst h16 hC) rfl rfl (Nat.le_of_ble_eq_true rfl) ⟨rfl, rfl⟩ ⟨Nat.zero_le _, Nat.zero_le _⟩ ?_
      refine aw_dia (tgt := 32) (jn := 33) (c1 := 1) (c0 := 0) dX4_isRefused_25 (by decide) dX4_isRefused_28 rfl dX4_isRefused_29 (by decide) dX4_isRefused_32 rfl rfl (by omega) (dia01 hb) ?_
      exact aw_zret dX4_isRefused_33 rfl (by first | rfl | exact nar01 hb) (Nat.zero_le _) (Nat.zero_le _) ⟨by
  first
  | exact congrArg (fun n => (Sum.inl (some (Value.int (nI n))) : RT)) (rf1 hc7)
  | exact congrArg (fun n => (Sum.inl (some (Value.int (nI n))) : RT)) (rf2 hc7 hc17)
  | exact congrArg (fun n => (Sum.inl (some (Value.int (nI n))) : RT)) (rf3 hc17), rfl⟩
end MODEL4
