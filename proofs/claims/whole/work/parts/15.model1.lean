/-! THE REFERENCE, its smallest methods -/
/-- the reference's object: 140, its arrays behind it -/
def LM (G : GG) (K : Nat → Option (Nat × Nat)) (R : Nat → Nat → Value) : Prop :=
  K 140 = some (4, 12) ∧ R 140 1 = .ref (G.1 141) ∧ K 141 = some (10, 218) ∧ R 140 2 = .ref (G.1 142) ∧ K 142 = some (10, 218) ∧ R 140 3 = .ref (G.1 143) ∧ K 143 = some (10, 1308) ∧ R 140 5 = .ref (G.1 144) ∧ K 144 = some (10, 60) ∧ R 140 9 = .ref (G.1 145) ∧ K 145 = some (10, 20)
/-- 218 ints hold the state a -/
def RM (f : Nat → Int32) (a : AA) : Prop :=
  (∀ k, k < 9 → f k = nI (a.1 k)) ∧ f 9 = nI a.2.1.length ∧ (∀ (p : Nat) (c : Cl), a.2.1[p]? = some c → ∀ w, w < 5 → f (10 + 5 * p + w) = nI (c w)) ∧ (∀ st, st < 4 → ∀ w, w < 32 → f (90 + 32 * st + w) = nI (a.2.2 st w))
/-- other cells stay -/
def FrO (o : Nat) (I I' : Nat → Nat → Int32) : Prop := ∀ q, q ≠ o → I' q = I q
theorem FrO.rf {o : Nat} {I : Nat → Nat → Int32} : FrO o I I := fun _ _ => rfl
theorem FrO.tr {o : Nat} {I I' I'' : Nat → Nat → Int32} (h : FrO o I I') (h' : FrO o I' I'') : FrO o I I'' := fun q hq => (h' q hq).trans (h q hq)
theorem FrO.up {o k : Nat} {x : Int32} {I : Nat → Nat → Int32} : FrO o I (up2 I o k x) := fun q hq => by funext j; simp [up2, hq]
theorem up2_o {I : Nat → Nat → Int32} {o k j : Nat} {x : Int32} : up2 I o k x o j = if j = k then x else I o j := by simp [up2]
section MODEL1
variable {G : GG} {K : Nat → Option (Nat × Nat)} {R : Nat → Nat → Value} {I : Nat → Nat → Int32} {J : Nat → Nat → Int64} {z : Nat} {σ : Sg} {a : AA}
theorem in_t {v l m : Int32} (h1 : ¬ v < l) (h2 : ¬ m < v) : (Sum.inl (some (Value.int (nI 1))) : RT) = Sum.inl (some (Value.int (nI (if l ≤ v ∧ v ≤ m then 1 else 0)))) := by rw [if_pos ⟨Int32.not_lt.mp h1, Int32.not_lt.mp h2⟩]
theorem in_f1 {v l m : Int32} (h : v < l) : (Sum.inl (some (Value.int (nI 0))) : RT) = Sum.inl (some (Value.int (nI (if l ≤ v ∧ v ≤ m then 1 else 0)))) := by rw [if_neg (fun q => Int32.not_lt.mpr q.1 h)]
theorem in_f2 {v l m : Int32} (h : m < v) : (Sum.inl (some (Value.int (nI 0))) : RT) = Sum.inl (some (Value.int (nI (if l ≤ v ∧ v ≤ m then 1 else 0)))) := by rw [if_neg (fun q => Int32.not_lt.mpr q.2 h)]
theorem r_in (v l m : Int32) : Run G YX4_in [.int v, .int l, .int m] σ (Rd σ (.int (nI (if l ≤ v ∧ v ≤ m then 1 else 0)))) := by
  refine run_of (ls := [(0, .int v), (1, .int l), (2, .int m)]) (by decide +kernel) rfl rfl (Nat.le_of_ble_eq_true rfl) ?_
  refine aw_iload_n dX4_in_0 rfl ?_
  refine aw_iload_n dX4_in_1 rfl ?_
  refine aw_icmp_lt (tgt := 14) dX4_in_2 (by decide) (fun hc2 => ?_) (fun hc2 => ?_)
  · refine aw_iconst (v := nI 0) dX4_in_14 rfl ?_
    exact aw_zret dX4_in_15 rfl rfl (Nat.zero_le _) (Nat.zero_le _) ⟨by first | exact in_f1 hc2 | exact in_f2 hc7 | exact in_t hc2 hc7, rfl⟩
  · refine aw_iload_n dX4_in_5 rfl ?_
    refine aw_iload_n dX4_in_6 rfl ?_
    refine aw_icmp_gt (tgt := 14) dX4_in_7 (by decide) (fun hc7 => ?_) (fun hc7 => ?_)
    · refine aw_iconst (v := nI 0) dX4_in_14 rfl ?_
      exact aw_zret dX4_in_15 rfl rfl (Nat.zero_le _) (Nat.zero_le _) ⟨by first | exact in_f1 hc2 | exact in_f2 hc7 | exact in_t hc2 hc7, rfl⟩
    · refine aw_iconst (v := nI 1) dX4_in_10 rfl ?_
      refine aw_goto (tgt := 15) dX4_in_11 (by decide) ?_
      exact aw_zret dX4_in_15 rfl rfl (Nat.zero_le _) (Nat.zero_le _) ⟨by first | exact in_f1 hc2 | exact in_f2 hc7 | exact in_t hc2 hc7, rfl⟩
theorem r_isStore (v : Int32) : Run G YX4_isStore [.int v] σ (Rd σ (.int (nI (if nI 0 ≤ v ∧ v ≤ nI 3 then 1 else 0)))) := by
  refine run_of (ls := [(0, .int v)]) (by decide +kernel) rfl rfl (Nat.le_of_ble_eq_true rfl) ?_
  refine aw_iload_n dX4_isStore_0 rfl ?_
  refine aw_iconst (v := nI 0) dX4_isStore_1 rfl ?_
  refine aw_iconst (v := nI 3) dX4_isStore_2 rfl ?_
  refine aw_sRd dX4_isStore_3 cvX4_33 ⟨Nat.le_of_ble_eq_true rfl, Nat.le_of_ble_eq_true rfl⟩ (r_in v (nI 0) (nI 3)) rfl rfl (by decide) ⟨rfl, rfl⟩ ⟨Nat.zero_le _, Nat.zero_le _⟩ ?_
  exact aw_zret dX4_isStore_6 rfl (by split <;> rfl) (Nat.zero_le _) (Nat.zero_le _) ⟨rfl, rfl⟩
theorem r_of (hL : LM G K R) (hM : RM (I 141) a) {st w : Nat} (hst : st < 4) (hw : w < 32) : Run G YX4_of [.ref (G.1 140), .int (nI st), .int (nI w)] (K, R, I, J, z) (Rd (K, R, I, J, z) (.int (nI (a.2.2 st w)))) := by
  obtain ⟨hk0, hr1, hk1, hr2, hk2, hr3, hk3, hr5, hk5, hr9, hk9⟩ := hL
  refine run_of (ls := [(0, .ref (G.1 140)), (1, .int (nI st)), (2, .int (nI w))]) (by decide +kernel) rfl rfl (Nat.le_of_ble_eq_true rfl) ?_
  refine aw_aload_n dX4_of_0 rfl ?_
  refine aw_getR dX4_of_1 flX4_7 rfl (by assumption) (by assumption) ?_
  refine aw_bipush (v := nI 90) dX4_of_4 rfl ?_
  refine aw_bipush (v := nI 32) dX4_of_6 rfl ?_
  refine aw_iload_n dX4_of_8 rfl ?_
  first | refine aw_imulN dX4_of_9 ?_ | refine aw_imul dX4_of_9 ?_
  first | refine aw_iaddN dX4_of_10 ?_ | refine aw_iadd dX4_of_10 ?_
  refine aw_iload_n dX4_of_11 rfl ?_
  first | refine aw_iaddN dX4_of_12 ?_ | refine aw_iadd dX4_of_12 ?_
  refine aw_iald dX4_of_13 (by assumption) (by omega) rfl (by omega) (hM.2.2.2 st hst w hw) ?_
  exact aw_iret dX4_of_14 rfl (Nat.zero_le _) (Nat.zero_le _) ⟨rfl, rfl⟩
theorem r_callOf (hL : LM G K R) (hM : RM (I 141) a) {p w : Nat} {c : Cl} (hp : a.2.1[p]? = some c) (h16 : a.2.1.length ≤ 16) (hw : w < 5) : Run G YX4_callOf [.ref (G.1 140), .int (nI p), .int (nI w)] (K, R, I, J, z) (Rd (K, R, I, J, z) (.int (nI (c w)))) := by
  obtain ⟨hk0, hr1, hk1, hr2, hk2, hr3, hk3, hr5, hk5, hr9, hk9⟩ := hL
  have hpl := (List.getElem?_eq_some_iff.mp hp).1
  refine run_of (ls := [(0, .ref (G.1 140)), (1, .int (nI p)), (2, .int (nI w))]) (by decide +kernel) rfl rfl (Nat.le_of_ble_eq_true rfl) ?_
  refine aw_aload_n dX4_callOf_0 rfl ?_
  refine aw_getR dX4_callOf_1 flX4_7 rfl (by assumption) (by assumption) ?_
  refine aw_bipush (v := nI 10) dX4_callOf_4 rfl ?_
  refine aw_iconst (v := nI 5) dX4_callOf_6 rfl ?_
  refine aw_iload_n dX4_callOf_7 rfl ?_
  first | refine aw_imulN dX4_callOf_8 ?_ | refine aw_imul dX4_callOf_8 ?_
  first | refine aw_iaddN dX4_callOf_9 ?_ | refine aw_iadd dX4_callOf_9 ?_
  refine aw_iload_n dX4_callOf_10 rfl ?_
  first | refine aw_iaddN dX4_callOf_11 ?_ | refine aw_iadd dX4_callOf_11 ?_
  refine aw_iald dX4_callOf_12 (by assumption) (by omega) rfl (by omega) (hM.2.2.1 p c hp w hw) ?_
  exact aw_iret dX4_callOf_13 rfl (Nat.zero_le _) (Nat.zero_le _) ⟨rfl, rfl⟩
theorem RM_lay {f f' : Nat → Int32} {a : AA} {st w v : Nat} (hM : RM f a) (hst : st < 4) (hw : w < 32) (hf : ∀ j, f' j = if j = 90 + 32 * st + w then nI v else f j) (h16 : a.2.1.length ≤ 16) : RM f' (a.1, a.2.1, sT a.2.2 st (u1 (a.2.2 st) w v)) := by
  obtain ⟨h1, h2, h3, h4⟩ := hM
  refine ⟨fun k hk => ?_, ?_, fun p c hp w' hw' => ?_, fun s hs w' hw' => ?_⟩
  · rw [hf, if_neg (by omega)]; exact h1 k hk
  · rw [hf, if_neg (by omega)]; exact h2
  · have hpl := (List.getElem?_eq_some_iff.mp hp).1
    rw [hf, if_neg (by simp only at hpl; omega)]; exact h3 p c hp w' hw'
  · rw [hf]
    by_cases e : s = st
    · subst e
      show _ = nI (sT a.2.2 s _ s w')
      rw [sT_s]
      by_cases e2 : w' = w
      · subst e2; rw [if_pos rfl, u1_s]
      · rw [if_neg (by omega), u1_n e2]; exact h4 s hs w' hw'
    · rw [if_neg (by omega)]
      show _ = nI (sT a.2.2 st _ s w')
      rw [sT_n e]; exact h4 s hs w' hw'
theorem RM_g {f f' : Nat → Int32} {a : AA} {k v : Nat} (hM : RM f a) (hk : k < 9) (hf : ∀ j, f' j = if j = k then nI v else f j) : RM f' (u1 a.1 k v, a.2.1, a.2.2) := by
  obtain ⟨h1, h2, h3, h4⟩ := hM
  refine ⟨fun j hj => ?_, ?_, fun p c hp w' hw' => ?_, fun s hs w' hw' => ?_⟩
  · rw [hf]
    by_cases e : j = k
    · subst e; rw [if_pos rfl]; show _ = nI (u1 a.1 j v j); rw [u1_s]
    · rw [if_neg e]; show _ = nI (u1 a.1 k v j); rw [u1_n e]; exact h1 j hj
  · rw [hf, if_neg (by omega)]; exact h2
  · rw [hf, if_neg (by omega)]; exact h3 p c hp w' hw'
  · rw [hf, if_neg (by omega)]; exact h4 s hs w' hw'
theorem r_lay (hL : LM G K R) (hM : RM (I 141) a) (h16 : a.2.1.length ≤ 16) {st w v : Nat} (hst : st < 4) (hw : w < 32) : Run G YX4_lay [.ref (G.1 140), .int (nI st), .int (nI w), .int (nI v)] (K, R, I, J, z) (Up K R J z none (fun I' => RM (I' 141) (a.1, a.2.1, sT a.2.2 st (u1 (a.2.2 st) w v)) ∧ FrO 141 I I')) := by
  obtain ⟨hk0, hr1, hk1, hr2, hk2, hr3, hk3, hr5, hk5, hr9, hk9⟩ := hL
  refine run_of (ls := [(0, .ref (G.1 140)), (1, .int (nI st)), (2, .int (nI w)), (3, .int (nI v))]) (by decide +kernel) rfl rfl (Nat.le_of_ble_eq_true rfl) ?_
  refine aw_aload_n dX4_lay_0 rfl ?_
  refine aw_getR dX4_lay_1 flX4_7 rfl (by assumption) (by assumption) ?_
  refine aw_bipush (v := nI 90) dX4_lay_4 rfl ?_
  refine aw_bipush (v := nI 32) dX4_lay_6 rfl ?_
  refine aw_iload_n dX4_lay_8 rfl ?_
  first | refine aw_imulN dX4_lay_9 ?_ | refine aw_imul dX4_lay_9 ?_
  first | refine aw_iaddN dX4_lay_10 ?_ | refine aw_iadd dX4_lay_10 ?_
  refine aw_iload_n dX4_lay_11 rfl ?_
  first | refine aw_iaddN dX4_lay_12 ?_ | refine aw_iadd dX4_lay_12 ?_
  refine aw_iload_n dX4_lay_13 rfl ?_
  refine aw_iast dX4_lay_14 (by assumption) (by omega) (by omega) rfl (by omega) ?_
  exact aw_vret dX4_lay_15 rfl (Nat.zero_le _) (Nat.zero_le _) ⟨rfl, _, rfl, RM_lay hM hst hw (fun j => up2_o) h16, FrO.up⟩
theorem r_adds (hL : LM G K R) (hM : RM (I 141) a) (h16 : a.2.1.length ≤ 16) {st w : Nat} (hst : st < 4) (hw : w < 32) : Run G YX4_adds [.ref (G.1 140), .int (nI st), .int (nI w)] (K, R, I, J, z) (Up K R J z none (fun I' => RM (I' 141) (a.1, a.2.1, sT a.2.2 st (u1 (a.2.2 st) w (a.2.2 st w + 1))) ∧ FrO 141 I I')) := by
  obtain ⟨hk0, hr1, hk1, hr2, hk2, hr3, hk3, hr5, hk5, hr9, hk9⟩ := hL
  refine run_of (ls := [(0, .ref (G.1 140)), (1, .int (nI st)), (2, .int (nI w))]) (by decide +kernel) rfl rfl (Nat.le_of_ble_eq_true rfl) ?_
  refine aw_aload_n dX4_adds_0 rfl ?_
  refine aw_getR dX4_adds_1 flX4_7 rfl (by assumption) (by assumption) ?_
  refine aw_bipush (v := nI 90) dX4_adds_4 rfl ?_
  refine aw_bipush (v := nI 32) dX4_adds_6 rfl ?_
  refine aw_iload_n dX4_adds_8 rfl ?_
  first | refine aw_imulN dX4_adds_9 ?_ | refine aw_imul dX4_adds_9 ?_
  first | refine aw_iaddN dX4_adds_10 ?_ | refine aw_iadd dX4_adds_10 ?_
  refine aw_iload_n dX4_adds_11 rfl ?_
  first | refine aw_iaddN dX4_adds_12 ?_ | refine aw_iadd dX4_adds_12 ?_
  refine aw_dup2 dX4_adds_13 rfl rfl ?_
  refine aw_iald dX4_adds_14 (by assumption) (by omega) rfl (by omega) (hM.2.2.2 st hst w hw) ?_
  refine aw_iconst (v := nI 1) dX4_adds_15 rfl ?_
  first | refine aw_iaddN dX4_adds_16 ?_ | refine aw_iadd dX4_adds_16 ?_
  refine aw_iast dX4_adds_17 (by assumption) (by omega) (by omega) rfl (by omega) ?_
  exact aw_vret dX4_adds_18 rfl (Nat.zero_le _) (Nat.zero_le _) ⟨rfl, _, rfl, RM_lay hM hst hw (fun j => up2_o) h16, FrO.up⟩
theorem r_thrown {t : Nat} (hL : LM G K R) (ht : I 140 0 = nI t) : Run G YX4_thrown [.ref (G.1 140)] (K, R, I, J, z) (Rd (K, R, I, J, z) (.int (nI t))) := by
  obtain ⟨hk0, hr1, hk1, hr2, hk2, hr3, hk3, hr5, hk5, hr9, hk9⟩ := hL
  refine run_of (ls := [(0, .ref (G.1 140))]) (by decide +kernel) rfl rfl (Nat.le_of_ble_eq_true rfl) ?_
  refine aw_aload_n dX4_thrown_0 rfl ?_
  refine aw_getI dX4_thrown_1 flX4_25 rfl (by assumption) ht ?_
  exact aw_iret dX4_thrown_4 rfl (Nat.zero_le _) (Nat.zero_le _) ⟨rfl, rfl⟩
theorem r_fails (hL : LM G K R) (c : Int32) : Run G YX4_fails [.ref (G.1 140), .int c] (K, R, I, J, z) (Up K R J z (some (.int (nI 0))) (fun I' => I' = up2 I 140 0 c)) := by
  obtain ⟨hk0, hr1, hk1, hr2, hk2, hr3, hk3, hr5, hk5, hr9, hk9⟩ := hL
  refine run_of (ls := [(0, .ref (G.1 140)), (1, .int c)]) (by decide +kernel) rfl rfl (Nat.le_of_ble_eq_true rfl) ?_
  refine aw_aload_n dX4_fails_0 rfl ?_
  refine aw_iload_n dX4_fails_1 rfl ?_
  refine aw_putI dX4_fails_2 flX4_25 rfl (by intro r hr; cases hr; rfl) (by assumption) (by omega) rfl rfl ?_
  refine aw_iconst (v := nI 0) dX4_fails_5 rfl ?_
  exact aw_iret dX4_fails_6 rfl (Nat.zero_le _) (Nat.zero_le _) ⟨rfl, _, rfl, rfl⟩
end MODEL1
