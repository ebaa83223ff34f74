/-! OBJECTS ARE MADE -/
theorem upK_s {K : Nat → Option (Nat × Nat)} {o : Nat} {x : Nat × Nat} : upK K o x o = some x := if_pos rfl
theorem upK_n {K : Nat → Option (Nat × Nat)} {o q : Nat} {x : Nat × Nat} (h : q ≠ o) : upK K o x q = K q := if_neg h
theorem zr_s {α : Type} {f : Nat → Nat → α} {z k : Nat} {d : α} : zr f z d z k = d := if_pos rfl
theorem zr_n {α : Type} {f : Nat → Nat → α} {z q : Nat} {d : α} (h : q ≠ z) : zr f z d q = f q := by funext k; unfold zr; rw [if_neg h]
theorem upR_s {R : Nat → Nat → Value} {o j : Nat} {v : Value} : upR R o j v o j = v := by simp [upR]
theorem upR_n {R : Nat → Nat → Value} {o j q : Nat} {v : Value} (h : q ≠ o) : upR R o j v q = R q := by funext k; simp [upR, h]
theorem upR_o {R : Nat → Nat → Value} {o j k : Nat} {v : Value} : upR R o j v o k = if k = j then v else R o k := by simp [upR]
def row0 : Rw := fun k => if k = 0 then 1 else if k = 12 then 5 else 0
def Same (lo hi : Nat) (σ σ' : Sg) : Prop := (∀ q, (q < lo ∨ hi ≤ q) → σ'.1 q = σ.1 q ∧ σ'.2.1 q = σ.2.1 q ∧ σ'.2.2.1 q = σ.2.2.1 q ∧ σ'.2.2.2.1 q = σ.2.2.2.1 q) ∧ σ'.2.2.2.2 = hi
theorem oiL {own : String} {ix i : Nat} (h : lw_tbl[i]? = some (Cond.methodLink own ix Lib.objectInit)) : Cond.methodLink own ix Lib.objectInit ∈ gT := gT_ix i h rfl
theorem oiI : Cond.instanceMethod Lib.objectInit ∈ gT := gT_ix 24 (by decide +kernel) rfl
theorem oiC : Cond.code Lib.objectInit ⟨#[0xb1]⟩ 1 none ∈ gT := gT_ix 25 (by decide +kernel) rfl
theorem acInt : Cond.arrayClass .int ∈ gT := gT_ix 97 (by decide +kernel) rfl
section CLASS18
variable {G : GG} {K : Nat → Option (Nat × Nat)} {R : Nat → Nat → Value} {I : Nat → Nat → Int32} {J : Nat → Nat → Int64} {z : Nat} {σ : Sg} {a : AA} {m k : Nat}
variable {o h : Nat}
theorem i_store (hk : K o = some (2, 14)) (hi : ∀ j, I o j = 0) (ho : o < 900) : Run G YX2_init [.ref (G.1 o)] (K, R, I, J, o + 1) (fun r σ' => r = .inl none ∧ LT σ'.1 σ'.2.1 G o ∧ SR (σ'.2.2.1 o) (σ'.2.2.1 (o + 1)) row0 ∧ σ'.2.2.1 o 12 = nI 0 ∧ Same o (o + 2) (K, R, I, J, o + 1) σ' ∧ σ'.1 o = some (2, 14)) := by
  refine run_of (ls := [(0, .ref (G.1 o))]) (by decide +kernel) rfl rfl (Nat.le_of_ble_eq_true rfl) ?_
  refine aw_aload_n dX2_init_0 rfl ?_
  refine aw_objInit dX2_init_1 (oiL (i := 40) (by decide +kernel)) oiI oiC (Nat.le_of_ble_eq_true rfl) (Nat.le_of_ble_eq_true rfl) ?_
  refine aw_aload_n dX2_init_4 rfl ?_
  refine aw_bipush (v := nI 20) dX2_init_5 rfl ?_
  refine aw_newaI (z := o + 1) dX2_init_7 acInt (Nat.le_of_ble_eq_true rfl) (by omega) (Nat.le_of_ble_eq_true rfl) (Nat.le_of_ble_eq_true rfl) ?_
  refine aw_putR dX2_init_9 flX2_9 rfl (by intro r hr; cases hr; exact ⟨rfl, rfl⟩) rfl (by rw [upK_n (by omega)]; exact hk) (by omega) rfl rfl ?_
  refine aw_aload_n dX2_init_12 rfl ?_
  refine aw_iconst (v := nI 1) dX2_init_13 rfl ?_
  refine aw_putI dX2_init_14 flX2_15 rfl (by intro r hr; cases hr; rfl) (by rw [upK_n (by omega)]; exact hk) (by omega) rfl rfl ?_
  refine aw_aload_n dX2_init_17 rfl ?_
  refine aw_iconst (v := nI 0) dX2_init_18 rfl ?_
  refine aw_putI dX2_init_19 flX2_19 rfl (by intro r hr; cases hr; rfl) (by rw [upK_n (by omega)]; exact hk) (by omega) rfl rfl ?_
  refine aw_aload_n dX2_init_22 rfl ?_
  refine aw_getR dX2_init_23 flX2_9 rfl (by rw [upK_n (by omega)]; exact hk) (by rw [upR_s]) ?_
  refine aw_iconst (v := nI 0) dX2_init_26 rfl ?_
  refine aw_iconst (v := nI 5) dX2_init_27 rfl ?_
  refine aw_iast dX2_init_28 upK_s (by omega) (by omega) rfl (by omega) ?_
  refine aw_vret dX2_init_29 rfl (Nat.le_of_ble_eq_true rfl) (Nat.le_of_ble_eq_true rfl) ?_
  have hz : ∀ j, zr I (o + 1) 0 o j = 0 := fun j => by rw [zr_n (by omega)]; exact hi j
  refine ⟨rfl, ⟨by show upK K (o + 1) (10, 20) o = _; rw [upK_n (by omega)]; exact hk, by show upR _ o 0 _ o 0 = _; rw [upR_s], upK_s, ho⟩, ⟨fun j hj => ?_, ?_, ⟨0, ?_, by decide, rfl⟩, ?_, ?_, ?_, ?_, fun _ => ⟨?_, ?_⟩, ?_, ?_, ?_, ?_⟩, ?_, ⟨fun q hq => ⟨?_, ?_, ?_, ?_⟩, rfl⟩, by show upK K (o + 1) (10, 20) o = _; rw [upK_n (by omega)]; exact hk⟩
  · show up2 _ (o + 1) 0 _ (o + 1) j = nI (row0 (12 + j))
    rw [up2_o]
    by_cases e : j = 0
    · subst e; rw [if_pos rfl]; rfl
    · rw [if_neg e, FrO.up (o + 1) (by omega), FrO.up (o + 1) (by omega), zr_s]
      unfold row0; rw [if_neg (by omega), if_neg (by omega)]; rfl
  any_goals (show up2 _ (o + 1) 0 _ o _ = _; rw [FrO.up o (by omega)]; simp only [up2_o, hz]; rfl)
  · show upK K (o + 1) (10, 20) q = _; rw [upK_n (by omega)]
  · show upR _ o 0 _ q = _; rw [upR_n (by omega), zr_n (by omega)]
  · show up2 _ (o + 1) 0 _ q = _; rw [FrO.up q (by omega), FrO.up q (by omega), FrO.up q (by omega), zr_n (by omega)]
  · show zr J (o + 1) 0 q = _; rw [zr_n (by omega)]
end CLASS18
