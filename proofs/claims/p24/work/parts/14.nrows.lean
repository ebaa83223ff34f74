/-! rows over small naturals, and what a call leaves -/
section NROWS
variable {G : GG} {y : YY} {Z : ZT} {Q : RT → Sg → Prop} {pc : Nat} {ls ls' : List (Nat × Value)} {st rest : List Value} {σ : Sg} {K : Nat → Option (Nat × Nat)} {R : Nat → Nat → Value} {I : Nat → Nat → Int32} {J : Nat → Nat → Int64} {z cu su : Nat}
theorem aw_iaddN {a b : Nat} (hd : decode y.2.1 pc = .ok (.iadd, 1)) (kk : AW G y Z (pc + 1) ls (.int (nI (a + b)) :: st) σ cu su) : AW G y Z pc ls (.int (nI b) :: .int (nI a) :: st) σ cu su := aw_iadd hd (aw_top (nI_add a b) kk)
theorem aw_imulN {a b : Nat} (hd : decode y.2.1 pc = .ok (.imul, 1)) (kk : AW G y Z (pc + 1) ls (.int (nI (a * b)) :: st) σ cu su) : AW G y Z pc ls (.int (nI b) :: .int (nI a) :: st) σ cu su := aw_imul hd (aw_top (pk_mul a b) kk)
theorem aw_isubN {a b : Nat} (hd : decode y.2.1 pc = .ok (.isub, 1)) (h : b ≤ a) (kk : AW G y Z (pc + 1) ls (.int (nI (a - b)) :: st) σ cu su) : AW G y Z pc ls (.int (nI b) :: .int (nI a) :: st) σ cu su := aw_isub hd (aw_top (pk_sub h) kk)
theorem aw_iremN {a b : Nat} (hd : decode y.2.1 pc = .ok (.irem, 1)) (ha : a < 2 ^ 31) (h0 : 0 < b) (hb : b < 2 ^ 31) (kk : AW G y Z (pc + 1) ls (.int (nI (a % b)) :: st) σ cu su) : AW G y Z pc ls (.int (nI b) :: .int (nI a) :: st) σ cu su := aw_irem hd (nI_ne0 h0 hb) (aw_top (pk_rem ha h0 hb) kk)
theorem aw_idivN {a b : Nat} (hd : decode y.2.1 pc = .ok (.idiv, 1)) (ha : a < 2 ^ 31) (h0 : 0 < b) (hb : b < 2 ^ 31) (kk : AW G y Z (pc + 1) ls (.int (nI (a / b)) :: st) σ cu su) : AW G y Z pc ls (.int (nI b) :: .int (nI a) :: st) σ cu su := aw_idiv hd (nI_ne0 h0 hb) (aw_top (pk_div ha h0 hb) kk)
theorem aw_iincN {i k a : Nat} {n : Int} (hd : decode y.2.1 pc = .ok (.iinc i n, 3)) (h : lget ls i = some (.int (nI a))) (hk : Int32.ofInt n = nI k) (hn : i < y.2.2.1) (hl : lset ls i (.int (nI (a + k))) = ls') (kk : AW G y Z (pc + 3) ls' st σ cu su) : AW G y Z pc ls st σ cu su := aw_iinc hd h (by rw [hk]; exact nI_add a k) hn hl kk
theorem aw_icmp_geN {a b : Nat} {off : Int} {tgt : Nat} (hd : decode y.2.1 pc = .ok (.if_icmp .ge off, 3)) (ht : (pc : Int) + off = (tgt : Int)) (ha : a < 2 ^ 31) (hb : b < 2 ^ 31) (kt : b ≤ a → AW G y Z tgt ls st σ cu su) (kf : a < b → AW G y Z (pc + 3) ls st σ cu su) : AW G y Z pc ls (.int (nI b) :: .int (nI a) :: st) σ cu su :=
  aw_icmp_ge hd ht (fun h => kt ((nI_leI hb ha).mp h)) (fun h => kf (Nat.not_le.mp fun q => h ((nI_leI hb ha).mpr q)))
theorem aw_icmp_ltN {a b : Nat} {off : Int} {tgt : Nat} (hd : decode y.2.1 pc = .ok (.if_icmp .lt off, 3)) (ht : (pc : Int) + off = (tgt : Int)) (ha : a < 2 ^ 31) (hb : b < 2 ^ 31) (kt : a < b → AW G y Z tgt ls st σ cu su) (kf : b ≤ a → AW G y Z (pc + 3) ls st σ cu su) : AW G y Z pc ls (.int (nI b) :: .int (nI a) :: st) σ cu su :=
  aw_icmp_lt hd ht (fun h => kt ((nI_ltI ha hb).mp h)) (fun h => kf (Nat.not_lt.mp fun q => h ((nI_ltI ha hb).mpr q)))
theorem aw_icmp_gtN {a b : Nat} {off : Int} {tgt : Nat} (hd : decode y.2.1 pc = .ok (.if_icmp .gt off, 3)) (ht : (pc : Int) + off = (tgt : Int)) (ha : a < 2 ^ 31) (hb : b < 2 ^ 31) (kt : b < a → AW G y Z tgt ls st σ cu su) (kf : a ≤ b → AW G y Z (pc + 3) ls st σ cu su) : AW G y Z pc ls (.int (nI b) :: .int (nI a) :: st) σ cu su :=
  aw_icmp_gt hd ht (fun h => kt ((nI_ltI hb ha).mp h)) (fun h => kf (Nat.not_lt.mp fun q => h ((nI_ltI hb ha).mpr q)))
theorem aw_icmp_leN {a b : Nat} {off : Int} {tgt : Nat} (hd : decode y.2.1 pc = .ok (.if_icmp .le off, 3)) (ht : (pc : Int) + off = (tgt : Int)) (ha : a < 2 ^ 31) (hb : b < 2 ^ 31) (kt : a ≤ b → AW G y Z tgt ls st σ cu su) (kf : b < a → AW G y Z (pc + 3) ls st σ cu su) : AW G y Z pc ls (.int (nI b) :: .int (nI a) :: st) σ cu su :=
  aw_icmp_le hd ht (fun h => kt ((nI_leI ha hb).mp h)) (fun h => kf (Nat.not_le.mp fun q => h ((nI_leI ha hb).mpr q)))
theorem aw_icmp_eqN {a b : Nat} {off : Int} {tgt : Nat} (hd : decode y.2.1 pc = .ok (.if_icmp .eq off, 3)) (ht : (pc : Int) + off = (tgt : Int)) (ha : a < 2 ^ 31) (hb : b < 2 ^ 31) (kt : a = b → AW G y Z tgt ls st σ cu su) (kf : a ≠ b → AW G y Z (pc + 3) ls st σ cu su) : AW G y Z pc ls (.int (nI b) :: .int (nI a) :: st) σ cu su :=
  aw_icmp_eq hd ht (fun h => kt ((nI_eq ha hb).mp h)) (fun h => kf (fun q => h ((nI_eq ha hb).mpr q)))
theorem aw_icmp_neN {a b : Nat} {off : Int} {tgt : Nat} (hd : decode y.2.1 pc = .ok (.if_icmp .ne off, 3)) (ht : (pc : Int) + off = (tgt : Int)) (ha : a < 2 ^ 31) (hb : b < 2 ^ 31) (kt : a ≠ b → AW G y Z tgt ls st σ cu su) (kf : a = b → AW G y Z (pc + 3) ls st σ cu su) : AW G y Z pc ls (.int (nI b) :: .int (nI a) :: st) σ cu su :=
  aw_icmp_ne hd ht (fun h => kt (fun q => h ((nI_eq ha hb).mpr q))) (fun h => kf ((nI_eq ha hb).mp h))
theorem nI_z {a : Nat} (ha : a < 2 ^ 31) : nI a = 0 ↔ a = 0 := nI_eq (b := 0) ha (by decide)
theorem aw_if_eqN {a : Nat} {off : Int} {tgt : Nat} (hd : decode y.2.1 pc = .ok (.ifCond .eq off, 3)) (ht : (pc : Int) + off = (tgt : Int)) (ha : a < 2 ^ 31) (kt : a = 0 → AW G y Z tgt ls st σ cu su) (kf : a ≠ 0 → AW G y Z (pc + 3) ls st σ cu su) : AW G y Z pc ls (.int (nI a) :: st) σ cu su :=
  aw_if_eq hd ht (fun h => kt ((nI_z ha).mp h)) (fun h => kf (fun q => h ((nI_z ha).mpr q)))
theorem aw_if_neN {a : Nat} {off : Int} {tgt : Nat} (hd : decode y.2.1 pc = .ok (.ifCond .ne off, 3)) (ht : (pc : Int) + off = (tgt : Int)) (ha : a < 2 ^ 31) (kt : a ≠ 0 → AW G y Z tgt ls st σ cu su) (kf : a = 0 → AW G y Z (pc + 3) ls st σ cu su) : AW G y Z pc ls (.int (nI a) :: st) σ cu su :=
  aw_if_ne hd ht (fun h => kt (fun q => h ((nI_z ha).mpr q))) (fun h => kf ((nI_z ha).mp h))
theorem aw_if_gtN {a : Nat} {off : Int} {tgt : Nat} (hd : decode y.2.1 pc = .ok (.ifCond .gt off, 3)) (ht : (pc : Int) + off = (tgt : Int)) (ha : a < 2 ^ 31) (kt : 0 < a → AW G y Z tgt ls st σ cu su) (kf : a = 0 → AW G y Z (pc + 3) ls st σ cu su) : AW G y Z pc ls (.int (nI a) :: st) σ cu su :=
  aw_if_gt hd ht (fun h => kt ((nI_ltI (a := 0) (by decide) ha).mp h)) (fun h => kf (by
    rcases Nat.eq_zero_or_pos a with q | q
    · exact q
    · exact absurd ((nI_ltI (a := 0) (by decide) ha).mpr q) h))
theorem aw_if_leN {a : Nat} {off : Int} {tgt : Nat} (hd : decode y.2.1 pc = .ok (.ifCond .le off, 3)) (ht : (pc : Int) + off = (tgt : Int)) (ha : a < 2 ^ 31) (kt : a = 0 → AW G y Z tgt ls st σ cu su) (kf : 0 < a → AW G y Z (pc + 3) ls st σ cu su) : AW G y Z pc ls (.int (nI a) :: st) σ cu su :=
  aw_if_le hd ht (fun h => kt (by
    rcases Nat.eq_zero_or_pos a with q | q
    · exact q
    · exact absurd h (nI_nle q ha))) (fun h => kf (by
    rcases Nat.eq_zero_or_pos a with q | q
    · subst q; exact absurd (Int32.le_refl 0) h
    · exact q))
theorem aw_if_geN {a : Nat} {off : Int} {tgt : Nat} (hd : decode y.2.1 pc = .ok (.ifCond .ge off, 3)) (ht : (pc : Int) + off = (tgt : Int)) (ha : a < 2 ^ 31) (kt : AW G y Z tgt ls st σ cu su) : AW G y Z pc ls (.int (nI a) :: st) σ cu su :=
  aw_if_ge hd ht (fun _ => kt) (fun h => absurd (nI_pos' ha) h)
theorem aw_if_ltN {a : Nat} {off : Int} {tgt : Nat} (hd : decode y.2.1 pc = .ok (.ifCond .lt off, 3)) (ht : (pc : Int) + off = (tgt : Int)) (ha : a < 2 ^ 31) (kf : AW G y Z (pc + 3) ls st σ cu su) : AW G y Z pc ls (.int (nI a) :: st) σ cu su :=
  aw_if_lt hd ht (fun h => absurd h (nI_pos ha)) (fun _ => kf)
/-- a condition that lays one of two numbers -/
theorem aw_dia {a c1 c0 tgt jn : Nat} {x : Int32} {off off2 n1 n0 : Int} (hd : decode y.2.1 pc = .ok (.ifCond .eq off, 3)) (ht : (pc : Int) + off = (tgt : Int)) (d1 : decode y.2.1 (pc + 3) = .ok (.iconst n1, 1)) (h1 : Int32.ofInt n1 = nI c1) (d2 : decode y.2.1 (pc + 4) = .ok (.goto off2, 3)) (ht2 : ((pc + 4 : Nat) : Int) + off2 = (jn : Int)) (d3 : decode y.2.1 tgt = .ok (.iconst n0, 1)) (h0 : Int32.ofInt n0 = nI c0) (hj : tgt + 1 = jn) (ha : a < 2 ^ 31) (hx : nI (if a = 0 then c0 else c1) = x)
    (kk : AW G y Z jn ls (.int x :: st) σ cu su) : AW G y Z pc ls (.int (nI a) :: st) σ cu su := by
  refine aw_if_eqN hd ht ha (fun h => ?_) (fun h => ?_)
  · rw [if_pos h] at hx
    refine aw_iconst d3 h0 ?_
    rw [hj, hx]; exact kk
  · rw [if_neg h] at hx
    refine aw_iconst d1 h1 ?_
    refine aw_goto d2 ht2 ?_
    rw [hx]; exact kk
/-- the locals by their places -/
theorem aw_pick (ks : List Nat) (hl : lv_pick ls ks = ls') (kk : AW G y Z pc ls' st σ cu su) : AW G y Z pc ls st σ cu su := by
  intro p e s m args below meth c H locs lsa C V S L
  exact kk p e s m args below meth c H locs lsa C V S (lv_sub L ks hl)
/-- it answers v and changes nothing -/
def Rd (σ : Sg) (v : Value) : RT → Sg → Prop := fun r σ' => r = .inl (some v) ∧ σ' = σ
/-- it answers v, and the ints are as P says -/
def Up (K : Nat → Option (Nat × Nat)) (R : Nat → Nat → Value) (J : Nat → Nat → Int64) (z : Nat) (v : Option Value) (P : (Nat → Nat → Int32) → Prop) : RT → Sg → Prop := fun r σ' => r = .inl v ∧ ∃ I', σ' = (K, R, I', J, z) ∧ P I'
theorem Rd.nx {v : Value} {E : String} {σ' : Sg} : ¬ Rd σ v (.inr E) σ' := fun h => by cases h.1
theorem Up.nx {v : Option Value} {P : (Nat → Nat → Int32) → Prop} {E : String} {σ' : Sg} : ¬ Up K R J z v P (.inr E) σ' := fun h => by cases h.1
theorem aw_vRd {yc : YY} {idx n o c nn : Nat} {As : List Value} {v : Value} (hd : decode y.2.1 pc = .ok (.invokevirtual idx, 3)) (cv : CV y.1.cls idx yc n) (cr : CR yc y) (hk : σ.1 o = some (c, nn)) (hcl : ∃ r : vw_C, vwCl[c]? = some r ∧ r.1 = yc.1.cls) (hr : Run G yc (.ref (G.1 o) :: As) σ (Rd σ v)) (hst : st = As.reverse ++ .ref (G.1 o) :: rest) (hn : As.length = n) (hrest : (rest.map fun v => v.category).sum ≤ 8) (h0 : yc.2.2.2.2.1.cells = 0 ∧ yc.2.2.2.2.1.slots = 0) (hroom : cu ≤ y.2.2.2.2.1.cells ∧ su ≤ y.2.2.2.2.1.slots)
    (kk : AW G y Z (pc + 3) ls (v :: rest) σ cu su) : AW G y Z pc ls st σ cu su :=
  aw_invV hd cv cr hk hcl hst hn hrest (by rw [h0.1, h0.2]; exact hroom) hr (fun E σ' h => absurd h Rd.nx) (fun w σ' h => by
    obtain ⟨h1, rfl⟩ := h
    cases h1
    rw [h0.1, h0.2]; exact kk)
theorem aw_vUp {yc : YY} {idx n o c nn : Nat} {As : List Value} {v : Value} {P : (Nat → Nat → Int32) → Prop} (hd : decode y.2.1 pc = .ok (.invokevirtual idx, 3)) (cv : CV y.1.cls idx yc n) (cr : CR yc y) (hk : K o = some (c, nn)) (hcl : ∃ r : vw_C, vwCl[c]? = some r ∧ r.1 = yc.1.cls) (hr : Run G yc (.ref (G.1 o) :: As) (K, R, I, J, z) (Up K R J z (some v) P)) (hst : st = As.reverse ++ .ref (G.1 o) :: rest) (hn : As.length = n) (hrest : (rest.map fun v => v.category).sum ≤ 8) (h0 : yc.2.2.2.2.1.cells = 0 ∧ yc.2.2.2.2.1.slots = 0) (hroom : cu ≤ y.2.2.2.2.1.cells ∧ su ≤ y.2.2.2.2.1.slots)
    (kk : ∀ I' : Nat → Nat → Int32, P I' → AW G y Z (pc + 3) ls (v :: rest) (K, R, I', J, z) cu su) : AW G y Z pc ls st (K, R, I, J, z) cu su :=
  aw_invV hd cv cr hk hcl hst hn hrest (by rw [h0.1, h0.2]; exact hroom) hr (fun E σ' h => absurd h Up.nx) (fun w σ' h => by
    obtain ⟨h1, I', rfl, hP⟩ := h
    cases h1
    rw [h0.1, h0.2]; exact kk I' hP)
theorem aw_vUp0 {yc : YY} {idx n o c nn : Nat} {As : List Value} {P : (Nat → Nat → Int32) → Prop} (hd : decode y.2.1 pc = .ok (.invokevirtual idx, 3)) (cv : CV y.1.cls idx yc n) (cr : CR yc y) (hk : K o = some (c, nn)) (hcl : ∃ r : vw_C, vwCl[c]? = some r ∧ r.1 = yc.1.cls) (hr : Run G yc (.ref (G.1 o) :: As) (K, R, I, J, z) (Up K R J z none P)) (hst : st = As.reverse ++ .ref (G.1 o) :: rest) (hn : As.length = n) (hrest : (rest.map fun v => v.category).sum ≤ 8) (h0 : yc.2.2.2.2.1.cells = 0 ∧ yc.2.2.2.2.1.slots = 0) (hroom : cu ≤ y.2.2.2.2.1.cells ∧ su ≤ y.2.2.2.2.1.slots)
    (kk : ∀ I' : Nat → Nat → Int32, P I' → AW G y Z (pc + 3) ls rest (K, R, I', J, z) cu su) : AW G y Z pc ls st (K, R, I, J, z) cu su :=
  aw_invV hd cv cr hk hcl hst hn hrest (by rw [h0.1, h0.2]; exact hroom) hr (fun E σ' h => absurd h Up.nx) (fun w σ' h => by
    obtain ⟨h1, I', rfl, hP⟩ := h
    cases h1
    rw [h0.1, h0.2]; exact kk I' hP)
theorem aw_sRd {yc : YY} {idx n : Nat} {As : List Value} {v : Value} (hd : decode y.2.1 pc = .ok (.invokestatic idx, 3)) (cv : CS y.1.cls idx yc n) (cr : CR yc y) (hr : Run G yc As σ (Rd σ v)) (hst : st = As.reverse ++ rest) (hn : As.length = n) (hrest : (rest.map fun v => v.category).sum ≤ 8) (h0 : yc.2.2.2.2.1.cells = 0 ∧ yc.2.2.2.2.1.slots = 0) (hroom : cu ≤ y.2.2.2.2.1.cells ∧ su ≤ y.2.2.2.2.1.slots)
    (kk : AW G y Z (pc + 3) ls (v :: rest) σ cu su) : AW G y Z pc ls st σ cu su :=
  aw_invS hd cv cr hst hn hrest (by rw [h0.1, h0.2]; exact hroom) hr (fun E σ' h => absurd h Rd.nx) (fun w σ' h => by
    obtain ⟨h1, rfl⟩ := h
    cases h1
    rw [h0.1, h0.2]; exact kk)
theorem aw_sUp0 {yc : YY} {idx n : Nat} {As : List Value} {P : (Nat → Nat → Int32) → Prop} (hd : decode y.2.1 pc = .ok (.invokestatic idx, 3)) (cv : CS y.1.cls idx yc n) (cr : CR yc y) (hr : Run G yc As (K, R, I, J, z) (Up K R J z none P)) (hst : st = As.reverse ++ rest) (hn : As.length = n) (hrest : (rest.map fun v => v.category).sum ≤ 8) (h0 : yc.2.2.2.2.1.cells = 0 ∧ yc.2.2.2.2.1.slots = 0) (hroom : cu ≤ y.2.2.2.2.1.cells ∧ su ≤ y.2.2.2.2.1.slots)
    (kk : ∀ I' : Nat → Nat → Int32, P I' → AW G y Z (pc + 3) ls rest (K, R, I', J, z) cu su) : AW G y Z pc ls st (K, R, I, J, z) cu su :=
  aw_invS hd cv cr hst hn hrest (by rw [h0.1, h0.2]; exact hroom) hr (fun E σ' h => absurd h Up.nx) (fun w σ' h => by
    obtain ⟨h1, I', rfl, hP⟩ := h
    cases h1
    rw [h0.1, h0.2]; exact kk I' hP)
end NROWS
