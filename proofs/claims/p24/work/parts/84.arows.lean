/-! THE LAW: the rows of an act -/
theorem nI_m1z : (-1 : Int32) ≠ nI 0 := by decide
section AROWS
variable {G : GG} {y : YY} {Z : ZT} {K : Nat → Option (Nat × Nat)} {R : Nat → Nat → Value} {I I0 : Nat → Nat → Int32} {J : Nat → Nat → Int64} {z pc cu su C D : Nat} {ls : List (Nat × Value)} {st rest : List Value} {a : AA} {m k : Nat}
variable {B : List Nat} {hs : List AA}
theorem aw_iincM {i n : Nat} {ls' : List (Nat × Value)} {σ : Sg} (hd : decode y.2.1 pc = .ok (.iinc i (-1), 3)) (h : lget ls i = some (.int (nI (n + 1)))) (hn : i < y.2.2.1) (hl : lset ls i (.int (nI n)) = ls') (kk : AW G y Z (pc + 3) ls' st σ cu su) : AW G y Z pc ls st σ cu su := aw_iinc hd h (pk_m1 n) hn hl kk
theorem until_0 (hG : GI1 m k a) {s : Nat} (hs4 : s < 4) (hr : refd a s = false) : untilI a s = nI 0 := by
  rw [← free_until hs4 hG.1 hG.2.1 hG.2.2, freeN_0 hG.1 hs4 hr]
  rfl
theorem aw_delays {s : Nat} (hX : LX G K R) (hG : GI1 m k a) (hmk : m + k ≤ 800000000) (hS : XS I (a, hs, B)) (hs4 : s < 4) (hB : (rdAll B).1 = true) (hd : decode y.2.1 pc = .ok (.invokevirtual 43, 3)) (cv : CV y.1.cls 43 YX3_delays 1) (cr : CR YX3_delays y) (hC : y.2.2.2.2.1.cells = C) (hD : y.2.2.2.2.1.slots = D) (hc : cu + 2 ≤ C) (hs' : su + 12 ≤ D) (hrest : (rest.map fun v => v.category).sum ≤ 8)
    (kk : ∀ I', XS I' ((a.1, a.2.1, sT a.2.2 s (rowR (rdAll B).2.2 (a.2.2 s))), pushH hs a, ([] : List Nat)) → FrC I I' → AW G y Z (pc + 3) ls (.int (nI (a.2.2 s 0)) :: rest) (K, R, I', J, z) (cu + 2) (su + 12)) : AW G y Z pc ls (.int (nI s) :: .ref (G.1 0) :: rest) (K, R, I, J, z) cu su :=
  aw_x (As := [.int (nI s)]) (mc := 2) (ms := 12) hd cv cr hX ⟨_, rfl, rfl⟩ (X_delays hX hS hG.1 hG.2.1 hmk (nI s)) (by unfold sDelays; rw [if_pos (inR_nI (Nat.zero_le _) (Nat.le_of_lt_succ hs4) (by decide)), if_pos hB, nv_nI (by omega)]) rfl rfl hrest rfl rfl hC hD hc hs' kk
theorem aw_set {i v : Nat} (hX : LX G K R) (hG : GI1 m k a) (hmk : m + k ≤ 800000000) (hS : XS I (a, hs, B)) (hSC : SC K I) (hi : i ≤ 4) (h1 : setLo i ≤ v) (h2 : v ≤ setHi i) (h3 : setHi i < 2 ^ 31) (hd : decode y.2.1 pc = .ok (.invokevirtual 46, 3)) (cv : CV y.1.cls 46 YX3_set 2) (cr : CR YX3_set y) (hC : y.2.2.2.2.1.cells = C) (hD : y.2.2.2.2.1.slots = D) (hc : cu + 2 ≤ C) (hs' : su + 12 ≤ D) (hrest : (rest.map fun v => v.category).sum ≤ 8)
    (kk : ∀ I', XS I' ((u1 a.1 i v, a.2.1, a.2.2), pushH hs a, B) → FrC I I' → AW G y Z (pc + 3) ls (.int (nI (a.1 i)) :: rest) (K, R, I', J, z) (cu + 2) (su + 12)) : AW G y Z pc ls (.int (nI v) :: .int (nI i) :: .ref (G.1 0) :: rest) (K, R, I, J, z) cu su :=
  aw_x (As := [.int (nI i), .int (nI v)]) (mc := 2) (ms := 12) hd cv cr hX ⟨_, rfl, rfl⟩ (X_set hX hS hG.1 hG.2.1 hmk (nI i) (nI v) hSC) (by unfold sSet; rw [if_pos (inR_nI (Nat.zero_le _) hi (by decide)), nv_nI (by omega), if_pos (inR_nI h1 h2 h3), nv_nI (by omega)]) rfl rfl hrest rfl rfl hC hD hc hs' kk
theorem aw_close {s : Nat} (hX : LX G K R) (hG : GI1 m k a) (hmk : m + k ≤ 800000000) (hS : XS I (a, hs, B)) (hs4 : s < 4) (hd : decode y.2.1 pc = .ok (.invokevirtual 49, 3)) (cv : CV y.1.cls 49 YX3_close 1) (cr : CR YX3_close y) (hC : y.2.2.2.2.1.cells = C) (hD : y.2.2.2.2.1.slots = D) (hc : cu + 1 ≤ C) (hs' : su + 6 ≤ D) (hrest : (rest.map fun v => v.category).sum ≤ 8)
    (kk : ∀ I', XS I' (shutA a s, pushH hs a, B) → FrC I I' → AW G y Z (pc + 3) ls (.int (nI (a.2.2 s 2)) :: rest) (K, R, I', J, z) (cu + 1) (su + 6)) : AW G y Z pc ls (.int (nI s) :: .ref (G.1 0) :: rest) (K, R, I, J, z) cu su :=
  aw_x (As := [.int (nI s)]) (mc := 1) (ms := 6) hd cv cr hX ⟨_, rfl, rfl⟩ (X_close hX hS hG.1 hG.2.1 hmk (nI s)) (by unfold sClose; rw [if_pos (inR_nI (Nat.zero_le _) (Nat.le_of_lt_succ hs4) (by decide)), nv_nI (by omega)]) rfl rfl hrest rfl rfl hC hD hc hs' kk
theorem aw_pass {n : Nat} (hX : LX G K R) (hG : GI1 m k a) (hmk : m + k ≤ 800000000) (hS : XS I (a, hs, B)) (hn1 : 1 ≤ n) (hn2 : n ≤ 200) (hd : decode y.2.1 pc = .ok (.invokevirtual 52, 3)) (cv : CV y.1.cls 52 YX3_pass 1) (cr : CR YX3_pass y) (hC : y.2.2.2.2.1.cells = C) (hD : y.2.2.2.2.1.slots = D) (hc : cu + 1 ≤ C) (hs' : su + 6 ≤ D) (hrest : (rest.map fun v => v.category).sum ≤ 8)
    (kk : ∀ I', XS I' (ticksA n a, pushH hs a, B) → FrC I I' → AW G y Z (pc + 3) ls (.int (nI (ticksN n a)) :: rest) (K, R, I', J, z) (cu + 1) (su + 6)) : AW G y Z pc ls (.int (nI n) :: .ref (G.1 0) :: rest) (K, R, I, J, z) cu su :=
  aw_x (As := [.int (nI n)]) (mc := 1) (ms := 6) hd cv cr hX ⟨_, rfl, rfl⟩ (X_pass hX hS hG.1 hG.2.1 hmk (nI n)) (by unfold sPass; rw [if_pos (inR_nI hn1 hn2 (by decide)), nv_nI (by omega)]) rfl rfl hrest rfl rfl hC hD hc hs' kk
theorem aw_callHealthiest  (hX : LX G K R) (hG : GI1 m k a) (hmk : m + k ≤ 800000000) (hS : XS I (a, hs, B)) (hf : a.2.1.length < 16) (hd : decode y.2.1 pc = .ok (.invokevirtual 55, 3)) (cv : CV y.1.cls 55 YX3_callHealthiest 0) (cr : CR YX3_callHealthiest y) (hC : y.2.2.2.2.1.cells = C) (hD : y.2.2.2.2.1.slots = D) (hc : cu + 1 ≤ C) (hs' : su + 6 ≤ D) (hrest : (rest.map fun v => v.category).sum ≤ 8)
    (kk : ∀ I', XS I' (bsA a (bestN a 4), pushH hs a, B) → FrC I I' → AW G y Z (pc + 3) ls (.int (oI (bestN a 4)) :: rest) (K, R, I', J, z) (cu + 1) (su + 6)) : AW G y Z pc ls (.ref (G.1 0) :: rest) (K, R, I, J, z) cu su :=
  aw_x (As := []) (mc := 1) (ms := 6) hd cv cr hX ⟨_, rfl, rfl⟩ (X_callHealthiest hX hS hG.1 hG.2.1 hmk) (by
    unfold sBest
    rw [if_neg (show ¬ a.2.1.length = 16 by omega)]
    show (match bestN a 4 with | none => ((0, -1, a, pushH hs a, B) : RS) | some b => (0, nI b, callA a b, pushH hs a, B)) = _
    cases bestN a 4 <;> rfl) rfl rfl hrest rfl rfl hC hD hc hs' kk
theorem aw_callOften {s n t : Nat} (hX : LX G K R) (hG : GI1 m k a) (hmk : m + k ≤ 800000000) (hS : XS I (a, hs, B)) (hs4 : s < 4) (hn1 : 1 ≤ n) (hn2 : n ≤ 50) (ht : t ≤ 50) (hd : decode y.2.1 pc = .ok (.invokevirtual 58, 3)) (cv : CV y.1.cls 58 YX3_callOften 3) (cr : CR YX3_callOften y) (hC : y.2.2.2.2.1.cells = C) (hD : y.2.2.2.2.1.slots = D) (hc : cu + 3 ≤ C) (hs' : su + 18 ≤ D) (hrest : (rest.map fun v => v.category).sum ≤ 8)
    (kk : ∀ I', XS I' (oftenA s t n a, pushH hs a, B) → FrC I I' → AW G y Z (pc + 3) ls (.int (nI (oftenN s t n a)) :: rest) (K, R, I', J, z) (cu + 3) (su + 18)) : AW G y Z pc ls (.int (nI t) :: .int (nI n) :: .int (nI s) :: .ref (G.1 0) :: rest) (K, R, I, J, z) cu su :=
  aw_x (As := [.int (nI s), .int (nI n), .int (nI t)]) (mc := 3) (ms := 18) hd cv cr hX ⟨_, rfl, rfl⟩ (X_callOften hX hS hG.1 hG.2.1 hmk (nI s) (nI n) (nI t)) (by unfold sOften; rw [if_pos (inR_nI (Nat.zero_le _) (Nat.le_of_lt_succ hs4) (by decide)), if_pos ⟨inR_nI hn1 hn2 (by decide), inR_nI (Nat.zero_le _) ht (by decide)⟩, nv_nI (by omega), nv_nI (by omega), nv_nI (by omega)]) rfl rfl hrest rfl rfl hC hD hc hs' kk
theorem aw_call {s : Nat} (hX : LX G K R) (hG : GI1 m k a) (hmk : m + k ≤ 800000000) (hS : XS I (a, hs, B)) (hs4 : s < 4) (hf : a.2.1.length < 16 ∨ untilI a s ≠ 0) (hd : decode y.2.1 pc = .ok (.invokevirtual 65, 3)) (cv : CV y.1.cls 65 YX3_call 1) (cr : CR YX3_call y) (hC : y.2.2.2.2.1.cells = C) (hD : y.2.2.2.2.1.slots = D) (hc : cu + 2 ≤ C) (hs' : su + 12 ≤ D) (hrest : (rest.map fun v => v.category).sum ≤ 8)
    (kk : ∀ I', XS I' (callA a s, pushH hs a, B) → FrC I I' → AW G y Z (pc + 3) ls (.int (nI (callN a s)) :: rest) (K, R, I', J, z) (cu + 2) (su + 12)) : AW G y Z pc ls (.int (nI s) :: .ref (G.1 0) :: rest) (K, R, I, J, z) cu su :=
  aw_x (As := [.int (nI s)]) (mc := 2) (ms := 12) hd cv cr hX ⟨_, rfl, rfl⟩ (X_call hX hS hG.1 hG.2.1 hmk (nI s)) (by
    unfold sCall
    rw [if_pos (inR_nI (Nat.zero_le _) (Nat.le_of_lt_succ hs4) (by decide)), nv_nI (by omega), if_neg (fun q => ?_)]
    rcases hf with hf | hf
    · exact absurd q.1 (by show ¬ a.2.1.length = 16; omega)
    · exact hf (until_0 hG hs4 q.2)) rfl rfl hrest rfl rfl hC hD hc hs' kk
end AROWS
