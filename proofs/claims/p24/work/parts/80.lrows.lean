/-! THE LAW'S ROWS: calls of the class that return -/
theorem nv_nI {n : Nat} (h : n < 2 ^ 31) : nv (nI n) = n := by unfold nv; rw [nI_toInt h]; rfl
theorem inR_nI {w l h : Nat} (h1 : l ≤ w) (h2 : w ≤ h) (h3 : h < 2 ^ 31) : inR (nI w) l h := ⟨nI_le h1 (by omega), nI_le h2 h3⟩
theorem clD_at {a : AA} {p : Nat} (h : p < a.2.1.length) : a.2.1[p]? = some (a.2.1.getD p (fun _ => 0)) := by
  rw [List.getElem?_eq_getElem h, List.getD_eq_getElem?_getD, List.getElem?_eq_getElem h]; rfl
def clD (a : AA) (p : Nat) : Cl := a.2.1.getD p (fun _ => 0)
def dlI (a : AA) (st p : Nat) : Int32 := if p < a.2.2 st 0 then nI (a.2.2 st (12 + p)) else -1
section LROWS
variable {G : GG} {y : YY} {Z : ZT} {K : Nat → Option (Nat × Nat)} {R : Nat → Nat → Value} {I I0 : Nat → Nat → Int32} {J : Nat → Nat → Int64} {z pc cu su C D : Nat} {ls : List (Nat × Value)} {st rest : List Value} {a : AA} {m k : Nat}
variable {B : List Nat} {hs : List AA}
theorem aw_x {yc : YY} {idx n mc ms : Nat} {As : List Value} {e1 e2 : String} {x : RS} {v : Int32} {s' : ST} (hd : decode y.2.1 pc = .ok (.invokevirtual idx, 3)) (cv : CV y.1.cls idx yc n) (cr : CR yc y) (hX : LX G K R) (hcl : ∃ r : vw_C, vwCl[3]? = some r ∧ r.1 = yc.1.cls) (hr : Run G yc (.ref (G.1 0) :: As) (K, R, I, J, z) (CP K R J z I e1 e2 x)) (hx : x = (0, v, s')) (hst : st = As.reverse ++ .ref (G.1 0) :: rest) (hn : As.length = n) (hrest : (rest.map fun v => v.category).sum ≤ 8)
    (hmc : yc.2.2.2.2.1.cells = mc) (hms : yc.2.2.2.2.1.slots = ms) (hC : y.2.2.2.2.1.cells = C) (hD : y.2.2.2.2.1.slots = D) (hc : cu + mc ≤ C) (hs : su + ms ≤ D)
    (kk : ∀ I', XS I' s' → FrC I I' → AW G y Z (pc + 3) ls (.int v :: rest) (K, R, I', J, z) (cu + mc) (su + ms)) : AW G y Z pc ls st (K, R, I, J, z) cu su := by
  subst hx
  subst hmc
  subst hms
  refine aw_invV hd cv cr hX.1 hcl hst hn hrest ⟨by rw [hC]; exact hc, by rw [hD]; exact hs⟩ hr (fun E σ' q => ?_) (fun r σ' q => ?_)
  · rcases q with ⟨q1, q2, -⟩ | ⟨q1, -⟩ | ⟨q1, -⟩
    · cases q2
    · cases q1
    · cases q1
  · rcases q with ⟨q1, q2, I', rfl, h1, h2⟩ | ⟨q1, -⟩ | ⟨q1, -⟩
    · cases q2; exact kk I' h1 h2
    · cases q1
    · cases q1
theorem aw_count {w : Nat} (hX : LX G K R) (hG : GI1 m k a) (hmk : m + k ≤ 800000000) (hS : XS I (a, hs, B)) (hw : w ≤ 8) (hd : decode y.2.1 pc = .ok (.invokevirtual 12, 3)) (cv : CV y.1.cls 12 YX3_count 1) (cr : CR YX3_count y) (hC : y.2.2.2.2.1.cells = C) (hD : y.2.2.2.2.1.slots = D) (hc : cu + 1 ≤ C) (hs' : su + 6 ≤ D) (hrest : (rest.map fun v => v.category).sum ≤ 8)
    (kk : ∀ I', XS I' (a, hs, B) → FrC I I' → AW G y Z (pc + 3) ls (.int (nI (cntN a hs.length w)) :: rest) (K, R, I', J, z) (cu + 1) (su + 6)) : AW G y Z pc ls (.int (nI w) :: .ref (G.1 0) :: rest) (K, R, I, J, z) cu su :=
  aw_x (As := [.int (nI w)]) (mc := 1) (ms := 6) hd cv cr hX ⟨_, rfl, rfl⟩ (X_count hX hS hG.1 hG.2.1 hmk (nI w)) (by unfold sCount; rw [if_pos (inR_nI (Nat.zero_le _) hw (by decide)), nv_nI (by omega)]) rfl rfl hrest rfl rfl hC hD hc hs' kk
theorem aw_setting {w : Nat} (hX : LX G K R) (hG : GI1 m k a) (hmk : m + k ≤ 800000000) (hS : XS I (a, hs, B)) (hw : w ≤ 4) (hd : decode y.2.1 pc = .ok (.invokevirtual 18, 3)) (cv : CV y.1.cls 18 YX3_setting 1) (cr : CR YX3_setting y) (hC : y.2.2.2.2.1.cells = C) (hD : y.2.2.2.2.1.slots = D) (hc : cu + 1 ≤ C) (hs' : su + 6 ≤ D) (hrest : (rest.map fun v => v.category).sum ≤ 8)
    (kk : ∀ I', XS I' (a, hs, B) → FrC I I' → AW G y Z (pc + 3) ls (.int (nI (a.1 w)) :: rest) (K, R, I', J, z) (cu + 1) (su + 6)) : AW G y Z pc ls (.int (nI w) :: .ref (G.1 0) :: rest) (K, R, I, J, z) cu su :=
  aw_x (As := [.int (nI w)]) (mc := 1) (ms := 6) hd cv cr hX ⟨_, rfl, rfl⟩ (X_setting hX hS hG.1 hG.2.1 hmk (nI w)) (by unfold sSetting; rw [if_pos (inR_nI (Nat.zero_le _) hw (by decide)), nv_nI (by omega)]) rfl rfl hrest rfl rfl hC hD hc hs' kk
theorem aw_store {s w : Nat} (hX : LX G K R) (hG : GI1 m k a) (hmk : m + k ≤ 800000000) (hS : XS I (a, hs, B)) (hs4 : s < 4) (hw : w ≤ 10) (hd : decode y.2.1 pc = .ok (.invokevirtual 21, 3)) (cv : CV y.1.cls 21 YX3_store 2) (cr : CR YX3_store y) (hC : y.2.2.2.2.1.cells = C) (hD : y.2.2.2.2.1.slots = D) (hc : cu + 2 ≤ C) (hs' : su + 12 ≤ D) (hrest : (rest.map fun v => v.category).sum ≤ 8)
    (kk : ∀ I', XS I' (a, hs, B) → FrC I I' → AW G y Z (pc + 3) ls (.int (nI (tellN a s w)) :: rest) (K, R, I', J, z) (cu + 2) (su + 12)) : AW G y Z pc ls (.int (nI w) :: .int (nI s) :: .ref (G.1 0) :: rest) (K, R, I, J, z) cu su :=
  aw_x (As := [.int (nI s), .int (nI w)]) (mc := 2) (ms := 12) hd cv cr hX ⟨_, rfl, rfl⟩ (X_store hX hS hG.1 hG.2.1 hmk (nI s) (nI w)) (by unfold sStore; rw [if_pos (inR_nI (Nat.zero_le _) (Nat.le_of_lt_succ hs4) (by decide)), if_pos (inR_nI (Nat.zero_le _) hw (by decide)), nv_nI (by omega), nv_nI (by omega)]) rfl rfl hrest rfl rfl hC hD hc hs' kk
theorem aw_delay {s p : Nat} (hX : LX G K R) (hG : GI1 m k a) (hmk : m + k ≤ 800000000) (hS : XS I (a, hs, B)) (hs4 : s < 4) (hp : p ≤ 100) (hd : decode y.2.1 pc = .ok (.invokevirtual 25, 3)) (cv : CV y.1.cls 25 YX3_delay 2) (cr : CR YX3_delay y) (hC : y.2.2.2.2.1.cells = C) (hD : y.2.2.2.2.1.slots = D) (hc : cu + 2 ≤ C) (hs' : su + 12 ≤ D) (hrest : (rest.map fun v => v.category).sum ≤ 8)
    (kk : ∀ I', XS I' (a, hs, B) → FrC I I' → AW G y Z (pc + 3) ls (.int (dlI a s p) :: rest) (K, R, I', J, z) (cu + 2) (su + 12)) : AW G y Z pc ls (.int (nI p) :: .int (nI s) :: .ref (G.1 0) :: rest) (K, R, I, J, z) cu su :=
  aw_x (As := [.int (nI s), .int (nI p)]) (mc := 2) (ms := 12) hd cv cr hX ⟨_, rfl, rfl⟩ (X_delay hX hS hG.1 hG.2.1 hmk (nI s) (nI p)) (by unfold sDelay dlI; rw [if_pos (inR_nI (Nat.zero_le _) (Nat.le_of_lt_succ hs4) (by decide)), if_pos (nI_le (Nat.zero_le _) (by omega)), nv_nI (by omega), nv_nI (by omega)]) rfl rfl hrest rfl rfl hC hD hc hs' kk
theorem aw_onWay {p w : Nat} (hX : LX G K R) (hG : GI1 m k a) (hmk : m + k ≤ 800000000) (hS : XS I (a, hs, B)) (hp : p < a.2.1.length) (hw : w ≤ 3) (hd : decode y.2.1 pc = .ok (.invokevirtual 28, 3)) (cv : CV y.1.cls 28 YX3_onWay 2) (cr : CR YX3_onWay y) (hC : y.2.2.2.2.1.cells = C) (hD : y.2.2.2.2.1.slots = D) (hc : cu + 2 ≤ C) (hs' : su + 12 ≤ D) (hrest : (rest.map fun v => v.category).sum ≤ 8)
    (kk : ∀ I', XS I' (a, hs, B) → FrC I I' → AW G y Z (pc + 3) ls (.int (nI (clD a p w)) :: rest) (K, R, I', J, z) (cu + 2) (su + 12)) : AW G y Z pc ls (.int (nI w) :: .int (nI p) :: .ref (G.1 0) :: rest) (K, R, I, J, z) cu su :=
  aw_x (As := [.int (nI p), .int (nI w)]) (mc := 2) (ms := 12) hd cv cr hX ⟨_, rfl, rfl⟩ (X_onWay hX hS hG.1 hG.2.1 hmk (nI p) (nI w)) (by
    have h16 : a.2.1.length ≤ 16 := hG.1.2.1
    unfold sOnWay; rw [if_pos ⟨nI_le (Nat.zero_le _) (by omega), inR_nI (Nat.zero_le _) hw (by decide)⟩, nv_nI (by omega), nv_nI (by omega), clD_at hp]
    rfl) rfl rfl hrest rfl rfl hC hD hc hs' kk
theorem aw_freeIn {s : Nat} (hX : LX G K R) (hG : GI1 m k a) (hmk : m + k ≤ 800000000) (hS : XS I (a, hs, B)) (hs4 : s < 4) (hd : decode y.2.1 pc = .ok (.invokevirtual 62, 3)) (cv : CV y.1.cls 62 YX3_freeIn 1) (cr : CR YX3_freeIn y) (hC : y.2.2.2.2.1.cells = C) (hD : y.2.2.2.2.1.slots = D) (hc : cu + 1 ≤ C) (hs' : su + 6 ≤ D) (hrest : (rest.map fun v => v.category).sum ≤ 8)
    (kk : ∀ I', XS I' (a, hs, B) → FrC I I' → AW G y Z (pc + 3) ls (.int (untilI a s) :: rest) (K, R, I', J, z) (cu + 1) (su + 6)) : AW G y Z pc ls (.int (nI s) :: .ref (G.1 0) :: rest) (K, R, I, J, z) cu su :=
  aw_x (As := [.int (nI s)]) (mc := 1) (ms := 6) hd cv cr hX ⟨_, rfl, rfl⟩ (X_freeIn hX hS hG.1 hG.2.1 hmk (nI s) hG.2.2) (by unfold sFree; rw [if_pos (inR_nI (Nat.zero_le _) (Nat.le_of_lt_succ hs4) (by decide)), nv_nI (by omega)]) rfl rfl hrest rfl rfl hC hD hc hs' kk
theorem aw_healthiest  (hX : LX G K R) (hG : GI1 m k a) (hmk : m + k ≤ 800000000) (hS : XS I (a, hs, B))  (hd : decode y.2.1 pc = .ok (.invokevirtual 68, 3)) (cv : CV y.1.cls 68 YX3_healthiest 0) (cr : CR YX3_healthiest y) (hC : y.2.2.2.2.1.cells = C) (hD : y.2.2.2.2.1.slots = D) (hc : cu + 0 ≤ C) (hs' : su + 0 ≤ D) (hrest : (rest.map fun v => v.category).sum ≤ 8)
    (kk : ∀ I', XS I' (a, hs, B) → FrC I I' → AW G y Z (pc + 3) ls (.int (oI (bestN a 4)) :: rest) (K, R, I', J, z) (cu + 0) (su + 0)) : AW G y Z pc ls (.ref (G.1 0) :: rest) (K, R, I, J, z) cu su :=
  aw_x (As := []) (mc := 0) (ms := 0) hd cv cr hX ⟨_, rfl, rfl⟩ (X_healthiest hX hS hG.1 hG.2.1 hmk) (rfl) rfl rfl hrest rfl rfl hC hD hc hs' kk
theorem aw_clearBuffer  (hX : LX G K R) (hG : GI1 m k a) (hmk : m + k ≤ 800000000) (hS : XS I (a, hs, B))  (hd : decode y.2.1 pc = .ok (.invokevirtual 31, 3)) (cv : CV y.1.cls 31 YX3_clearBuffer 0) (cr : CR YX3_clearBuffer y) (hC : y.2.2.2.2.1.cells = C) (hD : y.2.2.2.2.1.slots = D) (hc : cu + 0 ≤ C) (hs' : su + 0 ≤ D) (hrest : (rest.map fun v => v.category).sum ≤ 8)
    (kk : ∀ I', XS I' (a, hs, ([] : List Nat)) → FrC I I' → AW G y Z (pc + 3) ls (.int (nI B.length) :: rest) (K, R, I', J, z) (cu + 0) (su + 0)) : AW G y Z pc ls (.ref (G.1 0) :: rest) (K, R, I, J, z) cu su :=
  aw_x (As := []) (mc := 0) (ms := 0) hd cv cr hX ⟨_, rfl, rfl⟩ (X_clearBuffer hX hS hG.1 hG.2.1 hmk) (rfl) rfl rfl hrest rfl rfl hC hD hc hs' kk
theorem aw_append {c : Nat} (hX : LX G K R) (hG : GI1 m k a) (hmk : m + k ≤ 800000000) (hS : XS I (a, hs, B)) (hc33 : 33 ≤ c) (hc126 : c ≤ 126) (hB : B.length < 60) (hd : decode y.2.1 pc = .ok (.invokevirtual 40, 3)) (cv : CV y.1.cls 40 YX3_append 1) (cr : CR YX3_append y) (hC : y.2.2.2.2.1.cells = C) (hD : y.2.2.2.2.1.slots = D) (hc : cu + 2 ≤ C) (hs' : su + 12 ≤ D) (hrest : (rest.map fun v => v.category).sum ≤ 8)
    (kk : ∀ I', XS I' (a, hs, B ++ [c]) → FrC I I' → AW G y Z (pc + 3) ls (.int (nI (B.length + 1)) :: rest) (K, R, I', J, z) (cu + 2) (su + 12)) : AW G y Z pc ls (.int (nI c) :: .ref (G.1 0) :: rest) (K, R, I, J, z) cu su :=
  aw_x (As := [.int (nI c)]) (mc := 2) (ms := 12) hd cv cr hX ⟨_, rfl, rfl⟩ (X_append hX hS hG.1 hG.2.1 hmk (nI c)) (by unfold sAppend; rw [if_pos (inR_nI hc33 hc126 (by decide)), if_neg (show ¬ B.length = 60 by omega), nv_nI (by omega)]) rfl rfl hrest rfl rfl hC hD hc hs' kk
theorem aw_health (hX : LX G K R) (hG : GI1 m k a) (hmk : m + k ≤ 800000000) (hS : XS I (a, hs, B)) (hd : decode y.2.1 pc = .ok (.invokevirtual 71, 3)) (cv : CV y.1.cls 71 YX3_health 0) (cr : CR YX3_health y) (hC : y.2.2.2.2.1.cells = C) (hD : y.2.2.2.2.1.slots = D) (hc : cu + 0 ≤ C) (hs' : su + 0 ≤ D) (hrest : (rest.map fun v => v.category).sum ≤ 8)
    (kk : AW G y Z (pc + 3) ls (.double (shareD a) :: rest) (K, R, I, J, z) cu su) : AW G y Z pc ls (.ref (G.1 0) :: rest) (K, R, I, J, z) cu su :=
  aw_vRd (As := []) hd cv cr hX.1 ⟨_, rfl, rfl⟩ (X_health hX hS hG.1 hG.2.1 hmk) rfl rfl hrest ⟨rfl, rfl⟩ ⟨by rw [hC]; omega, by rw [hD]; omega⟩ kk
end LROWS
