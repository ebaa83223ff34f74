/-! THE ROWS ON THE MEMORY -/
section MEM
variable {G : GG} {y : YY} {Z : ZT} {pc : Nat} {ls ls' : List (Nat × Value)} {st : List Value} {σ : Sg} {K : Nat → Option (Nat × Nat)} {R : Nat → Nat → Value} {I : Nat → Nat → Int32} {J : Nat → Nat → Int64} {z cu su : Nat}
theorem vce_obj {D : va_G} {s : State} {c n a : Nat} {V : Nat → Value} {H : Heap} (h : vce D s (c, n) a V H) (hc : c < 10) : ∃ r : vw_C, vwCl[c]? = some r ∧ n = r.2.2 ∧ t_OB a (D.1 c) r.2.2 (D.2 c) H V := by
  rcases h with ⟨-, h⟩ | ⟨h0, -⟩
  · exact h
  · exact absurd h0 (by show ¬ 10 ≤ c; omega)
theorem vce_arr {D : va_G} {s : State} {t n a : Nat} {V : Nat → Value} {H : Heap} (h : vce D s (t, n) a V H) (ht : 10 ≤ t) : ∃ (cA : ClassId) (cell : Cell), H[a]? = some cell ∧ AR cell cA n V ∧ ArrOfT s cA (aty t) ∧ (12 ≤ t → va_RA s cA (aty t)) := by
  rcases h with ⟨h0, -⟩ | ⟨-, h⟩
  · exact absurd h0 (by show ¬ t < 10; omega)
  · exact h
theorem FL_lt {own : String} {idx c j : Nat} (h : FL own idx c j) : c < 10 := by
  obtain ⟨r, h1, -⟩ := h
  have := (List.getElem?_eq_some_iff.mp h1).1
  simp [vwCl] at this
  omega
/-- getfield -/
theorem aw_get {idx c n o j : Nat} {v : Value} (hd : decode y.2.1 pc = .ok (.getfield idx, 3)) (hf : FL y.1.cls idx c j) (hk : σ.1 o = some (c, n)) (hv : cV σ o (c, n) j = v) (kk : AW G y Z (pc + 3) ls (v :: st) σ cu su) : AW G y Z pc ls (.ref (G.1 o) :: st) σ cu su := by
  intro p e s m args below meth c0 H locs lsa C V S L
  obtain ⟨r, hr, hj, hl⟩ := hf
  obtain ⟨r', hr', hn, hob⟩ := vce_obj (V.1 o _ hk) (FL_lt ⟨r, hr, hj, hl⟩)
  cases Option.some.inj (hr.symm.trans hr')
  subst hv
  obtain ⟨hx, hb, hml, hret, hlk, hts, hown, hE, hnm, htb⟩ := id C
  have hP : va_P G.2.1 vwCl [(G.1 o, .inr (c, (List.range r.2.2).map (cV σ o (c, n))))] H := by
    intro k q hq
    match k, hq with
    | 0, hq =>
      cases hq
      exact ⟨r, hr, hob.to fun k hk => by simp [vp_V, hk]⟩
    | k + 1, hq => simp at hq
  exact va_get hx hb hts (cl_in c r hr) hown hE.2.1 hP 0 rfl hr j hj (hts _ hl) (fun _ h => h) (v := cV σ o (c, n) j) (by simp [hj]) hd (kk p e s m args below meth c0 H locs lsa C V S L)
/-- the ints' fields -/
theorem aw_getI {idx c n o j : Nat} {x : Int32} (hd : decode y.2.1 pc = .ok (.getfield idx, 3)) (hf : FL y.1.cls idx c j) (hfk : fk c j = 0) (hk : K o = some (c, n)) (hv : I o j = x) (kk : AW G y Z (pc + 3) ls (.int x :: st) (K, R, I, J, z) cu su) : AW G y Z pc ls (.ref (G.1 o) :: st) (K, R, I, J, z) cu su :=
  aw_get hd hf hk (by show sv (fk c j) _ _ _ = _; rw [hfk]; exact congrArg Value.int hv) kk
theorem aw_getJ {idx c n o j : Nat} {x : Int64} (hd : decode y.2.1 pc = .ok (.getfield idx, 3)) (hf : FL y.1.cls idx c j) (hfk : fk c j = 1) (hk : K o = some (c, n)) (hv : J o j = x) (kk : AW G y Z (pc + 3) ls (.long x :: st) (K, R, I, J, z) cu su) : AW G y Z pc ls (.ref (G.1 o) :: st) (K, R, I, J, z) cu su :=
  aw_get hd hf hk (by show sv (fk c j) _ _ _ = _; rw [hfk]; exact congrArg Value.long hv) kk
theorem aw_getR {idx c n o j : Nat} {v : Value} (hd : decode y.2.1 pc = .ok (.getfield idx, 3)) (hf : FL y.1.cls idx c j) (hfk : fk c j = 2) (hk : K o = some (c, n)) (hv : R o j = v) (kk : AW G y Z (pc + 3) ls (v :: st) (K, R, I, J, z) cu su) : AW G y Z pc ls (.ref (G.1 o) :: st) (K, R, I, J, z) cu su :=
  aw_get hd hf hk (by show sv (fk c j) _ _ _ = _; rw [hfk]; exact hv) kk
/-- putfield, the field not final -/
theorem aw_put {idx c n o j : Nat} {v : Value} {σ' : Sg} (hd : decode y.2.1 pc = .ok (.putfield idx, 3)) (hf : FL y.1.cls idx c j) (hfin : ∀ r, vwCl[c]? = some r → (r.2.1 j).2.2.2 = false) (hk : σ.1 o = some (c, n)) (ho : o < 1000) (hn : narrow (fty c j) v = v) (hfit : fits (fty c j) v = true)
    (hK : σ'.1 = σ.1) (hz : σ'.2.2.2.2 = σ.2.2.2.2) (hne : ∀ (q : Nat) (kq : Nat × Nat), q ≠ o → cV σ' q kq = cV σ q kq) (hu : ∀ k, cV σ' o (c, n) k = updV (cV σ o (c, n)) j v k) (kk : AW G y Z (pc + 3) ls st σ' cu su) : AW G y Z pc ls (v :: .ref (G.1 o) :: st) σ cu su := by
  intro p e s m args below meth c0 H locs lsa C V S L
  obtain ⟨r, hr, hj, hl⟩ := hf
  have hc10 := FL_lt ⟨r, hr, hj, hl⟩
  obtain ⟨r', hr', hnn, hob⟩ := vce_obj (V.1 o _ hk) hc10
  cases Option.some.inj (hr.symm.trans hr')
  obtain ⟨hx, hb, hml, hret, hlk, hts, hown, hE, hnm, htb⟩ := id C
  have hin := cl_in c r hr
  have hap := va_apart (own := y.1.cls) hts hin (fty c) (cl_ty hr) (cl_nm hr) hE.2.1 hr
  obtain ⟨cell, q1, q2, q3, q4⟩ := hob
  obtain ⟨hS, hfc, kC, hkC, hkind⟩ := hE.2.1.1 c _ hr
  obtain ⟨cf, kf, fi, f, hi, hsl⟩ := hS j hj
  have hlay := hts _ (hin _ (u_in_lay hj))
  unfold u_lay at hlay
  rw [if_neg (by rw [hfin r hr]; decide)] at hlay
  have hst := (u_facts hfc hkC (u_lays hts hin hj) hi).1
  have h6 := u_store hfc hkC hkind hlay hi (cl_ty hr j hj) hn hfit
  refine W.putK hx hb (f := f) ⟨hown, hts _ hl, ⟨_, _, _, hi⟩, hst⟩ (by rw [q2]; exact h6) q1 q3 (by rw [hsl]; exact k2_hasslot (q4 j hj)) rfl rfl hd fun H' e1 e2 e3 => ?_
  rw [hsl] at e1 ⊢
  refine kk p e s m args below meth c0 H' _ lsa C ?_ (S.put e2 e3 (Aof_new hE.1 ho)) L
  refine WD_upd hE.1 ho V hK hz hk hne (Or.inl ⟨hc10, r, hr, hnn, ?_⟩) e2 e3
  exact t_OB.to (V := updV (cV σ o (c, n)) j v) ⟨_, e1, q2, q3, t_set q4 hap hj v⟩ (fun k _ => (hu k).symm)
/-- putfield, the field final, in its constructor -/
theorem aw_putFin {idx c n o j : Nat} {v : Value} {σ' : Sg} (hd : decode y.2.1 pc = .ok (.putfield idx, 3)) (hf : FL y.1.cls idx c j) (hfin : ∀ r, vwCl[c]? = some r → (r.2.1 j).2.2.2 = true ∧ (r.2.1 j).1 = y.1.cls) (hinit : y.1.name = "<init>") (hk : σ.1 o = some (c, n)) (ho : o < 1000) (hn : narrow (fty c j) v = v) (hfit : fits (fty c j) v = true)
    (hK : σ'.1 = σ.1) (hz : σ'.2.2.2.2 = σ.2.2.2.2) (hne : ∀ (q : Nat) (kq : Nat × Nat), q ≠ o → cV σ' q kq = cV σ q kq) (hu : ∀ k, cV σ' o (c, n) k = updV (cV σ o (c, n)) j v k) (kk : AW G y Z (pc + 3) ls st σ' cu su) : AW G y Z pc ls (v :: .ref (G.1 o) :: st) σ cu su := by
  intro p e s m args below meth c0 H locs lsa C V S L
  obtain ⟨r, hr, hj, hl⟩ := hf
  have hc10 := FL_lt ⟨r, hr, hj, hl⟩
  obtain ⟨r', hr', hnn, hob⟩ := vce_obj (V.1 o _ hk) hc10
  cases Option.some.inj (hr.symm.trans hr')
  obtain ⟨hx, hb, hml, hret, hlk, hts, hown, hE, hnm, htb⟩ := id C
  have hin := cl_in c r hr
  have hap := va_apart (own := y.1.cls) hts hin (fty c) (cl_ty hr) (cl_nm hr) hE.2.1 hr
  obtain ⟨cell, q1, q2, q3, q4⟩ := hob
  obtain ⟨hS, hfc, kC, hkC, hkind⟩ := hE.2.1.1 c _ hr
  obtain ⟨cf, kf, fi, f, hi, hsl⟩ := hS j hj
  have hlay := hts _ (hin _ (u_in_lay hj))
  unfold u_lay at hlay
  rw [if_pos (hfin r hr).1] at hlay
  have hst := (u_facts hfc hkC (u_lays hts hin hj) hi).1
  have hcf : m.cls = cf := by
    obtain ⟨_, _, c', _, _, _, -, -, hf', -, -, -, hown2, -⟩ := Cond.laysFinal_spec hlay
    have e1 : c' = cf := by have := hi.symm.trans hf'; simp at this; exact this.1.symm
    rw [(hfin r hr).2] at hown2
    rw [← e1]; exact Option.some.inj (hown.symm.trans hown2)
  have h6 := u_fits hfc hkC hkind (Or.inr hlay) hi (cl_ty hr j hj) hn hfit
  refine W.putFinK hx hb hown (hts _ hl) hi hst hcf (hnm.trans hinit) (by rw [q2]; exact h6) q1 q3 (by rw [hsl]; exact k2_hasslot (q4 j hj)) rfl rfl hd fun H' e1 e2 e3 => ?_
  rw [hsl] at e1 ⊢
  refine kk p e s m args below meth c0 H' _ lsa C ?_ (S.put e2 e3 (Aof_new hE.1 ho)) L
  refine WD_upd hE.1 ho V hK hz hk hne (Or.inl ⟨hc10, r, hr, hnn, ?_⟩) e2 e3
  exact t_OB.to (V := updV (cV σ o (c, n)) j v) ⟨_, e1, q2, q3, t_set q4 hap hj v⟩ (fun k _ => (hu k).symm)
theorem cV_up2_ne {q o j : Nat} {x : Int32} (h : q ≠ o) (kq : Nat × Nat) : cV (K, R, up2 I o j x, J, z) q kq = cV (K, R, I, J, z) q kq := by
  funext k; simp [cV, up2, h]
theorem cV_upJ_ne {q o j : Nat} {x : Int64} (h : q ≠ o) (kq : Nat × Nat) : cV (K, R, I, upJ J o j x, z) q kq = cV (K, R, I, J, z) q kq := by
  funext k; simp [cV, upJ, h]
theorem cV_upR_ne {q o j : Nat} {x : Value} (h : q ≠ o) (kq : Nat × Nat) : cV (K, upR R o j x, I, J, z) q kq = cV (K, R, I, J, z) q kq := by
  funext k; simp [cV, upR, h]
theorem cV_up2 {o j : Nat} {x : Int32} {kd : Nat × Nat} (h : fk kd.1 j = 0) (k : Nat) : cV (K, R, up2 I o j x, J, z) o kd k = updV (cV (K, R, I, J, z) o kd) j (.int x) k := by
  by_cases e : k = j
  · subst e; simp [cV, up2, updV, h, sv]
  · simp [cV, up2, updV, e]
theorem cV_upJ {o j : Nat} {x : Int64} {kd : Nat × Nat} (h : fk kd.1 j = 1) (k : Nat) : cV (K, R, I, upJ J o j x, z) o kd k = updV (cV (K, R, I, J, z) o kd) j (.long x) k := by
  by_cases e : k = j
  · subst e; simp [cV, upJ, updV, h, sv]
  · simp [cV, upJ, updV, e]
theorem cV_upR {o j : Nat} {x : Value} {kd : Nat × Nat} (h : fk kd.1 j = 2) (k : Nat) : cV (K, upR R o j x, I, J, z) o kd k = updV (cV (K, R, I, J, z) o kd) j x k := by
  by_cases e : k = j
  · subst e; simp [cV, upR, updV, h, sv]
  · simp [cV, upR, updV, e]
theorem aw_putI {idx c n o j : Nat} {x : Int32} (hd : decode y.2.1 pc = .ok (.putfield idx, 3)) (hf : FL y.1.cls idx c j) (hfk : fk c j = 0) (hfin : ∀ r, vwCl[c]? = some r → (r.2.1 j).2.2.2 = false) (hk : K o = some (c, n)) (ho : o < 1000) (hn : narrow (fty c j) (.int x) = .int x) (hfit : fits (fty c j) (.int x) = true)
    (kk : AW G y Z (pc + 3) ls st (K, R, up2 I o j x, J, z) cu su) : AW G y Z pc ls (.int x :: .ref (G.1 o) :: st) (K, R, I, J, z) cu su :=
  aw_put (σ := (K, R, I, J, z)) (σ' := (K, R, up2 I o j x, J, z)) hd hf hfin hk ho hn hfit rfl rfl (fun q kq h => cV_up2_ne h kq) (cV_up2 (kd := (c, n)) hfk) kk
theorem aw_putJ {idx c n o j : Nat} {x : Int64} (hd : decode y.2.1 pc = .ok (.putfield idx, 3)) (hf : FL y.1.cls idx c j) (hfk : fk c j = 1) (hfin : ∀ r, vwCl[c]? = some r → (r.2.1 j).2.2.2 = false) (hk : K o = some (c, n)) (ho : o < 1000) (hn : narrow (fty c j) (.long x) = .long x) (hfit : fits (fty c j) (.long x) = true)
    (kk : AW G y Z (pc + 3) ls st (K, R, I, upJ J o j x, z) cu su) : AW G y Z pc ls (.long x :: .ref (G.1 o) :: st) (K, R, I, J, z) cu su :=
  aw_put (σ := (K, R, I, J, z)) (σ' := (K, R, I, upJ J o j x, z)) hd hf hfin hk ho hn hfit rfl rfl (fun q kq h => cV_upJ_ne h kq) (cV_upJ (kd := (c, n)) hfk) kk
theorem aw_putR {idx c n o j : Nat} {v : Value} (hd : decode y.2.1 pc = .ok (.putfield idx, 3)) (hf : FL y.1.cls idx c j) (hfk : fk c j = 2) (hfin : ∀ r, vwCl[c]? = some r → (r.2.1 j).2.2.2 = true ∧ (r.2.1 j).1 = y.1.cls) (hinit : y.1.name = "<init>") (hk : K o = some (c, n)) (ho : o < 1000) (hn : narrow (fty c j) v = v) (hfit : fits (fty c j) v = true)
    (kk : AW G y Z (pc + 3) ls st (K, upR R o j v, I, J, z) cu su) : AW G y Z pc ls (v :: .ref (G.1 o) :: st) (K, R, I, J, z) cu su :=
  aw_putFin (σ := (K, R, I, J, z)) (σ' := (K, upR R o j v, I, J, z)) hd hf hfin hinit hk ho hn hfit rfl rfl (fun q kq h => cV_upR_ne h kq) (cV_upR (kd := (c, n)) hfk) kk
/-! arrays -/
theorem ix_in {x : Int32} {i n : Nat} (hi : x = nI i) (h : i < n) (hn : n < 2 ^ 31) : ¬ (x < 0 ∨ n ≤ x.toNatClampNeg) := by
  subst hi; exact nI_in h hn
theorem ix_cl {x : Int32} {i n : Nat} (hi : x = nI i) (h : i < n) (hn : n < 2 ^ 31) : x.toNatClampNeg = i := by
  subst hi; exact nI_clamp (Nat.lt_trans h hn)
theorem ix_in' {x : Int32} {i n m : Nat} (h0 : n ≤ m) (hi : x = nI i) (h : i < n) (hn : n < 2 ^ 31) : ¬ (x < 0 ∨ m ≤ x.toNatClampNeg) := fun q => ix_in hi h hn (q.elim Or.inl (fun w => Or.inr (Nat.le_trans h0 w)))
theorem aw_iald {o n i : Nat} {x v : Int32} (hd : decode y.2.1 pc = .ok (.iaload, 1)) (hk : K o = some (10, n)) (hn : n < 2 ^ 31) (hi : x = nI i) (hlt : i < n) (hv : I o i = v) (kk : AW G y Z (pc + 1) ls (.int v :: st) (K, R, I, J, z) cu su) : AW G y Z pc ls (.int x :: .ref (G.1 o) :: st) (K, R, I, J, z) cu su := by
  intro p e s m args below meth c H locs lsa C V S L
  obtain ⟨cA, cell, h1, ha, h2, h3⟩ := vce_arr (V.1 o _ hk) (Nat.le_refl 10)
  exact W.iald (v := .int v) C.1 C.2.1 h1 (ha.arr h2) ha.2.2.1 (ix_in' ha.2.1.1 hi hlt hn) (by rw [ix_cl hi hlt hn, ha.read hlt]; exact congrArg some (congrArg Value.int hv)) rfl rfl hd (kk p e s m args below meth c H locs lsa C V S L)
theorem aw_lald {o n i : Nat} {x : Int32} {v : Int64} (hd : decode y.2.1 pc = .ok (.laload, 1)) (hk : K o = some (11, n)) (hn : n < 2 ^ 31) (hi : x = nI i) (hlt : i < n) (hv : J o i = v) (kk : AW G y Z (pc + 1) ls (.long v :: st) (K, R, I, J, z) cu su) : AW G y Z pc ls (.int x :: .ref (G.1 o) :: st) (K, R, I, J, z) cu su := by
  intro p e s m args below meth c H locs lsa C V S L
  obtain ⟨cA, cell, h1, ha, h2, h3⟩ := vce_arr (V.1 o _ hk) (by decide)
  exact W.lald (v := .long v) C.1 C.2.1 h1 (ha.arr h2) ha.2.2.1 (ix_in' ha.2.1.1 hi hlt hn) (by rw [ix_cl hi hlt hn, ha.read hlt]; exact congrArg some (congrArg Value.long hv)) rfl rfl hd (kk p e s m args below meth c H locs lsa C V S L)
theorem aty_ref {t : Nat} (ht : 12 ≤ t) : (aty t).isReference = true ∧ ∀ j, fk t j = 2 ∨ 15 ≤ t := by
  refine ⟨?_, fun j => ?_⟩
  · match t, ht with
    | 12, _ => rfl
    | 13, _ => rfl
    | t + 14, _ => rfl
  · by_cases h : 15 ≤ t
    · exact Or.inr h
    · rcases (show t = 12 ∨ t = 13 ∨ t = 14 by omega) with rfl | rfl | rfl <;> exact Or.inl rfl
theorem aw_aald {o t n i : Nat} {x : Int32} {v : Value} (hd : decode y.2.1 pc = .ok (.aaload, 1)) (hk : K o = some (t, n)) (ht : 12 ≤ t ∧ t < 15) (hn : n < 2 ^ 31) (hi : x = nI i) (hlt : i < n) (hv : R o i = v) (kk : AW G y Z (pc + 1) ls (v :: st) (K, R, I, J, z) cu su) : AW G y Z pc ls (.int x :: .ref (G.1 o) :: st) (K, R, I, J, z) cu su := by
  intro p e s m args below meth c H locs lsa C V S L
  obtain ⟨cA, cell, h1, ha, h2, h3⟩ := vce_arr (V.1 o _ hk) (by omega)
  have hfk : fk t i = 2 := by rcases (aty_ref ht.1).2 i with h | h <;> first | exact h | omega
  exact W.aald (v := v) C.1 C.2.1 h1 (ha.arr h2) (aty_ref ht.1).1 ha.2.2.1 (ix_in' ha.2.1.1 hi hlt hn) (by rw [ix_cl hi hlt hn, ha.read hlt]; show some (sv (fk t i) _ _ _) = _; rw [hfk]; exact congrArg some hv) rfl rfl hd (kk p e s m args below meth c H locs lsa C V S L)
theorem aw_alen {o t n : Nat} (hd : decode y.2.1 pc = .ok (.arraylength, 1)) (hk : σ.1 o = some (t, n)) (ht : 10 ≤ t) (kk : AW G y Z (pc + 1) ls (.int (nI n) :: st) σ cu su) : AW G y Z pc ls (.ref (G.1 o) :: st) σ cu su := by
  intro p e s m args below meth c H locs lsa C V S L
  obtain ⟨cA, cell, h1, ha, h2, h3⟩ := vce_arr (V.1 o _ hk) ht
  exact W.alen (n := nI n) C.1 C.2.1 h1 (ha.arr h2) ha.2.1.2.1 rfl rfl hd (kk p e s m args below meth c H locs lsa C V S L)
theorem aw_iast {o n i : Nat} {x v : Int32} (hd : decode y.2.1 pc = .ok (.iastore, 1)) (hk : K o = some (10, n)) (ho : o < 1000) (hn : n < 2 ^ 31) (hi : x = nI i) (hlt : i < n) (kk : AW G y Z (pc + 1) ls st (K, R, up2 I o i v, J, z) cu su) : AW G y Z pc ls (.int v :: .int x :: .ref (G.1 o) :: st) (K, R, I, J, z) cu su := by
  intro p e s m args below meth c H locs lsa C V S L
  obtain ⟨cA, cell, h1, ha, h2, h3⟩ := vce_arr (V.1 o _ hk) (Nat.le_refl 10)
  have hE := C.2.2.2.2.2.2.2.1
  refine W.iast C.1 C.2.1 h1 (ha.arr h2) ha.2.2.1 (ix_in' ha.2.1.1 hi hlt hn) rfl rfl hd fun H' e1 e2 e3 => ?_
  refine kk p e s m args below meth c H' _ lsa C ?_ (S.put e2 e3 (Aof_new hE.1 ho)) L
  refine WD_upd hE.1 ho V rfl rfl hk (fun q kq h => cV_up2_ne h kq) (Or.inr ⟨Nat.le_refl 10, cA, _, e1, by rw [ix_cl hi hlt hn]; exact ha.put (fun k => cV_up2 (kd := (10, n)) rfl k), h2, h3⟩) e2 e3
theorem aw_last {o n i : Nat} {x : Int32} {v : Int64} (hd : decode y.2.1 pc = .ok (.lastore, 1)) (hk : K o = some (11, n)) (ho : o < 1000) (hn : n < 2 ^ 31) (hi : x = nI i) (hlt : i < n) (kk : AW G y Z (pc + 1) ls st (K, R, I, upJ J o i v, z) cu su) : AW G y Z pc ls (.long v :: .int x :: .ref (G.1 o) :: st) (K, R, I, J, z) cu su := by
  intro p e s m args below meth c H locs lsa C V S L
  obtain ⟨cA, cell, h1, ha, h2, h3⟩ := vce_arr (V.1 o _ hk) (by decide)
  have hE := C.2.2.2.2.2.2.2.1
  refine W.last C.1 C.2.1 h1 (ha.arr h2) ha.2.2.1 (ix_in' ha.2.1.1 hi hlt hn) rfl rfl hd fun H' e1 e2 e3 => ?_
  refine kk p e s m args below meth c H' _ lsa C ?_ (S.put e2 e3 (Aof_new hE.1 ho)) L
  refine WD_upd hE.1 ho V rfl rfl hk (fun q kq h => cV_upJ_ne h kq) (Or.inr ⟨show 10 ≤ 11 by decide, cA, _, e1, by rw [ix_cl hi hlt hn]; exact ha.put (fun k => cV_upJ (kd := (11, n)) rfl k), h2, h3⟩) e2 e3
/-- a static array, by its number -/
def stF : Nat → String
  | 1001 => "AT_FIRST"
  | 1002 => "LEAST"
  | _ => "MOST"
theorem EN_stat {s : State} {H : Heap} (h : EN G s H) {a : Nat} (ha : a = 1001 ∨ a = 1002 ∨ a = 1003) : va_Z RX3 (stF a) "[I" (.ref (G.1 a)) (Aof G) s H := by
  rcases ha with rfl | rfl | rfl
  · exact h.2.2.2.2.2.1
  · exact h.2.2.2.2.2.2.1
  · exact h.2.2.2.2.2.2.2.1
theorem aw_gets {idx a : Nat} (hd : decode y.2.1 pc = .ok (.getstatic idx, 3)) (ha : a = 1001 ∨ a = 1002 ∨ a = 1003) (hl : Cond.fieldLink y.1.cls idx RX3 (stF a) "[I" ∈ gT) (kk : AW G y Z (pc + 3) ls (.ref (G.1 a) :: st) σ cu su) : AW G y Z pc ls st σ cu su := by
  intro p e s m args below meth c H locs lsa C V S L
  obtain ⟨hx, hb, hml, hret, hlk, hts, hown, hE, hnm, htb⟩ := id C
  exact va_gets hx hb (EN_stat hE ha) S hown (hts _ hl) (fun _ h => h) hd (kk p e s m args below meth c H locs lsa C V S L)
/-- another class's static array (State reads BreakerTrials' AT_FIRST) -/
theorem aw_getsN (hd : decode y.2.1 pc = .ok (.getstatic 27, 3)) (hy : y.1.cls = RX1) (kk : AW G y Z (pc + 3) ls (.ref (G.1 1001) :: st) σ cu su) : AW G y Z pc ls st σ cu su := by
  intro p e s m args below meth c H locs lsa C V S L
  obtain ⟨hx, hb, hml, hret, hlk, hts, hown, hE, hnm, htb⟩ := id C
  rw [hy] at hown
  exact va_getsN hx hb (EN_stat hE (a := 1001) (Or.inl rfl)) S hown (va_Nw.use rfl hE.2.2.2.2.2.2.2.2.2.1) (fun _ h => h) hd (kk p e s m args below meth c H locs lsa C V S L)
end MEM
