/-! MAKING CELLS -/
/-- a cell's slots, all of one value -/
def zr {α : Type} (f : Nat → Nat → α) (z : Nat) (d : α) : Nat → Nat → α := fun q k => if q = z then d else f q k
theorem dfl0 : ∀ k, k < 2 → defaultValue (fty 0 k) = sv (fk 0 k) 0 0 .null
  | 0, _ => rfl
  | 1, _ => rfl
  | k + 2, h => absurd h (by omega)
theorem dfl1 : ∀ k, k < 7 → defaultValue (fty 1 k) = sv (fk 1 k) 0 0 .null
  | 0, _ => rfl
  | 1, _ => rfl
  | 2, _ => rfl
  | 3, _ => rfl
  | 4, _ => rfl
  | 5, _ => rfl
  | 6, _ => rfl
  | k + 7, h => absurd h (by omega)
theorem dfl2 : ∀ k, k < 14 → defaultValue (fty 2 k) = sv (fk 2 k) 0 0 .null
  | 0, _ => rfl
  | 1, _ => rfl
  | 2, _ => rfl
  | 3, _ => rfl
  | 4, _ => rfl
  | 5, _ => rfl
  | 6, _ => rfl
  | 7, _ => rfl
  | 8, _ => rfl
  | 9, _ => rfl
  | 10, _ => rfl
  | 11, _ => rfl
  | 12, _ => rfl
  | 13, _ => rfl
  | k + 14, h => absurd h (by omega)
theorem dfl3 : ∀ k, k < 6 → defaultValue (fty 3 k) = sv (fk 3 k) 0 0 .null
  | 0, _ => rfl
  | 1, _ => rfl
  | 2, _ => rfl
  | 3, _ => rfl
  | 4, _ => rfl
  | 5, _ => rfl
  | k + 6, h => absurd h (by omega)
theorem dfl_all {c : Nat} {r : vw_C} (hr : vwCl[c]? = some r) : ∀ k, k < r.2.2 → defaultValue (fty c k) = sv (fk c k) 0 0 .null := by
  match c, hr with
  | 0, hr => cases hr; exact dfl0
  | 1, hr => cases hr; exact dfl1
  | 2, hr => cases hr; exact dfl2
  | 3, hr => cases hr; exact dfl3
  | c + 4, hr => simp [vwCl] at hr
section ALLOC
variable {G : GG} {y : YY} {Z : ZT} {Q : RT → Sg → Prop} {pc : Nat} {ls ls' : List (Nat × Value)} {st rest : List Value} {σ : Sg} {K : Nat → Option (Nat × Nat)} {R : Nat → Nat → Value} {I : Nat → Nat → Int32} {J : Nat → Nat → Int64} {z cu su : Nat}
/-- one more cell -/
theorem WD_new {s : State} {H H1 : Heap} {kd : Nat × Nat} (hG : GOk G) (hz : z < 1000) (V : WD G (K, R, I, J, z) s H) (hc : vce G.2.1 s kd (G.1 z) (fun k => sv (fk kd.1 k) 0 0 .null) H1) (z1 : H1.size = H.size + 1) (o1 : ∀ q, q < H.size → H1[q]? = H[q]?) :
    WD G (upK K z kd, zr R z .null, zr I z 0, zr J z 0, z + 1) s H1 := by
  refine ⟨fun o kq ho => ?_, by rw [z1, V.2]; exact Nat.add_assoc _ _ _⟩
  by_cases e : o = z
  · subst e
    have : kq = kd := by simp [upK] at ho; exact ho.symm
    subst this
    have h2 : cV (upK K o kq, zr R o .null, zr I o 0, zr J o 0, o + 1) o kq = fun k => sv (fk kq.1 k) 0 0 .null := by funext k; simp [cV, zr]
    rw [h2]; exact hc
  · have h1 : K o = some kq := by simpa [upK, e] using ho
    have h2 : cV (upK K z kd, zr R z .null, zr I z 0, zr J z 0, z + 1) o kq = cV (K, R, I, J, z) o kq := by funext k; simp [cV, zr, e]
    rw [h2]
    have h3 := V.1 o kq h1
    exact vce_kept h3 (o1 _ (vce_lt h3))
theorem va_S_new {s : State} {H H1 : Heap} {locs : List Loc} (S : va_S (Aof G) s.heap H locs) (z1 : H.size ≤ H1.size) (o1 : ∀ q, q < H.size → H1[q]? = H[q]?) : va_S (Aof G) s.heap H1 locs :=
  ⟨Nat.le_trans S.1 z1, fun x h1 h2 => (o1 x (Nat.lt_of_lt_of_le h1 S.1)).trans (S.2.1 x h1 h2), S.2.2⟩
theorem ad_z {s : State} {H : Heap} (hG : GOk G) (hz : z < 1000) (V : WD G (K, R, I, J, z) s H) : H.size = G.1 z := by rw [V.2, hG.1 z hz]
theorem aw_new {idx c : Nat} {r : vw_C} (hd : decode y.2.1 pc = .ok (.new idx, 3)) (hr : vwCl[c]? = some r) (h1 : Cond.classLink y.1.cls idx r.1 ∈ gT) (h2 : Cond.instantiable r.1 r.2.2 ∈ gT) (h3 : Cond.initialized r.1 ∈ gT) (hz : z < 1000) (hc : cu + 1 ≤ y.2.2.2.2.1.cells) (hs : su + r.2.2 ≤ y.2.2.2.2.1.slots)
    (kk : AW G y Z (pc + 3) ls (.ref (G.1 z) :: st) (upK K z (c, r.2.2), zr R z .null, zr I z 0, zr J z 0, z + 1) (cu + 1) (su + r.2.2)) : AW G y Z pc ls st (K, R, I, J, z) cu su := by
  intro p e s m args below meth c0 H locs lsa C V S L
  obtain ⟨hx, hb, hml, hret, hlk, hts, hown, hE, hnm, htb⟩ := id C
  have hc10 : c < 10 := by have := (List.getElem?_eq_some_iff.mp hr).1; simp [vwCl] at this; omega
  have hKn := hE.2.1.1 c _ hr
  refine W.newcK hx hb hown (hts _ h1) (hts _ h2) (hts _ h3) rfl hd hc hs hKn.2.1 (ad_z hE.1 hz V) fun H1 kC hkC e1 z1 o1 => ?_
  have o1' : ∀ q, q < H.size → H1[q]? = H[q]? := fun q hq => o1 q (by rw [← ad_z hE.1 hz V]; exact hq)
  have z1' : H1.size = H.size + 1 := by rw [z1, ad_z hE.1 hz V]
  exact kk p e s m args below meth c0 H1 locs lsa C (WD_new hE.1 hz V (Or.inl ⟨hc10, r, hr, rfl, (u_born (fty c) hts (cl_in c r hr) hKn hkC e1 (cl_ty hr)).to (dfl_all hr)⟩) z1' o1') (va_S_new S (by omega) o1') L
theorem aw_newa {atype : ArrayType} {t N : Nat} (hd : decode y.2.1 pc = .ok (.newarray atype, 2)) (ht : 10 ≤ t) (hty : newarray.typeOf atype = aty t) (h1 : Cond.arrayClass (newarray.typeOf atype) ∈ gT) (hN : N ≤ 5000) (hdv : ∀ k, defaultValue (aty t) = sv (fk t k) 0 0 .null) (hcb : componentBytes (newarray.typeOf atype) ≤ 8) (hra : ∀ (s : State) (cA : ClassId), s.vm.findClass ("[" ++ (newarray.typeOf atype).toString) = some cA → va_RA s cA (aty t)) (hz : z < 1000) (hc : cu + 1 ≤ y.2.2.2.2.1.cells) (hs : su + N ≤ y.2.2.2.2.1.slots)
    (kk : AW G y Z (pc + 2) ls (.ref (G.1 z) :: st) (upK K z (t, N), zr R z .null, zr I z 0, zr J z 0, z + 1) (cu + 1) (su + N)) : AW G y Z pc ls (.int (nI N) :: st) (K, R, I, J, z) cu su := by
  intro p e s m args below meth c0 H locs lsa C V S L
  obtain ⟨hx, hb, hml, hret, hlk, hts, hown, hE, hnm, htb⟩ := id C
  have hNl : N < 2 ^ 31 := by omega
  refine va_newaK hx hb (hts _ h1) rfl hd rfl (nI_pos hNl) (nI_clamp hNl) (by have := Nat.mul_le_mul hN hcb; omega) hc hs (ad_z hE.1 hz V) fun H1 cA e1 z1 o1 hAr hfc => ?_
  have o1' : ∀ q, q < H.size → H1[q]? = H[q]? := fun q hq => o1 q (by rw [← ad_z hE.1 hz V]; exact hq)
  have z1' : H1.size = H.size + 1 := by rw [z1, ad_z hE.1 hz V]
  refine kk p e s m args below meth c0 H1 locs lsa C (WD_new hE.1 hz V (Or.inr ⟨ht, cA, arrV cA N (fun k => sv (fk t k) 0 0 .null), ?_, AR.rf, by rw [← hty]; exact hAr, fun _ => hra s cA hfc⟩) z1' o1') (va_S_new S (by omega) o1') L
  rw [e1, hty]
  exact congrArg some (congrArg (arrV cA N) (funext fun k => hdv k))
theorem aw_newaI {N : Nat} (hd : decode y.2.1 pc = .ok (.newarray .int, 2)) (h1 : Cond.arrayClass .int ∈ gT) (hN : N ≤ 5000) (hz : z < 1000) (hc : cu + 1 ≤ y.2.2.2.2.1.cells) (hs : su + N ≤ y.2.2.2.2.1.slots)
    (kk : AW G y Z (pc + 2) ls (.ref (G.1 z) :: st) (upK K z (10, N), zr R z .null, zr I z 0, zr J z 0, z + 1) (cu + 1) (su + N)) : AW G y Z pc ls (.int (nI N) :: st) (K, R, I, J, z) cu su :=
  aw_newa (t := 10) hd (Nat.le_refl 10) rfl h1 hN (fun _ => rfl) (by decide) (fun s cA h => h) hz hc hs kk
theorem aw_newaL {N : Nat} (hd : decode y.2.1 pc = .ok (.newarray .long, 2)) (h1 : Cond.arrayClass .long ∈ gT) (hN : N ≤ 5000) (hz : z < 1000) (hc : cu + 1 ≤ y.2.2.2.2.1.cells) (hs : su + N ≤ y.2.2.2.2.1.slots)
    (kk : AW G y Z (pc + 2) ls (.ref (G.1 z) :: st) (upK K z (11, N), zr R z .null, zr I z 0, zr J z 0, z + 1) (cu + 1) (su + N)) : AW G y Z pc ls (.int (nI N) :: st) (K, R, I, J, z) cu su :=
  aw_newa (t := 11) hd (by decide) rfl h1 hN (fun _ => rfl) (by decide) (fun s cA h => h) hz hc hs kk
theorem aw_anew {idx t N : Nat} {C : String} (hd : decode y.2.1 pc = .ok (.anewarray idx, 3)) (ht : t = 12 ∧ C = RX1 ∨ t = 13 ∧ C = RX2) (h1 : Cond.classLink y.1.cls idx C ∈ gT) (hN : N ≤ 5000) (hz : z < 1000) (hc : cu + 1 ≤ y.2.2.2.2.1.cells) (hs : su + N ≤ y.2.2.2.2.1.slots)
    (kk : AW G y Z (pc + 3) ls (.ref (G.1 z) :: st) (upK K z (t, N), zr R z .null, zr I z 0, zr J z 0, z + 1) (cu + 1) (su + N)) : AW G y Z pc ls (.int (nI N) :: st) (K, R, I, J, z) cu su := by
  intro p e s m args below meth c0 H locs lsa C0 V S L
  obtain ⟨hx, hb, hml, hret, hlk, hts, hown, hE, hnm, htb⟩ := id C0
  have hNl : N < 2 ^ 31 := by omega
  have hcl := nI_clamp hNl
  have hEX := hE.2.2.2.2.2.2.2.2.2.2.2.2.2.2.2.2.2.2.2.2
  have h2 : va_AO C s := by
    rcases ht with ⟨-, rfl⟩ | ⟨-, rfl⟩
    · exact hEX.1
    · exact hEX.2.1
  have haty : aty t = .object C := by rcases ht with ⟨rfl, rfl⟩ | ⟨rfl, rfl⟩ <;> rfl
  refine W.anew hx hb hown (hts _ h1) (va_AO.use h2) rfl hd rfl (nI_pos hNl) (by rw [hcl]; omega) hc (by rw [hcl]; exact hs) fun cA kA comp f1 f2 f3 f4 => ?_
  rw [hcl]
  have e1 : (H.push ({ cls := cA, slots := Array.replicate N .null, vm := .none } : Cell))[G.1 z]? = some (arrV cA N (fun _ => .null)) := by rw [← ad_z hE.1 hz V, Array.getElem?_push_size, ← arrV_new]
  have o1 : ∀ q : Nat, q < H.size → (H.push ({ cls := cA, slots := Array.replicate N .null, vm := .none } : Cell))[q]? = H[q]? := fun q hq => by rw [Array.getElem?_push, if_neg (Nat.ne_of_lt hq)]
  have z1 : (H.push ({ cls := cA, slots := Array.replicate N .null, vm := .none } : Cell)).size = H.size + 1 := Array.size_push _
  rw [ad_z hE.1 hz V]
  refine kk p e s m args below meth c0 _ locs lsa C0 (WD_new hE.1 hz V (Or.inr ⟨by show 10 ≤ t; omega, cA, arrV cA N (fun k => sv (fk t k) 0 0 .null), ?_, AR.rf, by rw [haty]; exact fun N z => ⟨(fun k h => by cases h), kA, f2, comp, f3⟩, fun _ => by rw [haty]; exact ⟨kA, comp, f2, f3, f4, f1⟩⟩) z1 o1) (va_S_new S (by omega) o1) L
  rw [e1]
  refine congrArg some (congrArg (arrV cA N) (funext fun k => ?_))
  rcases ht with ⟨rfl, -⟩ | ⟨rfl, -⟩ <;> rfl
/-- new int[5][16] -/
theorem aw_multi {idx : Nat} (hd : decode y.2.1 pc = .ok (.multianewarray idx 2, 4)) (h1 : Cond.classLink y.1.cls idx ("[" ++ (FieldType.array .int).toString) ∈ gT) (h3 : Cond.arrayClass .int ∈ gT) (hz : z + 6 ≤ 1000) (hc : cu + 6 ≤ y.2.2.2.2.1.cells) (hs : su + 85 ≤ y.2.2.2.2.1.slots)
    (kk : AW G y Z (pc + 4) ls (.ref (G.1 z) :: st) (fun q => if q = z then some (14, 5) else if z < q ∧ q ≤ z + 5 then some (10, 16) else K q, fun q k => if q = z then (if k < 5 then .ref (G.1 (z + 1 + k)) else .null) else if z < q ∧ q ≤ z + 5 then .null else R q k, fun q k => if z ≤ q ∧ q ≤ z + 5 then 0 else I q k, fun q k => if z ≤ q ∧ q ≤ z + 5 then 0 else J q k, z + 6) (cu + 6) (su + 85)) : AW G y Z pc ls (.int (nI 16) :: .int (nI 5) :: st) (K, R, I, J, z) cu su := by
  intro p e s m args below meth c0 H locs lsa C0 V S L T hT X
  obtain ⟨hx, hb, hml, hret, hlk, hts, hown, hE, hnm, htb⟩ := id C0
  obtain ⟨vm₁, cA, comp, -, fA, fC, hO, hI, X', step⟩ := X.multianewarray2F hx hown (hts _ h1) (show (Cond.arrayOver (.array .int)).before args s = true from hE.2.2.2.2.2.2.2.2.2.2.2.2.2.2.2.2.2.2.2.2.2.2) (hts _ h3) (g := F0 m pc lsa (.int (nI 16) :: .int (nI 5) :: st)) rfl (by rw [hb]; exact hd) rfl (by decide) (by decide) (by decide) (by decide) (by decide) rfl rfl hc hs
  rw [show (nI 5).toNatClampNeg = 5 from rfl, show (nI 16).toNatClampNeg = 16 from rfl] at X' step
  generalize hF : Jvm.Free.Multi.fill (T.setVm vm₁) cA comp 5 16 (defaultValue .int) 5 = F at X' step
  have hTh : (T.setVm vm₁).heap = H := hT
  obtain ⟨f1, f2, -, -⟩ := Jvm.Free.Multi.fill_facts (T.setVm vm₁) cA comp 5 16 (defaultValue .int) 5
  rw [hF, hTh] at f1 f2
  have hold : ∀ x : Nat, x < H.size → F.heap[x]? = H[x]? := fun x hx => by
    have := Jvm.Free.Multi.fill_old (T.setVm vm₁) cA comp 5 16 (defaultValue .int) (a := x) (by rw [hTh]; exact hx) 5
    rw [hF, hTh] at this
    exact this
  have hrow : ∀ j : Nat, j < 5 → F.heap[H.size + 1 + j]? = some (arrV comp 16 (fun _ => .int 0)) := fun j hj => by
    have := Jvm.Free.Multi.fill_inner (T.setVm vm₁) cA comp 5 16 (defaultValue .int) 5 j hj
    rw [hF, hTh] at this
    rw [this]
    exact congrArg some (arrV_new comp 16 (.int 0))
  rw [vr_outer] at f2
  have hzs := ad_z hE.1 (by omega : z < 1000) V
  have hG := hE.1
  have hAr : ArrOfT s cA (.array .int) := fun N9 z9 => by
    obtain ⟨-, k9, hk9, cm9, hkk9⟩ := (hO 0 0 0).1
    exact ⟨(fun q hq => by cases hq), k9, hk9, cm9, hkk9⟩
  have hAi : ArrOfT s comp .int := fun N9 z9 => by
    obtain ⟨-, k9, hk9, cm9, hkk9⟩ := (hI 0 (.int 0)).1
    exact ⟨(fun q hq => by cases hq), k9, hk9, cm9, hkk9⟩
  obtain ⟨t, a1, b1⟩ := kk p e s m args below meth c0 F.heap locs lsa C0 (by
    have hV : H.size = G.2.2.1 + z := V.2
    refine ⟨fun o kq ho => ?_, by show F.heap.size = G.2.2.1 + (z + 6); rw [f1, hV]; omega⟩
    by_cases e0 : o = z
    · subst e0
      simp only [if_true] at ho
      cases ho
      refine Or.inr ⟨show 10 ≤ 14 by decide, cA, _, ?_, AR.rf, hAr, fun _ => fA⟩
      rw [← hzs, f2]
      refine congrArg some (congrArg (arrV cA 5) (funext fun k => ?_))
      simp only [cV, if_true]
      show va_rf _ = (if k < 5 then Value.ref (G.1 (o + 1 + k)) else .null)
      by_cases hk : k < 5
      · rw [if_pos hk, if_pos hk, hzs, hG.1 o (by omega), hG.1 (o + 1 + k) (by omega)]
        exact congrArg Value.ref (show G.2.2.1 + o + 1 + k = G.2.2.1 + (o + 1 + k) by omega)
      · rw [if_neg hk, if_neg hk]; rfl
    · simp only [if_neg e0] at ho
      by_cases e1 : z < o ∧ o ≤ z + 5
      · rw [if_pos e1] at ho
        cases ho
        refine Or.inr ⟨Nat.le_refl 10, comp, _, ?_, AR.rf, hAi, fun h => absurd h (by show ¬ 12 ≤ 10; decide)⟩
        · have h5 : G.1 o = H.size + 1 + (o - z - 1) := by rw [hzs, hG.1 o (by omega), hG.1 z (by omega)]; omega
          rw [h5, hrow _ (by omega)]
          refine congrArg some (congrArg (arrV comp 16) (funext fun k => ?_))
          simp only [cV]
          rw [if_pos (show z ≤ o ∧ o ≤ z + 5 by omega)]
          rfl
      · rw [if_neg e1] at ho
        have h2 : cV (fun q => if q = z then some (14, 5) else if z < q ∧ q ≤ z + 5 then some (10, 16) else K q, fun q k => if q = z then (if k < 5 then .ref (G.1 (z + 1 + k)) else .null) else if z < q ∧ q ≤ z + 5 then .null else R q k, fun q k => if z ≤ q ∧ q ≤ z + 5 then 0 else I q k, fun q k => if z ≤ q ∧ q ≤ z + 5 then 0 else J q k, z + 6) o kq = cV (K, R, I, J, z) o kq := by
          funext k
          have e2 : ¬ (z ≤ o ∧ o ≤ z + 5) := by omega
          simp only [cV, if_neg e0, if_neg e1, if_neg e2]
        rw [h2]
        have h3 := V.1 o kq ho
        exact vce_kept h3 (hold _ (vce_lt h3)))
    (va_S_new S (by omega) hold) L F rfl X'
  refine ⟨t, step t ?_, b1⟩
  rw [show T.heap.size = G.1 z by rw [hT]; exact hzs]
  exact a1
/-- a reference into an array of its class -/
theorem aw_aast {o t n i c nn q : Nat} {x : Int32} (hd : decode y.2.1 pc = .ok (.aastore, 1)) (hk : K o = some (t, n)) (ht : t = 12 ∧ c = 1 ∨ t = 13 ∧ c = 2) (ho : o < 1000) (hn : n < 2 ^ 31) (hi : x = nI i) (hlt : i < n) (hq : K q = some (c, nn)) (kk : AW G y Z (pc + 1) ls st (K, upR R o i (.ref (G.1 q)), I, J, z) cu su) : AW G y Z pc ls (.ref (G.1 q) :: .int x :: .ref (G.1 o) :: st) (K, R, I, J, z) cu su := by
  intro p e s m args below meth c0 H locs lsa C V S L
  have hE := C.2.2.2.2.2.2.2.1
  have ht10 : 10 ≤ t := by omega
  obtain ⟨cA, cell, h1, ha, h2, h3⟩ := vce_arr (V.1 o _ hk) ht10
  have h3 := h3 (by omega)
  obtain ⟨r, hr, haty⟩ : ∃ r : vw_C, vwCl[c]? = some r ∧ aty t = .object r.1 := by
    rcases ht with ⟨rfl, rfl⟩ | ⟨rfl, rfl⟩
    · exact ⟨_, rfl, rfl⟩
    · exact ⟨_, rfl, rfl⟩
  obtain ⟨r', hr', -, cellV, g1, g2, g3, -⟩ := vce_obj (V.1 q _ hq) (by omega)
  cases Option.some.inj (hr.symm.trans hr')
  have hcls := (hE.2.1.1 c r hr).2
  rw [haty] at h3
  obtain ⟨kA, comp, k1, k2, k3, -⟩ := id h3
  have hcomp : comp = G.2.1.1 c := Option.some.inj (k3.symm.trans hcls.1)
  subst hcomp
  obtain ⟨kC, hkC, -⟩ := hcls.2
  have hfk : fk t i = 2 := by rcases ht with ⟨rfl, -⟩ | ⟨rfl, -⟩ <;> rfl
  refine W.aast C.1 C.2.1 h1 ha.2.2.2 ha.2.2.1 (by rw [ha.1]; exact k1) k2 rfl hkC ⟨by rw [hi]; exact nI_pos (Nat.lt_trans hlt hn), by rw [ix_cl hi hlt hn]; exact Nat.lt_of_lt_of_le hlt ha.2.1.1⟩ g1 (fun q h => by rw [g3] at h; cases h) (by rw [g2]; exact hkC) (by rw [g2]; exact va_assign hcls) rfl rfl hd fun H1 e1 e2 e3 => ?_
  refine kk p e s m args below meth c0 H1 _ lsa C ?_ (S.put e2 e3 (Aof_new hE.1 ho)) L
  refine WD_upd hE.1 ho V rfl rfl hk (fun q kq h => cV_upR_ne h kq) (Or.inr ⟨ht10, cA, _, e1, by rw [ix_cl hi hlt hn]; exact ha.put (fun k => cV_upR (kd := (t, n)) hfk k), h2, fun _ => by rw [haty]; exact h3⟩) e2 e3
/-- System.arraycopy from place 0 to place 0 of int arrays -/
def cpyI (I : Nat → Nat → Int32) (o1 o2 m : Nat) : Nat → Nat → Int32 := fun q k => if q = o2 ∧ k < m then I o1 k else I q k
theorem aw_copy {idx o1 o2 n1 n2 mm : Nat} (hd : decode y.2.1 pc = .ok (.invokestatic idx, 3)) (h1 : Cond.methodLink y.1.cls idx arraycopyName ∈ gT) (h2 : Cond.native arraycopyName ∈ gT) (h3 : Cond.static arraycopyName ∈ gT) (h4 : Cond.initialized "java/lang/System" ∈ gT) (hk1 : K o1 = some (10, n1)) (hk2 : K o2 = some (10, n2)) (ho : o2 < 1000) (hm : mm < 2 ^ 31) (hm1 : mm ≤ n1) (hm2 : mm ≤ n2)
    (hf : 1 ≤ y.2.2.2.2.1.frames) (hl : (st.map fun v => v.category).sum + (nativeFrameWords "java/lang/System" "arraycopy" 5 + 11) ≤ y.2.2.2.2.1.locals) (kk : AW G y Z (pc + 3) ls st (K, R, cpyI I o1 o2 mm, J, z) cu su) :
    AW G y Z pc ls (.int (nI mm) :: .int (nI 0) :: .ref (G.1 o2) :: .int (nI 0) :: .ref (G.1 o1) :: st) (K, R, I, J, z) cu su := by
  intro p e s m args below meth c0 H locs lsa C V S L T hT X
  obtain ⟨hx, hb, hml, hret, hlk, hts, hown, hE, hnm, htb⟩ := id C
  obtain ⟨c1, cs1, a1, aR, a2, a3⟩ := vce_arr (V.1 o1 _ hk1) (Nat.le_refl 10)
  obtain ⟨c2, cd1, b1, bR, b2, b3⟩ := vce_arr (V.1 o2 _ hk2) (Nat.le_refl 10)
  obtain ⟨-, k0, hk0, cm0, hkk0⟩ := aR.arr a2
  obtain ⟨-, k1, hk1', cm1, hkk1⟩ := bR.arr b2
  have hcm := nI_clamp hm
  have hc0 : (nI 0).toNatClampNeg = 0 := rfl
  have hti := nI_toInt hm
  have ht0 : (nI 0).toInt = 0 := rfl
  obtain ⟨vm', X', step⟩ := X.arraycopy hx hown (hts _ h1) (hts _ h2) (hts _ h3) (hts _ h4) (src := G.1 o1) (dst := G.1 o2) (cs := cs1) (cd := cd1) (srcPos := nI 0) (destPos := nI 0) (n := nI mm) (by rw [hT]; exact a1) (by rw [hT]; exact b1)
    aR.2.2.2 bR.2.2.2 aR.2.2.1 bR.2.2.1 hk0 hk1' hkk0 hkk1 (by simp [aty, refKind]) (by decide) (by decide) (nI_pos hm)
    (by have := aR.2.1.1; rw [ht0, hti]; omega)
    (by have := bR.2.1.1; rw [ht0, hti]; omega)
    (fun vm₁ _ i hi => by
      rw [hcm] at hi
      have e : cs1.slots.getD ((nI 0).toNatClampNeg + i) .null = .int (I o1 i) := by
        rw [hc0, Nat.zero_add, Array.getD_eq_getD_getElem?, aR.read (by omega)]
        rfl
      refine ⟨?_, ?_⟩
      · rw [e]; rfl
      · rw [e]; exact trivial)
    (g := F0 m pc lsa (.int (nI mm) :: .int (nI 0) :: .ref (G.1 o2) :: .int (nI 0) :: .ref (G.1 o1) :: st)) rfl (by rw [hml]; exact L.1) (rest := st) rfl (by rw [hb]; exact hd) hf (by show 2 * 0 + _ + _ ≤ _; omega)
  have e1 : copied (arrV c1 n1 (cV (K, R, I, J, z) o1 (10, n1))) (arrV c2 n2 (cV (K, R, I, J, z) o2 (10, n2))) (nI 0) (nI 0) (nI mm) = arrV c2 n2 (cV (K, R, cpyI I o1 o2 mm, J, z) o2 (10, n2)) := by
    have h := va_copied (fun v : Value => v) c1 c2 (n0 := n1) (n1 := n2) (sp := 0) (dp := 0) (n := mm) (cV (K, R, I, J, z) o1 (10, n1)) (cV (K, R, I, J, z) o2 (10, n2)) (by omega)
    have h9 : copied (arrV c1 n1 (cV (K, R, I, J, z) o1 (10, n1))) (arrV c2 n2 (cV (K, R, I, J, z) o2 (10, n2))) (nI 0) (nI 0) (nI mm) = (arrV c2 n2 (cV (K, R, I, J, z) o2 (10, n2))).storeRun (nI 0).toNatClampNeg ((arrV c1 n1 (cV (K, R, I, J, z) o1 (10, n1))).stretch (nI 0).toNatClampNeg (nI mm).toNatClampNeg) := rfl
    rw [h9, hc0, hcm]
    refine h.trans (congrArg (arrV c2 n2) (funext fun k => ?_))
    simp only [va_cpy, cV, cpyI]
    by_cases hkm : k < mm
    · simp [hkm, fk, sv]
    · simp [hkm]
  have e2 : AR (copied cs1 cd1 (nI 0) (nI 0) (nI mm)) c2 n2 (cV (K, R, cpyI I o1 o2 mm, J, z) o2 (10, n2)) := by
    have q1 : copied cs1 cd1 (nI 0) (nI 0) (nI mm) = cd1.storePairs (nI 0).toNatClampNeg (cs1.stretch (nI 0).toNatClampNeg (nI mm).toNatClampNeg).zipIdx := rfl
    have q2 : cs1.stretch (nI 0).toNatClampNeg (nI mm).toNatClampNeg = (arrV c1 n1 (cV (K, R, I, J, z) o1 (10, n1))).stretch (nI 0).toNatClampNeg (nI mm).toNatClampNeg := by
      unfold Cell.stretch
      refine List.map_congr_left (fun i hi => ?_)
      have hi' := List.mem_range.mp hi
      rw [hcm] at hi'
      rw [hc0, Nat.zero_add, Array.getD_eq_getD_getElem?, Array.getD_eq_getD_getElem?, aR.read (by omega), arrV_read _ _ (by omega)]
    obtain ⟨w1, w2, w3, -⟩ := Cell.storePairs_facts cd1 (nI 0).toNatClampNeg (cs1.stretch (nI 0).toNatClampNeg (nI mm).toNatClampNeg).zipIdx
    refine SE.ar (cell := cd1) ?_ bR w1 w2 w3
    rw [← e1, q1, q2]
    exact SE.pairs _ _ _ bR.se
  have hlt : G.1 o2 < H.size := (Array.getElem?_eq_some_iff.mp b1).1
  generalize copied cs1 cd1 (nI 0) (nI 0) (nI mm) = cell at X' step e2
  have hheap : ((T.setVm vm').setCell (G.1 o2) cell).heap = H.setIfInBounds (G.1 o2) cell := by rw [← hT]; rfl
  have oq : ∀ q : Nat, q ≠ G.1 o2 → (H.setIfInBounds (G.1 o2) cell)[q]? = H[q]? := fun q hq => by simp [Array.getElem?_setIfInBounds, Ne.symm hq]
  have hA := Aof_new hE.1 ho
  obtain ⟨t, a1', b1'⟩ := kk p e s m args below meth c0 _ _ lsa C
    (WD_upd (σ' := (K, R, cpyI I o1 o2 mm, J, z)) hE.1 ho V rfl rfl hk2 (fun q kq h => by funext k; simp [cV, cpyI, h]) (Or.inr ⟨Nat.le_refl 10, c2, cell, by simp [Array.getElem?_setIfInBounds, hlt], e2, b2, b3⟩) (by simp) oq)
    ⟨by simp; exact S.1, fun q g1 g2 => by
      rw [oq q (fun e => g2 (by rw [e]; exact hA))]
      exact S.2.1 q g1 g2, fun q hq => by
      rcases List.mem_append.mp hq with h | h
      · exact S.2.2 q h
      · obtain ⟨z9, -, hz9⟩ := List.mem_map.mp h
        rw [← hz9]
        exact hA⟩ L _ hheap X'
  exact ⟨t, step t a1', b1'⟩
end ALLOC
