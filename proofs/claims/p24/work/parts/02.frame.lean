/-! THE FRAME OF THE WHOLE: methods over a memory of numbered cells. Cell o lies at the address ad o; K o says what it is, R, J, I what its slots hold (references, longs, ints). -/
/-- the words that every method is given: the table's good ones -/
def gT : List Cond := lw_tbl.filter goodWord
theorem gT_good {w : Cond} (h : w ∈ gT) : goodWord w = true := (List.mem_filter.mp h).2
theorem gT_in {w : Cond} (h : w ∈ lw_tbl) (g : goodWord w = true) : w ∈ gT := List.mem_filter.mpr ⟨h, g⟩
theorem gT_ix {w : Cond} (i : Nat) (h : lw_tbl[i]? = some w) (g : goodWord w = true) : w ∈ gT := gT_in (List.mem_of_getElem? h) g
theorem gT_goodIn {ws : List Cond} (h : ∀ w ∈ ws, w ∈ gT) : GoodIn gT ws := fun w hw => ⟨h w hw, good_of_word (gT_good (h w hw))⟩
/-- K, R, I, J, how many cells are made -/
abbrev Sg : Type := (Nat → Option (Nat × Nat)) × (Nat → Nat → Value) × (Nat → Nat → Int32) × (Nat → Nat → Int64) × Nat
/-- addresses, classes and slots, the base, the launch -/
abbrev GG : Type := (Nat → Nat) × va_G × Nat × Launch
/-- name, code, locals, answer, room, table -/
abbrev YY : Type := MethodName × ByteArray × Nat × Option FieldType × Room × List (Nat × Nat × Nat × Nat)
abbrev RT : Type := Option Value ⊕ String
/-- what a slot holds: 0 an int, 1 a long, 2 a reference -/
def fk : Nat → Nat → Nat
  | 0, 0 => 2
  | 1, 0 => 2
  | 1, 1 => 2
  | 1, 2 => 2
  | 2, 0 => 2
  | 3, 3 => 0
  | 3, 4 => 0
  | 3, _ => 2
  | 4, 1 => 2
  | 4, 2 => 2
  | 4, 3 => 2
  | 4, 5 => 2
  | 4, 9 => 2
  | 4, 11 => 1
  | 11, _ => 1
  | 12, _ => 2
  | 13, _ => 2
  | 14, _ => 2
  | _, _ => 0
def sv (k : Nat) (i : Int32) (j : Int64) (r : Value) : Value := match k with
  | 0 => .int i
  | 1 => .long j
  | _ => r
/-- what an array holds -/
def aty : Nat → FieldType
  | 10 => .int
  | 11 => .long
  | 12 => .object RX1
  | 13 => .object RX2
  | _ => .array .int
/-- an array's cell, whatever its monitor is -/
def AR (cell : Cell) (cA : ClassId) (n : Nat) (V : Nat → Value) : Prop := cell.cls = cA ∧ (n ≤ cell.slots.size ∧ cell.slots.size.toInt32 = nI n ∧ ∀ j, j < n → cell.slots[j]? = some (V j)) ∧ cell.vm ≠ .unknown ∧ ∀ k, cell.vm ≠ .statics k
theorem AR.rf {cA : ClassId} {n : Nat} {V : Nat → Value} : AR (arrV cA n V) cA n V := ⟨rfl, ⟨by rw [arrV_size]; exact Nat.le_refl _, by rw [arrV_size]; rfl, fun j hj => arrV_read _ _ hj⟩, fun q => (by cases q), fun k q => (by cases q)⟩
theorem AR.arr {s : State} {cell : Cell} {cA : ClassId} {n : Nat} {V : Nat → Value} {ty : FieldType} (h : AR cell cA n V) (hA : ArrOfT s cA ty) : s.isArrayOf cell ty := by
  obtain ⟨-, k, hk, comp, hc⟩ := hA n V
  exact ⟨h.2.2.2, k, by rw [h.1]; exact hk, comp, hc⟩
theorem AR.read {cell : Cell} {cA : ClassId} {n i : Nat} {V : Nat → Value} (h : AR cell cA n V) (hi : i < n) : cell.slots[i]? = some (V i) := h.2.1.2.2 i hi
/-- cells whose first n slots are the same -/
def SE (n : Nat) (c1 c2 : Cell) : Prop := n ≤ c1.slots.size ∧ n ≤ c2.slots.size ∧ ∀ j, j < n → c1.slots[j]? = c2.slots[j]?
theorem SE.set {n k : Nat} {x : Value} {c1 c2 : Cell} (h : SE n c1 c2) : SE n (c1.setSlot k x) (c2.setSlot k x) := by
  obtain ⟨h1, h2, h3⟩ := h
  unfold Cell.setSlot
  refine ⟨by simpa using h1, by simpa using h2, fun j hj => ?_⟩
  have e := h3 j hj
  simp only [Array.getElem?_setIfInBounds]
  by_cases q : k = j
  · rw [if_pos q, if_pos q, if_pos (by omega), if_pos (by omega)]
  · rw [if_neg q, if_neg q]; exact e
theorem SE.pairs {n a : Nat} : ∀ (vs : List (Value × Nat)) (c1 c2 : Cell), SE n c1 c2 → SE n (c1.storePairs a vs) (c2.storePairs a vs)
  | [], _, _, h => h
  | p :: vs, _, _, h => SE.pairs vs _ _ h.set
theorem AR.se {cell : Cell} {cA : ClassId} {n : Nat} {V : Nat → Value} (h : AR cell cA n V) : SE n cell (arrV cA n V) := ⟨h.2.1.1, by rw [arrV_size]; exact Nat.le_refl _, fun j hj => by rw [h.read hj, arrV_read _ _ hj]⟩
theorem SE.ar {cell c0 : Cell} {cA : ClassId} {n : Nat} {V V' : Nat → Value} (hs : SE n c0 (arrV cA n V')) (h : AR cell cA n V) (h1 : c0.cls = cell.cls) (h2 : c0.vm = cell.vm) (h3 : c0.slots.size = cell.slots.size) : AR c0 cA n V' :=
  ⟨h1.trans h.1, ⟨hs.1, by rw [h3]; exact h.2.1.2.1, fun j hj => by rw [hs.2.2 j hj, arrV_read _ _ hj]⟩, by rw [h2]; exact h.2.2.1, by rw [h2]; exact h.2.2.2⟩
theorem AR.put {cell : Cell} {cA : ClassId} {n k : Nat} {x : Value} {V V' : Nat → Value} (h : AR cell cA n V) (hV : ∀ j, V' j = updV V k x j) : AR (cell.setSlot k x) cA n V' := by
  have e : V' = updV V k x := funext hV
  subst e
  refine SE.ar (cell := cell) ?_ h rfl rfl (by unfold Cell.setSlot; simp)
  rw [← arrV_store]
  exact h.se.set
def vce (D : va_G) (s : State) (kd : Nat × Nat) (a : Nat) (V : Nat → Value) (H : Heap) : Prop :=
  (kd.1 < 10 ∧ ∃ r : vw_C, vwCl[kd.1]? = some r ∧ kd.2 = r.2.2 ∧ t_OB a (D.1 kd.1) r.2.2 (D.2 kd.1) H V) ∨
  (10 ≤ kd.1 ∧ ∃ (cA : ClassId) (cell : Cell), H[a]? = some cell ∧ AR cell cA kd.2 V ∧ ArrOfT s cA (aty kd.1) ∧ (12 ≤ kd.1 → va_RA s cA (aty kd.1)))
def cV (σ : Sg) (o : Nat) (kd : Nat × Nat) : Nat → Value := fun j => sv (fk kd.1 j) (σ.2.2.1 o j) (σ.2.2.2.1 o j) (σ.2.1 o j)
/-- the heap holds the memory -/
def WD (G : GG) (σ : Sg) (s : State) (H : Heap) : Prop :=
  (∀ (o : Nat) (kd : Nat × Nat), σ.1 o = some kd → vce G.2.1 s kd (G.1 o) (cV σ o kd) H) ∧ H.size = G.2.2.1 + σ.2.2.2.2
def Aof (G : GG) : Nat → Prop := fun q => G.2.2.1 ≤ q
def GOk (G : GG) : Prop := (∀ o, o < 1000 → G.1 o = G.2.2.1 + o) ∧ (∀ o, 1000 ≤ o → G.1 o < G.2.2.1)
/-- the texts of the class's own exceptions -/
def strs : List (Nat × String) := [(220, "there is no such store"), (40, "16 calls are on their way"), (225, "out of range"), (223, "there is no such setting"), (88, "the buffer has 60 characters"), (104, "the buffer is not complete delays as a text"), (121, "there is no saved state"), (227, "place is below 0")]
/-- arrays of int arrays are there -/
def vA2 (U : State) : Prop := (Cond.arrayOver (.array .int)).before #[] U = true
theorem vA2.spec {u : State} (h : vA2 u) : ∃ comp c k, u.vm.findClass (FieldType.array .int).toString = some comp ∧ (u.vm.classes.findIdx? fun (x : Class) => match x.kind with | .array component _ => component == comp | _ => false) = some c ∧ u.vm.classes[c]? = some k ∧ k.kind = .array comp (.array .int) ∧ u.vm.findClass ("[" ++ (FieldType.array .int).toString) = some c := by
  simp only [vA2, Cond.before, Cond.holds, Cond.value, beq_iff_eq] at h
  cases hc : u.vm.findClass (FieldType.array .int).toString with
  | none => simp [hc] at h
  | some comp =>
    simp only [hc, Option.bind_some, Option.bind_eq_some_iff, Option.map_eq_some_iff] at h
    obtain ⟨c, hi, k, hk, hb⟩ := h
    obtain ⟨hlt, hp, -⟩ := Array.findIdx?_eq_some_iff_getElem.mp hi
    have hkk : u.vm.classes[c] = k := (Array.getElem?_eq_some_iff.mp hk).2
    rw [hkk] at hp
    cases hkind : k.kind with
    | array component ty =>
      rw [hkind] at hb hp
      simp only [Bool.and_eq_true, decide_eq_true_eq, beq_iff_eq] at hb hp
      exact ⟨comp, c, k, rfl, hi, hk, by rw [hkind, hp, hb.1], hb.2⟩
    | _ => rw [hkind] at hb; simp at hb
theorem vA2.moved {u U : State} (hvm : u.vm.Alike U.vm) (h : vA2 u) : vA2 U := by
  obtain ⟨comp, c, k, h1, h2, h3, h4, h5⟩ := h.spec
  obtain ⟨k', hk', he⟩ := hvm.2.2 _ _ h3
  have hi : (U.vm.classes.findIdx? fun (x : Class) => match x.kind with | .array component _ => component == comp | _ => false) = some c := by
    refine (va_idx_bare U.vm comp).symm.trans ?_
    first | rw [hvm.bare_eq] | rw [← hvm.bare_eq]
    exact (va_idx_bare u.vm comp).trans h2
  have hkind : k'.kind = .array comp (.array .int) := by rw [he]; exact h4
  have f1 : U.vm.findClass (FieldType.array .int).toString = some comp := by rw [hvm.findClass]; exact h1
  have f2 : U.vm.findClass ("[" ++ (FieldType.array .int).toString) = some c := by rw [hvm.findClass]; exact h5
  unfold vA2 Cond.before Cond.holds
  simp only [Cond.value]
  rw [f1, Option.bind_some]
  refine (congrArg (fun o : Option Nat => (o.bind (fun c => (U.vm.classes[c]?).map fun (k : Class) => match k.kind with | .array _ ty => decide (ty = FieldType.array .int) && decide (U.vm.findClass ("[" ++ (FieldType.array .int).toString) = some c) | _ => false) == some true)) hi).trans ?_
  simp [hk', hkind, f2]
/-- which exception is which, which arrays are there -/
def EXs (s : State) : Prop :=
  va_Nw (.castable "java/lang/IndexOutOfBoundsException" "java/lang/IndexOutOfBoundsException") s ∧ va_Nw (.castable "java/lang/IllegalArgumentException" "java/lang/IllegalArgumentException") s ∧ va_Nw (.castable "java/lang/IllegalStateException" "java/lang/IllegalStateException") s ∧
  True ∧ True ∧ True ∧
  va_Nw (.declares (Bundle.initS "java/lang/RuntimeException")) s ∧ va_Nw (.declares (Bundle.initS "java/lang/Exception")) s ∧ va_Nw (.declares (Bundle.initS Bundle.tN)) s ∧ va_AO RX1 s ∧ va_AO RX2 s ∧ vA2 s
/-- what stays of the start: tables, statics, texts, the launch's flag -/
def EN (G : GG) (s : State) (H : Heap) : Prop :=
  GOk G ∧ va_K G.2.1 vwCl [] s ∧ vx_Zq Bundle.tN "UNASSIGNED_STACK" Bundle.steD (Aof G) s H ∧ vx_Zq Bundle.tN "SUPPRESSED_SENTINEL" Bundle.listD (Aof G) s H ∧
  (∀ q ∈ strs, ∃ a, vk_R RX3 q.1 q.2 a s) ∧ va_Z RX3 "AT_FIRST" "[I" (.ref (G.1 1001)) (Aof G) s H ∧ va_Z RX3 "LEAST" "[I" (.ref (G.1 1002)) (Aof G) s H ∧ va_Z RX3 "MOST" "[I" (.ref (G.1 1003)) (Aof G) s H ∧
  va_Nw (.methodLinkNest RX3 25 yX0_init RX3) s ∧ va_Nw (.fieldLinkNest RX1 27 RX3 "AT_FIRST" "[I" RX3) s ∧ G.2.2.2.stackTraces = false ∧ EXs s
/-! moving and keeping -/
theorem vce_kept {D : va_G} {s : State} {kd : Nat × Nat} {a : Nat} {V : Nat → Value} {H H1 : Heap} (h : vce D s kd a V H) (hq : H1[a]? = H[a]?) : vce D s kd a V H1 := by
  rcases h with ⟨h0, r, h1, h2, h3⟩ | ⟨h0, cA, cell, h1, h2⟩
  · exact Or.inl ⟨h0, r, h1, h2, h3.kept hq⟩
  · exact Or.inr ⟨h0, cA, cell, hq.trans h1, h2⟩
theorem vce_moved {D : va_G} {s u : State} {kd : Nat × Nat} {a : Nat} {V : Nat → Value} {H : Heap} (hvm : s.vm.Alike u.vm) (h : vce D s kd a V H) : vce D u kd a V H := by
  rcases h with h | ⟨h0, cA, cell, h1, ha, h2, h3⟩
  · exact Or.inl h
  · exact Or.inr ⟨h0, cA, cell, h1, ha, arrOfT_moved hvm h2, fun q => (h3 q).moved hvm⟩
theorem vce_lt {D : va_G} {s : State} {kd : Nat × Nat} {a : Nat} {V : Nat → Value} {H : Heap} (h : vce D s kd a V H) : a < H.size := by
  rcases h with ⟨-, r, -, -, cell, h3, -⟩ | ⟨-, cA, cell, h1, -⟩
  · exact (Array.getElem?_eq_some_iff.mp h3).1
  · exact (Array.getElem?_eq_some_iff.mp h1).1
theorem WD_moved {G : GG} {σ : Sg} {s u : State} {H : Heap} (hvm : s.vm.Alike u.vm) (h : WD G σ s H) : WD G σ u H := ⟨fun o kd hk => vce_moved hvm (h.1 o kd hk), h.2⟩
theorem EN_moved {G : GG} {s u : State} {H : Heap} (hW : s.WarmedH u.vm) (h : EN G s H) : EN G u H := by
  obtain ⟨h1, h2, h3, h4, h5, h6, h7, h8, h9, h10, h11, x1, x2, x3, x4, x5, x6, x7, x8, x9, x10, x11, x12⟩ := h
  have hvm := hW.alike
  exact ⟨h1, h2.moved hvm, h3.moved hvm, h4.moved hvm, fun q hq => (h5 q hq).elim fun a ha => ⟨a, vk_R.warm hW ha⟩, h6.moved hvm, h7.moved hvm, h8.moved hvm, va_Nw.warmM hW h9, va_Nw.warmF hW h10, h11, va_Nw.warmC hW x1, va_Nw.warmC hW x2, va_Nw.warmC hW x3, x4, x5, x6, va_Nw.warmD hW x7, va_Nw.warmD hW x8, va_Nw.warmD hW x9, x10.moved hvm, x11.moved hvm, x12.moved hvm⟩
theorem EN_kept {G : GG} {s : State} {H H1 : Heap} (h : EN G s H) (hq : ∀ a : Nat, a < H.size → ¬ Aof G a → H1[a]? = H[a]?) : EN G s H1 := by
  obtain ⟨h1, h2, h3, h4, h5, h6, h7, h8, h9⟩ := h
  exact ⟨h1, h2, h3.kept hq, h4.kept hq, h5, h6.kept hq, h7.kept hq, h8.kept hq, h9⟩
theorem EN_vm {G : GG} {s u : State} {H : Heap} (hv : u.vm = s.vm) (h : EN G s H) : EN G u H := by
  refine EN_moved (s := s) (u := u) ?_ h
  rw [hv]; exact State.WarmedH.refl s
theorem Aof_new {G : GG} (hG : GOk G) {o : Nat} (ho : o < 1000) : Aof G (G.1 o) := by
  show G.2.2.1 ≤ G.1 o
  rw [hG.1 o ho]; omega
theorem ad_ne {G : GG} (hG : GOk G) {o q : Nat} (ho : o < 1000) (h : q ≠ o) : G.1 q ≠ G.1 o := by
  rw [hG.1 o ho]
  rcases Nat.lt_or_ge q 1000 with hq | hq
  · rw [hG.1 q hq]; omega
  · have := hG.2 q hq; omega
/-- one cell is written -/
theorem WD_upd {G : GG} {σ σ' : Sg} {s : State} {H H1 : Heap} {o : Nat} {kd : Nat × Nat} (hG : GOk G) (ho : o < 1000) (h : WD G σ s H) (hK : σ'.1 = σ.1) (hz : σ'.2.2.2.2 = σ.2.2.2.2) (hk : σ.1 o = some kd)
    (hne : ∀ (q : Nat) (kq : Nat × Nat), q ≠ o → cV σ' q kq = cV σ q kq) (hc : vce G.2.1 s kd (G.1 o) (cV σ' o kd) H1) (z : H1.size = H.size) (oq : ∀ q : Nat, q ≠ G.1 o → H1[q]? = H[q]?) : WD G σ' s H1 := by
  refine ⟨fun q kq hq => ?_, by rw [z, hz]; exact h.2⟩
  rw [hK] at hq
  by_cases e : q = o
  · subst e
    cases Option.some.inj (hk.symm.trans hq)
    exact hc
  · rw [hne q kq e]
    exact vce_kept (h.1 q kq hq) (oq _ (ad_ne hG ho e))
/-! the classes' own facts -/
theorem cl_in : ∀ (c : Nat) (r : vw_C), vwCl[c]? = some r → ∀ w ∈ u_ws r.1 r.2.1 r.2.2, w ∈ gT := by
  have h : ∀ r ∈ vwCl, ∀ w ∈ u_ws r.1 r.2.1 r.2.2, w ∈ lw_tbl ∧ goodWord w = true := by decide +kernel
  intro c r hr w hw
  obtain ⟨h1, h2⟩ := h r (List.mem_of_getElem? hr) w hw
  exact gT_in h1 h2
def fty : Nat → Nat → FieldType
  | 0 => tyX0
  | 1 => tyX1
  | 2 => tyX2
  | 3 => tyX3
  | _ => tyX4
theorem cl_ty {c : Nat} {r : vw_C} (hr : vwCl[c]? = some r) : ∀ k, k < r.2.2 → parseFieldDescriptor (r.2.1 k).2.2.1 = some (fty c k) := by
  match c, hr with
  | 0, hr => cases hr; exact tyX0_ok
  | 1, hr => cases hr; exact tyX1_ok
  | 2, hr => cases hr; exact tyX2_ok
  | 3, hr => cases hr; exact tyX3_ok
  | c + 4, hr => simp [vwCl] at hr
theorem cl_nm {c : Nat} {r : vw_C} (hr : vwCl[c]? = some r) : ∀ a, a < r.2.2 → ∀ b, b < r.2.2 → a ≠ b → (r.2.1 a).2.1 ≠ (r.2.1 b).2.1 := by
  match c, hr with
  | 0, hr => cases hr; exact nmX0
  | 1, hr => cases hr; exact nmX1
  | 2, hr => cases hr; exact nmX2
  | 3, hr => cases hr; exact nmX3
  | c + 4, hr => simp [vwCl] at hr
/-- entry idx of own's pool names field j of class c -/
def FL (own : String) (idx c j : Nat) : Prop := ∃ r : vw_C, vwCl[c]? = some r ∧ j < r.2.2 ∧ Cond.fieldLink own idx (r.2.1 j).1 (r.2.1 j).2.1 (r.2.1 j).2.2.1 ∈ gT
/-! the walk: from here the method comes to its end -/
/-- what a walk may use: the machine, the code, the words, the start's facts -/
def CX (G : GG) (y : YY) (p : Program) (s : State) (m : MethodId) (args : Array Value) (meth : Method) (c : Code) : Prop :=
  p.tables.exec = Jvm.exec ∧ c.code = y.2.1 ∧ c.maxLocals = y.2.2.1 ∧ meth.sig.returnType = y.2.2.2.1 ∧ meth.locks = false ∧ (∀ w ∈ gT, w.before args s = true) ∧ s.vm.findClass y.1.cls = some m.cls ∧ EN G s s.heap ∧ meth.name = y.1.name ∧ c.exceptionTable.toList = tableOf y.2.2.2.2.2
abbrev ZT : Type := List Frame → Array Value → State → State → Prop
def AW (G : GG) (y : YY) (Z : ZT) (pc : Nat) (ls : List (Nat × Value)) (st : List Value) (σ : Sg) (cu su : Nat) : Prop :=
  ∀ (p : Program) (e : Env) (s : State) (m : MethodId) (args : Array Value) (below : List Frame) (meth : Method) (c : Code) (H : Heap) (locs : List Loc) (lsa : Array Slot),
    CX G y p s m args meth c → WD G σ s H → va_S (Aof G) s.heap H locs → lv_has lsa y.2.2.1 ls → W p G.2.2.2 e y.2.2.2.2.1 s m args below meth c H locs cu su (Z below args s) (F0 m pc lsa st)
def Qn (G : GG) (Q : RT → Sg → Prop) : Array Value → State → Outcome → State → Prop := fun _ st oc t => (∃ v σ', oc = .returned v ∧ Q (.inl v) σ' ∧ WD G σ' t t.heap) ∧ va_F (Aof G) st t
def Qx (G : GG) (Q : RT → Sg → Prop) : String → State → State → Prop := fun E st t => ∃ σ', Q (.inr E) σ' ∧ WD G σ' t t.heap ∧ va_F (Aof G) st t
def MZ (G : GG) (y : YY) (Q : RT → Sg → Prop) : ZT := fun below args s => vx_MQ below (Qn G Q) (Qx G Q) args s y.2.2.2.2.1.cells y.2.2.2.2.1.slots (Aof G)
def PcW (G : GG) (av : List Value) (σ : Sg) : Array Value → State → Prop := va_Pc av (fun U => EN G U U.heap ∧ WD G σ U U.heap)
/-- called with av over the memory σ, y ends with Q -/
def Run (G : GG) (y : YY) (av : List Value) (σ : Sg) (Q : RT → Sg → Prop) : Prop :=
  vx_Met G.2.2.2 y.1 (.code y.1 y.2.1 y.2.2.1 y.2.2.2.1 :: gT) y.2.2.2.2.1 (PcW G av σ) (Qn G Q) (Qx G Q) y.2.2.2.2.1.cells y.2.2.2.2.1.slots (Aof G)
theorem PcW_blind (G : GG) (av : List Value) (σ : Sg) : FrameBlind (PcW G av σ) := by
  intro a U g mk h
  obtain ⟨h1, h2, h3⟩ := h
  exact ⟨h1, EN_vm (s := U) (u := U.calling g mk a) rfl h2, WD_moved (s := U) (u := U.calling g mk a) (Vm.Alike.refl U.vm) h3⟩
/-- a method's contract out of its walk -/
theorem run_of {G : GG} {y : YY} {av : List Value} {σ : Sg} {Q : RT → Sg → Prop} (hy : plainName y.1.cls = true) (htb : y.2.2.2.2.2 = []) {ls : List (Nat × Value)} (hls : lv_args 0 av = ls) (hn : (lg_sl av).length ≤ y.2.2.1) (h : AW G y (MZ G y Q) 0 ls [] σ 0 0) : Run G y av σ Q := by
  refine vx_ofW (cc := y.2.1) (maxL := y.2.2.1) (ret := y.2.2.2.1) hy rfl ?_
  intro p e s m args below meth c s₁ B hml htab hv
  obtain ⟨rfl, hE, hW⟩ := hv
  have hts := atoms_spec (ws := .code y.1 y.2.1 y.2.2.1 y.2.2.2.1 :: gT) B.pre
  have hl := lv_entry av (n := y.2.2.1) hn
  rw [lg_entry_eq]
  rw [hls] at hl
  refine h p e s m av.toArray below meth c s.heap [] _ ⟨B.exec, B.bytes, hml, B.returns, B.notSynchronized, fun w hw => hts w (List.mem_cons_of_mem _ hw), findClass_of_methodNamed B.named, hE, (name_of_methodNamed B.named B.method).1, ?_⟩ hW va_S.rf hl
  rw [htb]
  cases hx : c.exceptionTable.toList with
  | nil => rfl
  | cons x l => exact (htab x (by rw [hx]; exact List.mem_cons_self)).elim
