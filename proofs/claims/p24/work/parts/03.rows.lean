/-! THE ROWS: one instruction, over the memory -/
def lget : List (Nat × Value) → Nat → Option Value
  | [], _ => none
  | (i, v) :: r, k => if i = k then some v else lget r k
theorem lget_mem : ∀ {ls : List (Nat × Value)} {k : Nat} {v : Value}, lget ls k = some v → (k, v) ∈ ls
  | [], k, v, h => by simp [lget] at h
  | (i, w) :: r, k, v, h => by
    unfold lget at h
    by_cases e : i = k
    · rw [if_pos e] at h
      cases h; subst e
      exact List.mem_cons_self
    · rw [if_neg e] at h
      exact List.mem_cons_of_mem _ (lget_mem h)
theorem lget_at {lsa : Array Slot} {n : Nat} {ls : List (Nat × Value)} {k : Nat} {v : Value} (L : lv_has lsa n ls) (h : lget ls k = some v) : lsa[k]? = some (.val v) := L.2.2 (k, v) (lget_mem h)
def lset (ls : List (Nat × Value)) (i : Nat) (v : Value) : List (Nat × Value) := (i, v) :: ls.filter (fun q => !(q.1 == i) && !(q.1 + 1 == i && q.2.category == 2))
def lset2 (ls : List (Nat × Value)) (i : Nat) (v : Value) : List (Nat × Value) := (i, v) :: ls.filter (fun q => !(q.1 == i) && (!(q.1 == i + 1) && !(q.1 + 1 == i && q.2.category == 2)))
/-- ints written: at cell o, slot j -/
def up2 (I : Nat → Nat → Int32) (o j : Nat) (x : Int32) : Nat → Nat → Int32 := fun q k => if q = o ∧ k = j then x else I q k
def upJ (J : Nat → Nat → Int64) (o j : Nat) (x : Int64) : Nat → Nat → Int64 := fun q k => if q = o ∧ k = j then x else J q k
def upR (R : Nat → Nat → Value) (o j : Nat) (x : Value) : Nat → Nat → Value := fun q k => if q = o ∧ k = j then x else R q k
def upK (K : Nat → Option (Nat × Nat)) (o : Nat) (x : Nat × Nat) : Nat → Option (Nat × Nat) := fun q => if q = o then some x else K q
section ROWS
variable {G : GG} {y : YY} {Z : ZT} {pc : Nat} {ls ls' : List (Nat × Value)} {st : List Value} {σ : Sg} {K : Nat → Option (Nat × Nat)} {R : Nat → Nat → Value} {I : Nat → Nat → Int32} {J : Nat → Nat → Int64} {z cu su : Nat}
theorem aw_iconst {n : Int} {v : Int32} (hd : decode y.2.1 pc = .ok (.iconst n, 1)) (hv : Int32.ofInt n = v) (kk : AW G y Z (pc + 1) ls (.int v :: st) σ cu su) : AW G y Z pc ls (st) σ cu su := by
  intro p e s m args below meth c H locs lsa C V S L
  exact lv_iconst C.1 C.2.1 hd hv (kk p e s m args below meth c H locs lsa C V S L)
theorem aw_bipush {n : Int} {v : Int32} (hd : decode y.2.1 pc = .ok (.bipush n, 2)) (hv : (Int8.ofInt n).toInt32 = v) (kk : AW G y Z (pc + 2) ls (.int v :: st) σ cu su) : AW G y Z pc ls (st) σ cu su := by
  intro p e s m args below meth c H locs lsa C V S L
  exact lv_bipush C.1 C.2.1 hd hv (kk p e s m args below meth c H locs lsa C V S L)
theorem aw_sipush {n : Int} {v : Int32} (hd : decode y.2.1 pc = .ok (.sipush n, 3)) (hv : (Int16.ofInt n).toInt32 = v) (kk : AW G y Z (pc + 3) ls (.int v :: st) σ cu su) : AW G y Z pc ls (st) σ cu su := by
  intro p e s m args below meth c H locs lsa C V S L
  exact lv_sipush C.1 C.2.1 hd hv (kk p e s m args below meth c H locs lsa C V S L)
theorem aw_lconst {n : Fin 2} {v : Int64} (hd : decode y.2.1 pc = .ok (.lconst n, 1)) (hv : Int64.ofNat (n : Nat) = v) (kk : AW G y Z (pc + 1) ls (.long v :: st) σ cu su) : AW G y Z pc ls (st) σ cu su := by
  intro p e s m args below meth c H locs lsa C V S L
  exact lv_lconst C.1 C.2.1 hd hv (kk p e s m args below meth c H locs lsa C V S L)
theorem aw_dconst0  (hd : decode y.2.1 pc = .ok (.dconst 0, 1))  (kk : AW G y Z (pc + 1) ls (.double FP.dconst0 :: st) σ cu su) : AW G y Z pc ls (st) σ cu su := by
  intro p e s m args below meth c H locs lsa C V S L
  exact lv_dconst0 C.1 C.2.1 hd  (kk p e s m args below meth c H locs lsa C V S L)
theorem aw_dconst1  (hd : decode y.2.1 pc = .ok (.dconst 1, 1))  (kk : AW G y Z (pc + 1) ls (.double FP.dconst1 :: st) σ cu su) : AW G y Z pc ls (st) σ cu su := by
  intro p e s m args below meth c H locs lsa C V S L
  exact lv_dconst1 C.1 C.2.1 hd  (kk p e s m args below meth c H locs lsa C V S L)
theorem aw_iload_n {k : Fin 4} {x : Int32} (hd : decode y.2.1 pc = .ok (.iload_n k, 1)) (h : lget ls k = some (.int x)) (kk : AW G y Z (pc + 1) ls (.int x :: st) σ cu su) : AW G y Z pc ls (st) σ cu su := by
  intro p e s m args below meth c H locs lsa C V S L
  exact lv_iload_n C.1 C.2.1 hd rfl (lget_at L h) (kk p e s m args below meth c H locs lsa C V S L)
theorem aw_iload {k : Nat} {x : Int32} (hd : decode y.2.1 pc = .ok (.iload k, 2)) (h : lget ls k = some (.int x)) (kk : AW G y Z (pc + 2) ls (.int x :: st) σ cu su) : AW G y Z pc ls (st) σ cu su := by
  intro p e s m args below meth c H locs lsa C V S L
  exact lv_iload C.1 C.2.1 hd (lget_at L h) (kk p e s m args below meth c H locs lsa C V S L)
theorem aw_lload_n {k : Fin 4} {x : Int64} (hd : decode y.2.1 pc = .ok (.lload_n k, 1)) (h : lget ls k = some (.long x)) (kk : AW G y Z (pc + 1) ls (.long x :: st) σ cu su) : AW G y Z pc ls (st) σ cu su := by
  intro p e s m args below meth c H locs lsa C V S L
  exact lv_lload_n C.1 C.2.1 hd rfl (lget_at L h) (kk p e s m args below meth c H locs lsa C V S L)
theorem aw_lload {k : Nat} {x : Int64} (hd : decode y.2.1 pc = .ok (.lload k, 2)) (h : lget ls k = some (.long x)) (kk : AW G y Z (pc + 2) ls (.long x :: st) σ cu su) : AW G y Z pc ls (st) σ cu su := by
  intro p e s m args below meth c H locs lsa C V S L
  exact lv_lload C.1 C.2.1 hd (lget_at L h) (kk p e s m args below meth c H locs lsa C V S L)
theorem aw_dload_n {k : Fin 4} {x : UInt64} (hd : decode y.2.1 pc = .ok (.dload_n k, 1)) (h : lget ls k = some (.double x)) (kk : AW G y Z (pc + 1) ls (.double x :: st) σ cu su) : AW G y Z pc ls (st) σ cu su := by
  intro p e s m args below meth c H locs lsa C V S L
  exact lv_dload_n C.1 C.2.1 hd rfl (lget_at L h) (kk p e s m args below meth c H locs lsa C V S L)
theorem aw_dload {k : Nat} {x : UInt64} (hd : decode y.2.1 pc = .ok (.dload k, 2)) (h : lget ls k = some (.double x)) (kk : AW G y Z (pc + 2) ls (.double x :: st) σ cu su) : AW G y Z pc ls (st) σ cu su := by
  intro p e s m args below meth c H locs lsa C V S L
  exact lv_dload C.1 C.2.1 hd (lget_at L h) (kk p e s m args below meth c H locs lsa C V S L)
theorem aw_aload_n {k : Fin 4} {x : Nat} (hd : decode y.2.1 pc = .ok (.aload_n k, 1)) (h : lget ls k = some (.ref x)) (kk : AW G y Z (pc + 1) ls (.ref x :: st) σ cu su) : AW G y Z pc ls (st) σ cu su := by
  intro p e s m args below meth c H locs lsa C V S L
  exact lv_aload_n C.1 C.2.1 hd rfl (lget_at L h) (kk p e s m args below meth c H locs lsa C V S L)
theorem aw_aload {k : Nat} {x : Nat} (hd : decode y.2.1 pc = .ok (.aload k, 2)) (h : lget ls k = some (.ref x)) (kk : AW G y Z (pc + 2) ls (.ref x :: st) σ cu su) : AW G y Z pc ls (st) σ cu su := by
  intro p e s m args below meth c H locs lsa C V S L
  exact lv_aload C.1 C.2.1 hd (lget_at L h) (kk p e s m args below meth c H locs lsa C V S L)
theorem aw_istore_n {k : Fin 4} {x : Int32} (hd : decode y.2.1 pc = .ok (.istore_n k, 1)) (hn : (k : Nat) < y.2.2.1) (hl : lset ls (k : Nat) (.int x) = ls') (kk : AW G y Z (pc + 1) ls' st σ cu su) : AW G y Z pc ls (.int x :: st) σ cu su := by
  intro p e s m args below meth c H locs lsa C V S L
  exact lv_istore_n C.1 C.2.1 hd rfl L hn hl (fun lsb L' => kk p e s m args below meth c H locs lsb C V S L')
theorem aw_istore {k : Nat} {x : Int32} (hd : decode y.2.1 pc = .ok (.istore k, 2)) (hn : k < y.2.2.1) (hl : lset ls k (.int x) = ls') (kk : AW G y Z (pc + 2) ls' st σ cu su) : AW G y Z pc ls (.int x :: st) σ cu su := by
  intro p e s m args below meth c H locs lsa C V S L
  exact lv_istore C.1 C.2.1 hd L hn hl (fun lsb L' => kk p e s m args below meth c H locs lsb C V S L')
theorem aw_lstore_n {k : Fin 4} {x : Int64} (hd : decode y.2.1 pc = .ok (.lstore_n k, 1)) (hn : (k : Nat) + 1 < y.2.2.1) (hl : lset2 ls (k : Nat) (.long x) = ls') (kk : AW G y Z (pc + 1) ls' st σ cu su) : AW G y Z pc ls (.long x :: st) σ cu su := by
  intro p e s m args below meth c H locs lsa C V S L
  exact lv_lstore_n C.1 C.2.1 hd rfl L hn hl (fun lsb L' => kk p e s m args below meth c H locs lsb C V S L')
theorem aw_lstore {k : Nat} {x : Int64} (hd : decode y.2.1 pc = .ok (.lstore k, 2)) (hn : k + 1 < y.2.2.1) (hl : lset2 ls k (.long x) = ls') (kk : AW G y Z (pc + 2) ls' st σ cu su) : AW G y Z pc ls (.long x :: st) σ cu su := by
  intro p e s m args below meth c H locs lsa C V S L
  exact lv_lstore C.1 C.2.1 hd L hn hl (fun lsb L' => kk p e s m args below meth c H locs lsb C V S L')
theorem aw_dstore_n {k : Fin 4} {x : UInt64} (hd : decode y.2.1 pc = .ok (.dstore_n k, 1)) (hn : (k : Nat) + 1 < y.2.2.1) (hl : lset2 ls (k : Nat) (.double x) = ls') (kk : AW G y Z (pc + 1) ls' st σ cu su) : AW G y Z pc ls (.double x :: st) σ cu su := by
  intro p e s m args below meth c H locs lsa C V S L
  exact lv_dstore_n C.1 C.2.1 hd rfl L hn hl (fun lsb L' => kk p e s m args below meth c H locs lsb C V S L')
theorem aw_dstore {k : Nat} {x : UInt64} (hd : decode y.2.1 pc = .ok (.dstore k, 2)) (hn : k + 1 < y.2.2.1) (hl : lset2 ls k (.double x) = ls') (kk : AW G y Z (pc + 2) ls' st σ cu su) : AW G y Z pc ls (.double x :: st) σ cu su := by
  intro p e s m args below meth c H locs lsa C V S L
  exact lv_dstore C.1 C.2.1 hd L hn hl (fun lsb L' => kk p e s m args below meth c H locs lsb C V S L')
theorem aw_astore_n {k : Fin 4} {x : Nat} (hd : decode y.2.1 pc = .ok (.astore_n k, 1)) (hn : (k : Nat) < y.2.2.1) (hl : lset ls (k : Nat) (.ref x) = ls') (kk : AW G y Z (pc + 1) ls' st σ cu su) : AW G y Z pc ls (.ref x :: st) σ cu su := by
  intro p e s m args below meth c H locs lsa C V S L
  exact lv_astore_n C.1 C.2.1 hd rfl L hn hl (fun lsb L' => kk p e s m args below meth c H locs lsb C V S L')
theorem aw_astore {k : Nat} {x : Nat} (hd : decode y.2.1 pc = .ok (.astore k, 2)) (hn : k < y.2.2.1) (hl : lset ls k (.ref x) = ls') (kk : AW G y Z (pc + 2) ls' st σ cu su) : AW G y Z pc ls (.ref x :: st) σ cu su := by
  intro p e s m args below meth c H locs lsa C V S L
  exact lv_astore C.1 C.2.1 hd L hn hl (fun lsb L' => kk p e s m args below meth c H locs lsb C V S L')
theorem aw_iinc {i : Nat} {n : Int} {x v : Int32} (hd : decode y.2.1 pc = .ok (.iinc i n, 3)) (h : lget ls i = some (.int x)) (hv : x + Int32.ofInt n = v) (hn : i < y.2.2.1) (hl : lset ls i (.int v) = ls') (kk : AW G y Z (pc + 3) ls' st σ cu su) : AW G y Z pc ls st σ cu su := by
  intro p e s m args below meth c H locs lsa C V S L
  obtain ⟨k, hk⟩ := List.getElem?_of_mem (lget_mem h)
  exact lv_iinc (k := k) (v := v) C.1 C.2.1 hd L hk hv hn hl (fun lsb L' => kk p e s m args below meth c H locs lsb C V S L')
theorem aw_iadd {x y1 : Int32} (hd : decode y.2.1 pc = .ok (.iadd, 1))  (kk : AW G y Z (pc + 1) ls (.int (x + y1) :: st) σ cu su) : AW G y Z pc ls (.int y1 :: .int x :: st) σ cu su := by
  intro p e s m args below meth c H locs lsa C V S L
  exact lv_iadd C.1 C.2.1 hd  (kk p e s m args below meth c H locs lsa C V S L)
theorem aw_isub {x y1 : Int32} (hd : decode y.2.1 pc = .ok (.isub, 1))  (kk : AW G y Z (pc + 1) ls (.int (x - y1) :: st) σ cu su) : AW G y Z pc ls (.int y1 :: .int x :: st) σ cu su := by
  intro p e s m args below meth c H locs lsa C V S L
  exact lv_isub C.1 C.2.1 hd  (kk p e s m args below meth c H locs lsa C V S L)
theorem aw_imul {x y1 : Int32} (hd : decode y.2.1 pc = .ok (.imul, 1))  (kk : AW G y Z (pc + 1) ls (.int (x * y1) :: st) σ cu su) : AW G y Z pc ls (.int y1 :: .int x :: st) σ cu su := by
  intro p e s m args below meth c H locs lsa C V S L
  exact lv_imul C.1 C.2.1 hd  (kk p e s m args below meth c H locs lsa C V S L)
theorem aw_iand {x y1 : Int32} (hd : decode y.2.1 pc = .ok (.iand, 1))  (kk : AW G y Z (pc + 1) ls (.int (x &&& y1) :: st) σ cu su) : AW G y Z pc ls (.int y1 :: .int x :: st) σ cu su := by
  intro p e s m args below meth c H locs lsa C V S L
  exact lv_iand C.1 C.2.1 hd  (kk p e s m args below meth c H locs lsa C V S L)
theorem aw_ior {x y1 : Int32} (hd : decode y.2.1 pc = .ok (.ior, 1))  (kk : AW G y Z (pc + 1) ls (.int (x ||| y1) :: st) σ cu su) : AW G y Z pc ls (.int y1 :: .int x :: st) σ cu su := by
  intro p e s m args below meth c H locs lsa C V S L
  exact lv_ior C.1 C.2.1 hd  (kk p e s m args below meth c H locs lsa C V S L)
theorem aw_ishl {x y1 : Int32} (hd : decode y.2.1 pc = .ok (.ishl, 1))  (kk : AW G y Z (pc + 1) ls (.int (x <<< (y1 &&& 31)) :: st) σ cu su) : AW G y Z pc ls (.int y1 :: .int x :: st) σ cu su := by
  intro p e s m args below meth c H locs lsa C V S L
  exact lv_ishl C.1 C.2.1 hd  (kk p e s m args below meth c H locs lsa C V S L)
theorem aw_ishr {x y1 : Int32} (hd : decode y.2.1 pc = .ok (.ishr, 1))  (kk : AW G y Z (pc + 1) ls (.int (x >>> (y1 &&& 31)) :: st) σ cu su) : AW G y Z pc ls (.int y1 :: .int x :: st) σ cu su := by
  intro p e s m args below meth c H locs lsa C V S L
  exact lv_ishr C.1 C.2.1 hd  (kk p e s m args below meth c H locs lsa C V S L)
theorem aw_iushr {x y1 : Int32} (hd : decode y.2.1 pc = .ok (.iushr, 1))  (kk : AW G y Z (pc + 1) ls (.int ((x.toUInt32 >>> (y1.toUInt32 &&& Int32.toUInt32 31)).toInt32) :: st) σ cu su) : AW G y Z pc ls (.int y1 :: .int x :: st) σ cu su := by
  intro p e s m args below meth c H locs lsa C V S L
  exact lv_iushr C.1 C.2.1 hd rfl (kk p e s m args below meth c H locs lsa C V S L)
theorem aw_idiv {x y1 : Int32} (hd : decode y.2.1 pc = .ok (.idiv, 1)) (hne : ¬ y1 = 0) (kk : AW G y Z (pc + 1) ls (.int (x / y1) :: st) σ cu su) : AW G y Z pc ls (.int y1 :: .int x :: st) σ cu su := by
  intro p e s m args below meth c H locs lsa C V S L
  exact lv_idiv C.1 C.2.1 hd hne (kk p e s m args below meth c H locs lsa C V S L)
theorem aw_irem {x y1 : Int32} (hd : decode y.2.1 pc = .ok (.irem, 1)) (hne : ¬ y1 = 0) (kk : AW G y Z (pc + 1) ls (.int (x - x / y1 * y1) :: st) σ cu su) : AW G y Z pc ls (.int y1 :: .int x :: st) σ cu su := by
  intro p e s m args below meth c H locs lsa C V S L
  exact lv_irem C.1 C.2.1 hd hne (kk p e s m args below meth c H locs lsa C V S L)
theorem aw_ladd {x y1 : Int64} (hd : decode y.2.1 pc = .ok (.ladd, 1))  (kk : AW G y Z (pc + 1) ls (.long (x + y1) :: st) σ cu su) : AW G y Z pc ls (.long y1 :: .long x :: st) σ cu su := by
  intro p e s m args below meth c H locs lsa C V S L
  exact lv_ladd C.1 C.2.1 hd  (kk p e s m args below meth c H locs lsa C V S L)
theorem aw_lsub {x y1 : Int64} (hd : decode y.2.1 pc = .ok (.lsub, 1))  (kk : AW G y Z (pc + 1) ls (.long (x - y1) :: st) σ cu su) : AW G y Z pc ls (.long y1 :: .long x :: st) σ cu su := by
  intro p e s m args below meth c H locs lsa C V S L
  exact lv_lsub C.1 C.2.1 hd  (kk p e s m args below meth c H locs lsa C V S L)
theorem aw_lmul {x y1 : Int64} (hd : decode y.2.1 pc = .ok (.lmul, 1))  (kk : AW G y Z (pc + 1) ls (.long (x * y1) :: st) σ cu su) : AW G y Z pc ls (.long y1 :: .long x :: st) σ cu su := by
  intro p e s m args below meth c H locs lsa C V S L
  exact lv_lmul C.1 C.2.1 hd  (kk p e s m args below meth c H locs lsa C V S L)
theorem aw_lshl {x : Int64} {y1 : Int32} (hd : decode y.2.1 pc = .ok (.lshl, 1))  (kk : AW G y Z (pc + 1) ls (.long (x <<< (y1.toInt64 &&& 63)) :: st) σ cu su) : AW G y Z pc ls (.int y1 :: .long x :: st) σ cu su := by
  intro p e s m args below meth c H locs lsa C V S L
  exact lv_lshl C.1 C.2.1 hd rfl (kk p e s m args below meth c H locs lsa C V S L)
theorem aw_i2l {x : Int32} (hd : decode y.2.1 pc = .ok (.i2l, 1))  (kk : AW G y Z (pc + 1) ls (.long x.toInt64 :: st) σ cu su) : AW G y Z pc ls (.int x :: st) σ cu su := by
  intro p e s m args below meth c H locs lsa C V S L
  exact lv_i2l C.1 C.2.1 hd rfl (kk p e s m args below meth c H locs lsa C V S L)
theorem aw_i2d {x : Int32} (hd : decode y.2.1 pc = .ok (.i2d, 1))  (kk : AW G y Z (pc + 1) ls (.double (FP.i2d x) :: st) σ cu su) : AW G y Z pc ls (.int x :: st) σ cu su := by
  intro p e s m args below meth c H locs lsa C V S L
  exact lv_i2d C.1 C.2.1 hd  (kk p e s m args below meth c H locs lsa C V S L)
theorem aw_d2l {x : UInt64} (hd : decode y.2.1 pc = .ok (.d2l, 1))  (kk : AW G y Z (pc + 1) ls (.long (FP.d2l x) :: st) σ cu su) : AW G y Z pc ls (.double x :: st) σ cu su := by
  intro p e s m args below meth c H locs lsa C V S L
  exact lv_d2l C.1 C.2.1 hd  (kk p e s m args below meth c H locs lsa C V S L)
theorem aw_lcmp {x y1 : Int64} (hd : decode y.2.1 pc = .ok (.lcmp, 1))  (kk : AW G y Z (pc + 1) ls (.int (lg_cmp x y1) :: st) σ cu su) : AW G y Z pc ls (.long y1 :: .long x :: st) σ cu su := by
  intro p e s m args below meth c H locs lsa C V S L
  exact W.lcmp C.1 C.2.1 hd  (kk p e s m args below meth c H locs lsa C V S L)
theorem aw_dcmp {x y1 : UInt64} {op : CmpOp} (hd : decode y.2.1 pc = .ok (.dcmp op, 1))  (kk : AW G y Z (pc + 1) ls (.int (Op.cmpValue (FP.dcmp x y1) op) :: st) σ cu su) : AW G y Z pc ls (.double y1 :: .double x :: st) σ cu su := by
  intro p e s m args below meth c H locs lsa C V S L
  exact lv_dcmp C.1 C.2.1 hd  (kk p e s m args below meth c H locs lsa C V S L)
theorem aw_ddiv {x y1 : UInt64} (hd : decode y.2.1 pc = .ok (.ddiv, 1)) (hne : vf_n64 (FP.ddiv x y1)) (kk : AW G y Z (pc + 1) ls (.double (FP.ddiv x y1) :: st) σ cu su) : AW G y Z pc ls (.double y1 :: .double x :: st) σ cu su := by
  intro p e s m args below meth c H locs lsa C V S L
  exact lv_ddiv C.1 C.2.1 hd hne (kk p e s m args below meth c H locs lsa C V S L)
theorem aw_dmul {x y1 : UInt64} (hd : decode y.2.1 pc = .ok (.dmul, 1)) (hne : vf_n64 (FP.dmul x y1)) (kk : AW G y Z (pc + 1) ls (.double (FP.dmul x y1) :: st) σ cu su) : AW G y Z pc ls (.double y1 :: .double x :: st) σ cu su := by
  intro p e s m args below meth c H locs lsa C V S L
  exact lv_dmul C.1 C.2.1 hd hne (kk p e s m args below meth c H locs lsa C V S L)
theorem aw_dsub {x y1 : UInt64} (hd : decode y.2.1 pc = .ok (.dsub, 1)) (hne : vf_n64 (FP.dsub x y1)) (kk : AW G y Z (pc + 1) ls (.double (FP.dsub x y1) :: st) σ cu su) : AW G y Z pc ls (.double y1 :: .double x :: st) σ cu su := by
  intro p e s m args below meth c H locs lsa C V S L
  exact lv_dsub C.1 C.2.1 hd hne (kk p e s m args below meth c H locs lsa C V S L)
theorem aw_dup {va : Value} (hd : decode y.2.1 pc = .ok (.dup, 1)) (hva : va.category = 1) (kk : AW G y Z (pc + 1) ls (va :: va :: st) σ cu su) : AW G y Z pc ls (va :: st) σ cu su := by
  intro p e s m args below meth c H locs lsa C V S L
  exact lv_dup C.1 C.2.1 hd hva (kk p e s m args below meth c H locs lsa C V S L)
theorem aw_pop {va : Value} (hd : decode y.2.1 pc = .ok (.pop, 1)) (hva : va.category = 1) (kk : AW G y Z (pc + 1) ls (st) σ cu su) : AW G y Z pc ls (va :: st) σ cu su := by
  intro p e s m args below meth c H locs lsa C V S L
  exact lv_pop C.1 C.2.1 hd hva (kk p e s m args below meth c H locs lsa C V S L)
theorem aw_dup2 {va vb : Value} (hd : decode y.2.1 pc = .ok (.dup2, 1)) (hva : va.category = 1) (hvb : vb.category = 1) (kk : AW G y Z (pc + 1) ls (va :: vb :: va :: vb :: st) σ cu su) : AW G y Z pc ls (va :: vb :: st) σ cu su := by
  intro p e s m args below meth c H locs lsa C V S L
  exact lv_dup2_11 C.1 C.2.1 hd hva hvb (kk p e s m args below meth c H locs lsa C V S L)
theorem aw_ldc {i : Nat} {v : Int32} (hd : decode y.2.1 pc = .ok (.ldc i, 2)) (hc : Cond.constant y.1.cls i v ∈ gT) (kk : AW G y Z (pc + 2) ls (.int v :: st) σ cu su) : AW G y Z pc ls st σ cu su := by
  intro p e s m args below meth c H locs lsa C V S L
  exact lv_ldc C.1 C.2.1 C.2.2.2.2.2.2.1 (C.2.2.2.2.2.1 _ hc) hd (kk p e s m args below meth c H locs lsa C V S L)
theorem aw_ldcw {i : Nat} {v : Int32} (hd : decode y.2.1 pc = .ok (.ldc_w i, 3)) (hc : Cond.constant y.1.cls i v ∈ gT) (kk : AW G y Z (pc + 3) ls (.int v :: st) σ cu su) : AW G y Z pc ls st σ cu su := by
  intro p e s m args below meth c H locs lsa C V S L
  exact lv_ldcw C.1 C.2.1 C.2.2.2.2.2.2.1 (C.2.2.2.2.2.1 _ hc) hd (kk p e s m args below meth c H locs lsa C V S L)
theorem aw_ldc2 {i : Nat} {v : Int64} (hd : decode y.2.1 pc = .ok (.ldc2_w i, 3)) (hc : Cond.constantLong y.1.cls i v ∈ gT) (kk : AW G y Z (pc + 3) ls (.long v :: st) σ cu su) : AW G y Z pc ls st σ cu su := by
  intro p e s m args below meth c H locs lsa C V S L
  exact lv_ldc2 C.1 C.2.1 C.2.2.2.2.2.2.1 (C.2.2.2.2.2.1 _ hc) hd (kk p e s m args below meth c H locs lsa C V S L)
theorem aw_ldc2d {i : Nat} {v : UInt64} (hd : decode y.2.1 pc = .ok (.ldc2_w i, 3)) (hc : Cond.constantDouble y.1.cls i v ∈ gT) (kk : AW G y Z (pc + 3) ls (.double v :: st) σ cu su) : AW G y Z pc ls st σ cu su := by
  intro p e s m args below meth c H locs lsa C V S L
  exact lv_ldc2d C.1 C.2.1 C.2.2.2.2.2.2.1 (C.2.2.2.2.2.1 _ hc) hd (kk p e s m args below meth c H locs lsa C V S L)
theorem aw_if_eq {x : Int32} {off : Int} {tgt : Nat} (hd : decode y.2.1 pc = .ok (.ifCond .eq off, 3)) (ht : (pc : Int) + off = (tgt : Int)) (kt : x = 0 → AW G y Z tgt ls st σ cu su) (kf : ¬ x = 0 → AW G y Z (pc + 3) ls st σ cu su) : AW G y Z pc ls (.int x :: st) σ cu su := by
  intro p e s m args below meth c H locs lsa C V S L
  exact lv_if_eq C.1 C.2.1 hd ht (fun q => kt q p e s m args below meth c H locs lsa C V S L) (fun q => kf q p e s m args below meth c H locs lsa C V S L)
theorem aw_if_ne {x : Int32} {off : Int} {tgt : Nat} (hd : decode y.2.1 pc = .ok (.ifCond .ne off, 3)) (ht : (pc : Int) + off = (tgt : Int)) (kt : ¬ x = 0 → AW G y Z tgt ls st σ cu su) (kf : x = 0 → AW G y Z (pc + 3) ls st σ cu su) : AW G y Z pc ls (.int x :: st) σ cu su := by
  intro p e s m args below meth c H locs lsa C V S L
  exact lv_if_ne C.1 C.2.1 hd ht (fun q => kt q p e s m args below meth c H locs lsa C V S L) (fun q => kf q p e s m args below meth c H locs lsa C V S L)
theorem aw_if_lt {x : Int32} {off : Int} {tgt : Nat} (hd : decode y.2.1 pc = .ok (.ifCond .lt off, 3)) (ht : (pc : Int) + off = (tgt : Int)) (kt : x < 0 → AW G y Z tgt ls st σ cu su) (kf : ¬ x < 0 → AW G y Z (pc + 3) ls st σ cu su) : AW G y Z pc ls (.int x :: st) σ cu su := by
  intro p e s m args below meth c H locs lsa C V S L
  exact lv_if_lt C.1 C.2.1 hd ht (fun q => kt q p e s m args below meth c H locs lsa C V S L) (fun q => kf q p e s m args below meth c H locs lsa C V S L)
theorem aw_if_ge {x : Int32} {off : Int} {tgt : Nat} (hd : decode y.2.1 pc = .ok (.ifCond .ge off, 3)) (ht : (pc : Int) + off = (tgt : Int)) (kt : 0 ≤ x → AW G y Z tgt ls st σ cu su) (kf : ¬ 0 ≤ x → AW G y Z (pc + 3) ls st σ cu su) : AW G y Z pc ls (.int x :: st) σ cu su := by
  intro p e s m args below meth c H locs lsa C V S L
  exact lv_if_ge C.1 C.2.1 hd ht (fun q => kt q p e s m args below meth c H locs lsa C V S L) (fun q => kf q p e s m args below meth c H locs lsa C V S L)
theorem aw_if_gt {x : Int32} {off : Int} {tgt : Nat} (hd : decode y.2.1 pc = .ok (.ifCond .gt off, 3)) (ht : (pc : Int) + off = (tgt : Int)) (kt : 0 < x → AW G y Z tgt ls st σ cu su) (kf : ¬ 0 < x → AW G y Z (pc + 3) ls st σ cu su) : AW G y Z pc ls (.int x :: st) σ cu su := by
  intro p e s m args below meth c H locs lsa C V S L
  exact lv_if_gt C.1 C.2.1 hd ht (fun q => kt q p e s m args below meth c H locs lsa C V S L) (fun q => kf q p e s m args below meth c H locs lsa C V S L)
theorem aw_if_le {x : Int32} {off : Int} {tgt : Nat} (hd : decode y.2.1 pc = .ok (.ifCond .le off, 3)) (ht : (pc : Int) + off = (tgt : Int)) (kt : x ≤ 0 → AW G y Z tgt ls st σ cu su) (kf : ¬ x ≤ 0 → AW G y Z (pc + 3) ls st σ cu su) : AW G y Z pc ls (.int x :: st) σ cu su := by
  intro p e s m args below meth c H locs lsa C V S L
  exact lv_if_le C.1 C.2.1 hd ht (fun q => kt q p e s m args below meth c H locs lsa C V S L) (fun q => kf q p e s m args below meth c H locs lsa C V S L)
theorem aw_icmp_eq {x y1 : Int32} {off : Int} {tgt : Nat} (hd : decode y.2.1 pc = .ok (.if_icmp .eq off, 3)) (ht : (pc : Int) + off = (tgt : Int)) (kt : x = y1 → AW G y Z tgt ls st σ cu su) (kf : ¬ x = y1 → AW G y Z (pc + 3) ls st σ cu su) : AW G y Z pc ls (.int y1 :: .int x :: st) σ cu su := by
  intro p e s m args below meth c H locs lsa C V S L
  exact lv_icmp_eq C.1 C.2.1 hd ht (fun q => kt q p e s m args below meth c H locs lsa C V S L) (fun q => kf q p e s m args below meth c H locs lsa C V S L)
theorem aw_icmp_ne {x y1 : Int32} {off : Int} {tgt : Nat} (hd : decode y.2.1 pc = .ok (.if_icmp .ne off, 3)) (ht : (pc : Int) + off = (tgt : Int)) (kt : ¬ x = y1 → AW G y Z tgt ls st σ cu su) (kf : x = y1 → AW G y Z (pc + 3) ls st σ cu su) : AW G y Z pc ls (.int y1 :: .int x :: st) σ cu su := by
  intro p e s m args below meth c H locs lsa C V S L
  exact lv_icmp_ne C.1 C.2.1 hd ht (fun q => kt q p e s m args below meth c H locs lsa C V S L) (fun q => kf q p e s m args below meth c H locs lsa C V S L)
theorem aw_icmp_lt {x y1 : Int32} {off : Int} {tgt : Nat} (hd : decode y.2.1 pc = .ok (.if_icmp .lt off, 3)) (ht : (pc : Int) + off = (tgt : Int)) (kt : x < y1 → AW G y Z tgt ls st σ cu su) (kf : ¬ x < y1 → AW G y Z (pc + 3) ls st σ cu su) : AW G y Z pc ls (.int y1 :: .int x :: st) σ cu su := by
  intro p e s m args below meth c H locs lsa C V S L
  exact lv_icmp_lt C.1 C.2.1 hd ht (fun q => kt q p e s m args below meth c H locs lsa C V S L) (fun q => kf q p e s m args below meth c H locs lsa C V S L)
theorem aw_icmp_ge {x y1 : Int32} {off : Int} {tgt : Nat} (hd : decode y.2.1 pc = .ok (.if_icmp .ge off, 3)) (ht : (pc : Int) + off = (tgt : Int)) (kt : y1 ≤ x → AW G y Z tgt ls st σ cu su) (kf : ¬ y1 ≤ x → AW G y Z (pc + 3) ls st σ cu su) : AW G y Z pc ls (.int y1 :: .int x :: st) σ cu su := by
  intro p e s m args below meth c H locs lsa C V S L
  exact lv_icmp_ge C.1 C.2.1 hd ht (fun q => kt q p e s m args below meth c H locs lsa C V S L) (fun q => kf q p e s m args below meth c H locs lsa C V S L)
theorem aw_icmp_gt {x y1 : Int32} {off : Int} {tgt : Nat} (hd : decode y.2.1 pc = .ok (.if_icmp .gt off, 3)) (ht : (pc : Int) + off = (tgt : Int)) (kt : y1 < x → AW G y Z tgt ls st σ cu su) (kf : ¬ y1 < x → AW G y Z (pc + 3) ls st σ cu su) : AW G y Z pc ls (.int y1 :: .int x :: st) σ cu su := by
  intro p e s m args below meth c H locs lsa C V S L
  exact lv_icmp_gt C.1 C.2.1 hd ht (fun q => kt q p e s m args below meth c H locs lsa C V S L) (fun q => kf q p e s m args below meth c H locs lsa C V S L)
theorem aw_icmp_le {x y1 : Int32} {off : Int} {tgt : Nat} (hd : decode y.2.1 pc = .ok (.if_icmp .le off, 3)) (ht : (pc : Int) + off = (tgt : Int)) (kt : x ≤ y1 → AW G y Z tgt ls st σ cu su) (kf : ¬ x ≤ y1 → AW G y Z (pc + 3) ls st σ cu su) : AW G y Z pc ls (.int y1 :: .int x :: st) σ cu su := by
  intro p e s m args below meth c H locs lsa C V S L
  exact lv_icmp_le C.1 C.2.1 hd ht (fun q => kt q p e s m args below meth c H locs lsa C V S L) (fun q => kf q p e s m args below meth c H locs lsa C V S L)
theorem aw_goto {off : Int} {tgt : Nat} (hd : decode y.2.1 pc = .ok (.goto off, 3)) (ht : (pc : Int) + off = (tgt : Int)) (kk : AW G y Z tgt ls st σ cu su) : AW G y Z pc ls st σ cu su := by
  intro p e s m args below meth c H locs lsa C V S L
  exact lv_goto C.1 C.2.1 hd ht (kk p e s m args below meth c H locs lsa C V S L)
theorem aw_tableIn {dflt lo hi : Int} {offs : Array Int} {len : Nat} {x : Int32} {off : Int} {tgt : Nat} (hd : decode y.2.1 pc = .ok (.tableswitch dflt lo hi offs, len)) (h1 : ¬ x.toInt < lo) (h2 : ¬ hi < x.toInt) (ho : offs[(x.toInt - lo).toNat]? = some off) (ht : (pc : Int) + off = (tgt : Int)) (kk : AW G y Z tgt ls st σ cu su) : AW G y Z pc ls (.int x :: st) σ cu su := by
  intro p e s m args below meth c H locs lsa C V S L
  exact lv_tableIn C.1 C.2.1 hd h1 h2 ho ht (kk p e s m args below meth c H locs lsa C V S L)
theorem aw_tableOut {dflt lo hi : Int} {offs : Array Int} {len : Nat} {x : Int32} {tgt : Nat} (hd : decode y.2.1 pc = .ok (.tableswitch dflt lo hi offs, len)) (h : x.toInt < lo ∨ hi < x.toInt) (ht : (pc : Int) + dflt = (tgt : Int)) (kk : AW G y Z tgt ls st σ cu su) : AW G y Z pc ls (.int x :: st) σ cu su := by
  intro p e s m args below meth c H locs lsa C V S L
  exact lv_tableOut C.1 C.2.1 hd h ht (kk p e s m args below meth c H locs lsa C V S L)
theorem aw_top {x x' : Int32} (h : x = x') (kk : AW G y Z pc ls (.int x' :: st) σ cu su) : AW G y Z pc ls (.int x :: st) σ cu su := by subst h; exact kk
theorem aw_topl {x x' : Int64} (h : x = x') (kk : AW G y Z pc ls (.long x' :: st) σ cu su) : AW G y Z pc ls (.long x :: st) σ cu su := by subst h; exact kk
theorem aw_mem {σ' : Sg} (h : σ = σ') (kk : AW G y Z pc ls st σ' cu su) : AW G y Z pc ls st σ cu su := by subst h; exact kk
/-- fewer locals known -/
theorem aw_sub (h : ∀ q ∈ ls', q ∈ ls) (kk : AW G y Z pc ls' st σ cu su) : AW G y Z pc ls st σ cu su := by
  intro p e s m args below meth c H locs lsa C V S L
  exact kk p e s m args below meth c H locs lsa C V S ⟨L.1, L.2.1, fun q hq => L.2.2 q (h q hq)⟩
/-- more room taken -/
theorem aw_widen {cu' su' : Nat} (h1 : cu ≤ cu') (h2 : su ≤ su') (kk : AW G y Z pc ls st σ cu' su') : AW G y Z pc ls st σ cu su := by
  intro p e s m args below meth c H locs lsa C V S L
  exact W.widen h1 h2 (kk p e s m args below meth c H locs lsa C V S L)
end ROWS
