/-! CALLS, ENDS, THROWS -/
section CALLS
variable {G : GG} {y : YY} {Z : ZT} {Q : RT → Sg → Prop} {pc : Nat} {ls ls' : List (Nat × Value)} {st rest : List Value} {σ : Sg} {K : Nat → Option (Nat × Nat)} {R : Nat → Nat → Value} {I : Nat → Nat → Int32} {J : Nat → Nat → Int64} {z cu su : Nat}
theorem aw_iret {x : Int32} (hd : decode y.2.1 pc = .ok (.ireturn, 1)) (hr : y.2.2.2.1 = some .int) (h1 : cu ≤ y.2.2.2.2.1.cells) (h2 : su ≤ y.2.2.2.2.1.slots) (hq : Q (.inl (some (.int x))) σ) : AW G y (MZ G y Q) pc ls [.int x] σ cu su := by
  intro p e s m args below meth c H locs lsa C V S L
  have hlocks := C.2.2.2.2.1
  refine W.widen h1 h2 (vx_ret ?_)
  exact W.iret C.1 C.2.1 (C.2.2.2.1.trans hr) (fun t ht hW => ⟨⟨_, σ, rfl, hq, by rw [ht]; exact WD_moved hW.alike V⟩, S.F ht⟩) S.2.2 hd
theorem aw_zret {x : Int32} (hd : decode y.2.1 pc = .ok (.ireturn, 1)) (hr : y.2.2.2.1 = some .boolean) (hn : narrow .boolean (.int x) = .int x) (h1 : cu ≤ y.2.2.2.2.1.cells) (h2 : su ≤ y.2.2.2.2.1.slots) (hq : Q (.inl (some (.int x))) σ) : AW G y (MZ G y Q) pc ls [.int x] σ cu su := by
  intro p e s m args below meth c H locs lsa C V S L
  have hlocks := C.2.2.2.2.1
  refine W.widen h1 h2 (vx_ret ?_)
  exact W.zret C.1 C.2.1 (C.2.2.2.1.trans hr) hn (fun t ht hW => ⟨⟨_, σ, rfl, hq, by rw [ht]; exact WD_moved hW.alike V⟩, S.F ht⟩) S.2.2 hd
theorem aw_lret {x : Int64} (hd : decode y.2.1 pc = .ok (.lreturn, 1)) (hr : y.2.2.2.1 = some .long) (h1 : cu ≤ y.2.2.2.2.1.cells) (h2 : su ≤ y.2.2.2.2.1.slots) (hq : Q (.inl (some (.long x))) σ) : AW G y (MZ G y Q) pc ls [.long x] σ cu su := by
  intro p e s m args below meth c H locs lsa C V S L
  have hlocks := C.2.2.2.2.1
  refine W.widen h1 h2 (vx_ret ?_)
  exact W.lret C.1 C.2.1 (C.2.2.2.1.trans hr) (fun t ht hW => ⟨⟨_, σ, rfl, hq, by rw [ht]; exact WD_moved hW.alike V⟩, S.F ht⟩) S.2.2 hd
theorem aw_dret {x : UInt64} (hd : decode y.2.1 pc = .ok (.dreturn, 1)) (hr : y.2.2.2.1 = some .double) (h1 : cu ≤ y.2.2.2.2.1.cells) (h2 : su ≤ y.2.2.2.2.1.slots) (hq : Q (.inl (some (.double x))) σ) : AW G y (MZ G y Q) pc ls [.double x] σ cu su := by
  intro p e s m args below meth c H locs lsa C V S L
  have hlocks := C.2.2.2.2.1
  refine W.widen h1 h2 (vx_ret ?_)
  exact W.dret C.1 C.2.1 (C.2.2.2.1.trans hr) (fun t ht hW => ⟨⟨_, σ, rfl, hq, by rw [ht]; exact WD_moved hW.alike V⟩, S.F ht⟩) S.2.2 hd
theorem aw_vret (hd : decode y.2.1 pc = .ok (.return_, 1)) (hr : y.2.2.2.1 = none) (h1 : cu ≤ y.2.2.2.2.1.cells) (h2 : su ≤ y.2.2.2.2.1.slots) (hq : Q (.inl none) σ) : AW G y (MZ G y Q) pc ls [] σ cu su := by
  intro p e s m args below meth c H locs lsa C V S L
  have hlocks := C.2.2.2.2.1
  refine W.widen h1 h2 (vx_ret ?_)
  exact W.vret C.1 C.2.1 (C.2.2.2.1.trans hr) (fun t ht hW => ⟨⟨_, σ, rfl, hq, by rw [ht]; exact WD_moved hW.alike V⟩, S.F ht⟩) S.2.2 hd
/-- an exception of class E flies here -/
def AX (G : GG) (y : YY) (Z : ZT) (pc : Nat) (ls : List (Nat × Value)) (rest : List Value) (σ : Sg) (E : String) (cu su : Nat) : Prop :=
  ∀ (p : Program) (e : Env) (s : State) (m : MethodId) (args : Array Value) (below : List Frame) (meth : Method) (c : Code) (H : Heap) (locs : List Loc) (lsa : Array Slot) (q : Addr) (ce : Cell),
    CX G y p s m args meth c → WD G σ s H → va_S (Aof G) s.heap H locs → lv_has lsa y.2.2.1 ls → H[q]? = some ce → ce.vm = .none → s.vm.findClass E = some ce.cls → vx_W p G.2.2.2 e y.2.2.2.2.1 s m args below meth c H locs cu su (Z below args s) (F0 m pc lsa rest) q
theorem ax_out {E : String} (htb : y.2.2.2.2.2 = []) (h1 : cu ≤ y.2.2.2.2.1.cells) (h2 : su ≤ y.2.2.2.2.1.slots) (hq : Q (.inr E) σ) : AX G y (MZ G y Q) pc ls rest σ E cu su := by
  intro p e s m args below meth c H locs lsa q ce C V S L hc hv hcl
  refine vx_out (fun x hx => ?_) C.2.2.2.2.1 hc hv hcl (fun t ht hA => ⟨σ, hq, by rw [ht]; exact WD_moved hA V, S.F ht⟩) S.2.2 h1 h2
  rw [C.2.2.2.2.2.2.2.2.2, htb] at hx
  cases hx
abbrev notMH (x : MethodName) (n : Nat) : Prop := x.cls ≠ "java/lang/invoke/MethodHandle" ∧ x.cls ≠ "java/lang/invoke/VarHandle" ∧ (parseMethodDescriptor x.desc).map (fun d => d.parameters.length) = some n
def CV (own : String) (idx : Nat) (yc : YY) (n : Nat) : Prop := Cond.methodLink own idx yc.1 ∈ gT ∧ Cond.instanceMethod yc.1 ∈ gT ∧ Cond.selects yc.1.cls yc.1 yc.1 ∈ gT ∧ Cond.initialized yc.1.cls ∈ gT ∧ Cond.code yc.1 yc.2.1 yc.2.2.1 yc.2.2.2.1 ∈ gT ∧ notMH yc.1 n
def CS (own : String) (idx : Nat) (yc : YY) (n : Nat) : Prop := Cond.methodLink own idx yc.1 ∈ gT ∧ Cond.static yc.1 ∈ gT ∧ Cond.initialized yc.1.cls ∈ gT ∧ Cond.code yc.1 yc.2.1 yc.2.2.1 yc.2.2.2.1 ∈ gT ∧ notMH yc.1 n
def CI (own : String) (idx : Nat) (yc : YY) (n : Nat) : Prop := Cond.methodLink own idx yc.1 ∈ gT ∧ Cond.instanceMethod yc.1 ∈ gT ∧ Cond.initialized yc.1.cls ∈ gT ∧ Cond.code yc.1 yc.2.1 yc.2.2.1 yc.2.2.2.1 ∈ gT ∧ notMH yc.1 n ∧ yc.1.name = "<init>" ∧ yc.2.2.2.1 = none
abbrev CR (yc y : YY) : Prop := yc.2.2.2.2.1.frames + 1 ≤ y.2.2.2.2.1.frames ∧ 8 + (yc.2.2.1 + 11) + yc.2.2.2.2.1.locals ≤ y.2.2.2.2.1.locals
theorem pcw_at {av : List Value} {s : State} {H : Heap} {locs : List Loc} {ar : Array Value} (har : ar = av.toArray) (hE : EN G s s.heap) (V : WD G σ s H) (S : va_S (Aof G) s.heap H locs) : ∀ U : State, U.heap = H → s.WarmedH U.vm → PcW G av σ ar U := by
  intro U hU hW
  refine ⟨har, ?_, ?_⟩
  · rw [hU]; exact EN_moved hW (EN_kept hE (fun a h1 h2 => S.2.1 a h1 h2))
  · rw [hU]; exact WD_moved hW.alike V
/-- behind a call that may throw -/
theorem aw_behind {p : Program} {e : Env} {s : State} {m : MethodId} {args : Array Value} {below : List Frame} {meth : Method} {c : Code} {H : Heap} {locs : List Loc} {lsa : Array Slot} {mc ms : Nat} {ar : Array Value} {Qc : RT → Sg → Prop}
    (C : CX G y p s m args meth c) (S : va_S (Aof G) s.heap H locs) (L : lv_has lsa y.2.2.1 ls)
    (hrun : vx_Run p G.2.2.2 e y.2.2.2.2.1 s m args below meth c H locs cu su mc ms (F0 m pc lsa st) rest (Qn G Qc ar) (Qx G Qc) (Aof G))
    (kx : ∀ E σ', Qc (.inr E) σ' → AX G y Z pc ls rest σ' E (cu + mc) (su + ms))
    (kk : ∀ v σ', Qc (.inl v) σ' → AW G y Z (pc + 3) ls (v.toList ++ rest) σ' (cu + mc) (su + ms)) : W p G.2.2.2 e y.2.2.2.2.1 s m args below meth c H locs cu su (Z below args s) (F0 m pc lsa st) := by
  intro T hT X
  rcases hrun T hT X with ⟨v, st₀, t, T', L', h0, X', hL, e1, e2, ⟨⟨v', σ', ho, hQ, hW⟩, hF⟩, st'⟩ | ⟨q, st₀, t, T', L', E, ce, h0, X', hL, e1, e2, ⟨σ', hQ, hW, hF⟩, hce, hcv, hcl, st'⟩
  · cases ho
    obtain ⟨k1, k2, k3⟩ := vx_keep h0 e1 S (fun _ _ h => h) (fun _ h => h) hL hF
    have hal : t.vm.Alike s.vm := by rw [← e2]; exact X'.warmed.alike.symm
    obtain ⟨t2, a1, b1⟩ := kk v σ' hQ p e s m args below meth c T'.heap (locs ++ L') lsa C (by rw [e1]; exact WD_moved hal hW) k3 L T' rfl X'
    exact ⟨t2, st' t2 a1, b1⟩
  · obtain ⟨k1, k2, k3⟩ := vx_keep h0 e1 S (fun _ _ h => h) (fun _ h => h) hL hF
    have hal : t.vm.Alike s.vm := by rw [← e2]; exact X'.warmed.alike.symm
    obtain ⟨t2, a1, b1⟩ := kx E σ' hQ p e s m args below meth c T'.heap (locs ++ L') lsa q ce C (by rw [e1]; exact WD_moved hal hW) k3 L (by rw [e1]; exact hce) hcv hcl T' rfl X'
    exact ⟨t2, st'.trans a1, b1⟩
theorem callB_g {s : State} {args : Array Value} {own : String} {idx n : Nat} {yc : YY} (hts : ∀ w ∈ gT, w.before args s = true) (h1 : Cond.methodLink own idx yc.1 ∈ gT) (h4 : Cond.initialized yc.1.cls ∈ gT) (h5 : Cond.code yc.1 yc.2.1 yc.2.2.1 yc.2.2.2.1 ∈ gT) (h6 : notMH yc.1 n) (cr : CR yc y) :
    CallB y.2.2.2.2.1 s args own idx yc.1 yc.2.1 yc.2.2.1 yc.2.2.2.1 (.code yc.1 yc.2.1 yc.2.2.1 yc.2.2.2.1 :: gT) yc.2.2.2.2.1 yc.2.2.2.2.1.cells yc.2.2.2.2.1.slots n :=
  callB_of n hts (gT_goodIn fun w hw => by rcases List.mem_cons.mp hw with rfl | hw; exact h5; exact hw) rfl rfl rfl (hts _ h4) (hts _ h1) h6 cr
/-- the receiver -/
theorem recv_g {s : State} {H : Heap} {o c n : Nat} {C : String} (hE : EN G s s.heap) (V : WD G σ s H) (hk : σ.1 o = some (c, n)) (hcl : ∃ r : vw_C, vwCl[c]? = some r ∧ r.1 = C) : ∃ cellB : Cell, H[G.1 o]? = some cellB ∧ cellB.vm.isStatics = false ∧ s.vm.findClass C = some cellB.cls := by
  obtain ⟨r, hr, rfl⟩ := hcl
  have hc : c < 10 := by have := (List.getElem?_eq_some_iff.mp hr).1; simp [vwCl] at this; omega
  obtain ⟨r', hr', -, cell, h1, h2, h3, -⟩ := vce_obj (V.1 o _ hk) hc
  cases Option.some.inj (hr.symm.trans hr')
  exact ⟨cell, h1, by rw [h3]; rfl, by rw [h2]; exact (hE.2.1.1 c _ hr).2.1⟩
/-- invokevirtual -/
theorem aw_invV {yc : YY} {idx n o c nn : Nat} {As : List Value} {Qc : RT → Sg → Prop} (hd : decode y.2.1 pc = .ok (.invokevirtual idx, 3)) (cv : CV y.1.cls idx yc n) (cr : CR yc y) (hk : σ.1 o = some (c, nn)) (hcl : ∃ r : vw_C, vwCl[c]? = some r ∧ r.1 = yc.1.cls) (hst : st = As.reverse ++ .ref (G.1 o) :: rest) (hn : As.length = n) (hrest : (rest.map fun v => v.category).sum ≤ 8)
    (hroom : cu + yc.2.2.2.2.1.cells ≤ y.2.2.2.2.1.cells ∧ su + yc.2.2.2.2.1.slots ≤ y.2.2.2.2.1.slots) (hr : Run G yc (.ref (G.1 o) :: As) σ Qc)
    (kx : ∀ E σ', Qc (.inr E) σ' → AX G y Z pc ls rest σ' E (cu + yc.2.2.2.2.1.cells) (su + yc.2.2.2.2.1.slots))
    (kk : ∀ v σ', Qc (.inl v) σ' → AW G y Z (pc + 3) ls (v.toList ++ rest) σ' (cu + yc.2.2.2.2.1.cells) (su + yc.2.2.2.2.1.slots)) : AW G y Z pc ls st σ cu su := by
  intro p e s m args below meth c0 H locs lsa C V S L
  obtain ⟨hx, hb, hml, hret, hlk, hts, hown, hE, hnm, htb⟩ := id C
  obtain ⟨v1, v2, v3, v4, v5, v6⟩ := cv
  exact aw_behind C S L (vx_runV ⟨hx, hb, hml, hown, hts⟩ hr ⟨callB_g hts v1 v4 v5 v6 cr, hts _ v2, hts _ v3⟩ ⟨PcW_blind _ _ _, recv_g hE V hk hcl, pcw_at rfl hE V S⟩ (g := F0 m pc lsa st) rfl hn L.1 hst (lv_room hrest) hd hroom) kx kk
/-- invokestatic -/
theorem aw_invS {yc : YY} {idx n : Nat} {As : List Value} {Qc : RT → Sg → Prop} (hd : decode y.2.1 pc = .ok (.invokestatic idx, 3)) (cv : CS y.1.cls idx yc n) (cr : CR yc y) (hst : st = As.reverse ++ rest) (hn : As.length = n) (hrest : (rest.map fun v => v.category).sum ≤ 8)
    (hroom : cu + yc.2.2.2.2.1.cells ≤ y.2.2.2.2.1.cells ∧ su + yc.2.2.2.2.1.slots ≤ y.2.2.2.2.1.slots) (hr : Run G yc As σ Qc)
    (kx : ∀ E σ', Qc (.inr E) σ' → AX G y Z pc ls rest σ' E (cu + yc.2.2.2.2.1.cells) (su + yc.2.2.2.2.1.slots))
    (kk : ∀ v σ', Qc (.inl v) σ' → AW G y Z (pc + 3) ls (v.toList ++ rest) σ' (cu + yc.2.2.2.2.1.cells) (su + yc.2.2.2.2.1.slots)) : AW G y Z pc ls st σ cu su := by
  intro p e s m args below meth c0 H locs lsa C V S L
  obtain ⟨hx, hb, hml, hret, hlk, hts, hown, hE, hnm, htb⟩ := id C
  obtain ⟨v1, v2, v4, v5, v6⟩ := cv
  exact aw_behind C S L (vx_runS ⟨hx, hb, hml, hown, hts⟩ hr ⟨callB_g hts v1 v4 v5 v6 cr, hts _ v2⟩ ⟨PcW_blind _ _ _, pcw_at rfl hE V S⟩ (g := F0 m pc lsa st) rfl hn L.1 hst (lv_room hrest) hd hroom) kx kk
/-- a method that never throws, as a plain contract -/
theorem run_met {yc : YY} {av : List Value} {Qc : RT → Sg → Prop} (h : Run G yc av σ Qc) (hn : ∀ E σ', ¬ Qc (.inr E) σ') : Met G.2.2.2 yc.1 (.code yc.1 yc.2.1 yc.2.2.1 yc.2.2.2.1 :: gT) yc.2.2.2.2.1 (PcW G av σ) (Qn G Qc) yc.2.2.2.2.1.cells yc.2.2.2.2.1.slots (Aof G) := by
  intro p e ha hc hk s m args below hf hp hP hK
  obtain ⟨k, o, h1, h2, h3, h4⟩ := h p e ha hc hk s m args below hf hp hP hK
  refine ⟨k, o, h1, h2, h3, ?_⟩
  rcases h4 with h4 | ⟨q, rfl, E, ce, L, ⟨σ', hq, -⟩, -⟩
  · exact h4
  · exact absurd hq (hn E σ')
theorem run_of_va {p : Program} {e : Env} {s : State} {m : MethodId} {args : Array Value} {below : List Frame} {meth : Method} {c : Code} {H : Heap} {locs : List Loc} {mc ms : Nat} {g : JFrame} {Qa : State → Outcome → State → Prop} {XC : String → State → State → Prop} {free : Addr → Prop} {Rm : Room} {l : Launch}
    (h : va_Run p l e Rm s m args below meth c H locs cu su mc ms g rest Qa free) : vx_Run p l e Rm s m args below meth c H locs cu su mc ms g rest Qa XC free := fun T hT X => Or.inl (h T hT X)
/-- a constructor -/
theorem aw_invI {yc : YY} {idx n o : Nat} {As : List Value} {Qc : RT → Sg → Prop} (hd : decode y.2.1 pc = .ok (.invokespecial idx, 3)) (cv : CI y.1.cls idx yc n) (cr : CR yc y) (hst : st = As.reverse ++ .ref (G.1 o) :: rest) (hn : As.length = n) (hrest : (rest.map fun v => v.category).sum ≤ 8)
    (hroom : cu + yc.2.2.2.2.1.cells ≤ y.2.2.2.2.1.cells ∧ su + yc.2.2.2.2.1.slots ≤ y.2.2.2.2.1.slots) (hr : Run G yc (.ref (G.1 o) :: As) σ Qc) (hnx : ∀ E σ', ¬ Qc (.inr E) σ')
    (kk : ∀ v σ', Qc (.inl v) σ' → AW G y Z (pc + 3) ls (v.toList ++ rest) σ' (cu + yc.2.2.2.2.1.cells) (su + yc.2.2.2.2.1.slots)) : AW G y Z pc ls st σ cu su := by
  intro p e s m args below meth c0 H locs lsa C V S L
  obtain ⟨hx, hb, hml, hret, hlk, hts, hown, hE, hnm, htb⟩ := id C
  obtain ⟨v1, v2, v4, v5, v6, v7, v8⟩ := cv
  have cb := callB_g (y := y) hts v1 v4 v5 v6 cr
  have hm := run_met hr hnx
  rw [v8] at cb hm
  exact aw_behind C S L (run_of_va (va_runI ⟨hx, hb, hml, hown, hts⟩ hm ⟨cb, v7, hts _ v2⟩ ⟨PcW_blind _ _ _, pcw_at rfl hE V S⟩ (g := F0 m pc lsa st) rfl hn L.1 hst (lv_room hrest) hd hroom)) (fun E σ' h => absurd h (hnx E σ')) kk
/-- the buffer's constructor, a nest mate's -/
theorem aw_invIN {yc : YY} {n o : Nat} {As : List Value} {Qc : RT → Sg → Prop} (hd : decode y.2.1 pc = .ok (.invokespecial 25, 3)) (hy : y.1.cls = RX3) (hyc : yc.1 = yX0_init) (v2 : Cond.instanceMethod yc.1 ∈ gT) (v4 : Cond.initialized yc.1.cls ∈ gT) (v5 : Cond.code yc.1 yc.2.1 yc.2.2.1 yc.2.2.2.1 ∈ gT) (v6 : notMH yc.1 n) (v8 : yc.2.2.2.1 = none) (cr : CR yc y) (hst : st = As.reverse ++ .ref (G.1 o) :: rest) (hn : As.length = n) (hrest : (rest.map fun v => v.category).sum ≤ 8)
    (hroom : cu + yc.2.2.2.2.1.cells ≤ y.2.2.2.2.1.cells ∧ su + yc.2.2.2.2.1.slots ≤ y.2.2.2.2.1.slots) (hr : Run G yc (.ref (G.1 o) :: As) σ Qc) (hnx : ∀ E σ', ¬ Qc (.inr E) σ')
    (kk : ∀ v σ', Qc (.inl v) σ' → AW G y Z (pc + 3) ls (v.toList ++ rest) σ' (cu + yc.2.2.2.2.1.cells) (su + yc.2.2.2.2.1.slots)) : AW G y Z pc ls st σ cu su := by
  intro p e s m args below meth c0 H locs lsa C V S L
  obtain ⟨hx, hb, hml, hret, hlk, hts, hown, hE, hnm, htb⟩ := id C
  have hm := run_met hr hnx
  have hcn : va_CN y.2.2.2.2.1 s args RX3 25 yc.1 RX3 yc.2.1 yc.2.2.1 yc.2.2.2.1 (.code yc.1 yc.2.1 yc.2.2.1 yc.2.2.2.1 :: gT) yc.2.2.2.2.1 yc.2.2.2.2.1.cells yc.2.2.2.2.1.slots n :=
    va_cnB n hts (gT_goodIn fun w hw => by rcases List.mem_cons.mp hw with rfl | hw; exact v5; exact hw) rfl rfl rfl (by rw [hyc]; exact hE.2.2.2.2.2.2.2.2.1) (hts _ v4) v6 cr
  rw [v8] at hcn hm
  rw [hy] at hown
  exact aw_behind C S L (run_of_va (va_runIN ⟨hx, hb, hml, hown, hts⟩ hm ⟨hcn, by rw [hyc]; rfl, hts _ v2⟩ ⟨PcW_blind _ _ _, pcw_at rfl hE V S⟩ (g := F0 m pc lsa st) rfl hn L.1 hst (lv_room hrest) hd hroom)) (fun E σ' h => absurd h (hnx E σ')) kk
/-- Object's constructor -/
theorem aw_objInit {idx a : Nat} (hd : decode y.2.1 pc = .ok (.invokespecial idx, 3)) (h1 : Cond.methodLink y.1.cls idx Lib.objectInit ∈ gT) (h2 : Cond.instanceMethod Lib.objectInit ∈ gT) (h3 : Cond.code Lib.objectInit ⟨#[0xb1]⟩ 1 none ∈ gT) (hf : 1 ≤ y.2.2.2.2.1.frames) (hl : (st.map fun v => v.category).sum + 12 ≤ y.2.2.2.2.1.locals) (kk : AW G y Z (pc + 3) ls st σ cu su) : AW G y Z pc ls (.ref a :: st) σ cu su := by
  intro p e s m args below meth c H locs lsa C V S L
  obtain ⟨hx, hb, hml, hret, hlk, hts, hown, hE, hnm, htb⟩ := id C
  refine W.objInit hx hb hown (hts _ h1) (hts _ h2) (hts _ h3) rfl (by rw [hml]; exact L.1) rfl hd hf ?_ ?_
  · show 2 * 0 + _ + 12 ≤ _
    omega
  · exact kk p e s m args below meth c H locs lsa C V S L
/-- throw new E("text") -/
theorem aw_throw {cls text : String} {ik is ic : Nat} (d0 : decode y.2.1 pc = .ok (.new ik, 3)) (d3 : decode y.2.1 (pc + 3) = .ok (.dup, 1)) (d4 : decode y.2.1 (pc + 4) = .ok (.ldc is, 2)) (d6 : decode y.2.1 (pc + 6) = .ok (.invokespecial ic, 3)) (d9 : decode y.2.1 (pc + 9) = .ok (.athrow, 1))
    (hy : y.1.cls = RX3) (htb : y.2.2.2.2.2 = []) (hcls : Bundle.fit cls = true) (hk : Cond.classLink RX3 ik cls ∈ gT) (hini : Cond.initialized cls ∈ gT) (hs : (is, text) ∈ strs) (hgood : (vx_atS RX3 ic cls ["java/lang/RuntimeException", "java/lang/Exception"]).all vx_ot = true)
    (hfr : 5 < y.2.2.2.2.1.frames) (hlo : (st.map fun v => v.category).sum + 82 ≤ y.2.2.2.2.1.locals) (hc : cu + 1 ≤ y.2.2.2.2.1.cells) (hsl : su + 6 ≤ y.2.2.2.2.1.slots) (hats : ∀ (args : Array Value) (s : State), (∀ w ∈ gT, w.before args s = true) → EXs s → ∀ w ∈ vx_atS RX3 ic cls ["java/lang/RuntimeException", "java/lang/Exception"], w.before args s = true)
    (hq : ∀ z', z ≤ z' → Q (.inr cls) (K, R, I, J, z')) : AW G y (MZ G y Q) pc ls st (K, R, I, J, z) cu su := by
  intro p e s m args below meth c H locs lsa C V S L
  obtain ⟨hx, hb, hml, hret, hlk, hts, hown, hE, hnm, htb2⟩ := id C
  rw [hy] at hown
  obtain ⟨sa, hsa⟩ := hE.2.2.2.2.1 _ hs
  refine vx_throwS (names := ["java/lang/RuntimeException", "java/lang/Exception"]) hx hb hE.2.2.2.2.2.2.2.2.2.2.1 hown hcls (by decide +kernel) (hts _ hk) (hts _ hini) hsa (hats args s hts hE.2.2.2.2.2.2.2.2.2.2.2) ?_ hE.2.2.1 hE.2.2.2.1 S (by rw [hml]; exact L.1) d0 d3 d4 d6 d9 (fun x hx => by rw [htb2, htb] at hx; cases hx) hfr hlo hc hsl hlk ?_ S.2.2 hc hsl
  · intro w hw
    rcases List.mem_cons.mp hw with rfl | hw
    · exact Bool.or_eq_true_iff.mpr (Or.inr (gT_good hk))
    · rcases List.mem_cons.mp hw with rfl | hw
      · exact Bool.or_eq_true_iff.mpr (Or.inr (gT_good hini))
      · exact List.all_eq_true.mp hgood w hw
  · intro t hA hz hk'
    have hg : t.heap.size = G.2.2.1 + (t.heap.size - G.2.2.1) := by have := V.2; omega
    refine ⟨(K, R, I, J, t.heap.size - G.2.2.1), hq _ (by have := V.2; simp only at this; omega), ⟨fun o kd ho => ?_, hg⟩, ?_⟩
    · exact vce_kept (vce_moved hA (V.1 o kd ho)) (hk' _ (vce_lt (V.1 o kd ho)))
    · exact ⟨Nat.le_trans S.1 hz, fun q h1 h2 => (hk' q (Nat.lt_of_lt_of_le h1 S.1)).trans (S.2.1 q h1 h2)⟩
end CALLS
