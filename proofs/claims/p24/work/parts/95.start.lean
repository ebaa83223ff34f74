/-! THE CLAIM OUT OF ONE WALK OF THE LAW'S BODY. Your part is whole_start (and what it stands on); all else here is the same for every law, but numbers. -/
def R_law : String := "BreakerTrialsLaw"
def lw_P (b : Addr) (xs : List Int32) (args : Array Value) (s : State) : Prop := args = #[.ref b] ∧ s.IntsAt b xs ∧ xs.length ≤ 260 ∧ (Jvm.Cond.and given_1 narrow_1).before args s = true
/-- what a walk over the start with the record d0 says of its end, said of the start itself -/
theorem lw_closed {s t : State} {o : Outcome} {d0 : Drawn} {L : List Loc} {k n : Nat} (hd0 : s.drawn.sameBut d0 lw_cs) (hv : ∃ v, o = .returned v) (hW : (s.setDrawn d0).WarmedH t.vm) (hs : (s.setDrawn d0).sameButNew ({ t with vm := s.vm } : State) L k n) : State.butDraws s t lw_cs (fun t1 => Framed s o t1 L k n) := by
  have h2 : t.drawn = d0 := congrArg State.drawn hs.1
  refine ⟨⟨hv, hW, State.sameButNew.setDrawn hs s.drawn⟩, ?_, by decide⟩
  rw [h2]
  exact hd0
def lw_Q (_ : Array Value) (s : State) (o : Outcome) (t : State) : Prop := o = .returned (some (.int 1)) ∧ State.butDraws s t lw_cs (fun t1 => Framed s o t1 [] 600104 7301314)
def lw_Z (below : List Frame) (a : Array Value) (s : State) : State → Prop := fun t => ∃ o, t.status = .running ∧ Ended t below o ∧ lw_Q a s o t
/-- the law's own end, with 1 on the stack, nothing written that was there before, its room as the claim has it; d0: the record of draws at this point (at the entry s.drawn: begin with 'refine W.base ?_' and 'have hd0 := Drawn.sameBut.refl s.drawn lw_cs') -/
theorem lw_ret {p : Program} {l : Launch} {e : Env} {s : State} {m : MethodId} {below : List Frame} {meth : Method} {c : Code} {b : Nat} {d0 : Drawn} (hd0 : s.drawn.sameBut d0 lw_cs) (hx : p.tables.exec = Jvm.exec) (hb : c.code = code) (hr : meth.sig.returnType = ret) (hlocks : meth.locks = false) {pc : Nat} {H : Heap} {ls : Array Slot} (hdg : decode code pc = .ok (.ireturn, 1)) : W p l e room_1 (s.setDrawn d0) m #[Value.ref b] below meth c H [] 600104 7301314 (lw_Z below #[Value.ref b] s) (F0 m pc ls [.int 1]) := by
  intro T hT X
  obtain ⟨fs, hret, hrun, hended, hW, hframe⟩ := X.leave (v := some (.int 1)) (hlocks := hlocks) (fun h => by rw [hr] at h; cases h)
  have hmeth' : T.vm.method? m = some meth := X.method'
  refine ⟨T.setFrames fs, ?_, .returned (some (.int 1)), hrun, hended, rfl, lw_closed hd0 ⟨_, rfl⟩ hW hframe⟩
  jvm_step X.here [X.here.top, hx, hb, hdg, hmeth', hr, ret, narrow_b1]
  (try refine ⟨rfl, ?_⟩); (try refine ⟨rfl, ?_⟩)
  first | (intro acts; rw [hret _ acts rfl rfl rfl]) | rw [hret _ _ rfl rfl rfl]
  exact Steps.refl _
/-- what holds at the law's entry: the machine, the code, the tables' words (any of lw_tbl by 'hts w (by decide +kernel)'), the script of L ints xs at the cell b, what the Statement gives of the start (any of its parts by flat_of_before) -/
def lw_At (p : Program) (s : State) (m : MethodId) (meth : Method) (c : Code) (b L : Nat) (xs : Nat → Int32) : Prop :=
  p.tables.exec = Jvm.exec ∧ c.code = code ∧ meth.sig.returnType = ret ∧ c.maxLocals = 11 ∧ s.vm.findClass R_law = some m.cls ∧ (∀ w ∈ lw_tbl, w.before #[Value.ref b] s = true) ∧ va_X b L xs s s.heap ∧ b < s.heap.size ∧ meth.locks = false ∧ (Jvm.Cond.and given_1 narrow_1).before #[Value.ref b] s = true
/-! THE START -/
section START
theorem aw_lwret {G : GG} {nm : String} {tb : List (Nat × Nat × Nat × Nat)} {s0 : State} {b : Nat} (hG : G.2.2.1 = s0.heap.size) (ls : List (Nat × Value)) (σ : Sg) (cu su : Nat) (h1 : cu ≤ 600104) (h2 : su ≤ 7301314) : AW G (YLw nm tb) (fun below args s' => fun t => (args = #[Value.ref b] ∧ s' = s0) → lw_Z below #[Value.ref b] s0 t) 214 ls [.int (nI 1)] σ cu su := by
  intro p e s m args below meth c H locs lsa C V S L
  by_cases hq : args = #[Value.ref b] ∧ s = s0
  · obtain ⟨rfl, rfl⟩ := hq
    have key : W p G.2.2.2 e room_1 s m #[Value.ref b] below meth c H locs cu su (lw_Z below #[Value.ref b] s) (F0 m 214 lsa [.int 1]) := by
      refine W.widen (k := 600104) (n := 7301314) h1 h2 ?_
      refine va_forget (fun q hq => ?_) ?_
      · have h := S.2.2 q hq
        rw [← hG]
        exact h
      · refine W.base ?_
        exact lw_ret (Drawn.sameBut.refl s.drawn lw_cs) C.1 C.2.1 C.2.2.2.1 C.2.2.2.2.1 dL_law_214
    intro T hT X
    obtain ⟨t, a1, a2⟩ := key T hT X
    exact ⟨t, a1, fun _ => a2⟩
  · intro T hT X
    exact ⟨_, Steps.refl _, fun h => absurd h hq⟩
/-- a static array of five ints -/
theorem st_of {args : Array Value} {s : State} {A : Nat → Prop} {n : String} {f : Nat → Int32} (harr : (Cond.arrayOf (.static RX3 n "[I") .int).before args s = true) (hlen : (Cond.eq (.length (.static RX3 n "[I")) (.int 5)).before args s = true) (h0 : (Cond.eq (.elem (.static RX3 n "[I") (.int 0)) (.int (f 0))).before args s = true) (h1 : (Cond.eq (.elem (.static RX3 n "[I") (.int 1)) (.int (f 1))).before args s = true) (h2 : (Cond.eq (.elem (.static RX3 n "[I") (.int 2)) (.int (f 2))).before args s = true) (h3 : (Cond.eq (.elem (.static RX3 n "[I") (.int 3)) (.int (f 3))).before args s = true) (h4 : (Cond.eq (.elem (.static RX3 n "[I") (.int 4)) (.int (f 4))).before args s = true) (hA : ∀ a : Nat, a < s.heap.size → ¬ A a) :
    ∃ t : Nat, (Term.static RX3 n "[I").eval args s none [] s = some (.ref t) ∧ va_T .int t 5 (fun j => .int (f j)) A s s.heap := by
  refine va_Tof (by decide) harr (va_eqt hlen) (fun j hj => ?_) hA
  match j, hj with
  | 0, _ => exact va_eqt h0
  | 1, _ => exact va_eqt h1
  | 2, _ => exact va_eqt h2
  | 3, _ => exact va_eqt h3
  | 4, _ => exact va_eqt h4
  | j + 5, hj => exact absurd hj (by omega)
/-- an old int array as a cell -/
theorem vce_old {D : va_G} {s : State} {t n : Nat} {V : Nat → Value} {H : Heap} {cell : Cell} (h1 : H[t]? = some cell) (h2 : s.isArrayOf cell .int) (h3 : cell.vm ≠ .unknown) (h4 : n ≤ cell.slots.size) (h5 : cell.slots.size.toInt32 = nI n) (h6 : ∀ j : Nat, j < n → cell.slots[j]? = some (V j)) : vce D s (10, n) t V H := by
  refine Or.inr ⟨Nat.le_refl 10, cell.cls, cell, h1, ⟨rfl, ⟨h4, h5, h6⟩, h3, h2.1⟩, fun N z => ?_, fun q => absurd q (by show ¬ 12 ≤ 10; decide)⟩
  obtain ⟨-, k, hk, comp, hc⟩ := h2
  exact ⟨fun q hq => (by cases hq), k, hk, comp, hc⟩
theorem str_at {args : Array Value} {s : State} {k : Nat} {tx : String} (h1 : (Cond.stringRef RX3 k tx).before args s = true) (h2 : (Cond.exactly (.string RX3 k) "java/lang/String").before args s = true) : ∃ a, vk_R RX3 k tx a s := by
  cases hv : (Term.string RX3 k).eval args s none [] s with
  | none => simp [Cond.before, Cond.holds, Cond.value, hv] at h2
  | some w =>
    obtain ⟨a, rfl⟩ := Term.string_eval_ref hv
    exact ⟨a, vk_R.of h1 hv⟩
theorem cls_all {args : Array Value} {s : State} (hts : ∀ w ∈ lw_tbl, w.before args s = true) : ∃ D : va_G, va_K D vwCl [] s := by
  have hg : ∀ w ∈ gT, w.before args s = true := fun w hw => hts w (List.mem_filter.mp hw).1
  have hk : ∀ c : Nat, ∃ (cC : ClassId) (iS : Nat → Nat), ∀ r : vw_C, vwCl[c]? = some r → u_Kn s r.1 r.2.1 r.2.2 cC iS := by
    intro c
    rcases hr : vwCl[c]? with _ | r
    · exact ⟨0, fun _ => 0, fun r hr => by cases hr⟩
    · have hi : ∃ n, (Cond.instantiable r.1 n).before args s = true := by
        match c, hr with
        | 0, hr => cases hr; exact ⟨2, hts _ (List.mem_of_getElem? (i := 134) (by decide +kernel))⟩
        | 1, hr => cases hr; exact ⟨7, hts _ (List.mem_of_getElem? (i := 27) (by decide +kernel))⟩
        | 2, hr => cases hr; exact ⟨14, hts _ (List.mem_of_getElem? (i := 36) (by decide +kernel))⟩
        | 3, hr => cases hr; exact ⟨6, hts _ (List.mem_of_getElem? (i := 19) (by decide +kernel))⟩
        | c + 4, hr => simp [vwCl] at hr
      obtain ⟨n, hi⟩ := hi
      obtain ⟨cC, iS, h⟩ := u_known (ws := gT) hg (cl_in c r hr) hi
      exact ⟨cC, iS, fun r' hr' => by cases hr'; exact h⟩
  refine ⟨(fun c => Classical.choose (hk c), fun c => Classical.choose (Classical.choose_spec (hk c))), fun c q hq => ?_, fun k q hq => by simp at hq⟩
  exact Classical.choose_spec (Classical.choose_spec (hk c)) q hq
end START
set_option maxRecDepth 100000 in
theorem whole_start {p : Program} {e : Env} {s : State} {m : MethodId} {below : List Frame} {meth : Method} {c : Code} (l : Launch) (hflags : l.flags = flags0) {b L : Nat} {xs : Nat → Int32} (hL : L ≤ 260) (C0 : lw_At p s m meth c b L xs) : W p l e room_1 s m #[Value.ref b] below meth c s.heap [] 0 0 (lw_Z below #[Value.ref b] s) (entryFrame m ([Value.ref b] : List Value).toArray 11) := by
  obtain ⟨hx, hb, hr, hml, hown, hts, hX, hbl, hlocks, hgv⟩ := id C0
  have hg := flat_of_before _ hgv
  have hA : ∀ a : Nat, a < s.heap.size → ¬ (fun q : Nat => s.heap.size ≤ q) a := fun a ha => Nat.not_le.mpr ha
  obtain ⟨tAT_FIRST, evAT_FIRST, tTAT_FIRST⟩ := st_of (A := fun q => s.heap.size ≤ q) (n := "AT_FIRST") (f := fun j => nI (g0 j)) (hg _ (by decide +kernel)) (hg _ (by decide +kernel)) (hg _ (by decide +kernel)) (hg _ (by decide +kernel)) (hg _ (by decide +kernel)) (hg _ (by decide +kernel)) (hg _ (by decide +kernel)) hA
  obtain ⟨tLEAST, evLEAST, tTLEAST⟩ := st_of (A := fun q => s.heap.size ≤ q) (n := "LEAST") (f := fun j => nI (setLo j)) (hg _ (by decide +kernel)) (hg _ (by decide +kernel)) (hg _ (by decide +kernel)) (hg _ (by decide +kernel)) (hg _ (by decide +kernel)) (hg _ (by decide +kernel)) (hg _ (by decide +kernel)) hA
  obtain ⟨tMOST, evMOST, tTMOST⟩ := st_of (A := fun q => s.heap.size ≤ q) (n := "MOST") (f := fun j => nI (setHi j)) (hg _ (by decide +kernel)) (hg _ (by decide +kernel)) (hg _ (by decide +kernel)) (hg _ (by decide +kernel)) (hg _ (by decide +kernel)) (hg _ (by decide +kernel)) (hg _ (by decide +kernel)) hA
  obtain ⟨D, hK⟩ := cls_all hts
  obtain ⟨G, hGd⟩ : ∃ G : GG, G = (fun o => if o < 1000 then s.heap.size + o else if o = 1001 then tAT_FIRST else if o = 1002 then tLEAST else if o = 1003 then tMOST else b, D, s.heap.size, l) := ⟨_, rfl⟩
  have hG0 : ∀ o, G.1 o = if o < 1000 then s.heap.size + o else if o = 1001 then tAT_FIRST else if o = 1002 then tLEAST else if o = 1003 then tMOST else b := fun o => by rw [hGd]
  have hG1 : G.2.1 = D := by rw [hGd]
  have hG2 : G.2.2.1 = s.heap.size := by rw [hGd]
  have hG3 : G.2.2.2 = l := by rw [hGd]
  have a0 : G.1 1000 = b := by rw [hG0]; rfl
  have a1 : G.1 1001 = tAT_FIRST := by rw [hG0]; rfl
  have a2 : G.1 1002 = tLEAST := by rw [hG0]; rfl
  have a3 : G.1 1003 = tMOST := by rw [hG0]; rfl
  have hAo : Aof G = fun q => s.heap.size ≤ q := by funext q; show (G.2.2.1 ≤ q) = _; rw [hG2]
  obtain ⟨c1, x11, x12, x13, x14, x15, x16, -⟩ := id tTAT_FIRST
  obtain ⟨c2, x21, x22, x23, x24, x25, x26, -⟩ := id tTLEAST
  obtain ⟨c3, x31, x32, x33, x34, x35, x36, -⟩ := id tTMOST
  obtain ⟨scr, y1, y2, y3, y4, y5⟩ := id hX
  have l1 : tAT_FIRST < s.heap.size := (Array.getElem?_eq_some_iff.mp x11).1
  have l2 : tLEAST < s.heap.size := (Array.getElem?_eq_some_iff.mp x21).1
  have l3 : tMOST < s.heap.size := (Array.getElem?_eq_some_iff.mp x31).1
  have hGOk : GOk G := by
    refine ⟨fun o ho => by rw [hG0, if_pos ho, hG2], fun o ho => ?_⟩
    rw [hG0, if_neg (by omega), hG2]
    split
    · exact l1
    · split
      · exact l2
      · split
        · exact l3
        · exact hbl
  have hini : (Cond.initialized RX3).before #[Value.ref b] s = true := hts _ (List.mem_of_getElem? (i := 4) (by decide +kernel))
  have hEN : EN G s s.heap := by
    unfold EN
    rw [hG1, a1, a2, a3, hG3, hAo]
    refine ⟨hGOk, hK, vx_Zqof (hts _ (List.mem_of_getElem? (i := 196) (by decide +kernel))) (hts _ (List.mem_of_getElem? (i := 9) (by decide +kernel))) (hg _ (by decide +kernel)) hA, vx_Zqof (hts _ (List.mem_of_getElem? (i := 198) (by decide +kernel))) (hts _ (List.mem_of_getElem? (i := 9) (by decide +kernel))) (hg _ (by decide +kernel)) hA, fun q hq => ?_, va_Zref (hts _ (List.mem_of_getElem? (i := 99) (by decide +kernel))) hini evAT_FIRST hA, va_Zref (hts _ (List.mem_of_getElem? (i := 424) (by decide +kernel))) hini evLEAST hA, va_Zref (hts _ (List.mem_of_getElem? (i := 426) (by decide +kernel))) hini evMOST hA, va_Nw.of rfl (hts _ (List.mem_of_getElem? (i := 135) (by decide +kernel))), va_Nw.of rfl (hts _ (List.mem_of_getElem? (i := 98) (by decide +kernel))), ?_, va_Nw.of rfl (hts _ (List.mem_of_getElem? (i := 323) (by decide +kernel))), va_Nw.of rfl (hts _ (List.mem_of_getElem? (i := 255) (by decide +kernel))), va_Nw.of rfl (hts _ (List.mem_of_getElem? (i := 171) (by decide +kernel))), trivial, trivial, trivial, va_Nw.of rfl (hts _ (List.mem_of_getElem? (i := 173) (by decide +kernel))), va_Nw.of rfl (hts _ (List.mem_of_getElem? (i := 175) (by decide +kernel))), va_Nw.of rfl (hts _ (List.mem_of_getElem? (i := 177) (by decide +kernel))), va_AO.of (hts _ (List.mem_of_getElem? (i := 132) (by decide +kernel))), va_AO.of (hts _ (List.mem_of_getElem? (i := 33) (by decide +kernel))), ?_⟩
    · simp only [strs, List.mem_cons, List.not_mem_nil, or_false] at hq
      rcases hq with rfl | rfl | rfl | rfl | rfl | rfl | rfl | rfl
      · exact str_at (hts _ (List.mem_of_getElem? (i := 344) (by decide +kernel))) (hg _ (by decide +kernel))
      · exact str_at (hts _ (List.mem_of_getElem? (i := 501) (by decide +kernel))) (hg _ (by decide +kernel))
      · exact str_at (hts _ (List.mem_of_getElem? (i := 262) (by decide +kernel))) (hg _ (by decide +kernel))
      · exact str_at (hts _ (List.mem_of_getElem? (i := 330) (by decide +kernel))) (hg _ (by decide +kernel))
      · exact str_at (hts _ (List.mem_of_getElem? (i := 381) (by decide +kernel))) (hg _ (by decide +kernel))
      · exact str_at (hts _ (List.mem_of_getElem? (i := 402) (by decide +kernel))) (hg _ (by decide +kernel))
      · exact str_at (hts _ (List.mem_of_getElem? (i := 210) (by decide +kernel))) (hg _ (by decide +kernel))
      · exact str_at (hts _ (List.mem_of_getElem? (i := 353) (by decide +kernel))) (hg _ (by decide +kernel))
    · show (!(l.flags.contains noTraceFlag)) = false
      rw [hflags]
      decide +kernel
    · have h : (Cond.arrayOver (.array .int)).before #[Value.ref b] s = true := hts _ (List.mem_of_getElem? (i := 35) (by decide +kernel))
      exact h
  obtain ⟨tb, htb⟩ : ∃ tb : List (Nat × Nat × Nat × Nat), c.exceptionTable.toList = tableOf tb := ⟨c.exceptionTable.toList.map (fun x => (x.startPc, x.endPc, x.handlerPc, x.catchType)), by
    unfold tableOf
    rw [List.map_map]
    exact (List.map_id _).symm⟩
  have hC : CX G (YLw meth.name tb) p s m #[Value.ref b] meth c := ⟨hx, hb, hml, hr, hlocks, fun w hw => hts w (List.mem_filter.mp hw).1, hown, hEN, rfl, htb⟩
  have hWD : WD G (fun o => if o = 1000 then some (10, L) else if o = 1001 ∨ o = 1002 ∨ o = 1003 then some (10, 5) else none, fun _ _ => .null, fun o j => if o = 1000 then xs j else if o = 1001 then nI (g0 j) else if o = 1002 then nI (setLo j) else nI (setHi j), fun _ _ => 0, 0) s s.heap := by
    refine ⟨fun o kd ho => ?_, by show s.heap.size = G.2.2.1 + 0; rw [hG2]; rfl⟩
    by_cases e0 : o = 1000
    · subst e0
      cases ho
      rw [a0]
      exact vce_old y1 y2 y3 (by omega) (by rw [y4]; rfl) y5
    · by_cases e1 : o = 1001
      · subst e1
        cases ho
        rw [a1]
        exact vce_old x11 x12 x13 x14 x15 x16
      · by_cases e2 : o = 1002
        · subst e2
          cases ho
          rw [a2]
          exact vce_old x21 x22 x23 x24 x25 x26
        · by_cases e3 : o = 1003
          · subst e3
            cases ho
            rw [a3]
            exact vce_old x31 x32 x33 x34 x35 x36
          · simp only [if_neg e0] at ho
            rw [if_neg (by omega)] at ho
            cases ho
  have hl := lv_entry ([.ref b]) (n := 11) (Nat.le_of_ble_eq_true rfl)
  have hE := law_entry (G := G) (nm := meth.name) (tb := tb) (Z := fun below args s' => fun t => (args = #[Value.ref b] ∧ s' = s) → lw_Z below #[Value.ref b] s t) (L := L) (xs := xs) (K := fun o => if o = 1000 then some (10, L) else if o = 1001 ∨ o = 1002 ∨ o = 1003 then some (10, 5) else none) (R := fun _ _ => .null) (I := fun o j => if o = 1000 then xs j else if o = 1001 then nI (g0 j) else if o = 1002 then nI (setLo j) else nI (setHi j)) (J := fun _ _ => 0) hL (aw_lwret hG2) rfl (fun j hj => rfl) rfl (fun i hi => rfl) ⟨rfl, fun i hi => rfl, rfl, fun i hi => rfl⟩
  rw [lg_entry_eq]
  have hW := hE p e s m #[Value.ref b] below meth c s.heap [] _ hC hWD va_S.rf (by rw [a0]; exact hl)
  rw [hG3] at hW
  intro T hT X
  obtain ⟨t, g1, g2⟩ := hW T hT X
  exact ⟨t, g1, g2 ⟨rfl, rfl⟩⟩
