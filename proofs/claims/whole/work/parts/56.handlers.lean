/-! METHODS WITH HANDLERS -/
section HANDLERS
variable {G : GG} {y : YY} {Z : ZT} {Q : RT → Sg → Prop} {pc : Nat} {ls : List (Nat × Value)} {st rest : List Value} {σ : Sg} {cu su : Nat}
/-- a contract of a method with handlers -/
def RunH (G : GG) (y : YY) (av : List Value) (σ : Sg) (Q : RT → Sg → Prop) : Prop :=
  vx_Met G.2.2.2 y.1 (.codeWith y.1 y.2.1 y.2.2.1 y.2.2.2.1 y.2.2.2.2.2 :: gT) y.2.2.2.2.1 (PcW G av σ) (Qn G Q) (Qx G Q) y.2.2.2.2.1.cells y.2.2.2.2.1.slots (Aof G)
theorem runH_of {av : List Value} (hy : plainName y.1.cls = true) (hls : lv_args 0 av = ls) (hn : (lg_sl av).length ≤ y.2.2.1) (h : AW G y (MZ G y Q) 0 ls [] σ 0 0) : RunH G y av σ Q := by
  refine vx_ofWH (cc := y.2.1) (maxL := y.2.2.1) (ret := y.2.2.2.1) (hh := y.2.2.2.2.2) hy rfl ?_
  intro p e s m args below meth c s₁ B hml hv
  obtain ⟨rfl, hE, hW⟩ := hv
  have hts := atoms_spec (ws := .codeWith y.1 y.2.1 y.2.2.1 y.2.2.2.1 y.2.2.2.2.2 :: gT) B.pre
  have hl := lv_entry av (n := y.2.2.1) hn
  rw [lg_entry_eq]
  rw [hls] at hl
  exact h p e s m av.toArray below meth c s.heap [] _ ⟨B.exec, B.bytes, hml, B.returns, B.notSynchronized, fun w hw => hts w (List.mem_cons_of_mem _ hw), findClass_of_methodNamed B.named, hE, (name_of_methodNamed B.named B.method).1, vx_table (x := y.1) B (hts _ List.mem_cons_self)⟩ hW va_S.rf hl
/-- the first handler takes it -/
theorem ax_catch1 {E : String} {x : Nat × Nat × Nat × Nat} {suf : List (Nat × Nat × Nat × Nat)} (ht : y.2.2.2.2.2 = x :: suf) (h1 : x.1 ≤ pc) (h2 : pc < x.2.1) (h0 : x.2.2.2 ≠ 0) (hl : Cond.classLink y.1.cls x.2.2.2 E ∈ gT) (hc : ∀ s, EXs s → va_Nw (.castable E E) s)
    (kk : ∀ q : Nat, AW G y Z x.2.2.1 ls [.ref q] σ cu su) : AX G y Z pc ls rest σ E cu su := by
  intro p e s m args below meth c H locs lsa q ce C V S L hce hcv hcl
  obtain ⟨hx, hb, hml, hret, hlk, hts, hown, hE, hnm, htb⟩ := id C
  refine vx_catch hown [] ⟨x.1, x.2.1, x.2.2.1, x.2.2.2⟩ (tableOf suf) (by rw [htb, ht]; rfl) (fun z hz => by cases hz) ?_ h0 (hts _ hl) (va_Nw.use rfl (hc s hE.2.2.2.2.2.2.2.2.2.2.2)) hce hcv hcl ?_
  · simp [covers, h1, h2]
  · exact kk q p e s m args below meth c H locs lsa C V S L
/-- the second one does -/
theorem ax_catch2 {E E1 : String} {x1 x : Nat × Nat × Nat × Nat} {suf : List (Nat × Nat × Nat × Nat)} (ht : y.2.2.2.2.2 = x1 :: x :: suf) (h1 : x.1 ≤ pc) (h2 : pc < x.2.1) (h0 : x.2.2.2 ≠ 0) (h01 : x1.2.2.2 ≠ 0) (hl1 : Cond.classLink y.1.cls x1.2.2.2 E1 ∈ gT) (hn : ∀ s, EXs s → va_Nc E E1 s) (hl : Cond.classLink y.1.cls x.2.2.2 E ∈ gT) (hc : ∀ s, EXs s → va_Nw (.castable E E) s)
    (kk : ∀ q : Nat, AW G y Z x.2.2.1 ls [.ref q] σ cu su) : AX G y Z pc ls rest σ E cu su := by
  intro p e s m args below meth c H locs lsa q ce C V S L hce hcv hcl
  obtain ⟨hx, hb, hml, hret, hlk, hts, hown, hE, hnm, htb⟩ := id C
  have hEX := hE.2.2.2.2.2.2.2.2.2.2.2
  refine vx_catch hown [⟨x1.1, x1.2.1, x1.2.2.1, x1.2.2.2⟩] ⟨x.1, x.2.1, x.2.2.1, x.2.2.2⟩ (tableOf suf) (by rw [htb, ht]; rfl) (fun z hz => ?_) ?_ h0 (hts _ hl) (va_Nw.use rfl (hc s hEX)) hce hcv hcl ?_
  · rw [List.mem_singleton.mp hz]
    exact Or.inr ⟨h01, E1, hts _ hl1, hn s hEX⟩
  · simp [covers, h1, h2]
  · exact kk q p e s m args below meth c H locs lsa C V S L
end HANDLERS
