/-! CALLS OF METHODS WITH HANDLERS -/
section HCALLS
variable {G : GG} {y : YY} {Z : ZT} {Q : RT → Sg → Prop} {pc : Nat} {ls : List (Nat × Value)} {st rest : List Value} {σ : Sg} {cu su : Nat}
def CSH (own : String) (idx : Nat) (yc : YY) (n : Nat) : Prop := Cond.methodLink own idx yc.1 ∈ gT ∧ Cond.static yc.1 ∈ gT ∧ Cond.initialized yc.1.cls ∈ gT ∧ Cond.codeWith yc.1 yc.2.1 yc.2.2.1 yc.2.2.2.1 yc.2.2.2.2.2 ∈ gT ∧ notMH yc.1 n
theorem aw_invSH {yc : YY} {idx n : Nat} {As : List Value} {Qc : RT → Sg → Prop} (hd : decode y.2.1 pc = .ok (.invokestatic idx, 3)) (cv : CSH y.1.cls idx yc n) (cr : CR yc y) (hst : st = As.reverse ++ rest) (hn : As.length = n) (hrest : (rest.map fun v => v.category).sum ≤ 8)
    (hroom : cu + yc.2.2.2.2.1.cells ≤ y.2.2.2.2.1.cells ∧ su + yc.2.2.2.2.1.slots ≤ y.2.2.2.2.1.slots) (hr : RunH G yc As σ Qc)
    (kx : ∀ E σ', Qc (.inr E) σ' → AX G y Z pc ls rest σ' E (cu + yc.2.2.2.2.1.cells) (su + yc.2.2.2.2.1.slots))
    (kk : ∀ v σ', Qc (.inl v) σ' → AW G y Z (pc + 3) ls (v.toList ++ rest) σ' (cu + yc.2.2.2.2.1.cells) (su + yc.2.2.2.2.1.slots)) : AW G y Z pc ls st σ cu su := by
  intro p e s m args below meth c0 H locs lsa C V S L
  obtain ⟨hx, hb, hml, hret, hlk, hts, hown, hE, hnm, htb⟩ := id C
  obtain ⟨v1, v2, v4, v5, v6⟩ := cv
  have hG : GoodIn gT (va_wsS y.1.cls idx yc.1 (.codeWith yc.1 yc.2.1 yc.2.2.1 yc.2.2.2.1 yc.2.2.2.2.2 :: gT)) := gT_goodIn fun w hw => by
    simp only [va_wsS, List.mem_append, List.mem_cons, List.not_mem_nil, or_false] at hw
    rcases hw with (rfl | rfl | rfl) | rfl | hw
    · first | exact v1 | exact v2 | exact v4
    · first | exact v1 | exact v2 | exact v4
    · first | exact v1 | exact v2 | exact v4
    · exact v5
    · exact hw
  exact aw_behind C S L (vx_runSX ⟨hx, hb, hml, hown, hts⟩ hr (vx_cwSW n hts hG rfl rfl rfl v6 cr) ⟨PcW_blind _ _ _, pcw_at rfl hE V S⟩ (g := F0 m pc lsa st) rfl hn L.1 hst (lv_room hrest) hd hroom) kx kk
end HCALLS
