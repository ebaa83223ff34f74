theorem lg_self (x : Int64) : lg_cmp x x = nI 0 := by
  unfold lg_cmp
  simp
  rfl
theorem XS.keep {I I' : Nat → Nat → Int32} {s : ST} (h : XS I s) (hF : ∀ q, q < 140 → I' q = I q) : XS I' s :=
  ⟨h.1.fr (fun q a1 a2 => hF q (by omega)), h.2.1.fr (hF 0 (by decide)) (fun q a1 a2 => hF q (by omega)), h.2.2.fr (hF 36 (by decide)) (hF 37 (by decide))⟩
