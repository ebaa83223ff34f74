/-! THE LAW: what holds of every state -/
theorem shr1 {b k : Nat} (hb : b < 2 ^ 31) (hk : k < 32) : (nI b >>> (nI k &&& 31)) &&& nI 1 = nI (b / 2 ^ k % 2) := by
  rw [pk_shrN hb _ k (sh_and k hk), pk_andN (Nat.lt_trans (Nat.lt_of_le_of_lt (Nat.div_le_self _ _) hb) (by decide)) 1 (by decide)]
theorem shl1 {b k : Nat} (hk : k < 32) (h : b * 2 ^ k < 2 ^ 32) : nI b <<< (nI k &&& 31) = nI (b * 2 ^ k) := pk_shlN _ k (sh_and k hk) h
/-- the trials of these calls, a bit a store -/
def tmL (L : List Cl) : Nat := L.foldl (fun M c => M ||| (c 3 * 2 ^ c 0)) 0
theorem tmL_app (L : List Cl) (c : Cl) : tmL (L ++ [c]) = tmL L ||| (c 3 * 2 ^ c 0) := by
  unfold tmL
  rw [List.foldl_append]
  rfl
theorem one_lt {c : Cl} (h0 : c 0 < 4) (h3 : c 3 ≤ 1) : c 3 * 2 ^ c 0 < 2 ^ 4 := by
  have h1 : 2 ^ c 0 ≤ 2 ^ 3 := Nat.pow_le_pow_right (by decide) (by omega)
  have h2 : c 3 * 2 ^ c 0 ≤ 1 * 2 ^ c 0 := Nat.mul_le_mul_right _ h3
  omega
theorem snoc_ind {P : List Cl → Prop} (h0 : P []) (hs : ∀ L c, P L → P (L ++ [c])) : ∀ L, P L := by
  intro L
  rw [← List.reverse_reverse L]
  induction L.reverse with
  | nil => exact h0
  | cons c cs ih =>
    rw [List.reverse_cons]
    exact hs _ _ ih
theorem tmL_lt : ∀ (L : List Cl), (∀ c ∈ L, c 0 < 4 ∧ c 3 ≤ 1) → tmL L < 2 ^ 4 := by
  refine snoc_ind (fun _ => by decide) (fun L c ih h => ?_)
  rw [tmL_app]
  have hc := h c (List.mem_append_right _ (List.mem_singleton.mpr rfl))
  exact Nat.or_lt_two_pow (ih fun x hx => h x (List.mem_append_left _ hx)) (one_lt hc.1 hc.2)
theorem bit_one {c : Cl} (h3 : c 3 ≤ 1) (st : Nat) : (c 3 * 2 ^ c 0).testBit st = isT st c := by
  unfold isT
  rcases (show c 3 = 0 ∨ c 3 = 1 by omega) with e | e
  · rw [e, Nat.zero_mul, Nat.zero_testBit]
    simp
  · rw [e, Nat.one_mul, Nat.testBit_two_pow]
    by_cases h : c 0 = st <;> simp [h]
theorem tmL_bit (st : Nat) : ∀ (L : List Cl), (∀ c ∈ L, c 3 ≤ 1) → (tmL L).testBit st = L.any (isT st) := by
  refine snoc_ind (fun _ => by simp [tmL]) (fun L c ih h => ?_)
  rw [tmL_app, Nat.testBit_or, ih fun x hx => h x (List.mem_append_left _ hx), bit_one (h c (List.mem_append_right _ (List.mem_singleton.mpr rfl))), List.any_append]
  simp
theorem bit_n {M st : Nat} : M / 2 ^ st % 2 = if M.testBit st = true then 1 else 0 := by
  rw [Nat.testBit_eq_decide_div_mod_eq]
  have := Nat.mod_lt (M / 2 ^ st) (show 0 < 2 by decide)
  by_cases h : M / 2 ^ st % 2 = 1
  · simp [h]
  · simp [h]; omega
/-- no trial of this store ahead of this one -/
theorem tm_ahead {m k : Nat} {a : AA} {pre cs : List Cl} {c : Cl} (hI : IV m k a) (hp : a.2.1 = pre ++ c :: cs) (h3 : c 3 = 1) : a.2.2 (c 0) 2 = 2 ∧ tmL pre / 2 ^ c 0 % 2 = 0 := by
  have hc : c ∈ a.2.1 := by rw [hp]; exact List.mem_append_right _ List.mem_cons_self
  refine ⟨(hI.2.2.1 c hc).2.2.2.2.2.2 h3, ?_⟩
  have h4 := hI.2.2.2.1 (c 0)
  have hT : isT (c 0) c = true := by simp [isT, h3]
  rw [hp, List.countP_append, List.countP_cons, hT] at h4
  have h0 : pre.countP (isT (c 0)) = 0 := by simp only [if_true] at h4; omega
  have hn : pre.any (isT (c 0)) = false := by
    rw [List.any_eq_false]
    exact fun x hx => by simpa using List.countP_eq_zero.mp h0 x hx
  rw [bit_n, tmL_bit _ _ (fun x hx => (hI.2.2.1 x (by rw [hp]; exact List.mem_append_left _ hx)).2.2.2.2.1), hn]
  rfl
theorem oI_neg {x : Option Nat} (h : ∀ b, x = some b → b < 4) : ¬ (0 ≤ oI x) ↔ x = none := by
  cases x with
  | none => exact ⟨fun _ => rfl, fun _ => by decide⟩
  | some b => exact ⟨fun q => absurd (nI_pos' (by have := h b rfl; omega)) q, fun q => by cases q⟩
theorem bestN_none {a : AA} : ∀ {n : Nat}, bestN a n = none → ∀ s, s < n → a.2.2 s 2 ≠ 0
  | 0, _, s, hs => absurd hs (Nat.not_lt_zero s)
  | n + 1, h, s, hs => by
    by_cases h2 : a.2.2 n 2 = 0
    · exfalso
      rw [bestN, if_pos h2] at h
      cases hb : bestN a n with
      | none => rw [hb] at h; cases h
      | some b =>
        rw [hb] at h
        simp only at h
        split at h <;> cases h
    · rw [bestN_c h2] at h
      rcases Nat.lt_or_ge s n with q | q
      · exact bestN_none h s q
      · have : s = n := by omega
        rw [this]; exact h2
theorem ovN_none {a : AA} : ∀ {n : Nat}, (∀ s, s < n → a.2.2 s 2 ≠ 0) → ovN a 6 n = 0
  | 0, _ => rfl
  | n + 1, h => by
    rw [ovN, ovN_none (fun s hs => h s (by omega)), if_pos rfl, if_neg (h n (by omega))]
theorem inWin_le {g : Nat → Nat} {t : Rw} : inWinR g t ≤ g 1 := by
  unfold inWinR; split
  · exact Nat.min_le_right _ _
  · exact Nat.zero_le _
/-- a store that is neither cut off nor has a trial on its way -/
theorem any_no {L : List Cl} {st : Nat} (h : L.any (isT st) = false) : ∀ c ∈ L, ¬ isT st c = true := by
  rw [List.any_eq_false] at h
  exact fun x hx => by simpa using h x hx
theorem until_free {m k st : Nat} {a : AA} (hst : st < 4) (hG : GI1 m k a) (h : ∀ c ∈ a.2.1, ¬ isT st c = true) : untilI a st = nI (a.2.2 st 5) := by
  have ht := hG.1.2.2.2.2.1 st hst
  rw [← free_until hst hG.1 hG.2.1 hG.2.2, freeN_no h, if_pos (by have := ht.2.2.2.2.2.2.2.1; have := ht.2.2.2.2.2.2.2.2.1; omega)]
theorem ne_zero {n : Nat} (h : 1 ≤ n) : ¬ (if n ≤ 999 then nI n else (-1 : Int32)) = nI 0 := by
  split
  · intro q
    have := (nI_eq (by omega) (by decide)).mp q
    omega
  · decide
theorem until_trial {m k st : Nat} {a : AA} (hst : st < 4) (hG : GI1 m k a) (h : a.2.1.any (isT st) = true) : ¬ untilI a st = nI 0 := by
  obtain ⟨c, hc, hT⟩ := List.any_eq_true.mp h
  have hex : ∃ pre c suf, a.2.1 = pre ++ c :: suf ∧ isT st c = true ∧ ∀ x ∈ pre, ¬ isT st x = true := by
    clear hG
    generalize a.2.1 = L at hc
    induction L with
    | nil => cases hc
    | cons d ds ih =>
      by_cases hd : isT st d = true
      · exact ⟨[], d, ds, rfl, hd, fun x hx => by cases hx⟩
      · rcases List.mem_cons.mp hc with q | q
        · rw [q] at hT; exact absurd hT hd
        · obtain ⟨pre, c', suf, e1, e2, e3⟩ := ih q
          refine ⟨d :: pre, c', suf, by rw [e1]; rfl, e2, fun x hx => ?_⟩
          rcases List.mem_cons.mp hx with w | w
          · rw [w]; exact hd
          · exact e3 x w
  obtain ⟨pre, c', suf, e1, e2, e3⟩ := hex
  have hc' : c' ∈ a.2.1 := by rw [e1]; exact List.mem_append_right _ List.mem_cons_self
  have h1 := hG.2.1 c' hc'
  rw [← free_until hst hG.1 hG.2.1 hG.2.2, freeN_yes e1 e2 e3]
  exact ne_zero (by split <;> omega)
theorem dcmp_z {x : UInt64} {op : CmpOp} (h : FP.Core.val64 x ≠ .nan) : Op.cmpValue (FP.dcmp x x) op = nI 0 := by
  show Op.cmpValue (FP.Core.dcmp x x) op = nI 0
  rw [FP.Core.dcmp_self h]
  rfl
theorem one_ne : FP.Core.val64 FP.dconst1 ≠ .nan := (FP.Core.ne_nan _).mpr (by decide)
