/-! THE REFERENCE'S FACE: close, set, delays, undo -/
def clrF (st n : Nat) (L : List Cl) : List Cl := (L.take n).map (clrC st) ++ L.drop n
theorem clrF_0 (st : Nat) (L : List Cl) : clrF st 0 L = L := by simp [clrF]
theorem clrF_all (st : Nat) (L : List Cl) : clrF st L.length L = L.map (clrC st) := by simp [clrF]
theorem clrF_len (st n : Nat) (L : List Cl) : (clrF st n L).length = L.length := by simp [clrF]; omega
theorem clrF_at {st n : Nat} {L : List Cl} {p : Nat} {c : Cl} (h : L[p]? = some c) : (clrF st n L)[p]? = some (if p < n then clrC st c else c) := by
  have hp := (List.getElem?_eq_some_iff.mp h).1
  unfold clrF
  by_cases e : p < n
  · rw [if_pos e, List.getElem?_append_left (by simp; omega), List.getElem?_map, List.getElem?_take_of_lt e, h]; rfl
  · rw [if_neg e, List.getElem?_append_right (by simp; omega)]
    simp only [List.length_map, List.length_take, List.getElem?_drop]
    rw [show n + (p - min n L.length) = p by omega]; exact h
theorem clrF_at' {st n : Nat} {L : List Cl} {p : Nat} {c : Cl} (h : (clrF st n L)[p]? = some c) : ∃ c0, L[p]? = some c0 ∧ c = if p < n then clrC st c0 else c0 := by
  have hp := (List.getElem?_eq_some_iff.mp h).1
  rw [clrF_len] at hp
  have h1 := clrF_at (st := st) (n := n) (List.getElem?_eq_getElem hp)
  exact ⟨_, List.getElem?_eq_getElem hp, Option.some.inj (h.symm.trans h1)⟩
theorem clrF_s {st n : Nat} {L : List Cl} {c : Cl} (h : L[n]? = some c) (hc : c 0 ≠ st) : clrF st (n + 1) L = clrF st n L := by
  refine List.ext_getElem? (fun p => ?_)
  rcases h1 : L[p]? with _ | c1
  · have hl := List.getElem?_eq_none_iff.mp h1
    rw [List.getElem?_eq_none_iff.mpr (by rw [clrF_len]; exact hl), List.getElem?_eq_none_iff.mpr (by rw [clrF_len]; exact hl)]
  · rw [clrF_at h1, clrF_at h1]
    by_cases e : p = n
    · subst e
      cases Option.some.inj (h.symm.trans h1)
      rw [if_pos (by omega), if_neg (by omega), clrC, if_neg hc]
    · by_cases e2 : p < n
      · rw [if_pos e2, if_pos (by omega)]
      · rw [if_neg e2, if_neg (by omega)]
theorem RM_clr {f f' : Nat → Int32} {g : Nat → Nat} {T : Nat → Rw} {L : List Cl} {st n : Nat} {c : Cl} (hM : RM f (g, clrF st n L, T)) (h16 : L.length ≤ 16) (hc : L[n]? = some c) (h0 : c 0 = st) (hf : ∀ j, f' j = if j = 10 + 5 * n + 3 then nI 0 else f j) : RM f' (g, clrF st (n + 1) L, T) := by
  have hn := (List.getElem?_eq_some_iff.mp hc).1
  obtain ⟨h1, h2, h3, h4⟩ := hM
  refine ⟨fun k hk => ?_, ?_, fun p c' hp w hw => ?_, fun s hs w hw => ?_⟩
  · rw [hf, if_neg (by omega)]; exact h1 k hk
  · rw [hf, if_neg (by omega), h2]; show nI (clrF st n L).length = nI (clrF st (n + 1) L).length; rw [clrF_len, clrF_len]
  · obtain ⟨c0, hc0, rfl⟩ := clrF_at' hp
    have hpl := (List.getElem?_eq_some_iff.mp hc0).1
    have h := h3 p _ (clrF_at (n := n) hc0) w hw
    rw [hf]
    by_cases e : p = n
    · subst e
      cases Option.some.inj (hc0.symm.trans hc)
      rw [show (if p < p + 1 then clrC st c else c) = clrC st c from if_pos (by omega)]
      rw [show (if p < p then clrC st c else c) = c from if_neg (by omega)] at h
      rw [clrC, if_pos h0]
      by_cases ew : w = 3
      · subst ew; rw [if_pos rfl, u1_s]
      · rw [if_neg (by omega), h, u1_n ew]
    · rw [if_neg (by omega), h]
      by_cases e2 : p < n
      · rw [if_pos e2, if_pos (by omega)]
      · rw [if_neg e2, if_neg (by omega)]
  · rw [hf, if_neg (by omega)]; exact h4 s hs w hw
/-- at most twenty numbers, none above 99 -/
def Rln (r : List Nat) : Prop := r.length ≤ 20 ∧ ∀ v ∈ r, v ≤ 99
theorem Rln.num {B : List Nat} {p : Nat} {r : List Nat} (h : Rln r) (h2 : r.length < 20) : Rln (rdNum B p r).2.2 := by
  unfold rdNum
  split
  · next hd =>
    have hd2 := dig_t hd
    split
    · next hq =>
      have hq2 := dig_t hq.2
      refine ⟨by simp; omega, fun v hv => ?_⟩
      rcases List.mem_append.mp hv with w | w
      · exact h.2 v w
      · rw [List.mem_singleton.mp w]; omega
    · refine ⟨by simp; omega, fun v hv => ?_⟩
      rcases List.mem_append.mp hv with w | w
      · exact h.2 v w
      · rw [List.mem_singleton.mp w]; omega
  · exact h
theorem Rln.loop {B : List Nat} : ∀ (f p : Nat) (r : List Nat), Rln r → Rln (rdLoop B f p r).2.2
  | 0, _, _, h => h
  | f + 1, p, r, h => by
    unfold rdLoop
    split
    · split
      · next hq =>
        have hn := h.num (B := B) (p := p + 1) hq.2
        split
        · exact Rln.loop f _ _ hn
        · exact hn
      · exact h
    · exact h
theorem rdAll_RL (B : List Nat) : Rln (rdAll B).2.2 := by
  have h0 : Rln [] := ⟨by decide, fun v hv => by cases hv⟩
  have hn := h0.num (B := B) (p := 0) (by decide)
  unfold rdAll
  split
  · exact Rln.loop _ _ _ hn
  · exact hn
theorem rdLoop_len {B : List Nat} : ∀ (f p : Nat) (r : List Nat), r.length ≤ (rdLoop B f p r).2.2.length
  | 0, _, _ => Nat.le_refl _
  | f + 1, p, r => by
    have hn : r.length ≤ (rdNum B (p + 1) r).2.2.length := by
      unfold rdNum; split
      · split <;> simp
      · exact Nat.le_refl _
    unfold rdLoop
    split
    · split
      · split
        · exact Nat.le_trans hn (rdLoop_len f _ _)
        · exact hn
      · exact Nat.le_refl _
    · exact Nat.le_refl _
theorem rdAll_1 {B : List Nat} (h : (rdAll B).1 = true) : 1 ≤ (rdAll B).2.2.length := by
  unfold rdAll at h ⊢
  split at h
  · next hn =>
    rw [if_pos hn]
    have := (rdNum_t hn).2.2
    exact Nat.le_trans (by rw [this]; simp) (rdLoop_len _ _ _)
  · next hn => exact absurd h hn
/-- the first n numbers are laid -/
def rowF (r : List Nat) (n : Nat) (t : Rw) : Rw := fun w => if 12 ≤ w ∧ w < 12 + n then r.getD (w - 12) 0 else t w
theorem rowF_0 (r : List Nat) (t : Rw) : rowF r 0 t = t := by funext w; unfold rowF; rw [if_neg (by omega)]
theorem rowF_s (r : List Nat) (n : Nat) (t : Rw) : u1 (rowF r n t) (12 + n) (r.getD n 0) = rowF r (n + 1) t := by
  funext w; unfold u1 rowF
  by_cases e : w = 12 + n
  · subst e; rw [if_pos rfl, if_pos (by omega)]; congr 1; omega
  · rw [if_neg e]
    by_cases e2 : 12 ≤ w ∧ w < 12 + n
    · rw [if_pos e2, if_pos (by omega)]
    · rw [if_neg e2, if_neg (by omega)]
theorem rowF_all (r : List Nat) (t : Rw) : u1 (u1 (rowF r 20 t) 0 r.length) 1 0 = rowR r t := by
  funext w; unfold u1 rowF rowR
  by_cases e1 : w = 1
  · subst e1; rfl
  · rw [if_neg e1]
    by_cases e0 : w = 0
    · subst e0; rfl
    · rw [if_neg e0, if_neg e0, if_neg e1]
section MODEL14
variable {G : GG} {K : Nat → Option (Nat × Nat)} {R : Nat → Nat → Value} {I : Nat → Nat → Int32} {J : Nat → Nat → Int64} {z : Nat} {σ : Sg} {a : AA} {hs : List AA} {B : List Nat} {m k : Nat}
theorem M_set (hL : LM G K R) (hS : MS I (a, hs, B)) (hI : IV m k a) (hl1 : L1 a) (hmk : m + k ≤ 900000000) (v : Int32) (w : Int32) : Run G YX4_set [.ref (G.1 140), .int v, .int w] (K, R, I, J, z) (MP K R J z I (sSet v w (a, hs, B))) := by
  obtain ⟨hk0, hr1, hk1, hr2, hk2, hr3, hk3, hr5, hk5, hr9, hk9⟩ := hL
  have hL : LM G K R := ⟨hk0, hr1, hk1, hr2, hk2, hr3, hk3, hr5, hk5, hr9, hk9⟩
  have h16 := hI.2.1
  have hS0 := hS.th (x := nI 0)
  have hM0 : RM (up2 I 140 0 (nI 0) 141) a := hS0.1
  have hH0 : RH (up2 I 140 0 (nI 0)) hs := hS0.2.1
  have hB0 : RB (up2 I 140 0 (nI 0)) B := hS0.2.2
  have hn9 : up2 I 140 0 (nI 0) 141 9 = nI a.2.1.length := hS0.1.2.1
  have hC : ∀ c ∈ a.2.1, c 0 < 4 ∧ c 3 ≤ 1 := fun c hc => ⟨(hI.2.2.1 c hc).1, (hI.2.2.1 c hc).2.2.2.2.1⟩

  by_cases hv : inR v 0 4
  · obtain ⟨hv1, -, hv3⟩ := inR_nat hv (by decide) (by decide)
    by_cases hw : inR w (setLo (nv v)) (setHi (nv v))
    · have hx : sSet v w (a, hs, B) = (0, nI (a.1 (nv v)), (u1 a.1 (nv v) (nv w), a.2.1, a.2.2), pushH hs a, B) := by unfold sSet; rw [if_pos hv, if_pos hw]
      rw [hx]
      clear hx
      have hw0 : nI 0 ≤ w := Int32.le_trans ((nI_leI (by decide) (by unfold setLo; split <;> decide)).mpr (Nat.zero_le _)) hw.1
      obtain ⟨hw1, hw2⟩ := nI_nv hw0
      obtain ⟨st, hst'⟩ : ∃ st, st = nv v := ⟨_, rfl⟩
      obtain ⟨ww, hww'⟩ : ∃ st, st = nv w := ⟨_, rfl⟩
      rw [← hst'] at hv1 hv3 hw ⊢
      rw [← hww'] at hw1 hw2 ⊢
      subst hv1 hw1
      refine run_of (ls := [(0, .ref (G.1 140)), (1, .int (nI st)), (2, .int (nI ww))]) (by decide +kernel) rfl rfl (Nat.le_of_ble_eq_true rfl) ?_
      refine aw_aload_n dX4_set_0 rfl ?_
      refine aw_iconst (v := nI 0) dX4_set_1 rfl ?_
      refine aw_putI dX4_set_2 flX4_25 rfl (by intro r hr; cases hr; rfl) (by assumption) (by omega) rfl rfl ?_
      refine aw_iload_n dX4_set_5 rfl ?_
      refine aw_iconst (v := nI 0) dX4_set_6 rfl ?_
      refine aw_iconst (v := nI 4) dX4_set_7 rfl ?_
      refine aw_sRd dX4_set_8 cvX4_33 ⟨Nat.le_of_ble_eq_true rfl, Nat.le_of_ble_eq_true rfl⟩ (in1 hv) rfl rfl (Nat.le_of_ble_eq_true rfl) ⟨rfl, rfl⟩ ⟨Nat.zero_le _, Nat.zero_le _⟩ ?_
      refine aw_if_neN (tgt := 20) dX4_set_11 (by decide) (by omega) (fun hc11 => ?_) (fun hc11 => absurd hc11 (by decide))
      refine aw_iload_n dX4_set_20 rfl ?_
      refine aw_iload_n dX4_set_21 rfl ?_
      refine aw_sRd dX4_set_22 cvX4_109 ⟨Nat.le_of_ble_eq_true rfl, Nat.le_of_ble_eq_true rfl⟩ (isG1 hv3 hw) rfl rfl (Nat.le_of_ble_eq_true rfl) ⟨rfl, rfl⟩ ⟨Nat.zero_le _, Nat.zero_le _⟩ ?_
      refine aw_if_neN (tgt := 34) dX4_set_25 (by decide) (by omega) (fun hc25 => ?_) (fun hc25 => absurd hc25 (by decide))
      refine aw_aload_n dX4_set_34 rfl ?_
      refine aw_vUp0 dX4_set_35 cvX4_96 ⟨Nat.le_of_ble_eq_true rfl, Nat.le_of_ble_eq_true rfl⟩ (by assumption) ⟨_, rfl, rfl⟩ (r_saves hL hM0 h16 hH0) rfl rfl (Nat.le_of_ble_eq_true rfl) ⟨rfl, rfl⟩ ⟨Nat.zero_le _, Nat.zero_le _⟩ (fun I35 hP35 => ?_)
      refine aw_aload_n dX4_set_38 rfl ?_
      refine aw_getR dX4_set_39 flX4_7 rfl (by assumption) (by assumption) ?_
      refine aw_iload_n dX4_set_42 rfl ?_
      refine aw_iald dX4_set_43 (by assumption) (by omega) rfl (by omega) (show _ = nI (a.1 st) by rw [hP35.2.1 141 (by decide) (by decide)]; exact hM0.1 st (by omega)) ?_
      refine aw_istore_n (ls' := [(3, _), (0, _), (1, _), (2, _)]) dX4_set_44 (by decide) rfl ?_
      refine aw_aload_n dX4_set_45 rfl ?_
      refine aw_getR dX4_set_46 flX4_7 rfl (by assumption) (by assumption) ?_
      refine aw_iload_n dX4_set_49 rfl ?_
      refine aw_iload_n dX4_set_50 rfl ?_
      refine aw_iast dX4_set_51 (by assumption) (by omega) (by omega) rfl (by omega) ?_
      refine aw_iload_n dX4_set_52 rfl ?_
      exact aw_iret dX4_set_53 rfl (Nat.zero_le _) (Nat.zero_le _) ⟨rfl, _, rfl, hS.sv hP35 ⟨RM_g (by rw [hP35.2.1 141 (by decide) (by decide)]; exact hM0) (by omega) (fun j => up2_o), FrO.up⟩⟩
    · have hx : sSet v w (a, hs, B) = (2, 0, (a, hs, B)) := by unfold sSet; rw [if_pos hv, if_neg hw]
      rw [hx]
      obtain ⟨st, hst'⟩ : ∃ st, st = nv v := ⟨_, rfl⟩
      rw [← hst'] at hv1 hv3 hw
      subst hv1
      refine run_of (ls := [(0, .ref (G.1 140)), (1, .int (nI st)), (2, .int w)]) (by decide +kernel) rfl rfl (Nat.le_of_ble_eq_true rfl) ?_
      refine aw_aload_n dX4_set_0 rfl ?_
      refine aw_iconst (v := nI 0) dX4_set_1 rfl ?_
      refine aw_putI dX4_set_2 flX4_25 rfl (by intro r hr; cases hr; rfl) (by assumption) (by omega) rfl rfl ?_
      refine aw_iload_n dX4_set_5 rfl ?_
      refine aw_iconst (v := nI 0) dX4_set_6 rfl ?_
      refine aw_iconst (v := nI 4) dX4_set_7 rfl ?_
      refine aw_sRd dX4_set_8 cvX4_33 ⟨Nat.le_of_ble_eq_true rfl, Nat.le_of_ble_eq_true rfl⟩ (in1 hv) rfl rfl (Nat.le_of_ble_eq_true rfl) ⟨rfl, rfl⟩ ⟨Nat.zero_le _, Nat.zero_le _⟩ ?_
      refine aw_if_neN (tgt := 20) dX4_set_11 (by decide) (by omega) (fun hc11 => ?_) (fun hc11 => absurd hc11 (by decide))
      refine aw_iload_n dX4_set_20 rfl ?_
      refine aw_iload_n dX4_set_21 rfl ?_
      refine aw_sRd dX4_set_22 cvX4_109 ⟨Nat.le_of_ble_eq_true rfl, Nat.le_of_ble_eq_true rfl⟩ (isG0 hv3 hw) rfl rfl (Nat.le_of_ble_eq_true rfl) ⟨rfl, rfl⟩ ⟨Nat.zero_le _, Nat.zero_le _⟩ ?_
      refine aw_if_neN (tgt := 34) dX4_set_25 (by decide) (by omega) (fun hc25 => absurd rfl hc25) (fun hc25 => ?_)
      refine aw_aload_n dX4_set_28 rfl ?_
      refine aw_iconst (v := nI 2) dX4_set_29 rfl ?_
      refine aw_vUp dX4_set_30 cvX4_93 ⟨Nat.le_of_ble_eq_true rfl, Nat.le_of_ble_eq_true rfl⟩ (by assumption) ⟨_, rfl, rfl⟩ (r_fails hL (nI 2)) rfl rfl (Nat.le_of_ble_eq_true rfl) ⟨rfl, rfl⟩ ⟨Nat.zero_le _, Nat.zero_le _⟩ (fun I30 hP30 => ?_)
      exact aw_iret dX4_set_33 rfl (Nat.zero_le _) (Nat.zero_le _) ⟨rfl, _, rfl, failS hS hP30⟩
  · have hx : sSet v w (a, hs, B) = (1, 0, (a, hs, B)) := by unfold sSet; rw [if_neg hv]
    rw [hx]
    refine run_of (ls := [(0, .ref (G.1 140)), (1, .int v), (2, .int w)]) (by decide +kernel) rfl rfl (Nat.le_of_ble_eq_true rfl) ?_
    refine aw_aload_n dX4_set_0 rfl ?_
    refine aw_iconst (v := nI 0) dX4_set_1 rfl ?_
    refine aw_putI dX4_set_2 flX4_25 rfl (by intro r hr; cases hr; rfl) (by assumption) (by omega) rfl rfl ?_
    refine aw_iload_n dX4_set_5 rfl ?_
    refine aw_iconst (v := nI 0) dX4_set_6 rfl ?_
    refine aw_iconst (v := nI 4) dX4_set_7 rfl ?_
    refine aw_sRd dX4_set_8 cvX4_33 ⟨Nat.le_of_ble_eq_true rfl, Nat.le_of_ble_eq_true rfl⟩ (in0 hv) rfl rfl (Nat.le_of_ble_eq_true rfl) ⟨rfl, rfl⟩ ⟨Nat.zero_le _, Nat.zero_le _⟩ ?_
    refine aw_if_neN (tgt := 20) dX4_set_11 (by decide) (by omega) (fun hc11 => absurd rfl hc11) (fun hc11 => ?_)
    refine aw_aload_n dX4_set_14 rfl ?_
    refine aw_iconst (v := nI 1) dX4_set_15 rfl ?_
    refine aw_vUp dX4_set_16 cvX4_93 ⟨Nat.le_of_ble_eq_true rfl, Nat.le_of_ble_eq_true rfl⟩ (by assumption) ⟨_, rfl, rfl⟩ (r_fails hL (nI 1)) rfl rfl (Nat.le_of_ble_eq_true rfl) ⟨rfl, rfl⟩ ⟨Nat.zero_le _, Nat.zero_le _⟩ (fun I16 hP16 => ?_)
    exact aw_iret dX4_set_19 rfl (Nat.zero_le _) (Nat.zero_le _) ⟨rfl, _, rfl, failS hS hP16⟩
theorem M_close (hL : LM G K R) (hS : MS I (a, hs, B)) (hI : IV m k a) (hl1 : L1 a) (hmk : m + k ≤ 900000000) (v : Int32) : Run G YX4_close [.ref (G.1 140), .int v] (K, R, I, J, z) (MP K R J z I (sClose v (a, hs, B))) := by
  obtain ⟨hk0, hr1, hk1, hr2, hk2, hr3, hk3, hr5, hk5, hr9, hk9⟩ := hL
  have hL : LM G K R := ⟨hk0, hr1, hk1, hr2, hk2, hr3, hk3, hr5, hk5, hr9, hk9⟩
  have h16 := hI.2.1
  have hS0 := hS.th (x := nI 0)
  have hM0 : RM (up2 I 140 0 (nI 0) 141) a := hS0.1
  have hH0 : RH (up2 I 140 0 (nI 0)) hs := hS0.2.1
  have hB0 : RB (up2 I 140 0 (nI 0)) B := hS0.2.2
  have hn9 : up2 I 140 0 (nI 0) 141 9 = nI a.2.1.length := hS0.1.2.1
  have hC : ∀ c ∈ a.2.1, c 0 < 4 ∧ c 3 ≤ 1 := fun c hc => ⟨(hI.2.2.1 c hc).1, (hI.2.2.1 c hc).2.2.2.2.1⟩

  by_cases hv : inR v 0 3
  rotate_left
  · have hx : sClose v (a, hs, B) = (1, 0, (a, hs, B)) := by unfold sClose; rw [if_neg hv]
    rw [hx]
    refine run_of (ls := [(0, .ref (G.1 140)), (1, .int v)]) (by decide +kernel) rfl rfl (Nat.le_of_ble_eq_true rfl) ?_
    refine aw_aload_n dX4_close_0 rfl ?_
    refine aw_iconst (v := nI 0) dX4_close_1 rfl ?_
    refine aw_putI dX4_close_2 flX4_25 rfl (by intro r hr; cases hr; rfl) (by assumption) (by omega) rfl rfl ?_
    refine aw_iload_n dX4_close_5 rfl ?_
    refine aw_sRd dX4_close_6 cvX4_90 ⟨Nat.le_of_ble_eq_true rfl, Nat.le_of_ble_eq_true rfl⟩ (isS0 hv) rfl rfl (Nat.le_of_ble_eq_true rfl) ⟨rfl, rfl⟩ ⟨Nat.zero_le _, Nat.zero_le _⟩ ?_
    refine aw_if_neN (tgt := 18) dX4_close_9 (by decide) (by omega) (fun hc9 => absurd rfl hc9) (fun hc9 => ?_)
    refine aw_aload_n dX4_close_12 rfl ?_
    refine aw_iconst (v := nI 1) dX4_close_13 rfl ?_
    refine aw_vUp dX4_close_14 cvX4_93 ⟨Nat.le_of_ble_eq_true rfl, Nat.le_of_ble_eq_true rfl⟩ (by assumption) ⟨_, rfl, rfl⟩ (r_fails hL (nI 1)) rfl rfl (Nat.le_of_ble_eq_true rfl) ⟨rfl, rfl⟩ ⟨Nat.zero_le _, Nat.zero_le _⟩ (fun I14 hP14 => ?_)
    exact aw_iret dX4_close_17 rfl (Nat.zero_le _) (Nat.zero_le _) ⟨rfl, _, rfl, failS hS hP14⟩
  obtain ⟨hv1, -, hv3⟩ := inR_nat hv (by decide) (by decide)
  have hst : nv v < 4 := by omega
  have ht := (hI.2.2.2.2.1 _ hst).up hI.b
  have hx : sClose v (a, hs, B) = (0, nI (a.2.2 (nv v) 2), shutA a (nv v), pushH hs a, B) := by unfold sClose; rw [if_pos hv]
  rw [hx]
  clear hx
  obtain ⟨st, hst'⟩ : ∃ st, st = nv v := ⟨_, rfl⟩
  rw [← hst'] at hv1 hv3 hst ht ⊢
  subst hv1
  have loop : ∀ (I0 : Nat → Nat → Int32), (RH I0 (pushH hs a) ∧ (∀ q, q ≠ 143 → q ≠ 140 → I0 q = (up2 I 140 0 (nI 0)) q) ∧ ∀ j, j ≠ 4 → I0 140 j = (up2 I 140 0 (nI 0)) 140 j) → ∀ (d q : Nat) (I1 : Nat → Nat → Int32), a.2.1.length - q = d → q ≤ a.2.1.length → RM (I1 141) (a.1, clrF st q a.2.1, a.2.2) → FrO 141 I0 I1 → AW G YX4_close (MZ G YX4_close (MP K R J z I (0, nI (a.2.2 st 2), shutA a st, pushH hs a, B))) 31 [(0, .ref (G.1 140)), (1, .int (nI st)), (2, .int (nI (a.2.2 st 2))), (3, .int (nI q))] [] (K, R, I1, J, z) 0 0 := by
    intro I0 hP d
    induction d using Nat.strongRecOn with
    | _ d ih =>
    intro q I1 hd hq hM1 hF
    have hn1 : I1 141 9 = nI a.2.1.length := by have := hM1.2.1; rw [this]; exact congrArg nI (clrF_len _ _ _)
    have h16b : (clrF st q a.2.1).length ≤ 16 := by rw [clrF_len]; exact h16
    rcases Nat.lt_or_ge q a.2.1.length with hlt | hge
    rotate_left
    · have hqe : q = a.2.1.length := by omega
      subst hqe
      rw [clrF_all] at hM1 h16b
      refine aw_iload_n dX4_close_31 rfl ?_
      refine aw_aload_n dX4_close_32 rfl ?_
      refine aw_getR dX4_close_33 flX4_7 rfl (by assumption) (by assumption) ?_
      refine aw_bipush (v := nI 9) dX4_close_36 rfl ?_
      refine aw_iald dX4_close_38 (by assumption) (by omega) rfl (by omega) hn1 ?_
      refine aw_icmp_geN (tgt := 72) dX4_close_39 (by decide) (by omega) (by omega) (fun hc39 => ?_) (fun hc39 => absurd hc39 (by omega))
      refine aw_aload_n dX4_close_72 rfl ?_
      refine aw_iload_n dX4_close_73 rfl ?_
      refine aw_vUp0 dX4_close_74 cvX4_55 ⟨Nat.le_of_ble_eq_true rfl, Nat.le_of_ble_eq_true rfl⟩ (by assumption) ⟨_, rfl, rfl⟩ (r_closes (a := (a.1, a.2.1.map (clrC st), a.2.2)) hL hM1 h16b hst) rfl rfl (Nat.le_of_ble_eq_true rfl) ⟨rfl, rfl⟩ ⟨Nat.zero_le _, Nat.zero_le _⟩ (fun I74 hP74 => ?_)
      refine aw_iload_n dX4_close_77 rfl ?_
      exact aw_iret dX4_close_78 rfl (Nat.zero_le _) (Nat.zero_le _) ⟨rfl, _, rfl, hS.sv hP ⟨hP74.1, hF.tr hP74.2⟩⟩
    · obtain ⟨c, hc⟩ : ∃ c, a.2.1[q]? = some c := ⟨_, List.getElem?_eq_getElem hlt⟩
      have hcq : (clrF st q a.2.1)[q]? = some c := by rw [clrF_at hc, if_neg (by omega)]
      have hc0 := (hC c (List.mem_of_getElem? hc)).1
      refine aw_iload_n dX4_close_31 rfl ?_
      refine aw_aload_n dX4_close_32 rfl ?_
      refine aw_getR dX4_close_33 flX4_7 rfl (by assumption) (by assumption) ?_
      refine aw_bipush (v := nI 9) dX4_close_36 rfl ?_
      refine aw_iald dX4_close_38 (by assumption) (by omega) rfl (by omega) hn1 ?_
      refine aw_icmp_geN (tgt := 72) dX4_close_39 (by decide) (by omega) (by omega) (fun hc39 => absurd hc39 (by omega)) (fun hc39 => ?_)
      refine aw_aload_n dX4_close_42 rfl ?_
      refine aw_iload_n dX4_close_43 rfl ?_
      refine aw_iconst (v := nI 0) dX4_close_44 rfl ?_
      refine aw_vRd dX4_close_45 cvX4_63 ⟨Nat.le_of_ble_eq_true rfl, Nat.le_of_ble_eq_true rfl⟩ (by assumption) ⟨_, rfl, rfl⟩ (r_callOf (a := (a.1, clrF st q a.2.1, a.2.2)) hL hM1 hcq h16b (w := 0) (by decide)) rfl rfl (Nat.le_of_ble_eq_true rfl) ⟨rfl, rfl⟩ ⟨Nat.zero_le _, Nat.zero_le _⟩ ?_
      refine aw_iload_n dX4_close_48 rfl ?_
      refine aw_icmp_neN (tgt := 66) dX4_close_49 (by decide) (by omega) (by omega) (fun hc49 => ?_) (fun hc49 => ?_)
      · refine aw_iincN (k := 1) (ls' := [(3, _), (0, _), (1, _), (2, _)]) dX4_close_66 rfl rfl (by decide) rfl ?_
        refine aw_goto (tgt := 31) dX4_close_69 (by decide) ?_
        first
        | exact aw_pick [1, 2, 3, 0] rfl (ih (a.2.1.length - (q + 1)) (by omega) (q + 1) _ rfl (by omega) (by rw [clrF_s hc hc49]; exact hM1) hF)
        | exact aw_pick [1, 2, 3, 0] rfl (ih (a.2.1.length - (q + 1)) (by omega) (q + 1) _ rfl (by omega) (RM_clr hM1 h16 hc hc49 (fun j => up2_o)) (hF.tr FrO.up))
      · refine aw_aload_n dX4_close_52 rfl ?_
        refine aw_getR dX4_close_53 flX4_7 rfl (by assumption) (by assumption) ?_
        refine aw_bipush (v := nI 10) dX4_close_56 rfl ?_
        refine aw_iconst (v := nI 5) dX4_close_58 rfl ?_
        refine aw_iload_n dX4_close_59 rfl ?_
        first | refine aw_imulN dX4_close_60 ?_ | refine aw_imul dX4_close_60 ?_
        first | refine aw_iaddN dX4_close_61 ?_ | refine aw_iadd dX4_close_61 ?_
        refine aw_iconst (v := nI 3) dX4_close_62 rfl ?_
        first | refine aw_iaddN dX4_close_63 ?_ | refine aw_iadd dX4_close_63 ?_
        refine aw_iconst (v := nI 0) dX4_close_64 rfl ?_
        refine aw_iast dX4_close_65 (by assumption) (by omega) (by omega) rfl (by omega) ?_
        refine aw_iincN (k := 1) (ls' := [(3, _), (0, _), (1, _), (2, _)]) dX4_close_66 rfl rfl (by decide) rfl ?_
        refine aw_goto (tgt := 31) dX4_close_69 (by decide) ?_
        first
        | exact aw_pick [1, 2, 3, 0] rfl (ih (a.2.1.length - (q + 1)) (by omega) (q + 1) _ rfl (by omega) (by rw [clrF_s hc hc49]; exact hM1) hF)
        | exact aw_pick [1, 2, 3, 0] rfl (ih (a.2.1.length - (q + 1)) (by omega) (q + 1) _ rfl (by omega) (RM_clr hM1 h16 hc hc49 (fun j => up2_o)) (hF.tr FrO.up))
  refine run_of (ls := [(0, .ref (G.1 140)), (1, .int (nI st))]) (by decide +kernel) rfl rfl (Nat.le_of_ble_eq_true rfl) ?_
  refine aw_aload_n dX4_close_0 rfl ?_
  refine aw_iconst (v := nI 0) dX4_close_1 rfl ?_
  refine aw_putI dX4_close_2 flX4_25 rfl (by intro r hr; cases hr; rfl) (by assumption) (by omega) rfl rfl ?_
  refine aw_iload_n dX4_close_5 rfl ?_
  refine aw_sRd dX4_close_6 cvX4_90 ⟨Nat.le_of_ble_eq_true rfl, Nat.le_of_ble_eq_true rfl⟩ (isS1 hv) rfl rfl (Nat.le_of_ble_eq_true rfl) ⟨rfl, rfl⟩ ⟨Nat.zero_le _, Nat.zero_le _⟩ ?_
  refine aw_if_neN (tgt := 18) dX4_close_9 (by decide) (by omega) (fun hc9 => ?_) (fun hc9 => absurd hc9 (by decide))
  refine aw_aload_n dX4_close_18 rfl ?_
  refine aw_vUp0 dX4_close_19 cvX4_96 ⟨Nat.le_of_ble_eq_true rfl, Nat.le_of_ble_eq_true rfl⟩ (by assumption) ⟨_, rfl, rfl⟩ (r_saves hL hM0 h16 hH0) rfl rfl (Nat.le_of_ble_eq_true rfl) ⟨rfl, rfl⟩ ⟨Nat.zero_le _, Nat.zero_le _⟩ (fun I19 hP19 => ?_)
  refine aw_aload_n dX4_close_22 rfl ?_
  refine aw_iload_n dX4_close_23 rfl ?_
  refine aw_iconst (v := nI 2) dX4_close_24 rfl ?_
  refine aw_vRd dX4_close_25 cvX4_40 ⟨Nat.le_of_ble_eq_true rfl, Nat.le_of_ble_eq_true rfl⟩ (by assumption) ⟨_, rfl, rfl⟩ (r_of (a := a) hL (by rw [hP19.2.1 141 (by decide) (by decide)]; exact hM0) hst (w := 2) (by decide)) rfl rfl (Nat.le_of_ble_eq_true rfl) ⟨rfl, rfl⟩ ⟨Nat.zero_le _, Nat.zero_le _⟩ ?_
  refine aw_istore_n (ls' := [(2, _), (0, _), (1, _)]) dX4_close_28 (by decide) rfl ?_
  refine aw_iconst (v := nI 0) dX4_close_29 rfl ?_
  refine aw_istore_n (ls' := [(3, _), (2, _), (0, _), (1, _)]) dX4_close_30 (by decide) rfl ?_
  exact aw_pick [2, 3, 1, 0] rfl (loop I19 hP19 a.2.1.length 0 I19 rfl (Nat.zero_le _) (by rw [clrF_0]; exact (by rw [hP19.2.1 141 (by decide) (by decide)]; exact hM0)) FrO.rf)
theorem M_undo (hL : LM G K R) (hS : MS I (a, hs, B)) (hI : IV m k a) (hl1 : L1 a) (hmk : m + k ≤ 900000000) : Run G YX4_undo [.ref (G.1 140)] (K, R, I, J, z) (MP K R J z I (sUndo  (a, hs, B))) := by
  obtain ⟨hk0, hr1, hk1, hr2, hk2, hr3, hk3, hr5, hk5, hr9, hk9⟩ := hL
  have hL : LM G K R := ⟨hk0, hr1, hk1, hr2, hk2, hr3, hk3, hr5, hk5, hr9, hk9⟩
  have h16 := hI.2.1
  have hS0 := hS.th (x := nI 0)
  have hM0 : RM (up2 I 140 0 (nI 0) 141) a := hS0.1
  have hH0 : RH (up2 I 140 0 (nI 0)) hs := hS0.2.1
  have hB0 : RB (up2 I 140 0 (nI 0)) B := hS0.2.2
  have hn9 : up2 I 140 0 (nI 0) 141 9 = nI a.2.1.length := hS0.1.2.1
  have hC : ∀ c ∈ a.2.1, c 0 < 4 ∧ c 3 ≤ 1 := fun c hc => ⟨(hI.2.2.1 c hc).1, (hI.2.2.1 c hc).2.2.2.2.1⟩

  rcases List.eq_nil_or_concat hs with rfl | ⟨l, x, rfl⟩
  · have hx : sUndo (a, [], B) = (1, 0, (a, [], B)) := rfl
    rw [hx]
    have h4 : up2 I 140 0 (nI 0) 140 4 = nI 0 := hH0.1
    refine run_of (ls := [(0, .ref (G.1 140))]) (by decide +kernel) rfl rfl (Nat.le_of_ble_eq_true rfl) ?_
    refine aw_aload_n dX4_undo_0 rfl ?_
    refine aw_iconst (v := nI 0) dX4_undo_1 rfl ?_
    refine aw_putI dX4_undo_2 flX4_25 rfl (by intro r hr; cases hr; rfl) (by assumption) (by omega) rfl rfl ?_
    refine aw_aload_n dX4_undo_5 rfl ?_
    refine aw_getI dX4_undo_6 flX4_37 rfl (by assumption) h4 ?_
    refine aw_if_neN (tgt := 18) dX4_undo_9 (by decide) (by omega) (fun hc9 => absurd rfl hc9) (fun hc9 => ?_)
    refine aw_aload_n dX4_undo_12 rfl ?_
    refine aw_iconst (v := nI 1) dX4_undo_13 rfl ?_
    refine aw_vUp dX4_undo_14 cvX4_93 ⟨Nat.le_of_ble_eq_true rfl, Nat.le_of_ble_eq_true rfl⟩ (by assumption) ⟨_, rfl, rfl⟩ (r_fails hL (nI 1)) rfl rfl (Nat.le_of_ble_eq_true rfl) ⟨rfl, rfl⟩ ⟨Nat.zero_le _, Nat.zero_le _⟩ (fun I14 hP14 => ?_)
    exact aw_iret dX4_undo_17 rfl (Nat.zero_le _) (Nat.zero_le _) ⟨rfl, _, rfl, failS hS hP14⟩
  · simp only [List.concat_eq_append] at *
    have hx : sUndo (a, l ++ [x], B) = (0, nI l.length, x, l, B) := by
      unfold sUndo
      simp only [List.getLast?_append, List.getLast?_singleton, Option.some_or, List.dropLast_concat, List.length_append, List.length_singleton, Nat.add_sub_cancel]
    rw [hx]
    clear hx
    have hl6 : l.length + 1 ≤ 6 := by have := hH0.2.1; simp only [List.length_append, List.length_singleton] at this; exact this
    have h4 : up2 I 140 0 (nI 0) 140 4 = nI (l.length + 1) := by have := hH0.1; simp only [List.length_append, List.length_singleton] at this; exact this
    have hxM := (hH0.2.2 l.length x (by simp)).1
    have hx16 := (hH0.2.2 l.length x (by simp)).2
    obtain ⟨I0, hI0⟩ : ∃ I0, I0 = up2 (up2 I 140 0 (nI 0)) 140 4 (nI l.length) := ⟨_, rfl⟩
    have h04 : I0 140 4 = nI l.length := by rw [hI0, up2_o, if_pos rfl]
    have loop : ∀ (d q : Nat) (I1 : Nat → Nat → Int32), 218 - q = d → q ≤ 218 → FrO 141 I0 I1 → (∀ k, k < q → I1 141 k = I 143 (218 * l.length + k)) → AW G YX4_undo (MZ G YX4_undo (MP K R J z I (0, nI l.length, x, l, B))) 30 [(0, .ref (G.1 140)), (1, .int (nI q))] [] (K, R, I1, J, z) 0 0 := by
      intro d
      induction d using Nat.strongRecOn with
      | _ d ih =>
      intro q I1 hd hq hF hk
      have h14 : I1 140 4 = nI l.length := by rw [hF 140 (by decide)]; exact h04
      have h143 : ∀ j, I1 143 j = I 143 j := fun j => by rw [hF 143 (by decide), hI0, FrO.up 143 (by decide), FrO.up 143 (by decide)]
      refine aw_iload_n dX4_undo_30 rfl ?_
      refine aw_sipush (v := nI 218) dX4_undo_31 rfl ?_
      refine aw_icmp_geN (tgt := 64) dX4_undo_34 (by decide) (by omega) (by omega) (fun hc34 => ?_) (fun hc34 => ?_)
      · refine aw_aload_n dX4_undo_64 rfl ?_
        refine aw_getI dX4_undo_65 flX4_37 rfl (by assumption) h14 ?_
        refine aw_iret dX4_undo_68 rfl (Nat.zero_le _) (Nat.zero_le _) ?_
        have hq8 : q = 218 := by omega
        subst hq8
        refine ⟨rfl, _, rfl, ⟨?_, ?_, ?_⟩, ?_, fun q hq => ?_⟩
        · exact RM_congr hxM hx16 (fun k hk2 => by rw [hk k hk2, FrO.up 143 (by decide)])
        · exact ⟨h14, by show l.length ≤ 6; omega, fun i y hy => by
            have := hH0.2.2 i y (by rw [List.getElem?_append_left (List.getElem?_eq_some_iff.mp hy).1]; exact hy)
            rw [FrO.up 143 (by decide)] at this
            rw [show I1 143 = I 143 from funext h143]; exact this⟩
        · exact hB0.fr2 (by rw [hF 144 (by decide), hI0, FrO.up 144 (by decide)]) (by rw [hF 140 (by decide), hI0, up2_o, if_neg (by decide)])
        · rw [hF 140 (by decide), hI0, up2_o, if_neg (by decide), up2_o, if_pos rfl]
        · rw [hF q (by omega), hI0, FrO.up q (by omega), FrO.up q (by omega)]
      · refine aw_aload_n dX4_undo_37 rfl ?_
        refine aw_getR dX4_undo_38 flX4_7 rfl (by assumption) (by assumption) ?_
        refine aw_iload_n dX4_undo_41 rfl ?_
        refine aw_aload_n dX4_undo_42 rfl ?_
        refine aw_getR dX4_undo_43 flX4_16 rfl (by assumption) (by assumption) ?_
        refine aw_sipush (v := nI 218) dX4_undo_46 rfl ?_
        refine aw_aload_n dX4_undo_49 rfl ?_
        refine aw_getI dX4_undo_50 flX4_37 rfl (by assumption) h14 ?_
        first | refine aw_imulN dX4_undo_53 ?_ | refine aw_imul dX4_undo_53 ?_
        refine aw_iload_n dX4_undo_54 rfl ?_
        first | refine aw_iaddN dX4_undo_55 ?_ | refine aw_iadd dX4_undo_55 ?_
        refine aw_iald dX4_undo_56 (by assumption) (by omega) rfl (by omega) (h143 _) ?_
        refine aw_iast dX4_undo_57 (by assumption) (by omega) (by omega) rfl (by omega) ?_
        refine aw_iincN (k := 1) (ls' := [(1, _), (0, _)]) dX4_undo_58 rfl rfl (by decide) rfl ?_
        refine aw_goto (tgt := 30) dX4_undo_61 (by decide) ?_
        exact aw_pick [1, 0] rfl (ih (218 - (q + 1)) (by omega) (q + 1) _ rfl (by omega) (hF.tr FrO.up) (fun k hk2 => by
          rw [up2_o]
          by_cases e : k = q
          · subst e; rw [if_pos rfl]
          · rw [if_neg e]; exact hk k (by omega)))
    refine run_of (ls := [(0, .ref (G.1 140))]) (by decide +kernel) rfl rfl (Nat.le_of_ble_eq_true rfl) ?_
    refine aw_aload_n dX4_undo_0 rfl ?_
    refine aw_iconst (v := nI 0) dX4_undo_1 rfl ?_
    refine aw_putI dX4_undo_2 flX4_25 rfl (by intro r hr; cases hr; rfl) (by assumption) (by omega) rfl rfl ?_
    refine aw_aload_n dX4_undo_5 rfl ?_
    refine aw_getI dX4_undo_6 flX4_37 rfl (by assumption) h4 ?_
    refine aw_if_neN (tgt := 18) dX4_undo_9 (by decide) (by omega) (fun hc9 => ?_) (fun hc9 => absurd hc9 (by omega))
    refine aw_aload_n dX4_undo_18 rfl ?_
    refine aw_dup dX4_undo_19 rfl ?_
    refine aw_getI dX4_undo_20 flX4_37 rfl (by assumption) h4 ?_
    refine aw_iconst (v := nI 1) dX4_undo_23 rfl ?_
    first | refine aw_isubN dX4_undo_24 (by omega) ?_ | refine aw_isub dX4_undo_24 ?_
    refine aw_putI dX4_undo_25 flX4_37 rfl (by intro r hr; cases hr; rfl) (by assumption) (by omega) rfl rfl ?_
    rw [Nat.add_sub_cancel]
    rw [← hI0]
    refine aw_iconst (v := nI 0) dX4_undo_28 rfl ?_
    refine aw_istore_n (ls' := [(1, _), (0, _)]) dX4_undo_29 (by decide) rfl ?_
    exact aw_pick [1, 0] rfl (loop 218 0 I0 rfl (by decide) FrO.rf (fun k hk => absurd hk (by omega)))
end MODEL14
