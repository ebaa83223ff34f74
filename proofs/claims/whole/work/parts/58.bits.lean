/-! THE BITS OF A SHARE, as the JDK tells them -/
theorem raw1 : Cond.methodLink RJxe99ae 134 ⟨"java/lang/Double", "doubleToRawLongBits", "(D)J"⟩ ∈ gT := gT_ix 959 (by decide +kernel) rfl
theorem raw2 : Cond.static ⟨"java/lang/Double", "doubleToRawLongBits", "(D)J"⟩ ∈ gT := gT_ix 960 (by decide +kernel) rfl
theorem raw3 : Cond.native ⟨"java/lang/Double", "doubleToRawLongBits", "(D)J"⟩ ∈ gT := gT_ix 961 (by decide +kernel) rfl
theorem raw4 : Cond.initialized "java/lang/Double" ∈ gT := gT_ix 55 (by decide +kernel) rfl
theorem aw_raw {G : GG} {y : YY} {Z : ZT} {pc : Nat} {ls : List (Nat × Value)} {st : List Value} {σ : Sg} {cu su : Nat} {b : UInt64} (hd : decode y.2.1 pc = .ok (.invokestatic 134, 3)) (hy : y.1.cls = RJxe99ae) (hf : 1 ≤ y.2.2.2.2.1.frames) (hl : (st.map fun v => v.category).sum + 15 ≤ y.2.2.2.2.1.locals)
    (kk : AW G y Z (pc + 3) ls (.long b.toInt64 :: st) σ cu su) : AW G y Z pc ls (.double b :: st) σ cu su := by
  intro p e s m args below meth c H locs lsa C V S L
  obtain ⟨hx, hb, hml, hret, hlk, hts, hown, hE, hnm, htb⟩ := id C
  rw [hy] at hown
  exact vn_d2l hx hb (by rw [hml]; exact L.1.symm) hown (hts _ raw1) (hts _ raw3) (hts _ raw2) (hts _ raw4) hf hl hd (kk p e s m args below meth c H locs lsa C V S L)
section BITS
variable {G : GG} {K : Nat → Option (Nat × Nat)} {R : Nat → Nat → Value} {I : Nat → Nat → Int32} {J : Nat → Nat → Int64} {z : Nat} {σ : Sg} {a : AA} {m k : Nat}
theorem j_isNaN {b : UInt64} (hb : FP.Core.val64 b ≠ .nan) : Run G YJxe99ae_isNaN_b9ae7 [.double b] σ (Rd σ (.int (nI 0))) := by
  have hc : Op.cmpValue (FP.dcmp b b) .l = nI 0 := by
    rw [show FP.dcmp b b = some .eq from FP.Core.dcmp_self hb]; rfl
  refine run_of (ls := [(0, .double b)]) (by decide +kernel) rfl rfl (Nat.le_of_ble_eq_true rfl) ?_
  refine aw_dload_n dJxe99ae_isNaN_b9ae7_0 rfl ?_
  refine aw_dload_n dJxe99ae_isNaN_b9ae7_1 rfl ?_
  refine aw_dcmp dJxe99ae_isNaN_b9ae7_2 ?_
  rw [hc]
  refine aw_dia (tgt := 10) (jn := 11) (c1 := 1) (c0 := 0) dJxe99ae_isNaN_b9ae7_3 (by decide) dJxe99ae_isNaN_b9ae7_6 rfl dJxe99ae_isNaN_b9ae7_7 (by decide) dJxe99ae_isNaN_b9ae7_10 rfl rfl (by omega) rfl ?_
  exact aw_zret dJxe99ae_isNaN_b9ae7_11 rfl rfl (Nat.zero_le _) (Nat.zero_le _) ⟨rfl, rfl⟩
theorem j_bits {b : UInt64} (hb : FP.Core.val64 b ≠ .nan) : Run G YJxe99ae_doubleToLongBits_ccdee [.double b] σ (Rd σ (.long b.toInt64)) := by
  refine run_of (ls := [(0, .double b)]) (by decide +kernel) rfl rfl (Nat.le_of_ble_eq_true rfl) ?_
  refine aw_dload_n dJxe99ae_doubleToLongBits_ccdee_0 rfl ?_
  refine aw_sRd dJxe99ae_doubleToLongBits_ccdee_1 cvJxe99ae_122 ⟨Nat.le_of_ble_eq_true rfl, Nat.le_of_ble_eq_true rfl⟩ (j_isNaN hb) rfl rfl (Nat.le_of_ble_eq_true rfl) ⟨rfl, rfl⟩ ⟨Nat.zero_le _, Nat.zero_le _⟩ ?_
  refine aw_if_neN (tgt := 12) dJxe99ae_doubleToLongBits_ccdee_4 (by decide) (by omega) (fun hc4 => absurd rfl hc4) (fun hc4 => ?_)
  refine aw_dload_n dJxe99ae_doubleToLongBits_ccdee_7 rfl ?_
  refine aw_raw dJxe99ae_doubleToLongBits_ccdee_8 rfl (Nat.le_of_ble_eq_true rfl) (Nat.le_of_ble_eq_true rfl) ?_
  exact aw_lret dJxe99ae_doubleToLongBits_ccdee_11 rfl (Nat.zero_le _) (Nat.zero_le _) ⟨rfl, rfl⟩
end BITS
