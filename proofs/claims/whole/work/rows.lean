section
-- ===== PART A: goes FIRST, ahead of the names: the tables' words, and 'selects' of the private methods out of them =====
/-- a private method of a class that the tables say can be made, by its rows of tables_1 -/
def lw_okq (q : MethodName × Nat) : Prop := (q.1.cls ≠ "java/lang/invoke/MethodHandle" ∧ q.1.cls ≠ "java/lang/invoke/VarHandle") ∧ Cond.instantiable q.1.cls q.2 ∈ tables_1 ∧ Cond.privateMethod q.1 ∈ tables_1 ∧ Cond.instanceMethod q.1 ∈ tables_1
theorem lw_p0 : lw_okq (⟨"BreakerTrials", "counted", "(I)I"⟩, 6) := ⟨⟨by decide +kernel, by decide +kernel⟩, List.mem_of_getElem? (i := 19) (by decide +kernel), List.mem_of_getElem? (i := 244) (by decide +kernel), List.mem_of_getElem? (i := 245) (by decide +kernel)⟩
theorem lw_p1 : lw_okq (⟨"BreakerTrials", "foresee", "(III)V"⟩, 6) := ⟨⟨by decide +kernel, by decide +kernel⟩, List.mem_of_getElem? (i := 19) (by decide +kernel), List.mem_of_getElem? (i := 257) (by decide +kernel), List.mem_of_getElem? (i := 258) (by decide +kernel)⟩
theorem lw_p2 : lw_okq (⟨"BreakerTrials", "mixStore", "(JI)J"⟩, 6) := ⟨⟨by decide +kernel, by decide +kernel⟩, List.mem_of_getElem? (i := 19) (by decide +kernel), List.mem_of_getElem? (i := 349) (by decide +kernel), List.mem_of_getElem? (i := 350) (by decide +kernel)⟩
theorem lw_p3 : lw_okq (⟨"BreakerTrials", "foreseen", "(II)I"⟩, 6) := ⟨⟨by decide +kernel, by decide +kernel⟩, List.mem_of_getElem? (i := 19) (by decide +kernel), List.mem_of_getElem? (i := 358) (by decide +kernel), List.mem_of_getElem? (i := 359) (by decide +kernel)⟩
theorem lw_p4 : lw_okq (⟨"java/lang/Throwable", "fillInStackTrace", "(I)Ljava/lang/Throwable;"⟩, 6) := ⟨⟨by decide +kernel, by decide +kernel⟩, List.mem_of_getElem? (i := 418) (by decide +kernel), List.mem_of_getElem? (i := 416) (by decide +kernel), List.mem_of_getElem? (i := 417) (by decide +kernel)⟩
theorem lw_p5 : lw_okq (⟨"BreakerTrials", "save", "()V"⟩, 6) := ⟨⟨by decide +kernel, by decide +kernel⟩, List.mem_of_getElem? (i := 19) (by decide +kernel), List.mem_of_getElem? (i := 465) (by decide +kernel), List.mem_of_getElem? (i := 466) (by decide +kernel)⟩
theorem lw_p6 : lw_okq (⟨"BreakerTrialsModel", "lay", "(III)V"⟩, 12) := ⟨⟨by decide +kernel, by decide +kernel⟩, List.mem_of_getElem? (i := 645) (by decide +kernel), List.mem_of_getElem? (i := 651) (by decide +kernel), List.mem_of_getElem? (i := 652) (by decide +kernel)⟩
theorem lw_p7 : lw_okq (⟨"BreakerTrialsModel", "fails", "(I)I"⟩, 12) := ⟨⟨by decide +kernel, by decide +kernel⟩, List.mem_of_getElem? (i := 645) (by decide +kernel), List.mem_of_getElem? (i := 706) (by decide +kernel), List.mem_of_getElem? (i := 707) (by decide +kernel)⟩
theorem lw_p8 : lw_okq (⟨"BreakerTrialsModel", "isRefused", "(I)Z"⟩, 12) := ⟨⟨by decide +kernel, by decide +kernel⟩, List.mem_of_getElem? (i := 645) (by decide +kernel), List.mem_of_getElem? (i := 710) (by decide +kernel), List.mem_of_getElem? (i := 711) (by decide +kernel)⟩
theorem lw_p9 : lw_okq (⟨"BreakerTrialsModel", "of", "(II)I"⟩, 12) := ⟨⟨by decide +kernel, by decide +kernel⟩, List.mem_of_getElem? (i := 645) (by decide +kernel), List.mem_of_getElem? (i := 714) (by decide +kernel), List.mem_of_getElem? (i := 715) (by decide +kernel)⟩
theorem lw_p10 : lw_okq (⟨"BreakerTrialsModel", "hasTrial", "(I)Z"⟩, 12) := ⟨⟨by decide +kernel, by decide +kernel⟩, List.mem_of_getElem? (i := 645) (by decide +kernel), List.mem_of_getElem? (i := 718) (by decide +kernel), List.mem_of_getElem? (i := 719) (by decide +kernel)⟩
theorem lw_p11 : lw_okq (⟨"BreakerTrialsModel", "callOf", "(II)I"⟩, 12) := ⟨⟨by decide +kernel, by decide +kernel⟩, List.mem_of_getElem? (i := 645) (by decide +kernel), List.mem_of_getElem? (i := 722) (by decide +kernel), List.mem_of_getElem? (i := 723) (by decide +kernel)⟩
theorem lw_p12 : lw_okq (⟨"BreakerTrialsModel", "saves", "()V"⟩, 12) := ⟨⟨by decide +kernel, by decide +kernel⟩, List.mem_of_getElem? (i := 645) (by decide +kernel), List.mem_of_getElem? (i := 726) (by decide +kernel), List.mem_of_getElem? (i := 727) (by decide +kernel)⟩
theorem lw_p13 : lw_okq (⟨"BreakerTrialsModel", "calls", "(I)I"⟩, 12) := ⟨⟨by decide +kernel, by decide +kernel⟩, List.mem_of_getElem? (i := 645) (by decide +kernel), List.mem_of_getElem? (i := 730) (by decide +kernel), List.mem_of_getElem? (i := 731) (by decide +kernel)⟩
theorem lw_p14 : lw_okq (⟨"BreakerTrialsModel", "adds", "(II)V"⟩, 12) := ⟨⟨by decide +kernel, by decide +kernel⟩, List.mem_of_getElem? (i := 645) (by decide +kernel), List.mem_of_getElem? (i := 734) (by decide +kernel), List.mem_of_getElem? (i := 735) (by decide +kernel)⟩
theorem lw_p15 : lw_okq (⟨"BreakerTrialsModel", "comesOut", "(IIZI)V"⟩, 12) := ⟨⟨by decide +kernel, by decide +kernel⟩, List.mem_of_getElem? (i := 645) (by decide +kernel), List.mem_of_getElem? (i := 738) (by decide +kernel), List.mem_of_getElem? (i := 739) (by decide +kernel)⟩
def lw_privs_1 : List (MethodName × Nat) := [(⟨"BreakerTrials", "counted", "(I)I"⟩, 6), (⟨"BreakerTrials", "foresee", "(III)V"⟩, 6), (⟨"BreakerTrials", "mixStore", "(JI)J"⟩, 6), (⟨"BreakerTrials", "foreseen", "(II)I"⟩, 6), (⟨"java/lang/Throwable", "fillInStackTrace", "(I)Ljava/lang/Throwable;"⟩, 6), (⟨"BreakerTrials", "save", "()V"⟩, 6), (⟨"BreakerTrialsModel", "lay", "(III)V"⟩, 12), (⟨"BreakerTrialsModel", "fails", "(I)I"⟩, 12), (⟨"BreakerTrialsModel", "isRefused", "(I)Z"⟩, 12), (⟨"BreakerTrialsModel", "of", "(II)I"⟩, 12), (⟨"BreakerTrialsModel", "hasTrial", "(I)Z"⟩, 12), (⟨"BreakerTrialsModel", "callOf", "(II)I"⟩, 12), (⟨"BreakerTrialsModel", "saves", "()V"⟩, 12), (⟨"BreakerTrialsModel", "calls", "(I)I"⟩, 12), (⟨"BreakerTrialsModel", "adds", "(II)V"⟩, 12), (⟨"BreakerTrialsModel", "comesOut", "(IIZI)V"⟩, 12)]
theorem lw_r1 : ∀ q ∈ lw_privs_1, lw_okq q := List.forall_mem_cons.mpr ⟨lw_p0, List.forall_mem_cons.mpr ⟨lw_p1, List.forall_mem_cons.mpr ⟨lw_p2, List.forall_mem_cons.mpr ⟨lw_p3, List.forall_mem_cons.mpr ⟨lw_p4, List.forall_mem_cons.mpr ⟨lw_p5, List.forall_mem_cons.mpr ⟨lw_p6, List.forall_mem_cons.mpr ⟨lw_p7, List.forall_mem_cons.mpr ⟨lw_p8, List.forall_mem_cons.mpr ⟨lw_p9, List.forall_mem_cons.mpr ⟨lw_p10, List.forall_mem_cons.mpr ⟨lw_p11, List.forall_mem_cons.mpr ⟨lw_p12, List.forall_mem_cons.mpr ⟨lw_p13, List.forall_mem_cons.mpr ⟨lw_p14, List.forall_mem_cons.mpr ⟨lw_p15, fun _ h => absurd h List.not_mem_nil⟩⟩⟩⟩⟩⟩⟩⟩⟩⟩⟩⟩⟩⟩⟩⟩
theorem lw_p16 : lw_okq (⟨"BreakerTrialsModel", "cutsOff", "(II)V"⟩, 12) := ⟨⟨by decide +kernel, by decide +kernel⟩, List.mem_of_getElem? (i := 645) (by decide +kernel), List.mem_of_getElem? (i := 742) (by decide +kernel), List.mem_of_getElem? (i := 743) (by decide +kernel)⟩
theorem lw_p17 : lw_okq (⟨"BreakerTrialsModel", "closes", "(I)V"⟩, 12) := ⟨⟨by decide +kernel, by decide +kernel⟩, List.mem_of_getElem? (i := 645) (by decide +kernel), List.mem_of_getElem? (i := 746) (by decide +kernel), List.mem_of_getElem? (i := 747) (by decide +kernel)⟩
theorem lw_p18 : lw_okq (⟨"BreakerTrialsModel", "inWindow", "(I)I"⟩, 12) := ⟨⟨by decide +kernel, by decide +kernel⟩, List.mem_of_getElem? (i := 645) (by decide +kernel), List.mem_of_getElem? (i := 751) (by decide +kernel), List.mem_of_getElem? (i := 752) (by decide +kernel)⟩
theorem lw_p19 : lw_okq (⟨"BreakerTrialsModel", "badInWindow", "(I)I"⟩, 12) := ⟨⟨by decide +kernel, by decide +kernel⟩, List.mem_of_getElem? (i := 645) (by decide +kernel), List.mem_of_getElem? (i := 755) (by decide +kernel), List.mem_of_getElem? (i := 756) (by decide +kernel)⟩
theorem lw_p20 : lw_okq (⟨"BreakerTrialsModel", "callsOften", "(III)I"⟩, 12) := ⟨⟨by decide +kernel, by decide +kernel⟩, List.mem_of_getElem? (i := 645) (by decide +kernel), List.mem_of_getElem? (i := 763) (by decide +kernel), List.mem_of_getElem? (i := 764) (by decide +kernel)⟩
theorem lw_p21 : lw_okq (⟨"BreakerTrialsModel", "ticks", "(I)I"⟩, 12) := ⟨⟨by decide +kernel, by decide +kernel⟩, List.mem_of_getElem? (i := 645) (by decide +kernel), List.mem_of_getElem? (i := 767) (by decide +kernel), List.mem_of_getElem? (i := 768) (by decide +kernel)⟩
theorem lw_p22 : lw_okq (⟨"BreakerTrialsModel", "tick", "()I"⟩, 12) := ⟨⟨by decide +kernel, by decide +kernel⟩, List.mem_of_getElem? (i := 645) (by decide +kernel), List.mem_of_getElem? (i := 771) (by decide +kernel), List.mem_of_getElem? (i := 772) (by decide +kernel)⟩
theorem lw_p23 : lw_okq (⟨"BreakerTrialsModel", "drops", "(I)V"⟩, 12) := ⟨⟨by decide +kernel, by decide +kernel⟩, List.mem_of_getElem? (i := 645) (by decide +kernel), List.mem_of_getElem? (i := 775) (by decide +kernel), List.mem_of_getElem? (i := 776) (by decide +kernel)⟩
theorem lw_p24 : lw_okq (⟨"BreakerTrialsModel", "bestStore", "()I"⟩, 12) := ⟨⟨by decide +kernel, by decide +kernel⟩, List.mem_of_getElem? (i := 645) (by decide +kernel), List.mem_of_getElem? (i := 783) (by decide +kernel), List.mem_of_getElem? (i := 784) (by decide +kernel)⟩
theorem lw_p25 : lw_okq (⟨"BreakerTrialsModel", "onWayOf", "(I)I"⟩, 12) := ⟨⟨by decide +kernel, by decide +kernel⟩, List.mem_of_getElem? (i := 645) (by decide +kernel), List.mem_of_getElem? (i := 787) (by decide +kernel), List.mem_of_getElem? (i := 788) (by decide +kernel)⟩
theorem lw_p26 : lw_okq (⟨"BreakerTrialsModel", "readsAll", "()V"⟩, 12) := ⟨⟨by decide +kernel, by decide +kernel⟩, List.mem_of_getElem? (i := 645) (by decide +kernel), List.mem_of_getElem? (i := 818) (by decide +kernel), List.mem_of_getElem? (i := 819) (by decide +kernel)⟩
theorem lw_p27 : lw_okq (⟨"BreakerTrialsModel", "readsNumber", "()V"⟩, 12) := ⟨⟨by decide +kernel, by decide +kernel⟩, List.mem_of_getElem? (i := 645) (by decide +kernel), List.mem_of_getElem? (i := 822) (by decide +kernel), List.mem_of_getElem? (i := 823) (by decide +kernel)⟩
theorem lw_p28 : lw_okq (⟨"BreakerTrialsModel", "sign", "()I"⟩, 12) := ⟨⟨by decide +kernel, by decide +kernel⟩, List.mem_of_getElem? (i := 645) (by decide +kernel), List.mem_of_getElem? (i := 826) (by decide +kernel), List.mem_of_getElem? (i := 827) (by decide +kernel)⟩
theorem lw_p29 : lw_okq (⟨"BreakerTrialsModel", "tellsStore", "(II)I"⟩, 12) := ⟨⟨by decide +kernel, by decide +kernel⟩, List.mem_of_getElem? (i := 645) (by decide +kernel), List.mem_of_getElem? (i := 842) (by decide +kernel), List.mem_of_getElem? (i := 843) (by decide +kernel)⟩
theorem lw_p30 : lw_okq (⟨"BreakerTrialsModel", "counts", "(I)I"⟩, 12) := ⟨⟨by decide +kernel, by decide +kernel⟩, List.mem_of_getElem? (i := 645) (by decide +kernel), List.mem_of_getElem? (i := 858) (by decide +kernel), List.mem_of_getElem? (i := 859) (by decide +kernel)⟩
theorem lw_p31 : lw_okq (⟨"BreakerTrialsModel", "overStores", "(I)I"⟩, 12) := ⟨⟨by decide +kernel, by decide +kernel⟩, List.mem_of_getElem? (i := 645) (by decide +kernel), List.mem_of_getElem? (i := 862) (by decide +kernel), List.mem_of_getElem? (i := 863) (by decide +kernel)⟩
def lw_privs_2 : List (MethodName × Nat) := [(⟨"BreakerTrialsModel", "cutsOff", "(II)V"⟩, 12), (⟨"BreakerTrialsModel", "closes", "(I)V"⟩, 12), (⟨"BreakerTrialsModel", "inWindow", "(I)I"⟩, 12), (⟨"BreakerTrialsModel", "badInWindow", "(I)I"⟩, 12), (⟨"BreakerTrialsModel", "callsOften", "(III)I"⟩, 12), (⟨"BreakerTrialsModel", "ticks", "(I)I"⟩, 12), (⟨"BreakerTrialsModel", "tick", "()I"⟩, 12), (⟨"BreakerTrialsModel", "drops", "(I)V"⟩, 12), (⟨"BreakerTrialsModel", "bestStore", "()I"⟩, 12), (⟨"BreakerTrialsModel", "onWayOf", "(I)I"⟩, 12), (⟨"BreakerTrialsModel", "readsAll", "()V"⟩, 12), (⟨"BreakerTrialsModel", "readsNumber", "()V"⟩, 12), (⟨"BreakerTrialsModel", "sign", "()I"⟩, 12), (⟨"BreakerTrialsModel", "tellsStore", "(II)I"⟩, 12), (⟨"BreakerTrialsModel", "counts", "(I)I"⟩, 12), (⟨"BreakerTrialsModel", "overStores", "(I)I"⟩, 12)]
theorem lw_r2 : ∀ q ∈ lw_privs_2, lw_okq q := List.forall_mem_cons.mpr ⟨lw_p16, List.forall_mem_cons.mpr ⟨lw_p17, List.forall_mem_cons.mpr ⟨lw_p18, List.forall_mem_cons.mpr ⟨lw_p19, List.forall_mem_cons.mpr ⟨lw_p20, List.forall_mem_cons.mpr ⟨lw_p21, List.forall_mem_cons.mpr ⟨lw_p22, List.forall_mem_cons.mpr ⟨lw_p23, List.forall_mem_cons.mpr ⟨lw_p24, List.forall_mem_cons.mpr ⟨lw_p25, List.forall_mem_cons.mpr ⟨lw_p26, List.forall_mem_cons.mpr ⟨lw_p27, List.forall_mem_cons.mpr ⟨lw_p28, List.forall_mem_cons.mpr ⟨lw_p29, List.forall_mem_cons.mpr ⟨lw_p30, List.forall_mem_cons.mpr ⟨lw_p31, fun _ h => absurd h List.not_mem_nil⟩⟩⟩⟩⟩⟩⟩⟩⟩⟩⟩⟩⟩⟩⟩⟩
theorem lw_p32 : lw_okq (⟨"BreakerTrialsModel", "would", "(IIII)I"⟩, 12) := ⟨⟨by decide +kernel, by decide +kernel⟩, List.mem_of_getElem? (i := 645) (by decide +kernel), List.mem_of_getElem? (i := 874) (by decide +kernel), List.mem_of_getElem? (i := 875) (by decide +kernel)⟩
theorem lw_p33 : lw_okq (⟨"BreakerTrialsModel", "putAside", "()V"⟩, 12) := ⟨⟨by decide +kernel, by decide +kernel⟩, List.mem_of_getElem? (i := 645) (by decide +kernel), List.mem_of_getElem? (i := 878) (by decide +kernel), List.mem_of_getElem? (i := 879) (by decide +kernel)⟩
theorem lw_p34 : lw_okq (⟨"BreakerTrialsModel", "takeBack", "()V"⟩, 12) := ⟨⟨by decide +kernel, by decide +kernel⟩, List.mem_of_getElem? (i := 645) (by decide +kernel), List.mem_of_getElem? (i := 882) (by decide +kernel), List.mem_of_getElem? (i := 883) (by decide +kernel)⟩
theorem lw_p35 : lw_okq (⟨"BreakerTrialsModel", "untilFree", "(I)I"⟩, 12) := ⟨⟨by decide +kernel, by decide +kernel⟩, List.mem_of_getElem? (i := 645) (by decide +kernel), List.mem_of_getElem? (i := 890) (by decide +kernel), List.mem_of_getElem? (i := 891) (by decide +kernel)⟩
theorem lw_p36 : lw_okq (⟨"BreakerTrialsModel", "share", "()D"⟩, 12) := ⟨⟨by decide +kernel, by decide +kernel⟩, List.mem_of_getElem? (i := 645) (by decide +kernel), List.mem_of_getElem? (i := 902) (by decide +kernel), List.mem_of_getElem? (i := 903) (by decide +kernel)⟩
theorem lw_p37 : lw_okq (⟨"BreakerTrialsModel", "hashes", "(J)V"⟩, 12) := ⟨⟨by decide +kernel, by decide +kernel⟩, List.mem_of_getElem? (i := 645) (by decide +kernel), List.mem_of_getElem? (i := 911) (by decide +kernel), List.mem_of_getElem? (i := 912) (by decide +kernel)⟩
def lw_privs_3 : List (MethodName × Nat) := [(⟨"BreakerTrialsModel", "would", "(IIII)I"⟩, 12), (⟨"BreakerTrialsModel", "putAside", "()V"⟩, 12), (⟨"BreakerTrialsModel", "takeBack", "()V"⟩, 12), (⟨"BreakerTrialsModel", "untilFree", "(I)I"⟩, 12), (⟨"BreakerTrialsModel", "share", "()D"⟩, 12), (⟨"BreakerTrialsModel", "hashes", "(J)V"⟩, 12)]
theorem lw_r3 : ∀ q ∈ lw_privs_3, lw_okq q := List.forall_mem_cons.mpr ⟨lw_p32, List.forall_mem_cons.mpr ⟨lw_p33, List.forall_mem_cons.mpr ⟨lw_p34, List.forall_mem_cons.mpr ⟨lw_p35, List.forall_mem_cons.mpr ⟨lw_p36, List.forall_mem_cons.mpr ⟨lw_p37, fun _ h => absurd h List.not_mem_nil⟩⟩⟩⟩⟩⟩
def lw_privs : List (MethodName × Nat) := lw_privs_1 ++ (lw_privs_2 ++ (lw_privs_3))
def lw_tbl : List Cond := k2_sels lw_privs ++ tables_1
theorem lw_privs_ok : ∀ q ∈ lw_privs, lw_okq q := by
  show ∀ q ∈ lw_privs_1 ++ (lw_privs_2 ++ (lw_privs_3)), lw_okq q
  exact List.forall_mem_append.mpr ⟨lw_r1, List.forall_mem_append.mpr ⟨lw_r2, lw_r3⟩⟩
/-- the streams that the claim lets the run draw from -/
abbrev lw_cs : List Choice := [Jvm.Choice.named "NaN.bits"]
theorem lw_bits : nanBits ∈ lw_cs := by first | decide | exact List.mem_cons_self | simp [lw_cs, nanBits]
/-! ===== BEGIN words of one list among another's, by their places ===== -/
theorem goodIn_r {big : List Cond} (ws : List Cond) (ps : List Nat) (hp : ws = ps.filterMap (fun i => big[i]?)) (h : ws.all goodWord = true) : GoodIn big ws := by
  intro w hw
  have h1 := List.all_eq_true.mp h w hw
  rw [hp] at hw
  obtain ⟨i, -, hi⟩ := List.mem_filterMap.mp hw
  have hm : w ∈ big := by first | exact List.mem_of_getElem? hi | exact List.getElem?_mem hi
  exact ⟨hm, good_of_word h1⟩
theorem goodIn_app {big a b : List Cond} (ha : GoodIn big a) (hb : GoodIn big b) : GoodIn big (a ++ b) := fun w h => (List.mem_append.mp h).elim (ha w) (hb w)
theorem goodIn_ca {big a b : List Cond} {c : Cond} (ha : GoodIn big (c :: a)) (hb : GoodIn big b) : GoodIn big (c :: (a ++ b)) := fun w h => (List.mem_cons.mp h).elim (fun e => ha w (List.mem_cons.mpr (Or.inl e))) (fun h => (List.mem_append.mp h).elim (fun h => ha w (List.mem_cons.mpr (Or.inr h))) (hb w))
theorem goodIn_sub {big ws : List Cond} (hm : ∀ w ∈ ws, w ∈ big) (h : ws.all goodWord = true) : GoodIn big ws := fun w hw => ⟨hm w hw, good_of_word (List.all_eq_true.mp h w hw)⟩
/-! ===== END ===== -/

theorem vr_outer (c : ClassId) (N h0 : Nat) : ∀ i : Nat, Jvm.Free.Multi.outerC c N h0 i = arrV c N (fun j => va_rf (if j < i then some (h0 + 1 + j) else none))
  | 0 => by
    show ({ cls := c, slots := Array.replicate N .null, vm := .none } : Cell) = _
    rw [arrV_new]
    refine congrArg (arrV c N) (funext fun j => ?_)
    simp [va_rf]
  | i + 1 => by
    show (Jvm.Free.Multi.outerC c N h0 i).setSlot i (.ref (h0 + 1 + i)) = _
    rw [vr_outer c N h0 i, arrV_store]
    refine congrArg (arrV c N) (funext fun j => ?_)
    by_cases e : j = i
    · subst e
      simp [updV, va_rf]
    · by_cases h : j < i
      · simp [updV, e, h, Nat.lt_succ_of_lt h]
      · simp [updV, e, h, show ¬ j < i + 1 by omega]

/-! ===== BEGIN exceptions that leave a method, and their catching by the caller (launches without stack traces) ===== -/
section VXA
/-! The laws vx_back, vx_callV, vx_callS, vx_callSW, vx_throw0, vx_throwS follow proofs of the library, with one case more: JvmDerived/Free/Laws.lean (Back.of_free), Shelf42/LK1.lean (callV, callS), Shelf/KitTraced.lean (throwNew0V, throwNewS). -/
/-- where a method has thrown q: the class by its name, the cell, what was written, the world -/
def vx_T (XC : String → State → State → Prop) (st : State) (q : Addr) (t : State) (mc ms : Nat) (free : Addr → Prop) : Prop :=
  ∃ (E : String) (ce : Cell) (L : List Loc), XC E st t ∧ t.heap[q]? = some ce ∧ ce.vm = .none ∧ st.vm.findClass E = some ce.cls ∧ st.WarmedH t.vm ∧ st.sameButNew ({ t with vm := st.vm } : State) L mc ms ∧ ∀ z ∈ L, free z.base
def vx_Q (Qc : Array Value → State → Outcome → State → Prop) (XC : String → State → State → Prop) (mc ms : Nat) (free : Addr → Prop) : Array Value → State → Outcome → State → Prop := fun a st o t =>
  (Qc a st o t ∧ ∃ L, FrameEnd st o t L mc ms ∧ ∀ q ∈ L, free q.base) ∨ ∃ q, o = .threw q ∧ vx_T XC st q t mc ms free
/-- a callee that returns or throws -/
def vx_Met (l : Launch) (y : MethodName) (ws : List Cond) (rm : Room) (Pc : Array Value → State → Prop) (Qc : Array Value → State → Outcome → State → Prop) (XC : String → State → State → Prop) (mc ms : Nat) (free : Addr → Prop) : Prop :=
  MetFree l y (headSpec ws rm) Pc (fun _ _ _ _ _ => True) (vx_Q Qc XC mc ms free)
def vx_Post (XC : String → State → State → Prop) (mc ms : Nat) (free : Addr → Prop) : Pt → Array Value → Addr → Pt → Prop := fun A a q B =>
  ∃ (g : JFrame) (mk : MethodId) (t : State) (L : List Loc) (E : String) (ce : Cell), B.U.heap = t.heap ∧ B.U.vm = t.vm ∧ XC E (A.U.calling g mk a) t ∧ t.heap[q]? = some ce ∧ ce.vm = .none ∧ A.U.vm.findClass E = some ce.cls ∧ B.locs = A.locs ++ L ∧ (∀ z ∈ L, free z.base) ∧ B.cells = A.cells + mc ∧ B.slots = A.slots + ms
def vx_Back (l : Launch) (R : Room) (p : Program) (e : Env) (below : List Frame) (s : State) (sargs : Array Value) (y : MethodName) (len W9 : Nat)
    (Pre : Pt → Array Value → Prop) (Post : Pt → Array Value → Option Value → Pt → Prop) (PostX : Pt → Array Value → Addr → Pt → Prop) : Prop :=
  ∀ (m : MethodId) (meth : Method) (c : Code) (A : Pt) (g : JFrame) (ig : Instr) (mk : MethodId) (a : Array Value),
    Stand p l e R s m sargs below meth c A.U A.locs A.cells A.slots → g.method = m → g.locals.size = c.maxLocals → decode c.code g.pc = .ok (ig, len) →
    2 * g.monitorRoom + (g.stack.map fun v => v.category).sum ≤ W9 → A.U.methodNamed? y = some mk → Pre A a →
    (∃ (v : Option Value) (B : Pt), Stand p l e R s m sargs below meth c B.U B.locs B.cells B.slots ∧ Post A a v B ∧
      Steps p.tables e below (doInvoke e (A.U.setTop g) [] mk a).1 (B.U.setTop { g with pc := g.pc + len, stack := v.toList ++ g.stack })) ∨
    (∃ (q : Addr) (B : Pt), Stand p l e R s m sargs below meth c B.U B.locs B.cells B.slots ∧ PostX A a q B ∧
      Steps p.tables e below (doInvoke e (A.U.setTop g) [] mk a).1 ((B.U.setTop g).pushFrame (.throwing q)))
section Payer
variable {l : Launch} {R : Room} {p : Program} {e : Env} {below : List Frame} {s : State} {sargs : Array Value} {y : MethodName} {len W9 : Nat}
theorem vx_back {ws : List Cond} {rm : Room} {Pc : Array Value → State → Prop} {Qc : Array Value → State → Outcome → State → Prop} {XC : String → State → State → Prop} {mc ms : Nat} {free : Addr → Prop} {bytes : ByteArray} {maxL : Nat} {ret : Option FieldType}
    (hM : vx_Met l y ws rm Pc Qc XC mc ms free) (hblind : FrameBlind Pc) (hrc : rm.cells = mc) (hrs : rm.slots = ms)
    (hframes : rm.frames + 1 ≤ R.frames) (hlocals : W9 + (maxL + 11) + rm.locals ≤ R.locals)
    (hws : ∀ w ∈ ws, ∀ a' U, s.WarmedH U.vm → w.before a' U = true) (hcode : Cond.code y bytes maxL ret ∈ ws) (hinit : ∀ a' U, s.WarmedH U.vm → (Cond.initialized y.cls).before a' U = true) :
    vx_Back l R p e below s sargs y len W9 (PreOf R mc ms Pc) (PostOf Qc mc ms free) (vx_Post XC mc ms free) := by
  intro m meth c A g ig mk a X hg hsize hdg hW hn hp
  have h1 : (headSpec ws rm).pre.before a A.U = true := atoms_intro fun w hw => hws w hw _ _ X.warmed
  have h2 : (Cond.code y bytes maxL ret).before a A.U = true := hws _ hcode _ _ X.warmed
  have h3 : (Cond.initialized y.cls).before a A.U = true := hinit _ _ X.warmed
  have h4 : A.cells + (headSpec ws rm).room.cells ≤ R.cells := by rw [show (headSpec ws rm).room.cells = mc from hrc]; exact hp.1
  have h5 : A.slots + (headSpec ws rm).room.slots ≤ R.slots := by rw [show (headSpec ws rm).room.slots = ms from hrs]; exact hp.2.1
  have hPc : Pc a (A.U.calling g mk a) := hblind _ _ _ _ hp.2.2
  obtain ⟨U, Ls, c0, s0⟩ := A
  dsimp only [Pt.U, Pt.locs, Pt.cells, Pt.slots] at h1 h2 h3 h4 h5 X hn hPc ⊢
  obtain ⟨methY, cY, hmY, hcY, -, hlY, -, -, -, -⟩ := Cond.code_spec hn h2
  obtain ⟨kY, hkY, -⟩ := className_of_methodNamed hn
  have hinitY : kY.init = .initialized := Cond.initialized_spec (findClass_of_methodNamed hn) hkY h3
  have h : At U g.method c below := by rw [hg]; exact X.here
  have hlocals9 : W9 + (maxL + 11) + (headSpec ws rm).room.locals ≤ R.locals := hlocals
  have happ : (headSpec ws rm).appliesLoose y e.platform (U.calling g mk a) = true :=
    Spec.appliesLoose_calling (g := g) h hdg hn hkY hinitY
      (X.room_calling (g := g) (R' := (headSpec ws rm).room) hsize hmY hcY hframes (by rw [hlY]; omega) h4 h5) h1
  obtain ⟨mid, hmid⟩ := h.above
  have hfr : (U.setTop g).frames = (.java g :: mid) ++ below := by rw [State.frames_setTop' g h.top, hmid]; rfl
  obtain ⟨o, s₂, hsteps, -, hend, hq⟩ := Steps.callFree hM p X.admits X.cas X.clock (acts := []) hfr happ hPc trivial
  have hq' : vx_Q Qc XC mc ms free a (U.calling g mk a) o s₂ := hq
  rw [State.frames_setTop' g h.top] at hend
  obtain ⟨g₀, hg0⟩ := Option.isSome_iff_exists.mp h.top
  obtain ⟨r, hr⟩ := State.topJava?_eq_some.mp hg0
  have hr' : (({ U with heap := s₂.heap, slotsUsed := s₂.slotsUsed } : State).setVm s₂.vm).frames = .java g₀ :: r := hr
  rcases hq' with ⟨hqc, L, hfe, hL⟩ | ⟨q, rfl, E, ce, L, hx, hce, hcv, hcl, hW₂, hsm, hL⟩
  · obtain ⟨⟨v, rfl⟩, hW₂, e2, q2, q3, q4, q5, q6⟩ := id hfe
    have e3 : s₂ = ({ (U.calling g mk a).setFrames s₂.frames with heap := s₂.heap, slotsUsed := s₂.slotsUsed } : State).setVm s₂.vm := by
      have : s₂ = ({ s₂ with vm := (U.calling g mk a).vm } : State).setVm s₂.vm := rfl
      rw [e2] at this
      exact this
    obtain ⟨c₂, i₂, len₂, hc₂, hd₂, hf₂⟩ := hend
    have hW' : U.WarmedH s₂.vm := hW₂
    have hcc : c₂ = c := by
      have h1 : s₂.code? g.method = U.code? g.method := by
        rw [State.code?_eq, State.code?_eq, hW'.alike.method?]
      exact Option.some.inj (hc₂.symm.trans (h1.trans h.code))
    subst hcc
    have hlen : len₂ = len := by rw [hdg] at hd₂; cases hd₂; rfl
    subst hlen
    have hs₂ : s₂ = (({ U with heap := s₂.heap, slotsUsed := s₂.slotsUsed } : State).setVm s₂.vm).setTop { g with pc := g.pc + len₂, stack := v.toList ++ g.stack } := by
      refine e3.trans ?_
      rw [hf₂, State.calling_eq h.top, State.setFrames_setFrames, State.setTop_of_frames _ hr', hr]
      rfl
    have hsame : U.sameButNew ({ U with heap := s₂.heap, slotsUsed := s₂.slotsUsed } : State) L mc ms := by
      refine ⟨?_, q2, q3, q4, q5, q6⟩
      obtain ⟨t, ht, -⟩ := State.frames_cons hr
      show ({ U with heap := s₂.heap, slotsUsed := s₂.slotsUsed } : State) = { U.setFrames U.frames with heap := s₂.heap, slotsUsed := s₂.slotsUsed }
      rw [State.setFrames_self ht]
    subst hg
    refine Or.inl ⟨v, ⟨(({ U with heap := s₂.heap, slotsUsed := s₂.slotsUsed } : State).setVm s₂.vm), Ls ++ L, c0 + mc, s0 + ms⟩,
      ⟨X.admits, X.cas, X.clock, X.frames, X.room, X.hears, X.method, X.code, (X.here.setHeapUsed s₂.heap s₂.slotsUsed).setVm hW'.alike, X.tail, State.WarmedH.trans X.warmed hW', X.limits, X.bytes, X.same.trans (hsame.setVm s.vm)⟩,
      ⟨g, mk, s₂, L, rfl, rfl, hqc, rfl, hL, rfl, rfl⟩, ?_⟩
    show Steps p.tables e below _ ((({ U with heap := s₂.heap, slotsUsed := s₂.slotsUsed } : State).setVm s₂.vm).setTop { g with pc := g.pc + len₂, stack := v.toList ++ g.stack })
    rw [← hs₂]
    exact hsteps
  · obtain ⟨e2, q2, q3, q4, q5, q6⟩ := id hsm
    have e3 : s₂ = ({ (U.calling g mk a).setFrames s₂.frames with heap := s₂.heap, slotsUsed := s₂.slotsUsed } : State).setVm s₂.vm := by
      have : s₂ = ({ s₂ with vm := (U.calling g mk a).vm } : State).setVm s₂.vm := rfl
      rw [e2] at this
      exact this
    have hf₂ : s₂.frames = .throwing q :: .java g :: U.frames.tail := hend
    have hW' : U.WarmedH s₂.vm := hW₂
    have hs₂ : s₂ = ((({ U with heap := s₂.heap, slotsUsed := s₂.slotsUsed } : State).setVm s₂.vm).setTop g).pushFrame (.throwing q) := by
      refine e3.trans ?_
      rw [hf₂, State.calling_eq h.top, State.setFrames_setFrames, State.pushFrame, State.frames_setTop _ hr', State.setTop_of_frames _ hr', State.setFrames_setFrames, hr]
      rfl
    have hsame : U.sameButNew ({ U with heap := s₂.heap, slotsUsed := s₂.slotsUsed } : State) L mc ms := by
      refine ⟨?_, q2, q3, q4, q5, q6⟩
      obtain ⟨t, ht, -⟩ := State.frames_cons hr
      show ({ U with heap := s₂.heap, slotsUsed := s₂.slotsUsed } : State) = { U.setFrames U.frames with heap := s₂.heap, slotsUsed := s₂.slotsUsed }
      rw [State.setFrames_self ht]
    subst hg
    refine Or.inr ⟨q, ⟨(({ U with heap := s₂.heap, slotsUsed := s₂.slotsUsed } : State).setVm s₂.vm), Ls ++ L, c0 + mc, s0 + ms⟩,
      ⟨X.admits, X.cas, X.clock, X.frames, X.room, X.hears, X.method, X.code, (X.here.setHeapUsed s₂.heap s₂.slotsUsed).setVm hW'.alike, X.tail, State.WarmedH.trans X.warmed hW', X.limits, X.bytes, X.same.trans (hsame.setVm s.vm)⟩,
      ⟨g, mk, s₂, L, E, ce, rfl, rfl, hx, hce, hcv, hcl, rfl, hL, rfl, rfl⟩, ?_⟩
    show Steps p.tables e below _ (((({ U with heap := s₂.heap, slotsUsed := s₂.slotsUsed } : State).setVm s₂.vm).setTop g).pushFrame (.throwing q))
    rw [← hs₂]
    exact hsteps
end Payer
section Calls
variable {p : Program} {l : Launch} {e : Env} {R : Room} {s : State} {m : MethodId} {args : Array Value} {below : List Frame} {meth : Method} {c : Code} {T : State} {locs : List Loc} {cells slots : Nat}
theorem vx_callV (X : Stand p l e R s m args below meth c T locs cells slots) (hexec : p.tables.exec = Jvm.exec) {own C : String} {index : Nat} {y : MethodName} {bytes : ByteArray} {maxL : Nat} {ret : Option FieldType}
    (hown : s.vm.findClass own = some m.cls) (hlink : (Cond.methodLink own index y).before args s = true) (hinst : (Cond.instanceMethod y).before args s = true) (hsel : (Cond.selects C y y).before args s = true)
    (hcode : (Cond.code y bytes maxL ret).before args s = true) (hy : y.cls ≠ "java/lang/invoke/MethodHandle" ∧ y.cls ≠ "java/lang/invoke/VarHandle")
    {W9 : Nat} {Pre : Pt → Array Value → Prop} {Post : Pt → Array Value → Option Value → Pt → Prop} {PostX : Pt → Array Value → Addr → Pt → Prop} (hK : vx_Back l R p e below s args y 3 W9 Pre Post PostX)
    {b : Addr} {cellB : Cell} (hcell : T.heap[b]? = some cellB) (hobj : cellB.vm.isStatics = false) (hcls : s.vm.findClass C = some cellB.cls)
    {g : JFrame} (hg : g.method = m) (hsize : g.locals.size = c.maxLocals) {argsL rest : List Value} (hlen : ∀ sig, parseMethodDescriptor y.desc = some sig → argsL.length = sig.parameters.length)
    (hstack : g.stack = argsL.reverse ++ .ref b :: rest) (hW : 2 * g.monitorRoom + (rest.map fun v => v.category).sum ≤ W9) (hdg : decode c.code g.pc = .ok (.invokevirtual index, 3))
    (hpre : ∀ vm₁, s.WarmedH vm₁ → Pre ⟨T.setVm vm₁, locs, cells, slots⟩ (Value.ref b :: argsL).toArray) :
    (∃ (v : Option Value) (vm₁ : Vm) (B : Pt), s.WarmedH vm₁ ∧ Stand p l e R s m args below meth c B.U B.locs B.cells B.slots ∧ Post ⟨T.setVm vm₁, locs, cells, slots⟩ (Value.ref b :: argsL).toArray v B ∧
      ∀ target, Steps p.tables e below (B.U.setTop { g with pc := g.pc + 3, stack := v.toList ++ rest }) target → Steps p.tables e below (T.setTop g) target) ∨
    (∃ (q : Addr) (vm₁ : Vm) (B : Pt), s.WarmedH vm₁ ∧ Stand p l e R s m args below meth c B.U B.locs B.cells B.slots ∧ PostX ⟨T.setVm vm₁, locs, cells, slots⟩ (Value.ref b :: argsL).toArray q B ∧
      Steps p.tables e below (T.setTop g) ((B.U.setTop { g with stack := rest }).pushFrame (.throwing q))) := by
  obtain ⟨mk, methM, hnamed, hmethM, hstM, habM⟩ := Cond.instanceMethod_spec hinst
  obtain ⟨methM', cM, hmethM', -, -, -, -, -, -, hsigM⟩ := Cond.code_spec hnamed hcode
  cases hmethM.symm.trans hmethM'
  obtain ⟨c2, r2, m2, q1, q2, q3, q4, kP, hkP, hkPi⟩ := Cond.selects_spec hsel
  cases hcls.symm.trans q1
  cases (State.methodFound?_of_named hnamed hy).symm.trans q2
  cases hnamed.symm.trans q3
  have hselP : selectMethod e.platform s.vm cellB.cls mk = .method mk := by rw [Launch.admits_selectMethod X.admits]; exact q4
  obtain ⟨vm₁, X₁, hstep₁⟩ := X.invokevirtual hexec hown hlink hnamed hmethM hstM hkP hkPi hy (a := b) (cell := cellB) hcell
    (fun z h => by rw [h] at hobj; cases hobj) hselP hmethM habM hkP hkPi (g := g) hg (argsL := argsL) (rest := rest) (hlen _ hsigM) hstack hdg
  rcases hK m meth c ⟨T.setVm vm₁, locs, cells, slots⟩ { g with stack := rest } (.invokevirtual index) mk (Value.ref b :: argsL).toArray X₁ hg hsize hdg hW (X₁.named hnamed) (hpre vm₁ X₁.warmed) with ⟨v, B, X', hpost, hsteps⟩ | ⟨q, B, X', hpost, hsteps⟩
  · exact Or.inl ⟨v, vm₁, B, X₁.warmed, X', hpost, fun target h => hstep₁ _ fun acts => by rw [doInvoke_state]; exact hsteps.trans h⟩
  · exact Or.inr ⟨q, vm₁, B, X₁.warmed, X', hpost, hstep₁ _ fun acts => by rw [doInvoke_state]; exact hsteps⟩
theorem vx_callS (X : Stand p l e R s m args below meth c T locs cells slots) (hexec : p.tables.exec = Jvm.exec) {own : String} {index : Nat} {y : MethodName} {bytes : ByteArray} {maxL : Nat} {ret : Option FieldType}
    (hown : s.vm.findClass own = some m.cls) (hlink : (Cond.methodLink own index y).before args s = true) (hstat : (Cond.static y).before args s = true) (hinit : (Cond.initialized y.cls).before args s = true)
    (hcode : (Cond.code y bytes maxL ret).before args s = true) (hy : y.cls ≠ "java/lang/invoke/MethodHandle" ∧ y.cls ≠ "java/lang/invoke/VarHandle")
    {W9 : Nat} {Pre : Pt → Array Value → Prop} {Post : Pt → Array Value → Option Value → Pt → Prop} {PostX : Pt → Array Value → Addr → Pt → Prop} (hK : vx_Back l R p e below s args y 3 W9 Pre Post PostX)
    {g : JFrame} (hg : g.method = m) (hsize : g.locals.size = c.maxLocals) {argsL rest : List Value} (hlen : ∀ sig, parseMethodDescriptor y.desc = some sig → argsL.length = sig.parameters.length)
    (hstack : g.stack = argsL.reverse ++ rest) (hW : 2 * g.monitorRoom + (rest.map fun v => v.category).sum ≤ W9) (hdg : decode c.code g.pc = .ok (.invokestatic index, 3))
    (hpre : ∀ vm₁, s.WarmedH vm₁ → Pre ⟨T.setVm vm₁, locs, cells, slots⟩ argsL.toArray) :
    (∃ (v : Option Value) (vm₁ : Vm) (B : Pt), s.WarmedH vm₁ ∧ Stand p l e R s m args below meth c B.U B.locs B.cells B.slots ∧ Post ⟨T.setVm vm₁, locs, cells, slots⟩ argsL.toArray v B ∧
      ∀ target, Steps p.tables e below (B.U.setTop { g with pc := g.pc + 3, stack := v.toList ++ rest }) target → Steps p.tables e below (T.setTop g) target) ∨
    (∃ (q : Addr) (vm₁ : Vm) (B : Pt), s.WarmedH vm₁ ∧ Stand p l e R s m args below meth c B.U B.locs B.cells B.slots ∧ PostX ⟨T.setVm vm₁, locs, cells, slots⟩ argsL.toArray q B ∧
      Steps p.tables e below (T.setTop g) ((B.U.setTop { g with stack := rest }).pushFrame (.throwing q))) := by
  obtain ⟨mk, hnamed⟩ := Cond.code_named hcode
  obtain ⟨methM, cM, hmethM, -, -, -, -, -, -, hsigM⟩ := Cond.code_spec hnamed hcode
  have hstatic : methM.isStatic = true := Cond.static_spec hnamed hmethM hstat
  obtain ⟨kP, hkP, -⟩ := className_of_methodNamed hnamed
  have hinitP : kP.init = .initialized := Cond.initialized_spec (findClass_of_methodNamed hnamed) hkP hinit
  obtain ⟨vm₁, X₁, hstep₁⟩ := X.invokestatic hexec hown hlink hnamed hmethM hstatic hkP hinitP hy (g := g) hg (argsL := argsL) (rest := rest) (hlen _ hsigM) hstack hdg
  rcases hK m meth c ⟨T.setVm vm₁, locs, cells, slots⟩ { g with stack := rest } (.invokestatic index) mk argsL.toArray X₁ hg hsize hdg hW (X₁.named hnamed) (hpre vm₁ X₁.warmed) with ⟨v, B, X', hpost, hsteps⟩ | ⟨q, B, X', hpost, hsteps⟩
  · exact Or.inl ⟨v, vm₁, B, X₁.warmed, X', hpost, fun target h => hstep₁ _ fun acts => by rw [doInvoke_state]; exact hsteps.trans h⟩
  · exact Or.inr ⟨q, vm₁, B, X₁.warmed, X', hpost, hstep₁ _ fun acts => by rw [doInvoke_state]; exact hsteps⟩
end Calls
theorem vx_cls {s : State} {T : State} {vm₁ : Vm} {E : String} {k : ClassId} (hW : s.WarmedH vm₁) (h : (T.setVm vm₁).vm.findClass E = some k) : s.vm.findClass E = some k := by
  have h1 : vm₁.findClass E = some k := h
  rw [hW.alike.findClass] at h1
  exact h1
/-- the method's frame g, with q thrown over it -/
def vx_W (p : Program) (l : Launch) (e : Env) (R : Room) (s : State) (m : MethodId) (args : Array Value) (below : List Frame) (meth : Method) (c : Code) (H : Heap) (locs : List Loc) (cells slots : Nat) (Q : State → Prop) (g : JFrame) (q : Addr) : Prop :=
  ∀ T : State, T.heap = H → Stand p l e R s m args below meth c T locs cells slots → ∃ t, Steps p.tables e below ((T.setTop g).pushFrame (.throwing q)) t ∧ Q t
def vx_Run (p : Program) (l : Launch) (e : Env) (R : Room) (s : State) (m : MethodId) (args : Array Value) (below : List Frame) (meth : Method) (c : Code) (H : Heap) (locs : List Loc) (cells slots mc ms : Nat) (g : JFrame) (rest : List Value) (Qa : State → Outcome → State → Prop) (XC : String → State → State → Prop) (free : Addr → Prop) : Prop :=
  ∀ T : State, T.heap = H → Stand p l e R s m args below meth c T locs cells slots →
    (∃ (v : Option Value) (st₀ t T' : State) (L : List Loc), st₀.heap = H ∧ Stand p l e R s m args below meth c T' (locs ++ L) (cells + mc) (slots + ms) ∧ (∀ q ∈ L, free q.base) ∧ T'.heap = t.heap ∧ T'.vm = t.vm ∧ Qa st₀ (.returned v) t ∧
      Goes p e below T g T' { g with pc := g.pc + 3, stack := v.toList ++ rest }) ∨
    (∃ (q : Addr) (st₀ t T' : State) (L : List Loc) (E : String) (ce : Cell), st₀.heap = H ∧ Stand p l e R s m args below meth c T' (locs ++ L) (cells + mc) (slots + ms) ∧ (∀ z ∈ L, free z.base) ∧ T'.heap = t.heap ∧ T'.vm = t.vm ∧ XC E st₀ t ∧ t.heap[q]? = some ce ∧ ce.vm = .none ∧ s.vm.findClass E = some ce.cls ∧
      Steps p.tables e below (T.setTop g) ((T'.setTop { g with stack := rest }).pushFrame (.throwing q)))
def vx_X {S : Type} (px : S → Prop) (B : String → S → State → Prop) (A : Nat → Prop) : String → State → State → Prop := fun E st t => ∃ u : S, px u ∧ B E u t ∧ va_F A st t
section Runs
variable {p : Program} {l : Launch} {e : Env} {R : Room} {s : State} {m : MethodId} {args : Array Value} {below : List Frame} {meth : Method} {c : Code} {H : Heap} {locs : List Loc} {cells slots : Nat}
variable {y : MethodName} {bytes cc : ByteArray} {maxL nL mc ms n index : Nat} {ret : Option FieldType} {ws : List Cond} {rm : Room} {Pc : Array Value → State → Prop} {Qc : Array Value → State → Outcome → State → Prop} {XC : String → State → State → Prop} {free : Addr → Prop} {Ts : List Cond} {own C : String} {b : Addr} {As rest : List Value} {g : JFrame}
theorem vx_callBack (cb : CallB R s args own index y bytes maxL ret ws rm mc ms n) (hM : vx_Met l y ws rm Pc Qc XC mc ms free) (hbl : FrameBlind Pc) : vx_Back l R p e below s args y 3 8 (PreOf R mc ms Pc) (PostOf Qc mc ms free) (vx_Post XC mc ms free) := by
  obtain ⟨hrc, hrs, hfr, hlo, hws, hcw, -, hini, -⟩ := cb
  exact vx_back (bytes := bytes) (maxL := maxL) (ret := ret) hM hbl hrc hrs hfr hlo hws hcw (fun a' U hW => word_at hW (Or.inl (by first | rfl | simp [Cond.onTables, Cond.keeps, Cond.steady])) hini)
theorem vx_runV (S : CallFix p m c cc nL s args Ts own) (hM : vx_Met l y ws rm Pc Qc XC mc ms free) (cw : CallW R s args own C index y bytes maxL ret ws rm mc ms n) (hp : PreV s H C b Pc As)
    (hg : g.method = m) (hn : As.length = n) (hsize : g.locals.size = nL) (hstack : g.stack = As.reverse ++ .ref b :: rest) (hW : 2 * g.monitorRoom + (rest.map fun v => v.category).sum ≤ 8) (hdg : decode cc g.pc = .ok (.invokevirtual index, 3)) (hf : cells + mc ≤ R.cells ∧ slots + ms ≤ R.slots) :
    vx_Run p l e R s m args below meth c H locs cells slots mc ms g rest (Qc (Value.ref b :: As).toArray) XC free := by
  have hK : vx_Back l R p e below s args y 3 8 (PreOf R mc ms Pc) (PostOf Qc mc ms free) (vx_Post XC mc ms free) := vx_callBack cw.1 hM hp.1
  obtain ⟨⟨-, -, -, -, -, -, hcode, -, hy, hlen, hl⟩, hin, hse⟩ := cw
  obtain ⟨hx, hb, hml, ho, -⟩ := S
  obtain ⟨-, ⟨cellB, hcB, hoB, hclB⟩, hPc⟩ := hp
  intro T hT X
  rcases vx_callV X hx (C := C) (bytes := bytes) (maxL := maxL) (ret := ret) ho hl hin hse hcode hy hK (by rw [hT]; exact hcB) hoB hclB hg (hsize.trans hml.symm) (argsL := As) (rest := rest) (fun sig h => hn.trans (hlen sig h)) hstack hW (by rw [hb]; exact hdg)
    (fun vm₁ hW₁ => ⟨hf.1, hf.2, hPc (T.setVm vm₁) hT hW₁⟩) with ⟨v, vm₁, ⟨U', l2, c2, s2⟩, hW₁, X', ⟨g', mk, t, L, e1, e2, hq, h1, hL, h2, h3⟩, st⟩ | ⟨q, vm₁, ⟨U', l2, c2, s2⟩, hW₁, X', ⟨g', mk, t, L, E, ce, e1, e2, hq, hce, hcv, hcl, h1, hL, h2, h3⟩, st⟩
  · dsimp only [Pt.U, Pt.locs, Pt.cells, Pt.slots] at X' e1 e2 h1 h2 h3 st
    subst h1; subst h2; subst h3
    exact Or.inl ⟨v, (T.setVm vm₁).calling g' mk (Value.ref b :: As).toArray, t, U', L, hT, X', hL, e1, e2, hq, st⟩
  · dsimp only [Pt.U, Pt.locs, Pt.cells, Pt.slots] at X' e1 e2 h1 h2 h3 st hcl
    subst h1; subst h2; subst h3
    exact Or.inr ⟨q, (T.setVm vm₁).calling g' mk (Value.ref b :: As).toArray, t, U', L, E, ce, hT, X', hL, e1, e2, hq, hce, hcv, vx_cls hW₁ hcl, st⟩
theorem vx_runS (S : CallFix p m c cc nL s args Ts own) (hM : vx_Met l y ws rm Pc Qc XC mc ms free) (cw : CallB R s args own index y bytes maxL ret ws rm mc ms n ∧ (Cond.static y).before args s = true) (hp : PreS s H Pc As)
    (hg : g.method = m) (hn : As.length = n) (hsize : g.locals.size = nL) (hstack : g.stack = As.reverse ++ rest) (hW : 2 * g.monitorRoom + (rest.map fun v => v.category).sum ≤ 8) (hdg : decode cc g.pc = .ok (.invokestatic index, 3)) (hf : cells + mc ≤ R.cells ∧ slots + ms ≤ R.slots) :
    vx_Run p l e R s m args below meth c H locs cells slots mc ms g rest (Qc As.toArray) XC free := by
  have hK : vx_Back l R p e below s args y 3 8 (PreOf R mc ms Pc) (PostOf Qc mc ms free) (vx_Post XC mc ms free) := vx_callBack cw.1 hM hp.1
  obtain ⟨⟨-, -, -, -, -, -, hcode, hini, hy, hlen, hl⟩, hstt⟩ := cw
  obtain ⟨hx, hb, hml, ho, -⟩ := S
  intro T hT X
  rcases vx_callS X hx (bytes := bytes) (maxL := maxL) (ret := ret) ho hl hstt hini hcode hy hK hg (hsize.trans hml.symm) (argsL := As) (rest := rest) (fun sig h => hn.trans (hlen sig h)) hstack hW (by rw [hb]; exact hdg)
    (fun vm₁ hW₁ => ⟨hf.1, hf.2, hp.2 (T.setVm vm₁) hT hW₁⟩) with ⟨v, vm₁, ⟨U', l2, c2, s2⟩, hW₁, X', ⟨g', mk, t, L, e1, e2, hq, h1, hL, h2, h3⟩, st⟩ | ⟨q, vm₁, ⟨U', l2, c2, s2⟩, hW₁, X', ⟨g', mk, t, L, E, ce, e1, e2, hq, hce, hcv, hcl, h1, hL, h2, h3⟩, st⟩
  · dsimp only [Pt.U, Pt.locs, Pt.cells, Pt.slots] at X' e1 e2 h1 h2 h3 st
    subst h1; subst h2; subst h3
    exact Or.inl ⟨v, (T.setVm vm₁).calling g' mk As.toArray, t, U', L, hT, X', hL, e1, e2, hq, st⟩
  · dsimp only [Pt.U, Pt.locs, Pt.cells, Pt.slots] at X' e1 e2 h1 h2 h3 st hcl
    subst h1; subst h2; subst h3
    exact Or.inr ⟨q, (T.setVm vm₁).calling g' mk As.toArray, t, U', L, E, ce, hT, X', hL, e1, e2, hq, hce, hcv, vx_cls hW₁ hcl, st⟩
end Runs
section Rows
variable {p : Program} {l : Launch} {e : Env} {R : Room} {s : State} {m : MethodId} {args : Array Value} {below : List Frame} {meth : Method} {c : Code} {H : Heap} {locs : List Loc} {cells slots : Nat} {Q : State → Prop}
variable {mc ms : Nat} {free : Addr → Prop} {A0 A1 : Nat → Prop} {H0 : Heap} {a : Array Value} {pc : Nat} {ls : Array Slot} {st0 rest : List Value}
theorem vx_keep {st₀ t T' : State} {L : List Loc} (h0 : st₀.heap = H) (e1 : T'.heap = t.heap) (hS : va_S A0 H0 H locs) (hA : ∀ q, q < H.size → A1 q → A0 q) (hf : ∀ q, free q → A0 q) (hL : ∀ q ∈ L, free q.base) (hF : va_F A1 st₀ t) :
    H.size ≤ T'.heap.size ∧ (∀ q : Nat, q < H.size → ¬ A1 q → T'.heap[q]? = H[q]?) ∧ va_S A0 H0 T'.heap (locs ++ L) := by
  obtain ⟨hz, hk⟩ := hF
  rw [h0] at hz hk
  exact ⟨by rw [e1]; exact hz, fun q h1 h2 => by rw [e1]; exact hk q h1 h2,
    ⟨Nat.le_trans hS.1 (by rw [e1]; exact hz), fun q h1 h2 => by rw [e1, hk q (Nat.lt_of_lt_of_le h1 hS.1) (fun z => h2 (hA q (Nat.lt_of_lt_of_le h1 hS.1) z))]; exact hS.2.1 q h1 h2, fun q hq => by
      rcases List.mem_append.mp hq with h | h
      · exact hS.2.2 q h
      · exact hf _ (hL q h)⟩⟩
theorem vx_calli {S SX : Type} {post : Int32 → S → Prop} {px : SX → Prop} {B : S → State → Prop} {BX : String → SX → State → Prop} {AX : Nat → Prop} (hr : vx_Run p l e R s m args below meth c H locs cells slots mc ms (F0 m pc ls st0) rest (va_Qi post B A1 a) (vx_X px BX AX) free) (hS : va_S A0 H0 H locs) (hA : ∀ q, q < H.size → A1 q → A0 q) (hf : ∀ q, free q → A0 q) (hAX : ∀ q, q < H.size → AX q → A0 q)
    (kx : ∀ (E : String) (ce : Cell) (q9 : Addr) (u : SX) (t : State) (H1 : Heap) (locs1 : List Loc), t.heap = H1 → s.vm.Alike t.vm → px u → BX E u t → H.size ≤ H1.size → (∀ q : Nat, q < H.size → ¬ AX q → H1[q]? = H[q]?) → va_S A0 H0 H1 locs1 → H1[q9]? = some ce → ce.vm = .none → s.vm.findClass E = some ce.cls → vx_W p l e R s m args below meth c H1 locs1 (cells + mc) (slots + ms) Q (F0 m pc ls rest) q9)
    (kk : ∀ (r : Int32) (u : S) (t : State) (H1 : Heap) (locs1 : List Loc), t.heap = H1 → s.vm.Alike t.vm → post r u → B u t → H.size ≤ H1.size → (∀ q : Nat, q < H.size → ¬ A1 q → H1[q]? = H[q]?) → va_S A0 H0 H1 locs1 → W p l e R s m args below meth c H1 locs1 (cells + mc) (slots + ms) Q (F0 m (pc + 3) ls (.int r :: rest))) : W p l e R s m args below meth c H locs cells slots Q (F0 m pc ls st0) := by
  intro T hT X
  rcases hr T hT X with ⟨v, st₀, t, T', L, h0, X', hL, e1, e2, ⟨⟨r, u, hv, hp, hb⟩, hF⟩, st⟩ | ⟨q, st₀, t, T', L, E, ce, h0, X', hL, e1, e2, ⟨u, hp, hb, hF⟩, hce, hcv, hcl, st⟩
  · cases hv
    obtain ⟨k1, k2, k3⟩ := vx_keep h0 e1 hS hA hf hL hF
    obtain ⟨t2, a1, b1⟩ := kk r u t T'.heap (locs ++ L) e1.symm (by rw [← e2]; exact X'.warmed.alike) hp hb k1 k2 k3 T' rfl X'
    exact ⟨t2, st t2 a1, b1⟩
  · obtain ⟨k1, k2, k3⟩ := vx_keep h0 e1 hS hAX hf hL hF
    obtain ⟨t2, a1, b1⟩ := kx E ce q u t T'.heap (locs ++ L) e1.symm (by rw [← e2]; exact X'.warmed.alike) hp hb k1 k2 k3 (by rw [e1]; exact hce) hcv hcl T' rfl X'
    exact ⟨t2, st.trans a1, b1⟩
theorem vx_calll {S SX : Type} {post : Int64 → S → Prop} {px : SX → Prop} {B : S → State → Prop} {BX : String → SX → State → Prop} {AX : Nat → Prop} (hr : vx_Run p l e R s m args below meth c H locs cells slots mc ms (F0 m pc ls st0) rest (va_Ql post B A1 a) (vx_X px BX AX) free) (hS : va_S A0 H0 H locs) (hA : ∀ q, q < H.size → A1 q → A0 q) (hf : ∀ q, free q → A0 q) (hAX : ∀ q, q < H.size → AX q → A0 q)
    (kx : ∀ (E : String) (ce : Cell) (q9 : Addr) (u : SX) (t : State) (H1 : Heap) (locs1 : List Loc), t.heap = H1 → s.vm.Alike t.vm → px u → BX E u t → H.size ≤ H1.size → (∀ q : Nat, q < H.size → ¬ AX q → H1[q]? = H[q]?) → va_S A0 H0 H1 locs1 → H1[q9]? = some ce → ce.vm = .none → s.vm.findClass E = some ce.cls → vx_W p l e R s m args below meth c H1 locs1 (cells + mc) (slots + ms) Q (F0 m pc ls rest) q9)
    (kk : ∀ (r : Int64) (u : S) (t : State) (H1 : Heap) (locs1 : List Loc), t.heap = H1 → s.vm.Alike t.vm → post r u → B u t → H.size ≤ H1.size → (∀ q : Nat, q < H.size → ¬ A1 q → H1[q]? = H[q]?) → va_S A0 H0 H1 locs1 → W p l e R s m args below meth c H1 locs1 (cells + mc) (slots + ms) Q (F0 m (pc + 3) ls (.long r :: rest))) : W p l e R s m args below meth c H locs cells slots Q (F0 m pc ls st0) := by
  intro T hT X
  rcases hr T hT X with ⟨v, st₀, t, T', L, h0, X', hL, e1, e2, ⟨⟨r, u, hv, hp, hb⟩, hF⟩, st⟩ | ⟨q, st₀, t, T', L, E, ce, h0, X', hL, e1, e2, ⟨u, hp, hb, hF⟩, hce, hcv, hcl, st⟩
  · cases hv
    obtain ⟨k1, k2, k3⟩ := vx_keep h0 e1 hS hA hf hL hF
    obtain ⟨t2, a1, b1⟩ := kk r u t T'.heap (locs ++ L) e1.symm (by rw [← e2]; exact X'.warmed.alike) hp hb k1 k2 k3 T' rfl X'
    exact ⟨t2, st t2 a1, b1⟩
  · obtain ⟨k1, k2, k3⟩ := vx_keep h0 e1 hS hAX hf hL hF
    obtain ⟨t2, a1, b1⟩ := kx E ce q u t T'.heap (locs ++ L) e1.symm (by rw [← e2]; exact X'.warmed.alike) hp hb k1 k2 k3 (by rw [e1]; exact hce) hcv hcl T' rfl X'
    exact ⟨t2, st.trans a1, b1⟩
theorem vx_callf {S SX : Type} {post : UInt32 → S → Prop} {px : SX → Prop} {B : S → State → Prop} {BX : String → SX → State → Prop} {AX : Nat → Prop} (hr : vx_Run p l e R s m args below meth c H locs cells slots mc ms (F0 m pc ls st0) rest (va_Qf post B A1 a) (vx_X px BX AX) free) (hS : va_S A0 H0 H locs) (hA : ∀ q, q < H.size → A1 q → A0 q) (hf : ∀ q, free q → A0 q) (hAX : ∀ q, q < H.size → AX q → A0 q)
    (kx : ∀ (E : String) (ce : Cell) (q9 : Addr) (u : SX) (t : State) (H1 : Heap) (locs1 : List Loc), t.heap = H1 → s.vm.Alike t.vm → px u → BX E u t → H.size ≤ H1.size → (∀ q : Nat, q < H.size → ¬ AX q → H1[q]? = H[q]?) → va_S A0 H0 H1 locs1 → H1[q9]? = some ce → ce.vm = .none → s.vm.findClass E = some ce.cls → vx_W p l e R s m args below meth c H1 locs1 (cells + mc) (slots + ms) Q (F0 m pc ls rest) q9)
    (kk : ∀ (r : UInt32) (u : S) (t : State) (H1 : Heap) (locs1 : List Loc), t.heap = H1 → s.vm.Alike t.vm → post r u → B u t → H.size ≤ H1.size → (∀ q : Nat, q < H.size → ¬ A1 q → H1[q]? = H[q]?) → va_S A0 H0 H1 locs1 → W p l e R s m args below meth c H1 locs1 (cells + mc) (slots + ms) Q (F0 m (pc + 3) ls (.float r :: rest))) : W p l e R s m args below meth c H locs cells slots Q (F0 m pc ls st0) := by
  intro T hT X
  rcases hr T hT X with ⟨v, st₀, t, T', L, h0, X', hL, e1, e2, ⟨⟨r, u, hv, hp, hb⟩, hF⟩, st⟩ | ⟨q, st₀, t, T', L, E, ce, h0, X', hL, e1, e2, ⟨u, hp, hb, hF⟩, hce, hcv, hcl, st⟩
  · cases hv
    obtain ⟨k1, k2, k3⟩ := vx_keep h0 e1 hS hA hf hL hF
    obtain ⟨t2, a1, b1⟩ := kk r u t T'.heap (locs ++ L) e1.symm (by rw [← e2]; exact X'.warmed.alike) hp hb k1 k2 k3 T' rfl X'
    exact ⟨t2, st t2 a1, b1⟩
  · obtain ⟨k1, k2, k3⟩ := vx_keep h0 e1 hS hAX hf hL hF
    obtain ⟨t2, a1, b1⟩ := kx E ce q u t T'.heap (locs ++ L) e1.symm (by rw [← e2]; exact X'.warmed.alike) hp hb k1 k2 k3 (by rw [e1]; exact hce) hcv hcl T' rfl X'
    exact ⟨t2, st.trans a1, b1⟩
theorem vx_calld {S SX : Type} {post : UInt64 → S → Prop} {px : SX → Prop} {B : S → State → Prop} {BX : String → SX → State → Prop} {AX : Nat → Prop} (hr : vx_Run p l e R s m args below meth c H locs cells slots mc ms (F0 m pc ls st0) rest (va_Qd post B A1 a) (vx_X px BX AX) free) (hS : va_S A0 H0 H locs) (hA : ∀ q, q < H.size → A1 q → A0 q) (hf : ∀ q, free q → A0 q) (hAX : ∀ q, q < H.size → AX q → A0 q)
    (kx : ∀ (E : String) (ce : Cell) (q9 : Addr) (u : SX) (t : State) (H1 : Heap) (locs1 : List Loc), t.heap = H1 → s.vm.Alike t.vm → px u → BX E u t → H.size ≤ H1.size → (∀ q : Nat, q < H.size → ¬ AX q → H1[q]? = H[q]?) → va_S A0 H0 H1 locs1 → H1[q9]? = some ce → ce.vm = .none → s.vm.findClass E = some ce.cls → vx_W p l e R s m args below meth c H1 locs1 (cells + mc) (slots + ms) Q (F0 m pc ls rest) q9)
    (kk : ∀ (r : UInt64) (u : S) (t : State) (H1 : Heap) (locs1 : List Loc), t.heap = H1 → s.vm.Alike t.vm → post r u → B u t → H.size ≤ H1.size → (∀ q : Nat, q < H.size → ¬ A1 q → H1[q]? = H[q]?) → va_S A0 H0 H1 locs1 → W p l e R s m args below meth c H1 locs1 (cells + mc) (slots + ms) Q (F0 m (pc + 3) ls (.double r :: rest))) : W p l e R s m args below meth c H locs cells slots Q (F0 m pc ls st0) := by
  intro T hT X
  rcases hr T hT X with ⟨v, st₀, t, T', L, h0, X', hL, e1, e2, ⟨⟨r, u, hv, hp, hb⟩, hF⟩, st⟩ | ⟨q, st₀, t, T', L, E, ce, h0, X', hL, e1, e2, ⟨u, hp, hb, hF⟩, hce, hcv, hcl, st⟩
  · cases hv
    obtain ⟨k1, k2, k3⟩ := vx_keep h0 e1 hS hA hf hL hF
    obtain ⟨t2, a1, b1⟩ := kk r u t T'.heap (locs ++ L) e1.symm (by rw [← e2]; exact X'.warmed.alike) hp hb k1 k2 k3 T' rfl X'
    exact ⟨t2, st t2 a1, b1⟩
  · obtain ⟨k1, k2, k3⟩ := vx_keep h0 e1 hS hAX hf hL hF
    obtain ⟨t2, a1, b1⟩ := kx E ce q u t T'.heap (locs ++ L) e1.symm (by rw [← e2]; exact X'.warmed.alike) hp hb k1 k2 k3 (by rw [e1]; exact hce) hcv hcl T' rfl X'
    exact ⟨t2, st.trans a1, b1⟩
theorem vx_callv {S SX : Type} {post : S → Prop} {px : SX → Prop} {B : S → State → Prop} {BX : String → SX → State → Prop} {AX : Nat → Prop} (hr : vx_Run p l e R s m args below meth c H locs cells slots mc ms (F0 m pc ls st0) rest (va_Qv post B A1 a) (vx_X px BX AX) free) (hS : va_S A0 H0 H locs) (hA : ∀ q, q < H.size → A1 q → A0 q) (hf : ∀ q, free q → A0 q) (hAX : ∀ q, q < H.size → AX q → A0 q)
    (kx : ∀ (E : String) (ce : Cell) (q9 : Addr) (u : SX) (t : State) (H1 : Heap) (locs1 : List Loc), t.heap = H1 → s.vm.Alike t.vm → px u → BX E u t → H.size ≤ H1.size → (∀ q : Nat, q < H.size → ¬ AX q → H1[q]? = H[q]?) → va_S A0 H0 H1 locs1 → H1[q9]? = some ce → ce.vm = .none → s.vm.findClass E = some ce.cls → vx_W p l e R s m args below meth c H1 locs1 (cells + mc) (slots + ms) Q (F0 m pc ls rest) q9)
    (kk : ∀ (u : S) (t : State) (H1 : Heap) (locs1 : List Loc), t.heap = H1 → s.vm.Alike t.vm → post u → B u t → H.size ≤ H1.size → (∀ q : Nat, q < H.size → ¬ A1 q → H1[q]? = H[q]?) → va_S A0 H0 H1 locs1 → W p l e R s m args below meth c H1 locs1 (cells + mc) (slots + ms) Q (F0 m (pc + 3) ls (rest))) : W p l e R s m args below meth c H locs cells slots Q (F0 m pc ls st0) := by
  intro T hT X
  rcases hr T hT X with ⟨v, st₀, t, T', L, h0, X', hL, e1, e2, ⟨⟨u, hv, hp, hb⟩, hF⟩, st⟩ | ⟨q, st₀, t, T', L, E, ce, h0, X', hL, e1, e2, ⟨u, hp, hb, hF⟩, hce, hcv, hcl, st⟩
  · cases hv
    obtain ⟨k1, k2, k3⟩ := vx_keep h0 e1 hS hA hf hL hF
    obtain ⟨t2, a1, b1⟩ := kk u t T'.heap (locs ++ L) e1.symm (by rw [← e2]; exact X'.warmed.alike) hp hb k1 k2 k3 T' rfl X'
    exact ⟨t2, st t2 a1, b1⟩
  · obtain ⟨k1, k2, k3⟩ := vx_keep h0 e1 hS hAX hf hL hF
    obtain ⟨t2, a1, b1⟩ := kx E ce q u t T'.heap (locs ++ L) e1.symm (by rw [← e2]; exact X'.warmed.alike) hp hb k1 k2 k3 (by rw [e1]; exact hce) hcv hcl T' rfl X'
    exact ⟨t2, st.trans a1, b1⟩
/-- caught by the row x of this method's table; the rows ahead don't take it -/
theorem vx_catch {own name : String} {E : String} {ce : Cell} {q : Addr} (hown : s.vm.findClass own = some m.cls) (pre : List ExceptionTableEntry) (x : ExceptionTableEntry) (suf : List ExceptionTableEntry) (hsplit : c.exceptionTable.toList = pre ++ x :: suf)
    (hpass : ∀ z ∈ pre, covers z pc = false ∨ (z.catchType ≠ 0 ∧ ∃ nm : String, (Cond.classLink own z.catchType nm).before args s = true ∧ va_Nc E nm s)) (hx : covers x pc = true) (h0 : x.catchType ≠ 0)
    (hlink : (Cond.classLink own x.catchType name).before args s = true) (hcast : (Cond.castable E name).before args s = true) (hcell : H[q]? = some ce) (hv : ce.vm = .none) (hcl : s.vm.findClass E = some ce.cls)
    (kk : W p l e R s m args below meth c H locs cells slots Q (F0 m x.handlerPc ls [.ref q])) : vx_W p l e R s m args below meth c H locs cells slots Q (F0 m pc ls rest) q := by
  intro T hT X
  have hpl : e.platform.magicAccessors = ({} : Platform).magicAccessors := by rw [X.admits.platform]
  obtain ⟨c3, c4, hc3, hc4, hasg⟩ := Cond.castable_spec hcast
  cases Option.some.inj (hc3.symm.trans hcl)
  obtain ⟨c5, hc5, hcl5⟩ := Cond.classLink_spec hown hlink e.platform hpl
  cases Option.some.inj (hc4.symm.trans hc5)
  obtain ⟨vm', X', st⟩ := X.thenCaughtThrough q (g := F0 m pc ls rest) rfl (Steps.refl _) (by rw [hT]; exact hcell) (by rw [hv]; rfl) (by obtain ⟨k9, h9, -⟩ := Vm.findClass_spec hcl; exact ⟨k9, h9⟩) pre x suf hsplit
    (fun z hz => by
      rcases hpass z hz with h | ⟨hz0, nm, hl1, hn1⟩
      · exact Or.inl h
      · obtain ⟨c6, hc6, hcl6⟩ := Cond.classLink_spec hown hl1 e.platform hpl
        obtain ⟨a8, b8, h1, h2, h3⟩ := hn1
        cases Option.some.inj (h1.symm.trans hcl)
        cases Option.some.inj (h2.symm.trans hc6)
        exact Or.inr ⟨hz0, _, hcl6, h3⟩) hx (Or.inr ⟨h0, c4, hcl5, hasg⟩)
  obtain ⟨t, a1, b1⟩ := kk (T.setVm vm') hT X'
  exact ⟨t, st.trans a1, b1⟩
end Rows
section Ends
variable {p : Program} {l : Launch} {e : Env} {R : Room} {s : State} {m : MethodId} {args : Array Value} {below : List Frame} {meth : Method} {c : Code} {H : Heap} {locs : List Loc} {cells slots : Nat} {Q : State → Prop}
variable {mc ms : Nat} {free : Addr → Prop} {A0 A1 : Nat → Prop} {H0 : Heap} {a : Array Value} {ls : Array Slot} {st0 rest : List Value}
variable {Qc : Array Value → State → Outcome → State → Prop} {XC : String → State → State → Prop}
/-- what a body that may throw owes at its end -/
def vx_MQ (below : List Frame) (Qc : Array Value → State → Outcome → State → Prop) (XC : String → State → State → Prop) (a : Array Value) (s : State) (mc ms : Nat) (free : Addr → Prop) : State → Prop := fun t =>
  ∃ o, t.status = .running ∧ Ended t below o ∧ vx_Q Qc XC mc ms free a s o t
theorem vx_ret {g : JFrame} {mc ms : Nat} (k : W p l e R s m args below meth c H locs cells slots (MQ below Qc args s mc ms free) g) : W p l e R s m args below meth c H locs cells slots (vx_MQ below Qc XC args s mc ms free) g := by
  intro T hT X
  obtain ⟨t, a1, o, b1, b2, b3, b4⟩ := k T hT X
  exact ⟨t, a1, o, b1, b2, Or.inl ⟨b3, b4⟩⟩
/-- not caught here: it goes on to the caller -/
theorem vx_widen {g : JFrame} {q : Addr} {k n : Nat} (h1 : cells ≤ k) (h2 : slots ≤ n) (kk : vx_W p l e R s m args below meth c H locs k n Q g q) : vx_W p l e R s m args below meth c H locs cells slots Q g q := fun T hT X => kk T hT (stand_widen X h1 h2)
theorem vx_out {pc : Nat} {E : String} {ce : Cell} {q : Addr} {mc ms : Nat} (hout : ∀ x ∈ c.exceptionTable.toList, covers x pc = false) (hlocks : meth.locks = false) (hcell : H[q]? = some ce) (hv : ce.vm = .none) (hcl : s.vm.findClass E = some ce.cls)
    (hx : ∀ t : State, t.heap = H → s.vm.Alike t.vm → XC E s t) (hf : ∀ z ∈ locs, free z.base) (hc : cells ≤ mc) (hs : slots ≤ ms) :
    vx_W p l e R s m args below meth c H locs cells slots (vx_MQ below Qc XC args s mc ms free) (F0 m pc ls rest) q := by
  intro T hT X
  obtain ⟨st1, hrun, hend, hW, hsm⟩ := X.leaveThrown q (g := F0 m pc ls rest) rfl rfl rfl hout hlocks
  have hcell9 : (T.setFrames (.throwing q :: below)).heap[q]? = some ce := by
    show T.heap[q]? = some ce
    rw [hT]; exact hcell
  exact ⟨_, st1, .threw q, hrun, hend, Or.inr ⟨q, rfl, E, ce, locs, hx _ hT hW.alike, hcell9, hv, hcl, hW, hsm.mono hc hs, hf⟩⟩
theorem vx_frame {U : State} {k n : Nat} (h : s.sameButNew ({ U with vm := s.vm } : State) locs k n) : s.heap.size ≤ U.heap.size ∧ ∀ q : Nat, q < s.heap.size → (∀ z ∈ locs, z.base ≠ q) → U.heap[q]? = s.heap[q]? := by
  obtain ⟨-, h2, -, -, -, h6⟩ := h
  refine ⟨h2, fun q hq hz => ?_⟩
  obtain ⟨c9, e1, e2, e3, e4⟩ := h6 q _ (Array.getElem?_eq_getElem hq)
  have hs : c9.slots = (s.heap[q]).slots := Array.ext_getElem? fun i => e4 i fun hm => hz _ hm rfl
  have h9 : c9 = s.heap[q] := by
    rw [hs] at e2
    exact e2
  have e5 : U.heap[q]? = some c9 := e1
  rw [e5, h9, Array.getElem?_eq_getElem hq]
/-- the words of a throw but the four that speak of the heap -/
def vx_no (w : Cond) : Bool := decide (w ≠ .isRef (.static Bundle.tN "UNASSIGNED_STACK" Bundle.steD)) && decide (w ≠ .isRef (.static Bundle.tN "SUPPRESSED_SENTINEL" Bundle.listD)) && decide (w ≠ .laysStatic Bundle.tN "UNASSIGNED_STACK" Bundle.steD) && decide (w ≠ .laysStatic Bundle.tN "SUPPRESSED_SENTINEL" Bundle.listD)
def vx_at0 (own : String) (ic : Nat) (X : String) (names : List String) : List Cond := (Bundle.ownAtoms0 own ic X names).filter vx_no
def vx_atS (own : String) (ic : Nat) (X : String) (names : List String) : List Cond := (Bundle.ownAtoms own ic X names).filter vx_no
/-- a word that the tables alone decide, or a good one -/
def vx_ot (w : Cond) : Bool := w.onTables || goodWord w
theorem vx_ot_at {args a' : Array Value} {s U : State} {w : Cond} (hW : s.WarmedH U.vm) (hvm : s.vm = U.vm) (hg : vx_ot w = true) (h : w.before args s = true) : w.before a' U = true := by
  simp only [vx_ot, Bool.or_eq_true] at hg
  rcases hg with hg | hg
  · exact va_tabs hg hvm h
  · exact word_at hW (good_of_word hg) h
/-- a list's words: the good ones out of the method's own list, the others by premises of their own -/
theorem vx_hat {args : Array Value} {s : State} {L B : List Cond} (h1 : ∀ w ∈ L.filter goodWord, w.before args s = true) (h2 : ∀ w ∈ L.filter (fun w => !goodWord w), w ∈ B) (h3 : ∀ w ∈ B, w.before args s = true) : ∀ w ∈ L, w.before args s = true := by
  intro w hw
  by_cases g : goodWord w = true
  · exact h1 w (List.mem_filter.mpr ⟨hw, g⟩)
  · refine h3 w (h2 w (List.mem_filter.mpr ⟨hw, ?_⟩))
    show (!goodWord w) = true
    cases hgw : goodWord w
    · rfl
    · exact absurd hgw g
theorem vx_c {args : Array Value} {s : State} {w : Cond} {B : List Cond} (h : w.before args s = true) (t : ∀ w ∈ B, w.before args s = true) : ∀ w' ∈ w :: B, w'.before args s = true := fun w' h' => (List.mem_cons.mp h').elim (fun e => by rw [e]; exact h) (t w')
theorem vx_n {args : Array Value} {s : State} : ∀ w ∈ ([] : List Cond), w.before args s = true := fun _ h => nomatch h
theorem vx_own {args : Array Value} {s : State} {L : List Cond} (h1 : ∀ w ∈ L.filter vx_no, w.before args s = true)
    (hU : (Cond.isRef (.static Bundle.tN "UNASSIGNED_STACK" Bundle.steD)).before args s = true) (hN : (Cond.isRef (.static Bundle.tN "SUPPRESSED_SENTINEL" Bundle.listD)).before args s = true)
    (lU : (Cond.laysStatic Bundle.tN "UNASSIGNED_STACK" Bundle.steD).before args s = true) (lN : (Cond.laysStatic Bundle.tN "SUPPRESSED_SENTINEL" Bundle.listD).before args s = true) : ∀ w ∈ L, w.before args s = true := by
  intro w hw
  by_cases e1 : w = .isRef (.static Bundle.tN "UNASSIGNED_STACK" Bundle.steD)
  · rw [e1]; exact hU
  · by_cases e2 : w = .isRef (.static Bundle.tN "SUPPRESSED_SENTINEL" Bundle.listD)
    · rw [e2]; exact hN
    · by_cases e3 : w = .laysStatic Bundle.tN "UNASSIGNED_STACK" Bundle.steD
      · rw [e3]; exact lU
      · by_cases e4 : w = .laysStatic Bundle.tN "SUPPRESSED_SENTINEL" Bundle.listD
        · rw [e4]; exact lN
        · exact h1 w (List.mem_filter.mpr ⟨hw, by unfold vx_no; rw [decide_eq_true e1, decide_eq_true e2, decide_eq_true e3, decide_eq_true e4]; rfl⟩)
/-- where a static field lies, its class's statics cell in H -/
def vx_L (C n d : String) (A : Nat → Prop) (U : State) (H : Heap) : Prop := ∃ (c : ClassId) (k : Class) (i : Nat) (f : Field) (a : Nat) (cell : Cell), U.vm.findClass C = some c ∧ U.fieldFound? C n d = some (c, k, i, f) ∧ f.isStatic = true ∧ k.statics = some a ∧ H[a]? = some cell ∧ cell.vm.isStatics = true ∧ cell.cls = c ∧ f.slot < cell.slots.size ∧ k.staticTypes[f.slot]? = some f.type ∧ ¬ A a
theorem vx_L.moved {C n d : String} {A : Nat → Prop} {u U : State} {H : Heap} (hvm : u.vm.Alike U.vm) (h : vx_L C n d A u H) : vx_L C n d A U H := by
  obtain ⟨c, k, i, f, a, cell, h1, h2, h3, h4, h5, h6, h7, h8, h9, h10⟩ := h
  obtain ⟨k', hi', he⟩ := State.fieldFound?_setVm hvm h2
  exact ⟨c, k', i, f, a, cell, by rw [hvm.findClass]; exact h1, hi', h3, by rw [he]; exact h4, h5, h6, h7, h8, by rw [he]; exact h9, h10⟩
theorem vx_L.kept {C n d : String} {A : Nat → Prop} {U : State} {H H1 : Heap} (h : vx_L C n d A U H) (hq : ∀ a : Nat, a < H.size → ¬ A a → H1[a]? = H[a]?) : vx_L C n d A U H1 := by
  obtain ⟨c, k, i, f, a, cell, h1, h2, h3, h4, h5, h6, h7, h8, h9, h10⟩ := h
  exact ⟨c, k, i, f, a, cell, h1, h2, h3, h4, by rw [hq a (Array.getElem?_eq_some_iff.mp h5).1 h10]; exact h5, h6, h7, h8, h9, h10⟩
theorem vx_L.narrow {C n d : String} {A B : Nat → Prop} {U : State} {H : Heap} (h : vx_L C n d A U H) (hAB : ∀ q, B q → A q) : vx_L C n d B U H := by
  obtain ⟨c, k, i, f, a, cell, h1, h2, h3, h4, h5, h6, h7, h8, h9, h10⟩ := h
  exact ⟨c, k, i, f, a, cell, h1, h2, h3, h4, h5, h6, h7, h8, h9, fun z => h10 (hAB _ z)⟩
theorem vx_L.word {C n d : String} {A : Nat → Prop} {s : State} {args : Array Value} (h : vx_L C n d A s s.heap) : (Cond.laysStatic C n d).before args s = true := by
  obtain ⟨c, k, i, f, a, cell, h1, h2, h3, h4, h5, h6, h7, h8, h9, -⟩ := h
  show (Cond.laysStatic C n d).holds args s none s [] = true
  exact Cond.laysStatic_of h1 h2 h3 h4 h5 h6 h7 h8 h9
/-- .. and what it holds: null or some reference -/
def vx_Zq (C n d : String) (A : Nat → Prop) (U : State) (H : Heap) : Prop := va_Zq C n d A U H ∧ vx_L C n d A U H
theorem vx_Zq.moved {C n d : String} {A : Nat → Prop} {u U : State} {H : Heap} (hvm : u.vm.Alike U.vm) (h : vx_Zq C n d A u H) : vx_Zq C n d A U H := ⟨va_Zq.moved hvm h.1, vx_L.moved hvm h.2⟩
theorem vx_Zq.kept {C n d : String} {A : Nat → Prop} {U : State} {H H1 : Heap} (h : vx_Zq C n d A U H) (hq : ∀ a : Nat, a < H.size → ¬ A a → H1[a]? = H[a]?) : vx_Zq C n d A U H1 := ⟨va_Zq.kept h.1 hq, vx_L.kept h.2 hq⟩
theorem vx_Zq.narrow {C n d : String} {A B : Nat → Prop} {U : State} {H : Heap} (h : vx_Zq C n d A U H) (hAB : ∀ q, B q → A q) : vx_Zq C n d B U H := ⟨va_Zq.narrow h.1 hAB, vx_L.narrow h.2 hAB⟩
theorem vx_Zqof {args : Array Value} {s : State} {C n d : String} {A : Nat → Prop} (hl : (Cond.laysStatic C n d).before args s = true) (hini : (Cond.initialized C).before args s = true) (h : (Cond.isRef (.static C n d)).before args s = true) (hA : ∀ a : Nat, a < s.heap.size → ¬ A a) : vx_Zq C n d A s s.heap := by
  refine ⟨va_Zqof hl hini h hA, ?_⟩
  obtain ⟨c, k, i, f, a, cell, h1, h2, h3, h4, h5, h6, h7, h8, h9⟩ := Cond.laysStatic_spec hl
  exact ⟨c, k, i, f, a, cell, h1, h2, h3, h4, h5, h6, h7, h8, h9, hA a (Array.getElem?_eq_some_iff.mp h5).1⟩
theorem vx_isRef {C n d : String} {v : Value} {A : Nat → Prop} {s : State} {args : Array Value} (h : va_Z C n d v A s s.heap) (hv : v.isRef = true) : (Cond.isRef (.static C n d)).before args s = true := by
  obtain ⟨cf, kf, fi, f, a, cell, h1, h2, h3, h4, h5, h6, h7, -⟩ := h
  have he : (Term.static C n d).eval args s none [] s = some v := by
    simp [Term.eval, State.fieldNamed?, h1, h2, h4, h5, h6, h7]
  simp only [Cond.before, Cond.holds, Cond.value, he]
  cases v <;> simp_all [Value.isRef]
theorem vx_isRefq {C n d : String} {A : Nat → Prop} {s : State} {args : Array Value} (h : va_Zq C n d A s s.heap) : (Cond.isRef (.static C n d)).before args s = true := by
  rcases h with h | ⟨t, h⟩
  · exact vx_isRef h rfl
  · exact vx_isRef h rfl
/-- the same frame, seen from here: as if the method were called anew in this heap -/
theorem vx_rebase {T : State} (X : Stand p l e R s m args below meth c T locs cells slots) {R' : Room} (hf : R'.frames ≤ R.frames) (hl : R'.locals ≤ R.locals) (hc : cells + R'.cells ≤ R.cells) (hs : slots + R'.slots ≤ R.slots) :
    Stand p l e R' ((T.setVm s.vm).setFrames (.invoking m args :: below)) m args below meth c T [] 0 0 := by
  have htop : (T.setVm s.vm).topJava?.isSome := X.here.top
  have hF : ((T.setVm s.vm).setFrames (.invoking m args :: below)).frames = .invoking m args :: below := State.frames_setFrames _ (State.cur_lt_of_top htop)
  obtain ⟨g₀, hg0⟩ := Option.isSome_iff_exists.mp htop
  obtain ⟨r, hr⟩ := State.topJava?_eq_some.mp hg0
  have hl9 : e.platform.stackLimits (T.setVm s.vm).me = e.platform.stackLimits s.me := X.limits
  have hb9 : (T.setVm s.vm).me.stackBytes = s.me.stackBytes := X.bytes
  refine ⟨X.admits, X.cas, X.clock, hF, ?_, X.hears, X.method, X.code, X.here, X.tail, X.warmed, ?_, ?_, ?_⟩
  · have h := X.room
    have hU : ((T.setVm s.vm).setFrames (.invoking m args :: below)).localsInUse = s.localsInUse := by
      rw [State.localsInUse_invoking hF (meth := meth) (c := c) X.method X.code, State.localsInUse_invoking X.frames X.method X.code]
    simp only [State.hasRoom, Bool.and_eq_true, decide_eq_true_eq] at h ⊢
    obtain ⟨⟨⟨⟨h1, h2, h3, h4, h5, h6⟩, h7⟩, h8⟩, h9⟩ := h
    rw [X.frames, List.length_cons] at h2 h3
    have q1 := X.heapSize
    have q2 := X.used
    simp only [hF, hU, List.length_cons, State.stackLimits_setFrames, State.stackBytes_setFrames, hl9, hb9]
    refine ⟨⟨⟨⟨by omega, by omega, by omega, by omega, by omega, h6⟩, ?_⟩, ?_⟩, X.book⟩
    · show T.heap.size + R'.cells ≤ e.platform.maxCells
      omega
    · show T.slotsUsed + R'.slots ≤ e.platform.maxSlots
      omega
  · rw [State.stackLimits_setFrames]; rfl
  · rw [State.stackBytes_setFrames]; rfl
  · refine ⟨?_, Nat.le_refl _, Nat.le_refl _, ?_, ?_, fun a c9 h9 => ⟨c9, h9, rfl, rfl, fun _ _ => rfl⟩⟩
    · obtain ⟨t, ht, -⟩ := State.frames_cons hr
      show T.setVm s.vm = { ((T.setVm s.vm).setFrames (.invoking m args :: below)).setFrames (T.setVm s.vm).frames with heap := T.heap, slotsUsed := T.slotsUsed }
      rw [State.setFrames_setFrames, State.setFrames_self ht]
      rfl
    · show T.slotsUsed = T.slotsUsed + ((T.heap.toList.drop T.heap.size).map (·.slots.size)).sum
      rw [List.drop_eq_nil_of_le (Nat.le_of_eq Array.length_toList)]
      rfl
    · show ((T.heap.toList.drop T.heap.size).map (·.slots.size)).sum ≤ 0
      rw [List.drop_eq_nil_of_le (Nat.le_of_eq Array.length_toList)]
      exact Nat.le_refl _
/-- 'throw new E()': new; dup; invokespecial; athrow -/
theorem vx_throw0 {cc : ByteArray} {pc : Nat} (hexec : p.tables.exec = Jvm.exec) (hb : c.code = cc) (hl : l.stackTraces = false) {own cls : String} {names : List String} {ik ic mc ms : Nat} {A : Nat → Prop}
    (hown : s.vm.findClass own = some m.cls) (hcls : Bundle.fit cls = true) (hnames : ∀ n ∈ names, Bundle.fit n = true)
    (hk : (Cond.classLink own ik cls).before args s = true) (hini : (Cond.initialized cls).before args s = true) (hat : ∀ w ∈ vx_at0 own ic cls names, w.before args s = true)
    (hgood : ∀ w ∈ Cond.classLink own ik cls :: Cond.initialized cls :: vx_at0 own ic cls names, vx_ot w = true)
    (hU : vx_Zq Bundle.tN "UNASSIGNED_STACK" Bundle.steD A s s.heap) (hN : vx_Zq Bundle.tN "SUPPRESSED_SENTINEL" Bundle.listD A s s.heap) (hS : va_S A s.heap H locs) (hsize : ls.size = c.maxLocals)
    (d0 : decode cc pc = .ok (.new ik, 3)) (d3 : decode cc (pc + 3) = .ok (.dup, 1)) (d4 : decode cc (pc + 4) = .ok (.invokespecial ic, 3)) (d7 : decode cc (pc + 7) = .ok (.athrow, 1))
    (hout : ∀ x ∈ c.exceptionTable.toList, covers x (pc + 7) = false)
    (hRframes : names.length + 3 < R.frames) (hRlocals : (rest.map fun v => v.category).sum + (13 * (names.length + 1) + 42) ≤ R.locals) (hRcells : cells + 1 ≤ R.cells) (hRslots : slots + 6 ≤ R.slots) (hlocks : meth.locks = false)
    (hx : ∀ t : State, s.vm.Alike t.vm → H.size ≤ t.heap.size → (∀ q : Nat, q < H.size → t.heap[q]? = H[q]?) → XC cls s t)
    (hf : ∀ z ∈ locs, free z.base) (hc : cells + 1 ≤ mc) (hs : slots + 6 ≤ ms) :
    W p l e R s m args below meth c H locs cells slots (vx_MQ below Qc XC args s mc ms free) (F0 m pc ls rest) := by
  intro T hT X
  have htr : e.platform.stackTraces = false := (show e.platform.stackTraces = l.stackTraces by rw [X.admits.platform]).trans hl
  have Y := vx_rebase X (R' := { frames := R.frames, locals := R.locals, cells := 1, slots := 6 }) (Nat.le_refl _) (Nat.le_refl _) hRcells hRslots
  obtain ⟨s', hA⟩ : ∃ z, z = (T.setVm s.vm).setFrames (.invoking m args :: below) := ⟨_, rfl⟩
  rw [← hA] at Y
  have hvm : s'.vm = s.vm := by rw [hA]; rfl
  have hhp : s'.heap = H := by rw [hA]; exact hT
  have hW0 : s.WarmedH s'.vm := by rw [hvm]; exact State.WarmedH.refl s
  have hat' : ∀ w ∈ vx_at0 own ic cls names, w.before args s' = true := fun w hw => vx_ot_at hW0 hvm.symm (hgood w (List.mem_cons_of_mem _ (List.mem_cons_of_mem _ hw))) (hat w hw)
  have hk' : (Cond.classLink own ik cls).before args s' = true := vx_ot_at hW0 hvm.symm (hgood _ List.mem_cons_self) hk
  have hini' : (Cond.initialized cls).before args s' = true := vx_ot_at hW0 hvm.symm (hgood _ (List.mem_cons_of_mem _ List.mem_cons_self)) hini
  have hU' : vx_Zq Bundle.tN "UNASSIGNED_STACK" Bundle.steD A s' s'.heap := by rw [hhp]; exact vx_Zq.moved hW0.alike (hU.kept hS.2.1)
  have hN' : vx_Zq Bundle.tN "SUPPRESSED_SENTINEL" Bundle.listD A s' s'.heap := by rw [hhp]; exact vx_Zq.moved hW0.alike (hN.kept hS.2.1)
  have h : ∀ w ∈ Bundle.ownAtoms0 own ic cls names, w.before args s' = true := vx_own hat' (vx_isRefq hU'.1) (vx_isRefq hN'.1) hU'.2.word hN'.2.word
  have hown' : s'.vm.findClass own = some m.cls := by rw [hvm]; exact hown
  have hins : (Cond.instantiable cls 6).before args s' = true := h _ (by simp [Bundle.ownAtoms0])
  obtain ⟨vm₁, cX, kX, hfX, hkX, -, -, X₁, st1⟩ := Y.newCold hexec (own := own) (C := cls) (index := ik) (n := 6) hown' hk' hins hini'
    (g := F0 m pc ls rest) rfl (by rw [hb]; exact d0) (Nat.le_refl _) (Nat.le_refl _)
  generalize hT1 : (T.setVm vm₁).pushCell { cls := cX, slots := kX.instanceTypes.map defaultValue, vm := .none } = T1 at X₁ st1
  have hcat : (Value.ref T.heap.size).category = 1 := rfl
  have hcellA : T1.heap[T.heap.size]? = some (freshCell cX kX) := by rw [← hT1]; exact State.heap_pushCell_size _ _
  have d3' : decode c.code (pc + 3) = .ok (.dup, 1) := by rw [hb]; exact d3
  obtain ⟨U, hsteps, hrun, hend, hW, hsame, ce, hce, hO⟩ := X₁.ctorThrow0 hexec htr (own := own) (cls := cls) (names := names) (ic := ic) hown' hcls hnames h (fun x hx => nomatch hx) hfX hkX hcellA (by rw [hhp, hT]; exact Nat.le_refl _)
    (g := { method := m, pc := pc + 4, locals := ls, stack := .ref T.heap.size :: .ref T.heap.size :: rest, locked := none }) rfl hsize rfl rfl (rest := rest) rfl
    (by rw [hb]; exact d4) (by rw [hb]; exact d7) hout hRframes (by simp only [List.map_cons, List.sum_cons, hcat]; omega) hlocks
  obtain ⟨f1, f2⟩ := vx_frame hsame
  rw [hhp] at f1 f2
  have hWs : s.WarmedH U.vm := State.WarmedH.trans hW0 hW
  have hcl : s.vm.findClass cls = some ce.cls := by
    have h9 := hO.cls
    rw [hvm] at h9
    exact h9
  have hall : s.sameButNew ({ U with vm := s.vm } : State) locs mc ms := by
    subst hA
    obtain ⟨e1, e2⟩ := hsame
    rw [State.setFrames_setFrames] at e1
    have h2 : (T.setVm s.vm).sameButNew ({ U with vm := s.vm } : State) [] (0 + 1) (0 + 6) := ⟨e1, e2⟩
    have h3 := X.same.trans h2
    rw [List.append_nil] at h3
    exact h3.mono hc hs
  refine ⟨U, ?_, .threw T.heap.size, hrun, hend, Or.inr ⟨T.heap.size, rfl, cls, ce, locs, hx U hWs.alike f1 (fun q hq => f2 q hq (fun z hz => nomatch hz)), hce, hO.vm, hcl, hWs, hall, hf⟩⟩
  refine st1 _ ?_
  show Steps p.tables e below (T1.setTop { method := m, pc := pc + 3, locals := ls, stack := .ref T.heap.size :: rest, locked := none }) _
  jvm_step X₁.here [X₁.here.top, hexec, d3', Value.category]
  exact hsteps
/-- 'throw new E("text")': new; dup; ldc; invokespecial; athrow -/
theorem vx_throwS {cc : ByteArray} {pc : Nat} (hexec : p.tables.exec = Jvm.exec) (hb : c.code = cc) (hl : l.stackTraces = false) {own cls text : String} {names : List String} {ik is ic mc ms sa : Nat} {A : Nat → Prop}
    (hown : s.vm.findClass own = some m.cls) (hcls : Bundle.fit cls = true) (hnames : ∀ n ∈ names, Bundle.fit n = true)
    (hk : (Cond.classLink own ik cls).before args s = true) (hini : (Cond.initialized cls).before args s = true) (hstr : vk_R own is text sa s) (hat : ∀ w ∈ vx_atS own ic cls names, w.before args s = true)
    (hgood : ∀ w ∈ Cond.classLink own ik cls :: Cond.initialized cls :: vx_atS own ic cls names, vx_ot w = true)
    (hU : vx_Zq Bundle.tN "UNASSIGNED_STACK" Bundle.steD A s s.heap) (hN : vx_Zq Bundle.tN "SUPPRESSED_SENTINEL" Bundle.listD A s s.heap) (hS : va_S A s.heap H locs) (hsize : ls.size = c.maxLocals)
    (d0 : decode cc pc = .ok (.new ik, 3)) (d3 : decode cc (pc + 3) = .ok (.dup, 1)) (d4 : decode cc (pc + 4) = .ok (.ldc is, 2)) (d6 : decode cc (pc + 6) = .ok (.invokespecial ic, 3)) (d9 : decode cc (pc + 9) = .ok (.athrow, 1))
    (hout : ∀ x ∈ c.exceptionTable.toList, covers x (pc + 9) = false)
    (hRframes : names.length + 3 < R.frames) (hRlocals : (rest.map fun v => v.category).sum + (13 * (names.length + 1) + 43) ≤ R.locals) (hRcells : cells + 1 ≤ R.cells) (hRslots : slots + 6 ≤ R.slots) (hlocks : meth.locks = false)
    (hx : ∀ t : State, s.vm.Alike t.vm → H.size ≤ t.heap.size → (∀ q : Nat, q < H.size → t.heap[q]? = H[q]?) → XC cls s t)
    (hf : ∀ z ∈ locs, free z.base) (hc : cells + 1 ≤ mc) (hs : slots + 6 ≤ ms) :
    W p l e R s m args below meth c H locs cells slots (vx_MQ below Qc XC args s mc ms free) (F0 m pc ls rest) := by
  intro T hT X
  have htr : e.platform.stackTraces = false := (show e.platform.stackTraces = l.stackTraces by rw [X.admits.platform]).trans hl
  have Y := vx_rebase X (R' := { frames := R.frames, locals := R.locals, cells := 1, slots := 6 }) (Nat.le_refl _) (Nat.le_refl _) hRcells hRslots
  obtain ⟨s', hA⟩ : ∃ z, z = (T.setVm s.vm).setFrames (.invoking m args :: below) := ⟨_, rfl⟩
  rw [← hA] at Y
  have hvm : s'.vm = s.vm := by rw [hA]; rfl
  have hhp : s'.heap = H := by rw [hA]; exact hT
  have hW0 : s.WarmedH s'.vm := by rw [hvm]; exact State.WarmedH.refl s
  have hat' : ∀ w ∈ vx_atS own ic cls names, w.before args s' = true := fun w hw => vx_ot_at hW0 hvm.symm (hgood w (List.mem_cons_of_mem _ (List.mem_cons_of_mem _ hw))) (hat w hw)
  have hk' : (Cond.classLink own ik cls).before args s' = true := vx_ot_at hW0 hvm.symm (hgood _ List.mem_cons_self) hk
  have hini' : (Cond.initialized cls).before args s' = true := vx_ot_at hW0 hvm.symm (hgood _ (List.mem_cons_of_mem _ List.mem_cons_self)) hini
  have hU' : vx_Zq Bundle.tN "UNASSIGNED_STACK" Bundle.steD A s' s'.heap := by rw [hhp]; exact vx_Zq.moved hW0.alike (hU.kept hS.2.1)
  have hN' : vx_Zq Bundle.tN "SUPPRESSED_SENTINEL" Bundle.listD A s' s'.heap := by rw [hhp]; exact vx_Zq.moved hW0.alike (hN.kept hS.2.1)
  have h : ∀ w ∈ Bundle.ownAtoms own ic cls names, w.before args s' = true := vx_own hat' (vx_isRefq hU'.1) (vx_isRefq hN'.1) hU'.2.word hN'.2.word
  have hown' : s'.vm.findClass own = some m.cls := by rw [hvm]; exact hown
  have hins : (Cond.instantiable cls 6).before args s' = true := h _ (by simp [Bundle.ownAtoms])
  obtain ⟨vm₁, cX, kX, hfX, hkX, -, -, X₁, st1⟩ := Y.newCold hexec (own := own) (C := cls) (index := ik) (n := 6) hown' hk' hins hini'
    (g := F0 m pc ls rest) rfl (by rw [hb]; exact d0) (Nat.le_refl _) (Nat.le_refl _)
  generalize hT1 : (T.setVm vm₁).pushCell { cls := cX, slots := kX.instanceTypes.map defaultValue, vm := .none } = T1 at X₁ st1
  have hcat : (Value.ref T.heap.size).category = 1 := rfl
  have hcellA : T1.heap[T.heap.size]? = some (freshCell cX kX) := by rw [← hT1]; exact State.heap_pushCell_size _ _
  have d3' : decode c.code (pc + 3) = .ok (.dup, 1) := by rw [hb]; exact d3
  have d4' : decode c.code (pc + 4) = .ok (.ldc is, 2) := by rw [hb]; exact d4
  have hstr' : vk_R own is text sa s' := vk_R.warm hW0 hstr
  obtain ⟨U, hsteps, hrun, hend, hW, hsame, ce, hce, hO⟩ := X₁.ctorThrowS hexec htr (own := own) (cls := cls) (names := names) (ic := ic) hown' hcls hnames h (fun x hx => nomatch hx) hfX hkX hcellA (by rw [hhp, hT]; exact Nat.le_refl _) (msg := .ref sa) rfl
    (g := { method := m, pc := pc + 6, locals := ls, stack := .ref sa :: .ref T.heap.size :: .ref T.heap.size :: rest, locked := none }) rfl hsize rfl rfl (rest := rest) rfl
    (by rw [hb]; exact d6) (by rw [hb]; exact d9) hout hRframes (by simp only [List.map_cons, List.sum_cons, hcat]; omega) hlocks
  obtain ⟨f1, f2⟩ := vx_frame hsame
  rw [hhp] at f1 f2
  have hWs : s.WarmedH U.vm := State.WarmedH.trans hW0 hW
  have hcl : s.vm.findClass cls = some ce.cls := by
    have h9 := hO.cls
    rw [hvm] at h9
    exact h9
  have hall : s.sameButNew ({ U with vm := s.vm } : State) locs mc ms := by
    subst hA
    obtain ⟨e1, e2⟩ := hsame
    rw [State.setFrames_setFrames] at e1
    have h2 : (T.setVm s.vm).sameButNew ({ U with vm := s.vm } : State) [] (0 + 1) (0 + 6) := ⟨e1, e2⟩
    have h3 := X.same.trans h2
    rw [List.append_nil] at h3
    exact h3.mono hc hs
  refine ⟨U, ?_, .threw T.heap.size, hrun, hend, Or.inr ⟨T.heap.size, rfl, cls, ce, locs, hx U hWs.alike f1 (fun q hq => f2 q hq (fun z hz => nomatch hz)), hce, hO.vm, hcl, hWs, hall, hf⟩⟩
  refine st1 _ ?_
  show Steps p.tables e below (T1.setTop { method := m, pc := pc + 3, locals := ls, stack := .ref T.heap.size :: rest, locked := none }) _
  jvm_step X₁.here [X₁.here.top, hexec, d3', Value.category]
  exact X₁.ldcString hexec (own := own) (text := text) (index := is) (a := sa) hown' hstr'.1 hstr'.2
    (g := { method := m, pc := pc + 4, locals := ls, stack := .ref T.heap.size :: .ref T.heap.size :: rest, locked := none }) rfl d4' _ hsteps
/-- 'throw new E("text")', the text by a wide index -/
theorem vx_throwSW {cc : ByteArray} {pc : Nat} (hexec : p.tables.exec = Jvm.exec) (hb : c.code = cc) (hl : l.stackTraces = false) {own cls text : String} {names : List String} {ik is ic mc ms sa : Nat} {A : Nat → Prop}
    (hown : s.vm.findClass own = some m.cls) (hcls : Bundle.fit cls = true) (hnames : ∀ n ∈ names, Bundle.fit n = true)
    (hk : (Cond.classLink own ik cls).before args s = true) (hini : (Cond.initialized cls).before args s = true) (hstr : vk_R own is text sa s) (hat : ∀ w ∈ vx_atS own ic cls names, w.before args s = true)
    (hgood : ∀ w ∈ Cond.classLink own ik cls :: Cond.initialized cls :: vx_atS own ic cls names, vx_ot w = true)
    (hU : vx_Zq Bundle.tN "UNASSIGNED_STACK" Bundle.steD A s s.heap) (hN : vx_Zq Bundle.tN "SUPPRESSED_SENTINEL" Bundle.listD A s s.heap) (hS : va_S A s.heap H locs) (hsize : ls.size = c.maxLocals)
    (d0 : decode cc pc = .ok (.new ik, 3)) (d3 : decode cc (pc + 3) = .ok (.dup, 1)) (d4 : decode cc (pc + 4) = .ok (.ldc_w is, 3)) (d7 : decode cc (pc + 7) = .ok (.invokespecial ic, 3)) (d10 : decode cc (pc + 10) = .ok (.athrow, 1))
    (hout : ∀ x ∈ c.exceptionTable.toList, covers x (pc + 10) = false)
    (hRframes : names.length + 3 < R.frames) (hRlocals : (rest.map fun v => v.category).sum + (13 * (names.length + 1) + 43) ≤ R.locals) (hRcells : cells + 1 ≤ R.cells) (hRslots : slots + 6 ≤ R.slots) (hlocks : meth.locks = false)
    (hx : ∀ t : State, s.vm.Alike t.vm → H.size ≤ t.heap.size → (∀ q : Nat, q < H.size → t.heap[q]? = H[q]?) → XC cls s t)
    (hf : ∀ z ∈ locs, free z.base) (hc : cells + 1 ≤ mc) (hs : slots + 6 ≤ ms) :
    W p l e R s m args below meth c H locs cells slots (vx_MQ below Qc XC args s mc ms free) (F0 m pc ls rest) := by
  intro T hT X
  have htr : e.platform.stackTraces = false := (show e.platform.stackTraces = l.stackTraces by rw [X.admits.platform]).trans hl
  have Y := vx_rebase X (R' := { frames := R.frames, locals := R.locals, cells := 1, slots := 6 }) (Nat.le_refl _) (Nat.le_refl _) hRcells hRslots
  obtain ⟨s', hA⟩ : ∃ z, z = (T.setVm s.vm).setFrames (.invoking m args :: below) := ⟨_, rfl⟩
  rw [← hA] at Y
  have hvm : s'.vm = s.vm := by rw [hA]; rfl
  have hhp : s'.heap = H := by rw [hA]; exact hT
  have hW0 : s.WarmedH s'.vm := by rw [hvm]; exact State.WarmedH.refl s
  have hat' : ∀ w ∈ vx_atS own ic cls names, w.before args s' = true := fun w hw => vx_ot_at hW0 hvm.symm (hgood w (List.mem_cons_of_mem _ (List.mem_cons_of_mem _ hw))) (hat w hw)
  have hk' : (Cond.classLink own ik cls).before args s' = true := vx_ot_at hW0 hvm.symm (hgood _ List.mem_cons_self) hk
  have hini' : (Cond.initialized cls).before args s' = true := vx_ot_at hW0 hvm.symm (hgood _ (List.mem_cons_of_mem _ List.mem_cons_self)) hini
  have hU' : vx_Zq Bundle.tN "UNASSIGNED_STACK" Bundle.steD A s' s'.heap := by rw [hhp]; exact vx_Zq.moved hW0.alike (hU.kept hS.2.1)
  have hN' : vx_Zq Bundle.tN "SUPPRESSED_SENTINEL" Bundle.listD A s' s'.heap := by rw [hhp]; exact vx_Zq.moved hW0.alike (hN.kept hS.2.1)
  have h : ∀ w ∈ Bundle.ownAtoms own ic cls names, w.before args s' = true := vx_own hat' (vx_isRefq hU'.1) (vx_isRefq hN'.1) hU'.2.word hN'.2.word
  have hown' : s'.vm.findClass own = some m.cls := by rw [hvm]; exact hown
  have hins : (Cond.instantiable cls 6).before args s' = true := h _ (by simp [Bundle.ownAtoms])
  obtain ⟨vm₁, cX, kX, hfX, hkX, -, -, X₁, st1⟩ := Y.newCold hexec (own := own) (C := cls) (index := ik) (n := 6) hown' hk' hins hini'
    (g := F0 m pc ls rest) rfl (by rw [hb]; exact d0) (Nat.le_refl _) (Nat.le_refl _)
  generalize hT1 : (T.setVm vm₁).pushCell { cls := cX, slots := kX.instanceTypes.map defaultValue, vm := .none } = T1 at X₁ st1
  have hcat : (Value.ref T.heap.size).category = 1 := rfl
  have hcellA : T1.heap[T.heap.size]? = some (freshCell cX kX) := by rw [← hT1]; exact State.heap_pushCell_size _ _
  have d3' : decode c.code (pc + 3) = .ok (.dup, 1) := by rw [hb]; exact d3
  have d4' : decode c.code (pc + 4) = .ok (.ldc_w is, 3) := by rw [hb]; exact d4
  have hstr' : vk_R own is text sa s' := vk_R.warm hW0 hstr
  obtain ⟨U, hsteps, hrun, hend, hW, hsame, ce, hce, hO⟩ := X₁.ctorThrowS hexec htr (own := own) (cls := cls) (names := names) (ic := ic) hown' hcls hnames h (fun x hx => nomatch hx) hfX hkX hcellA (by rw [hhp, hT]; exact Nat.le_refl _) (msg := .ref sa) rfl
    (g := { method := m, pc := pc + 7, locals := ls, stack := .ref sa :: .ref T.heap.size :: .ref T.heap.size :: rest, locked := none }) rfl hsize rfl rfl (rest := rest) rfl
    (by rw [hb]; exact d7) (by rw [hb]; exact d10) hout hRframes (by simp only [List.map_cons, List.sum_cons, hcat]; omega) hlocks
  obtain ⟨f1, f2⟩ := vx_frame hsame
  rw [hhp] at f1 f2
  have hWs : s.WarmedH U.vm := State.WarmedH.trans hW0 hW
  have hcl : s.vm.findClass cls = some ce.cls := by
    have h9 := hO.cls
    rw [hvm] at h9
    exact h9
  have hall : s.sameButNew ({ U with vm := s.vm } : State) locs mc ms := by
    subst hA
    obtain ⟨e1, e2⟩ := hsame
    rw [State.setFrames_setFrames] at e1
    have h2 : (T.setVm s.vm).sameButNew ({ U with vm := s.vm } : State) [] (0 + 1) (0 + 6) := ⟨e1, e2⟩
    have h3 := X.same.trans h2
    rw [List.append_nil] at h3
    exact h3.mono hc hs
  refine ⟨U, ?_, .threw T.heap.size, hrun, hend, Or.inr ⟨T.heap.size, rfl, cls, ce, locs, hx U hWs.alike f1 (fun q hq => f2 q hq (fun z hz => nomatch hz)), hce, hO.vm, hcl, hWs, hall, hf⟩⟩
  refine st1 _ ?_
  show Steps p.tables e below (T1.setTop { method := m, pc := pc + 3, locals := ls, stack := .ref T.heap.size :: rest, locked := none }) _
  jvm_step X₁.here [X₁.here.top, hexec, d3', Value.category]
  exact X₁.ldcStringW hexec (own := own) (text := text) (index := is) (a := sa) hown' hstr'.1 hstr'.2
    (g := { method := m, pc := pc + 4, locals := ls, stack := .ref T.heap.size :: .ref T.heap.size :: rest, locked := none }) rfl d4' _ hsteps
end Ends
section Bodies
variable {l : Launch}
theorem vx_ofW {y : MethodName} {ws ws' : List Cond} {rm : Room} {Pc : Array Value → State → Prop} {Qc : Array Value → State → Outcome → State → Prop} {XC : String → State → State → Prop} {mc ms : Nat} {free : Addr → Prop} {cc : ByteArray} {maxL : Nat} {ret : Option FieldType}
    (hy : plainName y.cls = true) (hw : ws = Cond.code y cc maxL ret :: ws')
    (body : ∀ p e s m args below meth c s₁, BodyLoose p l y (headSpec ws rm) cc maxL ret e s m args below meth c s₁ → c.maxLocals = maxL → (∀ x ∈ c.exceptionTable.toList, False) → Pc args s →
      W p l e (headSpec ws rm).room s m args below meth c s.heap [] 0 0 (vx_MQ below Qc XC args s mc ms free) (entryFrame m args maxL)) : vx_Met l y ws rm Pc Qc XC mc ms free := by
  refine MetFree.of_bodyS (code := cc) (maxLocals := maxL) (ret := ret) hy ?_ ?_
  · intro args s m h hn
    obtain ⟨meth, c, h1, h2, h3, h4, h5, h6, -, -⟩ := Cond.code_spec hn (atoms_spec (ws := ws) h _ (by rw [hw]; exact List.mem_cons_self))
    exact ⟨meth, c, h1, h2, h3, h4, h5, h6⟩
  · intro p e s m args below meth c s₁ B hml hP _
    have hh0 : s₁.heap = s.heap := by rw [B.state]; rfl
    have ht : ∀ x ∈ c.exceptionTable.toList, False := by
      obtain ⟨meth9, c9, h1, h2, -, -, -, -, h7, -⟩ := Cond.code_spec B.named (atoms_spec (ws := ws) B.pre _ (by rw [hw]; exact List.mem_cons_self))
      cases Option.some.inj (h1.symm.trans B.method)
      cases Option.some.inj (h2.symm.trans (Stand.of_body B).code)
      intro x hx
      rw [Array.isEmpty_iff.mp h7] at hx
      cases hx
    obtain ⟨t, a1, o, b1, b2, b3⟩ := body p e s m args below meth c s₁ B hml ht hP s₁ hh0 (Stand.of_body B)
    exact ⟨t, o, a1, b1, b2, b3⟩
/-- the table of a body with handlers -/
theorem vx_table {p : Program} {x y : MethodName} {S : Spec} {cc bytes : ByteArray} {maxL maxL' : Nat} {ret ret' : Option FieldType} {e : Env} {s s₁ : State} {m : MethodId} {args : Array Value} {below : List Frame} {meth : Method} {c : Code} {hh : List (Nat × Nat × Nat × Nat)}
    (B : BodyLoose p l y S cc maxL ret e s m args below meth c s₁) (h : (Cond.codeWith y bytes maxL' ret' hh).before args s = true) : c.exceptionTable.toList = tableOf hh := by
  obtain ⟨m9, meth9, c9, hn9, h1, h2, -, -, h6, -⟩ := Cond.codeWith_spec h
  cases Option.some.inj (hn9.symm.trans B.named)
  cases Option.some.inj (h1.symm.trans B.method)
  cases Option.some.inj (h2.symm.trans (Stand.of_body B).code)
  rw [← h6, table_eq]
end Bodies
end VXA
/-! ===== END ===== -/
/-! ===== BEGIN a static call of a method with an exception table ===== -/
section VXS
variable {p : Program} {l : Launch} {e : Env} {R : Room} {s : State} {m : MethodId} {args : Array Value} {below : List Frame} {meth : Method} {c : Code} {T : State} {H : Heap} {locs : List Loc} {cells slots : Nat}
abbrev vx_CSW (R : Room) (s : State) (args : Array Value) (own : String) (index : Nat) (y : MethodName) (bytes : ByteArray) (maxL : Nat) (ret : Option FieldType) (hh : List (Nat × Nat × Nat × Nat)) (ws : List Cond) (rm : Room) (mc ms n : Nat) : Prop :=
  (rm.cells = mc ∧ rm.slots = ms ∧ rm.frames + 1 ≤ R.frames ∧ 8 + (maxL + 11) + rm.locals ≤ R.locals ∧ (∀ w ∈ ws, ∀ (a' : Array Value) (U : State), s.WarmedH U.vm → w.before a' U = true) ∧ Cond.codeWith y bytes maxL ret hh ∈ ws) ∧
  (Cond.codeWith y bytes maxL ret hh).before args s = true ∧ (Cond.initialized y.cls).before args s = true ∧ (y.cls ≠ "java/lang/invoke/MethodHandle" ∧ y.cls ≠ "java/lang/invoke/VarHandle") ∧
  (∀ sig, parseMethodDescriptor y.desc = some sig → n = sig.parameters.length) ∧ (Cond.methodLink own index y).before args s = true ∧ (Cond.static y).before args s = true
theorem vx_cwSW {own : String} {index maxL mc ms : Nat} {y : MethodName} {bytes : ByteArray} {ret : Option FieldType} {hh : List (Nat × Nat × Nat × Nat)} {Ts ws ws' : List Cond} {rm : Room} (n : Nat) (ht : ∀ w ∈ Ts, w.before args s = true) (hT : GoodIn Ts (va_wsS own index y ws)) (hw : ws = Cond.codeWith y bytes maxL ret hh :: ws') (hrc : rm.cells = mc) (hrs : rm.slots = ms)
    (hd : y.cls ≠ "java/lang/invoke/MethodHandle" ∧ y.cls ≠ "java/lang/invoke/VarHandle" ∧ (parseMethodDescriptor y.desc).map (fun d => d.parameters.length) = some n) (hR : rm.frames + 1 ≤ R.frames ∧ 8 + (maxL + 11) + rm.locals ≤ R.locals) :
    vx_CSW R s args own index y bytes maxL ret hh ws rm mc ms n := by
  have ok : ∀ w ∈ va_wsS own index y ws, w.before args s = true := fun w h => ht w (hT w h).1
  have hG : GoodIn Ts ws := fun w h => hT w (by unfold va_wsS; exact List.mem_append_right _ h)
  have hc : Cond.codeWith y bytes maxL ret hh ∈ ws := by rw [hw]; exact List.mem_cons_self
  refine ⟨⟨hrc, hrs, hR.1, hR.2, pay_in ht hG, hc⟩, ht _ (hG _ hc).1, ok _ (by simp [va_wsS]), ⟨hd.1, hd.2.1⟩, fun sig h => ?_, ok _ (by simp [va_wsS]), ok _ (by simp [va_wsS])⟩
  have h2 := hd.2.2
  rw [h] at h2
  exact (Option.some.inj h2).symm
theorem vx_callSW (X : Stand p l e R s m args below meth c T locs cells slots) (hexec : p.tables.exec = Jvm.exec) {own : String} {index : Nat} {y : MethodName} {bytes : ByteArray} {maxL : Nat} {ret : Option FieldType} {hh : List (Nat × Nat × Nat × Nat)}
    (hown : s.vm.findClass own = some m.cls) (hlink : (Cond.methodLink own index y).before args s = true) (hstat : (Cond.static y).before args s = true) (hinit : (Cond.initialized y.cls).before args s = true)
    (hcode : (Cond.codeWith y bytes maxL ret hh).before args s = true) (hy : y.cls ≠ "java/lang/invoke/MethodHandle" ∧ y.cls ≠ "java/lang/invoke/VarHandle")
    {W9 : Nat} {Pre : Pt → Array Value → Prop} {Post : Pt → Array Value → Option Value → Pt → Prop} (hK : Back l R p e below s args y 3 W9 Pre Post)
    {g : JFrame} (hg : g.method = m) (hsize : g.locals.size = c.maxLocals) {argsL rest : List Value} (hlen : ∀ sig, parseMethodDescriptor y.desc = some sig → argsL.length = sig.parameters.length)
    (hstack : g.stack = argsL.reverse ++ rest) (hW : 2 * g.monitorRoom + (rest.map fun v => v.category).sum ≤ W9) (hdg : decode c.code g.pc = .ok (.invokestatic index, 3))
    (hpre : ∀ vm₁, s.WarmedH vm₁ → Pre ⟨T.setVm vm₁, locs, cells, slots⟩ argsL.toArray) :
    ∃ (v : Option Value) (vm₁ : Vm) (B : Pt), s.WarmedH vm₁ ∧ Stand p l e R s m args below meth c B.U B.locs B.cells B.slots ∧ Post ⟨T.setVm vm₁, locs, cells, slots⟩ argsL.toArray v B ∧
      ∀ target, Steps p.tables e below (B.U.setTop { g with pc := g.pc + 3, stack := v.toList ++ rest }) target → Steps p.tables e below (T.setTop g) target := by
  obtain ⟨mk, methM, cM, hnamed, hmethM, -, -, -, -, -, -, hsigM⟩ := Cond.codeWith_spec hcode
  have hstatic : methM.isStatic = true := Cond.static_spec hnamed hmethM hstat
  obtain ⟨kP, hkP, -⟩ := className_of_methodNamed hnamed
  have hinitP : kP.init = .initialized := Cond.initialized_spec (findClass_of_methodNamed hnamed) hkP hinit
  obtain ⟨vm₁, X₁, hstep₁⟩ := X.invokestatic hexec hown hlink hnamed hmethM hstatic hkP hinitP hy (g := g) hg (argsL := argsL) (rest := rest) (hlen _ hsigM) hstack hdg
  obtain ⟨v, B, X', hpost, hsteps⟩ := hK m meth c ⟨T.setVm vm₁, locs, cells, slots⟩ { g with stack := rest } (.invokestatic index) mk argsL.toArray X₁ hg hsize hdg hW (X₁.named hnamed) (hpre vm₁ X₁.warmed)
  exact ⟨v, vm₁, B, X₁.warmed, X', hpost, fun target h => hstep₁ _ fun acts => by rw [doInvoke_state]; exact hsteps.trans h⟩
theorem vx_runSW {y : MethodName} {bytes cc : ByteArray} {maxL nL mc ms n index : Nat} {ret : Option FieldType} {hh : List (Nat × Nat × Nat × Nat)} {ws : List Cond} {rm : Room} {Pc : Array Value → State → Prop} {Qc : Array Value → State → Outcome → State → Prop} {free : Addr → Prop} {Ts : List Cond} {own : String} {As rest : List Value} {g : JFrame}
    (S : CallFix p m c cc nL s args Ts own) (hM : Met l y ws rm Pc Qc mc ms free) (cw : vx_CSW R s args own index y bytes maxL ret hh ws rm mc ms n) (hp : PreS s H Pc As)
    (hg : g.method = m) (hn : As.length = n) (hsize : g.locals.size = nL) (hstack : g.stack = As.reverse ++ rest) (hW : 2 * g.monitorRoom + (rest.map fun v => v.category).sum ≤ 8) (hdg : decode cc g.pc = .ok (.invokestatic index, 3)) (hf : cells + mc ≤ R.cells ∧ slots + ms ≤ R.slots) :
    va_Run p l e R s m args below meth c H locs cells slots mc ms g rest (Qc As.toArray) (free) := by
  obtain ⟨⟨hrc, hrs, hfr, hlo, hws, hcw⟩, hcode, hini, hy, hlen, hl, hstt⟩ := cw
  have hK : Back l R p e below s args y 3 8 (PreOf R mc ms Pc) (PostOf Qc mc ms free) := va_backW (hh := hh) (bytes := bytes) (maxL := maxL) (ret := ret) hM hp.1 hrc hrs hfr hlo hws hcw (fun a' U hW => word_at hW (Or.inl (by first | rfl | simp [Cond.onTables, Cond.keeps, Cond.steady])) hini)
  obtain ⟨hx, hb, hml, ho, -⟩ := S
  intro T hT X
  obtain ⟨v, vm₁, ⟨U', l2, c2, s2⟩, hW₁, X', ⟨g', mk, t, L, e1, e2, hq, h1, hL, h2, h3⟩, st⟩ := vx_callSW X hx (hh := hh) (bytes := bytes) (maxL := maxL) (ret := ret) ho hl hstt hini hcode hy hK hg (hsize.trans hml.symm) (argsL := As) (rest := rest) (fun sig h => hn.trans (hlen sig h)) hstack hW (by rw [hb]; exact hdg)
    (fun vm₁ hW₁ => ⟨hf.1, hf.2, hp.2 (T.setVm vm₁) hT hW₁⟩)
  dsimp only [Pt.U, Pt.locs, Pt.cells, Pt.slots] at X' e1 e2 h1 h2 h3 st
  subst h1; subst h2; subst h3
  exact ⟨v, (T.setVm vm₁).calling g' mk As.toArray, t, U', L, hT, X', hL, e1, e2, hq, st⟩
/-- not caught here, past rows that name other classes: it goes on to the caller -/
theorem vx_outP {p : Program} {l : Launch} {e : Env} {R : Room} {s : State} {m : MethodId} {args : Array Value} {below : List Frame} {meth : Method} {c : Code} {H : Heap} {locs : List Loc} {cells slots : Nat} {free : Addr → Prop} {ls : Array Slot} {rest : List Value} {Qc : Array Value → State → Outcome → State → Prop} {XC : String → State → State → Prop}
    {pc : Nat} {own E : String} {ce : Cell} {q : Addr} {mc ms : Nat} (hown : s.vm.findClass own = some m.cls) (hlocks : meth.locks = false)
    (hpass : ∀ z ∈ c.exceptionTable.toList, covers z pc = false ∨ (z.catchType ≠ 0 ∧ ∃ nm : String, (Cond.classLink own z.catchType nm).before args s = true ∧ va_Nc E nm s)) (hcell : H[q]? = some ce) (hv : ce.vm = .none) (hcl : s.vm.findClass E = some ce.cls)
    (hx : ∀ t : State, t.heap = H → s.vm.Alike t.vm → XC E s t) (hf : ∀ z ∈ locs, free z.base) (hc : cells ≤ mc) (hs : slots ≤ ms) :
    vx_W p l e R s m args below meth c H locs cells slots (vx_MQ below Qc XC args s mc ms free) (F0 m pc ls rest) q := by
  intro T hT X
  have hpl : e.platform.magicAccessors = ({} : Platform).magicAccessors := by rw [X.admits.platform]
  obtain ⟨vm', hW', X', st⟩ := X.outThrough hlocks q (g := F0 m pc ls rest) rfl rfl rfl (cell := ce) (by rw [hT]; exact hcell) (by rw [hv]; rfl)
    (by obtain ⟨k9, h9, -⟩ := Vm.findClass_spec hcl; exact ⟨k9, h9⟩) (fun z hz => by
      rcases hpass z hz with h | ⟨hz0, nm, hl1, hn1⟩
      · exact Or.inl h
      · obtain ⟨c6, hc6, hcl6⟩ := Cond.classLink_spec hown hl1 e.platform hpl
        obtain ⟨a8, b8, h1, h2, h3⟩ := hn1
        cases Option.some.inj (h1.symm.trans hcl)
        cases Option.some.inj (h2.symm.trans hc6)
        exact Or.inr ⟨hz0, _, hcl6, h3⟩)
  obtain ⟨g₀, hfr⟩ := X'.frames_eq
  have hcell9 : ((T.setVm vm').setFrames (.throwing q :: below)).heap[q]? = some ce := by
    show T.heap[q]? = some ce
    rw [hT]; exact hcell
  have hend : Ended ((T.setVm vm').setFrames (.throwing q :: below)) below (.threw q) := State.frames_setFrames _ (State.cur_lt_of_frames hfr)
  refine ⟨(T.setVm vm').setFrames (.throwing q :: below), ?_, .threw q, X'.here.running, hend, Or.inr ⟨q, rfl, E, ce, locs, hx _ hT (X'.ends _).1.alike, hcell9, hv, hcl, (X'.ends _).1, (X'.ends _).2.mono hc hs, hf⟩⟩
  rw [X.pushThrowing_eq]
  exact st
/-- a thing of a world lies in the heap -/
theorem vx_lt {D : va_G} {cl : List vw_C} {ws : va_W} {H1 : Heap} (h : va_P D cl ws H1) {k : Nat} {q : Nat × va_E} (hk : ws[k]? = some q) : q.1 < H1.size := (h k q hk).lt
end VXS
/-! ===== END ===== -/
/-! ===== BEGIN methods with a table of their own: called by a name, returning or throwing ===== -/
section VXH
/-! vx_backW, vx_callVX, vx_callSX, vx_callVW, vx_runVW, vx_runVX, vx_runSX, vx_ofWH follow the same proofs as their sisters above (Free/Laws.lean, Shelf42/LK1.lean); vx_outP calls Shelf42/NT130.lean (outThrough). -/
section
variable {l : Launch} {R : Room} {p : Program} {e : Env} {below : List Frame} {s : State} {sargs : Array Value} {y : MethodName} {len W9 : Nat}
theorem vx_backW {ws : List Cond} {rm : Room} {Pc : Array Value → State → Prop} {Qc : Array Value → State → Outcome → State → Prop} {XC : String → State → State → Prop} {mc ms : Nat} {free : Addr → Prop} {bytes : ByteArray} {maxL : Nat} {ret : Option FieldType} {hh : List (Nat × Nat × Nat × Nat)}
    (hM : vx_Met l y ws rm Pc Qc XC mc ms free) (hblind : FrameBlind Pc) (hrc : rm.cells = mc) (hrs : rm.slots = ms)
    (hframes : rm.frames + 1 ≤ R.frames) (hlocals : W9 + (maxL + 11) + rm.locals ≤ R.locals)
    (hws : ∀ w ∈ ws, ∀ a' U, s.WarmedH U.vm → w.before a' U = true) (hcode : Cond.codeWith y bytes maxL ret hh ∈ ws) (hinit : ∀ a' U, s.WarmedH U.vm → (Cond.initialized y.cls).before a' U = true) :
    vx_Back l R p e below s sargs y len W9 (PreOf R mc ms Pc) (PostOf Qc mc ms free) (vx_Post XC mc ms free) := by
  intro m meth c A g ig mk a X hg hsize hdg hW hn hp
  have h1 : (headSpec ws rm).pre.before a A.U = true := atoms_intro fun w hw => hws w hw _ _ X.warmed
  have h2 : (Cond.codeWith y bytes maxL ret hh).before a A.U = true := hws _ hcode _ _ X.warmed
  have h3 : (Cond.initialized y.cls).before a A.U = true := hinit _ _ X.warmed
  have h4 : A.cells + (headSpec ws rm).room.cells ≤ R.cells := by rw [show (headSpec ws rm).room.cells = mc from hrc]; exact hp.1
  have h5 : A.slots + (headSpec ws rm).room.slots ≤ R.slots := by rw [show (headSpec ws rm).room.slots = ms from hrs]; exact hp.2.1
  have hPc : Pc a (A.U.calling g mk a) := hblind _ _ _ _ hp.2.2
  obtain ⟨U, Ls, c0, s0⟩ := A
  dsimp only [Pt.U, Pt.locs, Pt.cells, Pt.slots] at h1 h2 h3 h4 h5 X hn hPc ⊢
  obtain ⟨m9, methY, cY, hn9, hmY, hcY, -, hlY, -⟩ := Cond.codeWith_spec h2
  cases Option.some.inj (hn9.symm.trans hn)
  obtain ⟨kY, hkY, -⟩ := className_of_methodNamed hn
  have hinitY : kY.init = .initialized := Cond.initialized_spec (findClass_of_methodNamed hn) hkY h3
  have h : At U g.method c below := by rw [hg]; exact X.here
  have hlocals9 : W9 + (maxL + 11) + (headSpec ws rm).room.locals ≤ R.locals := hlocals
  have happ : (headSpec ws rm).appliesLoose y e.platform (U.calling g mk a) = true :=
    Spec.appliesLoose_calling (g := g) h hdg hn hkY hinitY
      (X.room_calling (g := g) (R' := (headSpec ws rm).room) hsize hmY hcY hframes (by rw [hlY]; omega) h4 h5) h1
  obtain ⟨mid, hmid⟩ := h.above
  have hfr : (U.setTop g).frames = (.java g :: mid) ++ below := by rw [State.frames_setTop' g h.top, hmid]; rfl
  obtain ⟨o, s₂, hsteps, -, hend, hq⟩ := Steps.callFree hM p X.admits X.cas X.clock (acts := []) hfr happ hPc trivial
  have hq' : vx_Q Qc XC mc ms free a (U.calling g mk a) o s₂ := hq
  rw [State.frames_setTop' g h.top] at hend
  obtain ⟨g₀, hg0⟩ := Option.isSome_iff_exists.mp h.top
  obtain ⟨r, hr⟩ := State.topJava?_eq_some.mp hg0
  have hr' : (({ U with heap := s₂.heap, slotsUsed := s₂.slotsUsed } : State).setVm s₂.vm).frames = .java g₀ :: r := hr
  rcases hq' with ⟨hqc, L, hfe, hL⟩ | ⟨q, rfl, E, ce, L, hx, hce, hcv, hcl, hW₂, hsm, hL⟩
  · obtain ⟨⟨v, rfl⟩, hW₂, e2, q2, q3, q4, q5, q6⟩ := id hfe
    have e3 : s₂ = ({ (U.calling g mk a).setFrames s₂.frames with heap := s₂.heap, slotsUsed := s₂.slotsUsed } : State).setVm s₂.vm := by
      have : s₂ = ({ s₂ with vm := (U.calling g mk a).vm } : State).setVm s₂.vm := rfl
      rw [e2] at this
      exact this
    obtain ⟨c₂, i₂, len₂, hc₂, hd₂, hf₂⟩ := hend
    have hW' : U.WarmedH s₂.vm := hW₂
    have hcc : c₂ = c := by
      have h1 : s₂.code? g.method = U.code? g.method := by
        rw [State.code?_eq, State.code?_eq, hW'.alike.method?]
      exact Option.some.inj (hc₂.symm.trans (h1.trans h.code))
    subst hcc
    have hlen : len₂ = len := by rw [hdg] at hd₂; cases hd₂; rfl
    subst hlen
    have hs₂ : s₂ = (({ U with heap := s₂.heap, slotsUsed := s₂.slotsUsed } : State).setVm s₂.vm).setTop { g with pc := g.pc + len₂, stack := v.toList ++ g.stack } := by
      refine e3.trans ?_
      rw [hf₂, State.calling_eq h.top, State.setFrames_setFrames, State.setTop_of_frames _ hr', hr]
      rfl
    have hsame : U.sameButNew ({ U with heap := s₂.heap, slotsUsed := s₂.slotsUsed } : State) L mc ms := by
      refine ⟨?_, q2, q3, q4, q5, q6⟩
      obtain ⟨t, ht, -⟩ := State.frames_cons hr
      show ({ U with heap := s₂.heap, slotsUsed := s₂.slotsUsed } : State) = { U.setFrames U.frames with heap := s₂.heap, slotsUsed := s₂.slotsUsed }
      rw [State.setFrames_self ht]
    subst hg
    refine Or.inl ⟨v, ⟨(({ U with heap := s₂.heap, slotsUsed := s₂.slotsUsed } : State).setVm s₂.vm), Ls ++ L, c0 + mc, s0 + ms⟩,
      ⟨X.admits, X.cas, X.clock, X.frames, X.room, X.hears, X.method, X.code, (X.here.setHeapUsed s₂.heap s₂.slotsUsed).setVm hW'.alike, X.tail, State.WarmedH.trans X.warmed hW', X.limits, X.bytes, X.same.trans (hsame.setVm s.vm)⟩,
      ⟨g, mk, s₂, L, rfl, rfl, hqc, rfl, hL, rfl, rfl⟩, ?_⟩
    show Steps p.tables e below _ ((({ U with heap := s₂.heap, slotsUsed := s₂.slotsUsed } : State).setVm s₂.vm).setTop { g with pc := g.pc + len₂, stack := v.toList ++ g.stack })
    rw [← hs₂]
    exact hsteps
  · obtain ⟨e2, q2, q3, q4, q5, q6⟩ := id hsm
    have e3 : s₂ = ({ (U.calling g mk a).setFrames s₂.frames with heap := s₂.heap, slotsUsed := s₂.slotsUsed } : State).setVm s₂.vm := by
      have : s₂ = ({ s₂ with vm := (U.calling g mk a).vm } : State).setVm s₂.vm := rfl
      rw [e2] at this
      exact this
    have hf₂ : s₂.frames = .throwing q :: .java g :: U.frames.tail := hend
    have hW' : U.WarmedH s₂.vm := hW₂
    have hs₂ : s₂ = ((({ U with heap := s₂.heap, slotsUsed := s₂.slotsUsed } : State).setVm s₂.vm).setTop g).pushFrame (.throwing q) := by
      refine e3.trans ?_
      rw [hf₂, State.calling_eq h.top, State.setFrames_setFrames, State.pushFrame, State.frames_setTop _ hr', State.setTop_of_frames _ hr', State.setFrames_setFrames, hr]
      rfl
    have hsame : U.sameButNew ({ U with heap := s₂.heap, slotsUsed := s₂.slotsUsed } : State) L mc ms := by
      refine ⟨?_, q2, q3, q4, q5, q6⟩
      obtain ⟨t, ht, -⟩ := State.frames_cons hr
      show ({ U with heap := s₂.heap, slotsUsed := s₂.slotsUsed } : State) = { U.setFrames U.frames with heap := s₂.heap, slotsUsed := s₂.slotsUsed }
      rw [State.setFrames_self ht]
    subst hg
    refine Or.inr ⟨q, ⟨(({ U with heap := s₂.heap, slotsUsed := s₂.slotsUsed } : State).setVm s₂.vm), Ls ++ L, c0 + mc, s0 + ms⟩,
      ⟨X.admits, X.cas, X.clock, X.frames, X.room, X.hears, X.method, X.code, (X.here.setHeapUsed s₂.heap s₂.slotsUsed).setVm hW'.alike, X.tail, State.WarmedH.trans X.warmed hW', X.limits, X.bytes, X.same.trans (hsame.setVm s.vm)⟩,
      ⟨g, mk, s₂, L, E, ce, rfl, rfl, hx, hce, hcv, hcl, rfl, hL, rfl, rfl⟩, ?_⟩
    show Steps p.tables e below _ (((({ U with heap := s₂.heap, slotsUsed := s₂.slotsUsed } : State).setVm s₂.vm).setTop g).pushFrame (.throwing q))
    rw [← hs₂]
    exact hsteps
end
variable {p : Program} {l : Launch} {e : Env} {R : Room} {s : State} {m : MethodId} {args : Array Value} {below : List Frame} {meth : Method} {c : Code} {T : State} {H : Heap} {locs : List Loc} {cells slots : Nat}
theorem vx_callVX (X : Stand p l e R s m args below meth c T locs cells slots) (hexec : p.tables.exec = Jvm.exec) {own C : String} {index : Nat} {y : MethodName} {bytes : ByteArray} {maxL : Nat} {ret : Option FieldType} {hh : List (Nat × Nat × Nat × Nat)}
    (hown : s.vm.findClass own = some m.cls) (hlink : (Cond.methodLink own index y).before args s = true) (hinst : (Cond.instanceMethod y).before args s = true) (hsel : (Cond.selects C y y).before args s = true)
    (hcode : (Cond.codeWith y bytes maxL ret hh).before args s = true) (hy : y.cls ≠ "java/lang/invoke/MethodHandle" ∧ y.cls ≠ "java/lang/invoke/VarHandle")
    {W9 : Nat} {Pre : Pt → Array Value → Prop} {Post : Pt → Array Value → Option Value → Pt → Prop} {PostX : Pt → Array Value → Addr → Pt → Prop} (hK : vx_Back l R p e below s args y 3 W9 Pre Post PostX)
    {b : Addr} {cellB : Cell} (hcell : T.heap[b]? = some cellB) (hobj : cellB.vm.isStatics = false) (hcls : s.vm.findClass C = some cellB.cls)
    {g : JFrame} (hg : g.method = m) (hsize : g.locals.size = c.maxLocals) {argsL rest : List Value} (hlen : ∀ sig, parseMethodDescriptor y.desc = some sig → argsL.length = sig.parameters.length)
    (hstack : g.stack = argsL.reverse ++ .ref b :: rest) (hW : 2 * g.monitorRoom + (rest.map fun v => v.category).sum ≤ W9) (hdg : decode c.code g.pc = .ok (.invokevirtual index, 3))
    (hpre : ∀ vm₁, s.WarmedH vm₁ → Pre ⟨T.setVm vm₁, locs, cells, slots⟩ (Value.ref b :: argsL).toArray) :
    (∃ (v : Option Value) (vm₁ : Vm) (B : Pt), s.WarmedH vm₁ ∧ Stand p l e R s m args below meth c B.U B.locs B.cells B.slots ∧ Post ⟨T.setVm vm₁, locs, cells, slots⟩ (Value.ref b :: argsL).toArray v B ∧
      ∀ target, Steps p.tables e below (B.U.setTop { g with pc := g.pc + 3, stack := v.toList ++ rest }) target → Steps p.tables e below (T.setTop g) target) ∨
    (∃ (q : Addr) (vm₁ : Vm) (B : Pt), s.WarmedH vm₁ ∧ Stand p l e R s m args below meth c B.U B.locs B.cells B.slots ∧ PostX ⟨T.setVm vm₁, locs, cells, slots⟩ (Value.ref b :: argsL).toArray q B ∧
      Steps p.tables e below (T.setTop g) ((B.U.setTop { g with stack := rest }).pushFrame (.throwing q))) := by
  obtain ⟨mk, methM, hnamed, hmethM, hstM, habM⟩ := Cond.instanceMethod_spec hinst
  obtain ⟨m8, methM', cM, hn8, hmethM', -, -, -, -, -, -, hsigM⟩ := Cond.codeWith_spec hcode
  cases Option.some.inj (hn8.symm.trans hnamed)
  cases hmethM.symm.trans hmethM'
  obtain ⟨c2, r2, m2, q1, q2, q3, q4, kP, hkP, hkPi⟩ := Cond.selects_spec hsel
  cases hcls.symm.trans q1
  cases (State.methodFound?_of_named hnamed hy).symm.trans q2
  cases hnamed.symm.trans q3
  have hselP : selectMethod e.platform s.vm cellB.cls mk = .method mk := by rw [Launch.admits_selectMethod X.admits]; exact q4
  obtain ⟨vm₁, X₁, hstep₁⟩ := X.invokevirtual hexec hown hlink hnamed hmethM hstM hkP hkPi hy (a := b) (cell := cellB) hcell
    (fun z h => by rw [h] at hobj; cases hobj) hselP hmethM habM hkP hkPi (g := g) hg (argsL := argsL) (rest := rest) (hlen _ hsigM) hstack hdg
  rcases hK m meth c ⟨T.setVm vm₁, locs, cells, slots⟩ { g with stack := rest } (.invokevirtual index) mk (Value.ref b :: argsL).toArray X₁ hg hsize hdg hW (X₁.named hnamed) (hpre vm₁ X₁.warmed) with ⟨v, B, X', hpost, hsteps⟩ | ⟨q, B, X', hpost, hsteps⟩
  · exact Or.inl ⟨v, vm₁, B, X₁.warmed, X', hpost, fun target h => hstep₁ _ fun acts => by rw [doInvoke_state]; exact hsteps.trans h⟩
  · exact Or.inr ⟨q, vm₁, B, X₁.warmed, X', hpost, hstep₁ _ fun acts => by rw [doInvoke_state]; exact hsteps⟩
theorem vx_callSX (X : Stand p l e R s m args below meth c T locs cells slots) (hexec : p.tables.exec = Jvm.exec) {own : String} {index : Nat} {y : MethodName} {bytes : ByteArray} {maxL : Nat} {ret : Option FieldType} {hh : List (Nat × Nat × Nat × Nat)}
    (hown : s.vm.findClass own = some m.cls) (hlink : (Cond.methodLink own index y).before args s = true) (hstat : (Cond.static y).before args s = true) (hinit : (Cond.initialized y.cls).before args s = true)
    (hcode : (Cond.codeWith y bytes maxL ret hh).before args s = true) (hy : y.cls ≠ "java/lang/invoke/MethodHandle" ∧ y.cls ≠ "java/lang/invoke/VarHandle")
    {W9 : Nat} {Pre : Pt → Array Value → Prop} {Post : Pt → Array Value → Option Value → Pt → Prop} {PostX : Pt → Array Value → Addr → Pt → Prop} (hK : vx_Back l R p e below s args y 3 W9 Pre Post PostX)
    {g : JFrame} (hg : g.method = m) (hsize : g.locals.size = c.maxLocals) {argsL rest : List Value} (hlen : ∀ sig, parseMethodDescriptor y.desc = some sig → argsL.length = sig.parameters.length)
    (hstack : g.stack = argsL.reverse ++ rest) (hW : 2 * g.monitorRoom + (rest.map fun v => v.category).sum ≤ W9) (hdg : decode c.code g.pc = .ok (.invokestatic index, 3))
    (hpre : ∀ vm₁, s.WarmedH vm₁ → Pre ⟨T.setVm vm₁, locs, cells, slots⟩ argsL.toArray) :
    (∃ (v : Option Value) (vm₁ : Vm) (B : Pt), s.WarmedH vm₁ ∧ Stand p l e R s m args below meth c B.U B.locs B.cells B.slots ∧ Post ⟨T.setVm vm₁, locs, cells, slots⟩ argsL.toArray v B ∧
      ∀ target, Steps p.tables e below (B.U.setTop { g with pc := g.pc + 3, stack := v.toList ++ rest }) target → Steps p.tables e below (T.setTop g) target) ∨
    (∃ (q : Addr) (vm₁ : Vm) (B : Pt), s.WarmedH vm₁ ∧ Stand p l e R s m args below meth c B.U B.locs B.cells B.slots ∧ PostX ⟨T.setVm vm₁, locs, cells, slots⟩ argsL.toArray q B ∧
      Steps p.tables e below (T.setTop g) ((B.U.setTop { g with stack := rest }).pushFrame (.throwing q))) := by
  obtain ⟨mk, methM, cM, hnamed, hmethM, -, -, -, -, -, -, hsigM⟩ := Cond.codeWith_spec hcode
  have hstatic : methM.isStatic = true := Cond.static_spec hnamed hmethM hstat
  obtain ⟨kP, hkP, -⟩ := className_of_methodNamed hnamed
  have hinitP : kP.init = .initialized := Cond.initialized_spec (findClass_of_methodNamed hnamed) hkP hinit
  obtain ⟨vm₁, X₁, hstep₁⟩ := X.invokestatic hexec hown hlink hnamed hmethM hstatic hkP hinitP hy (g := g) hg (argsL := argsL) (rest := rest) (hlen _ hsigM) hstack hdg
  rcases hK m meth c ⟨T.setVm vm₁, locs, cells, slots⟩ { g with stack := rest } (.invokestatic index) mk argsL.toArray X₁ hg hsize hdg hW (X₁.named hnamed) (hpre vm₁ X₁.warmed) with ⟨v, B, X', hpost, hsteps⟩ | ⟨q, B, X', hpost, hsteps⟩
  · exact Or.inl ⟨v, vm₁, B, X₁.warmed, X', hpost, fun target h => hstep₁ _ fun acts => by rw [doInvoke_state]; exact hsteps.trans h⟩
  · exact Or.inr ⟨q, vm₁, B, X₁.warmed, X', hpost, hstep₁ _ fun acts => by rw [doInvoke_state]; exact hsteps⟩
theorem vx_callVW (X : Stand p l e R s m args below meth c T locs cells slots) (hexec : p.tables.exec = Jvm.exec) {own C : String} {index : Nat} {y : MethodName} {bytes : ByteArray} {maxL : Nat} {ret : Option FieldType} {hh : List (Nat × Nat × Nat × Nat)}
    (hown : s.vm.findClass own = some m.cls) (hlink : (Cond.methodLink own index y).before args s = true) (hinst : (Cond.instanceMethod y).before args s = true) (hsel : (Cond.selects C y y).before args s = true)
    (hcode : (Cond.codeWith y bytes maxL ret hh).before args s = true) (hy : y.cls ≠ "java/lang/invoke/MethodHandle" ∧ y.cls ≠ "java/lang/invoke/VarHandle")
    {W9 : Nat} {Pre : Pt → Array Value → Prop} {Post : Pt → Array Value → Option Value → Pt → Prop} (hK : Back l R p e below s args y 3 W9 Pre Post)
    {b : Addr} {cellB : Cell} (hcell : T.heap[b]? = some cellB) (hobj : cellB.vm.isStatics = false) (hcls : s.vm.findClass C = some cellB.cls)
    {g : JFrame} (hg : g.method = m) (hsize : g.locals.size = c.maxLocals) {argsL rest : List Value} (hlen : ∀ sig, parseMethodDescriptor y.desc = some sig → argsL.length = sig.parameters.length)
    (hstack : g.stack = argsL.reverse ++ .ref b :: rest) (hW : 2 * g.monitorRoom + (rest.map fun v => v.category).sum ≤ W9) (hdg : decode c.code g.pc = .ok (.invokevirtual index, 3))
    (hpre : ∀ vm₁, s.WarmedH vm₁ → Pre ⟨T.setVm vm₁, locs, cells, slots⟩ (Value.ref b :: argsL).toArray) :
    ∃ (v : Option Value) (vm₁ : Vm) (B : Pt), s.WarmedH vm₁ ∧ Stand p l e R s m args below meth c B.U B.locs B.cells B.slots ∧ Post ⟨T.setVm vm₁, locs, cells, slots⟩ (Value.ref b :: argsL).toArray v B ∧
      ∀ target, Steps p.tables e below (B.U.setTop { g with pc := g.pc + 3, stack := v.toList ++ rest }) target → Steps p.tables e below (T.setTop g) target := by
  obtain ⟨mk, methM, hnamed, hmethM, hstM, habM⟩ := Cond.instanceMethod_spec hinst
  obtain ⟨m8, methM', cM, hn8, hmethM', -, -, -, -, -, -, hsigM⟩ := Cond.codeWith_spec hcode
  cases Option.some.inj (hn8.symm.trans hnamed)
  cases hmethM.symm.trans hmethM'
  obtain ⟨c2, r2, m2, q1, q2, q3, q4, kP, hkP, hkPi⟩ := Cond.selects_spec hsel
  cases hcls.symm.trans q1
  cases (State.methodFound?_of_named hnamed hy).symm.trans q2
  cases hnamed.symm.trans q3
  have hselP : selectMethod e.platform s.vm cellB.cls mk = .method mk := by rw [Launch.admits_selectMethod X.admits]; exact q4
  obtain ⟨vm₁, X₁, hstep₁⟩ := X.invokevirtual hexec hown hlink hnamed hmethM hstM hkP hkPi hy (a := b) (cell := cellB) hcell
    (fun z h => by rw [h] at hobj; cases hobj) hselP hmethM habM hkP hkPi (g := g) hg (argsL := argsL) (rest := rest) (hlen _ hsigM) hstack hdg
  obtain ⟨v, B, X', hpost, hsteps⟩ := hK m meth c ⟨T.setVm vm₁, locs, cells, slots⟩ { g with stack := rest } (.invokevirtual index) mk (Value.ref b :: argsL).toArray X₁ hg hsize hdg hW (X₁.named hnamed) (hpre vm₁ X₁.warmed)
  exact ⟨v, vm₁, B, X₁.warmed, X', hpost, fun target h => hstep₁ _ fun acts => by rw [doInvoke_state]; exact hsteps.trans h⟩
abbrev vx_CVW (R : Room) (s : State) (args : Array Value) (own C : String) (index : Nat) (y : MethodName) (bytes : ByteArray) (maxL : Nat) (ret : Option FieldType) (hh : List (Nat × Nat × Nat × Nat)) (ws : List Cond) (rm : Room) (mc ms n : Nat) : Prop :=
  (rm.cells = mc ∧ rm.slots = ms ∧ rm.frames + 1 ≤ R.frames ∧ 8 + (maxL + 11) + rm.locals ≤ R.locals ∧ (∀ w ∈ ws, ∀ (a' : Array Value) (U : State), s.WarmedH U.vm → w.before a' U = true) ∧ Cond.codeWith y bytes maxL ret hh ∈ ws) ∧
  (Cond.codeWith y bytes maxL ret hh).before args s = true ∧ (Cond.initialized y.cls).before args s = true ∧ (y.cls ≠ "java/lang/invoke/MethodHandle" ∧ y.cls ≠ "java/lang/invoke/VarHandle") ∧
  (∀ sig, parseMethodDescriptor y.desc = some sig → n = sig.parameters.length) ∧ (Cond.methodLink own index y).before args s = true ∧ (Cond.instanceMethod y).before args s = true ∧ (Cond.selects C y y).before args s = true
theorem vx_cwVW {own C : String} {index maxL mc ms : Nat} {y : MethodName} {bytes : ByteArray} {ret : Option FieldType} {hh : List (Nat × Nat × Nat × Nat)} {Ts ws ws' : List Cond} {rm : Room} (n : Nat) (ht : ∀ w ∈ Ts, w.before args s = true) (hT : GoodIn Ts (wsV own index C y ws)) (hw : ws = Cond.codeWith y bytes maxL ret hh :: ws') (hrc : rm.cells = mc) (hrs : rm.slots = ms)
    (hd : y.cls = C ∧ y.cls ≠ "java/lang/invoke/MethodHandle" ∧ y.cls ≠ "java/lang/invoke/VarHandle" ∧ (parseMethodDescriptor y.desc).map (fun d => d.parameters.length) = some n) (hR : rm.frames + 1 ≤ R.frames ∧ 8 + (maxL + 11) + rm.locals ≤ R.locals) :
    vx_CVW R s args own C index y bytes maxL ret hh ws rm mc ms n := by
  obtain ⟨hC, hd⟩ := hd
  subst hC
  have ok : ∀ w ∈ wsV own index y.cls y ws, w.before args s = true := fun w h => ht w (hT w h).1
  have hG : GoodIn Ts ws := fun w h => hT w (by unfold wsV; exact List.mem_append_right _ h)
  have hc : Cond.codeWith y bytes maxL ret hh ∈ ws := by rw [hw]; exact List.mem_cons_self
  refine ⟨⟨hrc, hrs, hR.1, hR.2, pay_in ht hG, hc⟩, ht _ (hG _ hc).1, ok _ (by simp [wsV]), ⟨hd.1, hd.2.1⟩, fun sig h => ?_, ok _ (by simp [wsV]), ok _ (by simp [wsV]), ok _ (by simp [wsV])⟩
  have h2 := hd.2.2
  rw [h] at h2
  exact (Option.some.inj h2).symm
theorem vx_runVW {y : MethodName} {bytes cc : ByteArray} {maxL nL mc ms n index : Nat} {ret : Option FieldType} {hh : List (Nat × Nat × Nat × Nat)} {ws : List Cond} {rm : Room} {Pc : Array Value → State → Prop} {Qc : Array Value → State → Outcome → State → Prop} {free : Addr → Prop} {Ts : List Cond} {own C : String} {b : Addr} {As rest : List Value} {g : JFrame}
    (S : CallFix p m c cc nL s args Ts own) (hM : Met l y ws rm Pc Qc mc ms free) (cw : vx_CVW R s args own C index y bytes maxL ret hh ws rm mc ms n) (hp : PreV s H C b Pc As)
    (hg : g.method = m) (hn : As.length = n) (hsize : g.locals.size = nL) (hstack : g.stack = As.reverse ++ .ref b :: rest) (hW : 2 * g.monitorRoom + (rest.map fun v => v.category).sum ≤ 8) (hdg : decode cc g.pc = .ok (.invokevirtual index, 3)) (hf : cells + mc ≤ R.cells ∧ slots + ms ≤ R.slots) :
    va_Run p l e R s m args below meth c H locs cells slots mc ms g rest (Qc (Value.ref b :: As).toArray) free := by
  obtain ⟨⟨hrc, hrs, hfr, hlo, hws, hcw⟩, hcode, hini, hy, hlen, hl, hin, hse⟩ := cw
  have hK : Back l R p e below s args y 3 8 (PreOf R mc ms Pc) (PostOf Qc mc ms free) := va_backW (hh := hh) (bytes := bytes) (maxL := maxL) (ret := ret) hM hp.1 hrc hrs hfr hlo hws hcw (fun a' U hW => word_at hW (Or.inl (by first | rfl | simp [Cond.onTables, Cond.keeps, Cond.steady])) hini)
  obtain ⟨hx, hb, hml, ho, -⟩ := S
  obtain ⟨-, ⟨cellB, hcB, hoB, hclB⟩, hPc⟩ := hp
  intro T hT X
  obtain ⟨v, vm₁, ⟨U', l2, c2, s2⟩, hW₁, X', ⟨g', mk, t, L, e1, e2, hq, h1, hL, h2, h3⟩, st⟩ := vx_callVW X hx (C := C) (hh := hh) (bytes := bytes) (maxL := maxL) (ret := ret) ho hl hin hse hcode hy hK (by rw [hT]; exact hcB) hoB hclB hg (hsize.trans hml.symm) (argsL := As) (rest := rest) (fun sig h => hn.trans (hlen sig h)) hstack hW (by rw [hb]; exact hdg)
    (fun vm₁ hW₁ => ⟨hf.1, hf.2, hPc (T.setVm vm₁) hT hW₁⟩)
  dsimp only [Pt.U, Pt.locs, Pt.cells, Pt.slots] at X' e1 e2 h1 h2 h3 st
  subst h1; subst h2; subst h3
  exact ⟨v, (T.setVm vm₁).calling g' mk (Value.ref b :: As).toArray, t, U', L, hT, X', hL, e1, e2, hq, st⟩
section
variable {y : MethodName} {bytes cc : ByteArray} {maxL nL mc ms n index : Nat} {ret : Option FieldType} {ws : List Cond} {rm : Room} {Pc : Array Value → State → Prop} {Qc : Array Value → State → Outcome → State → Prop} {XC : String → State → State → Prop} {free : Addr → Prop} {Ts : List Cond} {own C : String} {b : Addr} {As rest : List Value} {g : JFrame}
theorem vx_runVX {hh : List (Nat × Nat × Nat × Nat)} (S : CallFix p m c cc nL s args Ts own) (hM : vx_Met l y ws rm Pc Qc XC mc ms free) (cw : vx_CVW R s args own C index y bytes maxL ret hh ws rm mc ms n) (hp : PreV s H C b Pc As)
    (hg : g.method = m) (hn : As.length = n) (hsize : g.locals.size = nL) (hstack : g.stack = As.reverse ++ .ref b :: rest) (hW : 2 * g.monitorRoom + (rest.map fun v => v.category).sum ≤ 8) (hdg : decode cc g.pc = .ok (.invokevirtual index, 3)) (hf : cells + mc ≤ R.cells ∧ slots + ms ≤ R.slots) :
    vx_Run p l e R s m args below meth c H locs cells slots mc ms g rest (Qc (Value.ref b :: As).toArray) XC free := by
  obtain ⟨⟨hrc, hrs, hfr, hlo, hws, hcw⟩, hcode, hini, hy, hlen, hl, hin, hse⟩ := cw
  have hK : vx_Back l R p e below s args y 3 8 (PreOf R mc ms Pc) (PostOf Qc mc ms free) (vx_Post XC mc ms free) := vx_backW (hh := hh) (bytes := bytes) (maxL := maxL) (ret := ret) hM hp.1 hrc hrs hfr hlo hws hcw (fun a' U hW => word_at hW (Or.inl (by first | rfl | simp [Cond.onTables, Cond.keeps, Cond.steady])) hini)
  obtain ⟨hx, hb, hml, ho, -⟩ := S
  obtain ⟨-, ⟨cellB, hcB, hoB, hclB⟩, hPc⟩ := hp
  intro T hT X
  rcases vx_callVX X hx (C := C) (hh := hh) (bytes := bytes) (maxL := maxL) (ret := ret) ho hl hin hse hcode hy hK (by rw [hT]; exact hcB) hoB hclB hg (hsize.trans hml.symm) (argsL := As) (rest := rest) (fun sig h => hn.trans (hlen sig h)) hstack hW (by rw [hb]; exact hdg)
    (fun vm₁ hW₁ => ⟨hf.1, hf.2, hPc (T.setVm vm₁) hT hW₁⟩) with ⟨v, vm₁, ⟨U', l2, c2, s2⟩, hW₁, X', ⟨g', mk, t, L, e1, e2, hq, h1, hL, h2, h3⟩, st⟩ | ⟨q, vm₁, ⟨U', l2, c2, s2⟩, hW₁, X', ⟨g', mk, t, L, E, ce, e1, e2, hq, hce, hcv, hcl, h1, hL, h2, h3⟩, st⟩
  · dsimp only [Pt.U, Pt.locs, Pt.cells, Pt.slots] at X' e1 e2 h1 h2 h3 st
    subst h1; subst h2; subst h3
    exact Or.inl ⟨v, (T.setVm vm₁).calling g' mk (Value.ref b :: As).toArray, t, U', L, hT, X', hL, e1, e2, hq, st⟩
  · dsimp only [Pt.U, Pt.locs, Pt.cells, Pt.slots] at X' e1 e2 h1 h2 h3 st hcl
    subst h1; subst h2; subst h3
    exact Or.inr ⟨q, (T.setVm vm₁).calling g' mk (Value.ref b :: As).toArray, t, U', L, E, ce, hT, X', hL, e1, e2, hq, hce, hcv, vx_cls hW₁ hcl, st⟩
theorem vx_runSX {hh : List (Nat × Nat × Nat × Nat)} (S : CallFix p m c cc nL s args Ts own) (hM : vx_Met l y ws rm Pc Qc XC mc ms free) (cw : vx_CSW R s args own index y bytes maxL ret hh ws rm mc ms n) (hp : PreS s H Pc As)
    (hg : g.method = m) (hn : As.length = n) (hsize : g.locals.size = nL) (hstack : g.stack = As.reverse ++ rest) (hW : 2 * g.monitorRoom + (rest.map fun v => v.category).sum ≤ 8) (hdg : decode cc g.pc = .ok (.invokestatic index, 3)) (hf : cells + mc ≤ R.cells ∧ slots + ms ≤ R.slots) :
    vx_Run p l e R s m args below meth c H locs cells slots mc ms g rest (Qc As.toArray) XC free := by
  obtain ⟨⟨hrc, hrs, hfr, hlo, hws, hcw⟩, hcode, hini, hy, hlen, hl, hstt⟩ := cw
  have hK : vx_Back l R p e below s args y 3 8 (PreOf R mc ms Pc) (PostOf Qc mc ms free) (vx_Post XC mc ms free) := vx_backW (hh := hh) (bytes := bytes) (maxL := maxL) (ret := ret) hM hp.1 hrc hrs hfr hlo hws hcw (fun a' U hW => word_at hW (Or.inl (by first | rfl | simp [Cond.onTables, Cond.keeps, Cond.steady])) hini)
  obtain ⟨hx, hb, hml, ho, -⟩ := S
  intro T hT X
  rcases vx_callSX X hx (hh := hh) (bytes := bytes) (maxL := maxL) (ret := ret) ho hl hstt hini hcode hy hK hg (hsize.trans hml.symm) (argsL := As) (rest := rest) (fun sig h => hn.trans (hlen sig h)) hstack hW (by rw [hb]; exact hdg)
    (fun vm₁ hW₁ => ⟨hf.1, hf.2, hp.2 (T.setVm vm₁) hT hW₁⟩) with ⟨v, vm₁, ⟨U', l2, c2, s2⟩, hW₁, X', ⟨g', mk, t, L, e1, e2, hq, h1, hL, h2, h3⟩, st⟩ | ⟨q, vm₁, ⟨U', l2, c2, s2⟩, hW₁, X', ⟨g', mk, t, L, E, ce, e1, e2, hq, hce, hcv, hcl, h1, hL, h2, h3⟩, st⟩
  · dsimp only [Pt.U, Pt.locs, Pt.cells, Pt.slots] at X' e1 e2 h1 h2 h3 st
    subst h1; subst h2; subst h3
    exact Or.inl ⟨v, (T.setVm vm₁).calling g' mk As.toArray, t, U', L, hT, X', hL, e1, e2, hq, st⟩
  · dsimp only [Pt.U, Pt.locs, Pt.cells, Pt.slots] at X' e1 e2 h1 h2 h3 st hcl
    subst h1; subst h2; subst h3
    exact Or.inr ⟨q, (T.setVm vm₁).calling g' mk As.toArray, t, U', L, E, ce, hT, X', hL, e1, e2, hq, hce, hcv, vx_cls hW₁ hcl, st⟩
end
end VXH
theorem vx_ofWH {l : Launch} {y : MethodName} {ws ws' : List Cond} {rm : Room} {Pc : Array Value → State → Prop} {Qc : Array Value → State → Outcome → State → Prop} {XC : String → State → State → Prop} {mc ms : Nat} {free : Addr → Prop} {cc : ByteArray} {maxL : Nat} {ret : Option FieldType} {hh : List (Nat × Nat × Nat × Nat)}
    (hy : plainName y.cls = true) (hw : ws = Cond.codeWith y cc maxL ret hh :: ws')
    (body : ∀ p e s m args below meth c s₁, BodyLoose p l y (headSpec ws rm) cc maxL ret e s m args below meth c s₁ → c.maxLocals = maxL → Pc args s →
      W p l e (headSpec ws rm).room s m args below meth c s.heap [] 0 0 (vx_MQ below Qc XC args s mc ms free) (entryFrame m args maxL)) : vx_Met l y ws rm Pc Qc XC mc ms free := by
  refine MetFree.of_bodyS (code := cc) (maxLocals := maxL) (ret := ret) hy ?_ ?_
  · intro args s m h hn
    obtain ⟨m9, meth, c, hn9, h1, h2, h3, h4, -, h5, h6, -⟩ := Cond.codeWith_spec (atoms_spec (ws := ws) h _ (by rw [hw]; exact List.mem_cons_self))
    cases hn.symm.trans hn9
    exact ⟨meth, c, h1, h2, h3, h4, h5, h6⟩
  · intro p e s m args below meth c s₁ B hml hP _
    have hh0 : s₁.heap = s.heap := by rw [B.state]; rfl
    obtain ⟨t, a1, o, b1, b2, b3⟩ := body p e s m args below meth c s₁ B hml hP s₁ hh0 (Stand.of_body B)
    exact ⟨t, o, a1, b1, b2, b3⟩
/-! ===== END ===== -/

def RX0 : String := "BreakerTrials$DelayText"
def TX0 : u_T := fun k => match k with
  | 0 => ("BreakerTrials$DelayText", "codes", "[I", true)
  | _ => ("BreakerTrials$DelayText", "length", "I", false)
def tyX0 : Nat → FieldType := fun k => match k with
  | 0 => .array .int
  | _ => .int
abbrev wsX00 : List Cond := u_ws RX0 TX0 2
theorem nmX0 : ∀ a, a < 2 → ∀ b, b < 2 → a ≠ b → (TX0 a).2.1 ≠ (TX0 b).2.1 := by decide +kernel
theorem tyX0_ok : ∀ k, k < 2 → parseFieldDescriptor (TX0 k).2.2.1 = some (tyX0 k) := by decide +kernel
abbrev cX0_init : ByteArray := prog_2_method_1_code
def yX0_init : MethodName := ⟨RX0, "<init>", "()V"⟩
abbrev cX0_isFull : ByteArray := prog_2_method_2_code
def yX0_isFull : MethodName := ⟨RX0, "isFull", "()Z"⟩
abbrev cX0_add : ByteArray := prog_2_method_3_code
def yX0_add : MethodName := ⟨RX0, "add", "(I)I"⟩
abbrev cX0_empty : ByteArray := prog_2_method_4_code
def yX0_empty : MethodName := ⟨RX0, "empty", "()I"⟩
abbrev cX0_firstWrong : ByteArray := prog_2_method_5_code
def yX0_firstWrong : MethodName := ⟨RX0, "firstWrong", "()I"⟩
abbrev cX0_isComplete : ByteArray := prog_2_method_6_code
def yX0_isComplete : MethodName := ⟨RX0, "isComplete", "()Z"⟩
abbrev cX0_readInto : ByteArray := prog_2_method_7_code
def yX0_readInto : MethodName := ⟨RX0, "readInto", "([I)I"⟩
abbrev cX0_isDigit : ByteArray := prog_2_method_8_code
def yX0_isDigit : MethodName := ⟨RX0, "isDigit", "(I)Z"⟩
def RX1 : String := "BreakerTrials$State"
def TX1 : u_T := fun k => match k with
  | 0 => ("BreakerTrials$State", "stores", "[LBreakerTrials$Store;", true)
  | 1 => ("BreakerTrials$State", "settings", "[I", true)
  | 2 => ("BreakerTrials$State", "calls", "[[I", true)
  | 3 => ("BreakerTrials$State", "callCount", "I", false)
  | 4 => ("BreakerTrials$State", "ticksGone", "I", false)
  | 5 => ("BreakerTrials$State", "goodOutcomes", "I", false)
  | _ => ("BreakerTrials$State", "trials", "I", false)
def tyX1 : Nat → FieldType := fun k => match k with
  | 0 => .array (.object "BreakerTrials$Store")
  | 1 => .array .int
  | 2 => .array (.array .int)
  | 3 => .int
  | 4 => .int
  | 5 => .int
  | _ => .int
abbrev wsX10 : List Cond := u_ws RX1 TX1 7
theorem nmX1 : ∀ a, a < 7 → ∀ b, b < 7 → a ≠ b → (TX1 a).2.1 ≠ (TX1 b).2.1 := by decide +kernel
theorem tyX1_ok : ∀ k, k < 7 → parseFieldDescriptor (TX1 k).2.2.1 = some (tyX1 k) := by decide +kernel
abbrev cX1_init : ByteArray := prog_3_method_1_code
def yX1_init : MethodName := ⟨RX1, "<init>", "()V"⟩
abbrev cX1_copyFrom : ByteArray := prog_3_method_2_code
def yX1_copyFrom : MethodName := ⟨RX1, "copyFrom", "(LBreakerTrials$State;)V"⟩
abbrev cX1_isFull : ByteArray := prog_3_method_3_code
def yX1_isFull : MethodName := ⟨RX1, "isFull", "()Z"⟩
abbrev cX1_blocks : ByteArray := prog_3_method_4_code
def yX1_blocks : MethodName := ⟨RX1, "blocks", "(I)Z"⟩
abbrev cX1_answerFor : ByteArray := prog_3_method_5_code
def yX1_answerFor : MethodName := ⟨RX1, "answerFor", "(I)I"⟩
abbrev cX1_trialOf : ByteArray := prog_3_method_6_code
def yX1_trialOf : MethodName := ⟨RX1, "trialOf", "(I)I"⟩
abbrev cX1_ring : ByteArray := prog_3_method_7_code
def yX1_ring : MethodName := ⟨RX1, "ring", "(I)I"⟩
abbrev cX1_sendOff : ByteArray := prog_3_method_8_code
def yX1_sendOff : MethodName := ⟨RX1, "sendOff", "(III)V"⟩
abbrev cX1_ringOften : ByteArray := prog_3_method_9_code
def yX1_ringOften : MethodName := ⟨RX1, "ringOften", "(III)I"⟩
abbrev cX1_letPass : ByteArray := prog_3_method_10_code
def yX1_letPass : MethodName := ⟨RX1, "letPass", "(I)I"⟩
abbrev cX1_tick : ByteArray := prog_3_method_11_code
def yX1_tick : MethodName := ⟨RX1, "tick", "()I"⟩
abbrev cX1_moveCall : ByteArray := prog_3_method_12_code
def yX1_moveCall : MethodName := ⟨RX1, "moveCall", "(II)V"⟩
abbrev cX1_settle : ByteArray := prog_3_method_13_code
def yX1_settle : MethodName := ⟨RX1, "settle", "(LBreakerTrials$Store;III)V"⟩
abbrev cX1_isBad : ByteArray := prog_3_method_14_code
def yX1_isBad : MethodName := ⟨RX1, "isBad", "(I)Z"⟩
abbrev cX1_settleTrial : ByteArray := prog_3_method_15_code
def yX1_settleTrial : MethodName := ⟨RX1, "settleTrial", "(LBreakerTrials$Store;Z)V"⟩
abbrev cX1_nextCut : ByteArray := prog_3_method_16_code
def yX1_nextCut : MethodName := ⟨RX1, "nextCut", "(LBreakerTrials$Store;)I"⟩
abbrev cX1_settleInWindow : ByteArray := prog_3_method_17_code
def yX1_settleInWindow : MethodName := ⟨RX1, "settleInWindow", "(LBreakerTrials$Store;Z)V"⟩
abbrev cX1_closeByHand : ByteArray := prog_3_method_18_code
def yX1_closeByHand : MethodName := ⟨RX1, "closeByHand", "(I)I"⟩
abbrev cX1_ticksTillFree : ByteArray := prog_3_method_19_code
def yX1_ticksTillFree : MethodName := ⟨RX1, "ticksTillFree", "(I)I"⟩
abbrev cX1_healthiestStore : ByteArray := prog_3_method_20_code
def yX1_healthiestStore : MethodName := ⟨RX1, "healthiestStore", "()I"⟩
abbrev cX1_isHealthier : ByteArray := prog_3_method_21_code
def yX1_isHealthier : MethodName := ⟨RX1, "isHealthier", "(LBreakerTrials$Store;LBreakerTrials$Store;)Z"⟩
abbrev cX1_closedBreakers : ByteArray := prog_3_method_22_code
def yX1_closedBreakers : MethodName := ⟨RX1, "closedBreakers", "()I"⟩
abbrev cX1_numberOf : ByteArray := prog_3_method_23_code
def yX1_numberOf : MethodName := ⟨RX1, "numberOf", "(II)I"⟩
abbrev cX1_sumOf : ByteArray := prog_3_method_24_code
def yX1_sumOf : MethodName := ⟨RX1, "sumOf", "(I)I"⟩
abbrev cX1_goodShare : ByteArray := prog_3_method_25_code
def yX1_goodShare : MethodName := ⟨RX1, "goodShare", "()D"⟩
def RX2 : String := "BreakerTrials$Store"
def TX2 : u_T := fun k => match k with
  | 0 => ("BreakerTrials$Store", "row", "[I", true)
  | 1 => ("BreakerTrials$Store", "rowLength", "I", false)
  | 2 => ("BreakerTrials$Store", "next", "I", false)
  | 3 => ("BreakerTrials$Store", "breaker", "I", false)
  | 4 => ("BreakerTrials$Store", "ticksLeft", "I", false)
  | 5 => ("BreakerTrials$Store", "lastCut", "I", false)
  | 6 => ("BreakerTrials$Store", "closings", "I", false)
  | 7 => ("BreakerTrials$Store", "outcomes", "I", false)
  | 8 => ("BreakerTrials$Store", "knownOutcomes", "I", false)
  | 9 => ("BreakerTrials$Store", "letThrough", "I", false)
  | 10 => ("BreakerTrials$Store", "refused", "I", false)
  | 11 => ("BreakerTrials$Store", "badOutcomes", "I", false)
  | 12 => ("BreakerTrials$Store", "callsOnWay", "I", false)
  | _ => ("BreakerTrials$Store", "cuts", "I", false)
def tyX2 : Nat → FieldType := fun k => match k with
  | 0 => .array .int
  | 1 => .int
  | 2 => .int
  | 3 => .int
  | 4 => .int
  | 5 => .int
  | 6 => .int
  | 7 => .int
  | 8 => .int
  | 9 => .int
  | 10 => .int
  | 11 => .int
  | 12 => .int
  | _ => .int
abbrev wsX20 : List Cond := u_ws RX2 TX2 14
theorem nmX2 : ∀ a, a < 14 → ∀ b, b < 14 → a ≠ b → (TX2 a).2.1 ≠ (TX2 b).2.1 := by decide +kernel
theorem tyX2_ok : ∀ k, k < 14 → parseFieldDescriptor (TX2 k).2.2.1 = some (tyX2 k) := by decide +kernel
abbrev cX2_init : ByteArray := prog_4_method_1_code
def yX2_init : MethodName := ⟨RX2, "<init>", "()V"⟩
abbrev cX2_copyFrom : ByteArray := prog_4_method_2_code
def yX2_copyFrom : MethodName := ⟨RX2, "copyFrom", "(LBreakerTrials$Store;)V"⟩
abbrev cX2_takeRow : ByteArray := prog_4_method_3_code
def yX2_takeRow : MethodName := ⟨RX2, "takeRow", "(LBreakerTrials$DelayText;)I"⟩
abbrev cX2_takeDelay : ByteArray := prog_4_method_4_code
def yX2_takeDelay : MethodName := ⟨RX2, "takeDelay", "()I"⟩
abbrev cX2_nextPlace : ByteArray := prog_4_method_5_code
def yX2_nextPlace : MethodName := ⟨RX2, "nextPlace", "()I"⟩
abbrev cX2_windowSize : ByteArray := prog_4_method_6_code
def yX2_windowSize : MethodName := ⟨RX2, "windowSize", "(I)I"⟩
abbrev cX2_badInWindow : ByteArray := prog_4_method_7_code
def yX2_badInWindow : MethodName := ⟨RX2, "badInWindow", "(I)I"⟩
abbrev cX2_noteOutcome : ByteArray := prog_4_method_8_code
def yX2_noteOutcome : MethodName := ⟨RX2, "noteOutcome", "(Z)V"⟩
abbrev cX2_shut : ByteArray := prog_4_method_9_code
def yX2_shut : MethodName := ⟨RX2, "shut", "()V"⟩
abbrev cX2_cutOff : ByteArray := prog_4_method_10_code
def yX2_cutOff : MethodName := ⟨RX2, "cutOff", "(I)V"⟩
abbrev cX2_waitATick : ByteArray := prog_4_method_11_code
def yX2_waitATick : MethodName := ⟨RX2, "waitATick", "()V"⟩
def RX3 : String := "BreakerTrials"
def TX3 : u_T := fun k => match k with
  | 0 => ("BreakerTrials", "now", "LBreakerTrials$State;", true)
  | 1 => ("BreakerTrials", "forecast", "LBreakerTrials$State;", true)
  | 2 => ("BreakerTrials", "saved", "[LBreakerTrials$State;", true)
  | 3 => ("BreakerTrials", "oldestSaved", "I", false)
  | 4 => ("BreakerTrials", "savedCount", "I", false)
  | _ => ("BreakerTrials", "buffer", "LBreakerTrials$DelayText;", true)
def tyX3 : Nat → FieldType := fun k => match k with
  | 0 => .object "BreakerTrials$State"
  | 1 => .object "BreakerTrials$State"
  | 2 => .array (.object "BreakerTrials$State")
  | 3 => .int
  | 4 => .int
  | _ => .object "BreakerTrials$DelayText"
abbrev wsX30 : List Cond := u_ws RX3 TX3 6
theorem nmX3 : ∀ a, a < 6 → ∀ b, b < 6 → a ≠ b → (TX3 a).2.1 ≠ (TX3 b).2.1 := by decide +kernel
theorem tyX3_ok : ∀ k, k < 6 → parseFieldDescriptor (TX3 k).2.2.1 = some (tyX3 k) := by decide +kernel
abbrev cX3_init : ByteArray := prog_1_method_1_code
def yX3_init : MethodName := ⟨RX3, "<init>", "()V"⟩
abbrev cX3_call : ByteArray := prog_1_method_2_code
def yX3_call : MethodName := ⟨RX3, "call", "(I)I"⟩
abbrev cX3_callOften : ByteArray := prog_1_method_3_code
def yX3_callOften : MethodName := ⟨RX3, "callOften", "(III)I"⟩
abbrev cX3_callHealthiest : ByteArray := prog_1_method_4_code
def yX3_callHealthiest : MethodName := ⟨RX3, "callHealthiest", "()I"⟩
abbrev cX3_close : ByteArray := prog_1_method_5_code
def yX3_close : MethodName := ⟨RX3, "close", "(I)I"⟩
abbrev cX3_set : ByteArray := prog_1_method_6_code
def yX3_set : MethodName := ⟨RX3, "set", "(II)I"⟩
abbrev cX3_pass : ByteArray := prog_1_method_7_code
def yX3_pass : MethodName := ⟨RX3, "pass", "(I)I"⟩
abbrev cX3_append : ByteArray := prog_1_method_8_code
def yX3_append : MethodName := ⟨RX3, "append", "(I)I"⟩
abbrev cX3_clearBuffer : ByteArray := prog_1_method_9_code
def yX3_clearBuffer : MethodName := ⟨RX3, "clearBuffer", "()I"⟩
abbrev cX3_firstError : ByteArray := prog_1_method_10_code
def yX3_firstError : MethodName := ⟨RX3, "firstError", "()I"⟩
abbrev cX3_delays : ByteArray := prog_1_method_11_code
def yX3_delays : MethodName := ⟨RX3, "delays", "(I)I"⟩
abbrev cX3_undo : ByteArray := prog_1_method_12_code
def yX3_undo : MethodName := ⟨RX3, "undo", "()I"⟩
abbrev cX3_store : ByteArray := prog_1_method_13_code
def yX3_store : MethodName := ⟨RX3, "store", "(II)I"⟩
abbrev cX3_delay : ByteArray := prog_1_method_14_code
def yX3_delay : MethodName := ⟨RX3, "delay", "(II)I"⟩
abbrev cX3_onWay : ByteArray := prog_1_method_15_code
def yX3_onWay : MethodName := ⟨RX3, "onWay", "(II)I"⟩
abbrev cX3_count : ByteArray := prog_1_method_16_code
def yX3_count : MethodName := ⟨RX3, "count", "(I)I"⟩
abbrev cX3_setting : ByteArray := prog_1_method_17_code
def yX3_setting : MethodName := ⟨RX3, "setting", "(I)I"⟩
abbrev cX3_ifCalled : ByteArray := prog_1_method_18_code
def yX3_ifCalled : MethodName := ⟨RX3, "ifCalled", "(IIII)I"⟩
abbrev cX3_freeIn : ByteArray := prog_1_method_19_code
def yX3_freeIn : MethodName := ⟨RX3, "freeIn", "(I)I"⟩
abbrev cX3_healthiest : ByteArray := prog_1_method_20_code
def yX3_healthiest : MethodName := ⟨RX3, "healthiest", "()I"⟩
abbrev cX3_health : ByteArray := prog_1_method_21_code
def yX3_health : MethodName := ⟨RX3, "health", "()D"⟩
abbrev cX3_digest : ByteArray := prog_1_method_22_code
def yX3_digest : MethodName := ⟨RX3, "digest", "()J"⟩
abbrev cX3_mixStore : ByteArray := prog_1_method_23_code
def yX3_mixStore : MethodName := ⟨RX3, "mixStore", "(JI)J"⟩
abbrev cX3_mix : ByteArray := prog_1_method_24_code
def yX3_mix : MethodName := ⟨RX3, "mix", "(JJ)J"⟩
abbrev cX3_bitsOfShare : ByteArray := prog_1_method_25_code
def yX3_bitsOfShare : MethodName := ⟨RX3, "bitsOfShare", "(D)J"⟩
abbrev cX3_counted : ByteArray := prog_1_method_26_code
def yX3_counted : MethodName := ⟨RX3, "counted", "(I)I"⟩
abbrev cX3_foresee : ByteArray := prog_1_method_27_code
def yX3_foresee : MethodName := ⟨RX3, "foresee", "(III)V"⟩
abbrev cX3_foreseen : ByteArray := prog_1_method_28_code
def yX3_foreseen : MethodName := ⟨RX3, "foreseen", "(II)I"⟩
abbrev cX3_save : ByteArray := prog_1_method_29_code
def yX3_save : MethodName := ⟨RX3, "save", "()V"⟩
abbrev cX3_requireStore : ByteArray := prog_1_method_30_code
def yX3_requireStore : MethodName := ⟨RX3, "requireStore", "(I)V"⟩
abbrev cX3_requireSetting : ByteArray := prog_1_method_31_code
def yX3_requireSetting : MethodName := ⟨RX3, "requireSetting", "(I)V"⟩
abbrev cX3_requireRange : ByteArray := prog_1_method_32_code
def yX3_requireRange : MethodName := ⟨RX3, "requireRange", "(III)V"⟩
abbrev cX3_requireNotNegative : ByteArray := prog_1_method_33_code
def yX3_requireNotNegative : MethodName := ⟨RX3, "requireNotNegative", "(I)V"⟩
def RX4 : String := "BreakerTrialsModel"
def TX4 : u_T := fun k => match k with
  | 0 => ("BreakerTrialsModel", "thrown", "I", false)
  | 1 => ("BreakerTrialsModel", "s", "[I", true)
  | 2 => ("BreakerTrialsModel", "aside", "[I", true)
  | 3 => ("BreakerTrialsModel", "saved", "[I", true)
  | 4 => ("BreakerTrialsModel", "savedMany", "I", false)
  | 5 => ("BreakerTrialsModel", "buffer", "[I", true)
  | 6 => ("BreakerTrialsModel", "length", "I", false)
  | 7 => ("BreakerTrialsModel", "at", "I", false)
  | 8 => ("BreakerTrialsModel", "isWell", "Z", false)
  | 9 => ("BreakerTrialsModel", "read", "[I", true)
  | 10 => ("BreakerTrialsModel", "readMany", "I", false)
  | _ => ("BreakerTrialsModel", "hash", "J", false)
def tyX4 : Nat → FieldType := fun k => match k with
  | 0 => .int
  | 1 => .array .int
  | 2 => .array .int
  | 3 => .array .int
  | 4 => .int
  | 5 => .array .int
  | 6 => .int
  | 7 => .int
  | 8 => .boolean
  | 9 => .array .int
  | 10 => .int
  | _ => .long
abbrev wsX40 : List Cond := u_ws RX4 TX4 12
theorem nmX4 : ∀ a, a < 12 → ∀ b, b < 12 → a ≠ b → (TX4 a).2.1 ≠ (TX4 b).2.1 := by decide +kernel
theorem tyX4_ok : ∀ k, k < 12 → parseFieldDescriptor (TX4 k).2.2.1 = some (tyX4 k) := by decide +kernel
abbrev cX4_init : ByteArray := prog_6_method_1_code
def yX4_init : MethodName := ⟨RX4, "<init>", "()V"⟩
abbrev cX4_thrown : ByteArray := prog_6_method_2_code
def yX4_thrown : MethodName := ⟨RX4, "thrown", "()I"⟩
abbrev cX4_in : ByteArray := prog_6_method_3_code
def yX4_in : MethodName := ⟨RX4, "in", "(III)Z"⟩
abbrev cX4_fails : ByteArray := prog_6_method_4_code
def yX4_fails : MethodName := ⟨RX4, "fails", "(I)I"⟩
abbrev cX4_isStore : ByteArray := prog_6_method_5_code
def yX4_isStore : MethodName := ⟨RX4, "isStore", "(I)Z"⟩
abbrev cX4_of : ByteArray := prog_6_method_6_code
def yX4_of : MethodName := ⟨RX4, "of", "(II)I"⟩
abbrev cX4_lay : ByteArray := prog_6_method_7_code
def yX4_lay : MethodName := ⟨RX4, "lay", "(III)V"⟩
abbrev cX4_adds : ByteArray := prog_6_method_8_code
def yX4_adds : MethodName := ⟨RX4, "adds", "(II)V"⟩
abbrev cX4_callOf : ByteArray := prog_6_method_9_code
def yX4_callOf : MethodName := ⟨RX4, "callOf", "(II)I"⟩
abbrev cX4_saves : ByteArray := prog_6_method_10_code
def yX4_saves : MethodName := ⟨RX4, "saves", "()V"⟩
abbrev cX4_putAside : ByteArray := prog_6_method_11_code
def yX4_putAside : MethodName := ⟨RX4, "putAside", "()V"⟩
abbrev cX4_takeBack : ByteArray := prog_6_method_12_code
def yX4_takeBack : MethodName := ⟨RX4, "takeBack", "()V"⟩
abbrev cX4_inWindow : ByteArray := prog_6_method_13_code
def yX4_inWindow : MethodName := ⟨RX4, "inWindow", "(I)I"⟩
abbrev cX4_badInWindow : ByteArray := prog_6_method_14_code
def yX4_badInWindow : MethodName := ⟨RX4, "badInWindow", "(I)I"⟩
abbrev cX4_cutsOff : ByteArray := prog_6_method_15_code
def yX4_cutsOff : MethodName := ⟨RX4, "cutsOff", "(II)V"⟩
abbrev cX4_closes : ByteArray := prog_6_method_16_code
def yX4_closes : MethodName := ⟨RX4, "closes", "(I)V"⟩
abbrev cX4_comesOut : ByteArray := prog_6_method_17_code
def yX4_comesOut : MethodName := ⟨RX4, "comesOut", "(IIZI)V"⟩
abbrev cX4_hasTrial : ByteArray := prog_6_method_18_code
def yX4_hasTrial : MethodName := ⟨RX4, "hasTrial", "(I)Z"⟩
abbrev cX4_isRefused : ByteArray := prog_6_method_19_code
def yX4_isRefused : MethodName := ⟨RX4, "isRefused", "(I)Z"⟩
abbrev cX4_calls : ByteArray := prog_6_method_20_code
def yX4_calls : MethodName := ⟨RX4, "calls", "(I)I"⟩
abbrev cX4_drops : ByteArray := prog_6_method_21_code
def yX4_drops : MethodName := ⟨RX4, "drops", "(I)V"⟩
abbrev cX4_tick : ByteArray := prog_6_method_22_code
def yX4_tick : MethodName := ⟨RX4, "tick", "()I"⟩
abbrev cX4_ticks : ByteArray := prog_6_method_23_code
def yX4_ticks : MethodName := ⟨RX4, "ticks", "(I)I"⟩
abbrev cX4_callsOften : ByteArray := prog_6_method_24_code
def yX4_callsOften : MethodName := ⟨RX4, "callsOften", "(III)I"⟩
abbrev cX4_call : ByteArray := prog_6_method_25_code
def yX4_call : MethodName := ⟨RX4, "call", "(I)I"⟩
abbrev cX4_callOften : ByteArray := prog_6_method_26_code
def yX4_callOften : MethodName := ⟨RX4, "callOften", "(III)I"⟩
abbrev cX4_onWayOf : ByteArray := prog_6_method_27_code
def yX4_onWayOf : MethodName := ⟨RX4, "onWayOf", "(I)I"⟩
abbrev cX4_bestStore : ByteArray := prog_6_method_28_code
def yX4_bestStore : MethodName := ⟨RX4, "bestStore", "()I"⟩
abbrev cX4_callHealthiest : ByteArray := prog_6_method_29_code
def yX4_callHealthiest : MethodName := ⟨RX4, "callHealthiest", "()I"⟩
abbrev cX4_close : ByteArray := prog_6_method_30_code
def yX4_close : MethodName := ⟨RX4, "close", "(I)I"⟩
abbrev cX4_isSetting : ByteArray := prog_6_method_31_code
def yX4_isSetting : MethodName := ⟨RX4, "isSetting", "(II)Z"⟩
abbrev cX4_set : ByteArray := prog_6_method_32_code
def yX4_set : MethodName := ⟨RX4, "set", "(II)I"⟩
abbrev cX4_pass : ByteArray := prog_6_method_33_code
def yX4_pass : MethodName := ⟨RX4, "pass", "(I)I"⟩
abbrev cX4_append : ByteArray := prog_6_method_34_code
def yX4_append : MethodName := ⟨RX4, "append", "(I)I"⟩
abbrev cX4_clearBuffer : ByteArray := prog_6_method_35_code
def yX4_clearBuffer : MethodName := ⟨RX4, "clearBuffer", "()I"⟩
abbrev cX4_sign : ByteArray := prog_6_method_36_code
def yX4_sign : MethodName := ⟨RX4, "sign", "()I"⟩
abbrev cX4_readsNumber : ByteArray := prog_6_method_37_code
def yX4_readsNumber : MethodName := ⟨RX4, "readsNumber", "()V"⟩
abbrev cX4_readsAll : ByteArray := prog_6_method_38_code
def yX4_readsAll : MethodName := ⟨RX4, "readsAll", "()V"⟩
abbrev cX4_firstError : ByteArray := prog_6_method_39_code
def yX4_firstError : MethodName := ⟨RX4, "firstError", "()I"⟩
abbrev cX4_delays : ByteArray := prog_6_method_40_code
def yX4_delays : MethodName := ⟨RX4, "delays", "(I)I"⟩
abbrev cX4_undo : ByteArray := prog_6_method_41_code
def yX4_undo : MethodName := ⟨RX4, "undo", "()I"⟩
abbrev cX4_tellsStore : ByteArray := prog_6_method_42_code
def yX4_tellsStore : MethodName := ⟨RX4, "tellsStore", "(II)I"⟩
abbrev cX4_store : ByteArray := prog_6_method_43_code
def yX4_store : MethodName := ⟨RX4, "store", "(II)I"⟩
abbrev cX4_delay : ByteArray := prog_6_method_44_code
def yX4_delay : MethodName := ⟨RX4, "delay", "(II)I"⟩
abbrev cX4_onWay : ByteArray := prog_6_method_45_code
def yX4_onWay : MethodName := ⟨RX4, "onWay", "(II)I"⟩
abbrev cX4_overStores : ByteArray := prog_6_method_46_code
def yX4_overStores : MethodName := ⟨RX4, "overStores", "(I)I"⟩
abbrev cX4_counts : ByteArray := prog_6_method_47_code
def yX4_counts : MethodName := ⟨RX4, "counts", "(I)I"⟩
abbrev cX4_count : ByteArray := prog_6_method_48_code
def yX4_count : MethodName := ⟨RX4, "count", "(I)I"⟩
abbrev cX4_setting : ByteArray := prog_6_method_49_code
def yX4_setting : MethodName := ⟨RX4, "setting", "(I)I"⟩
abbrev cX4_would : ByteArray := prog_6_method_50_code
def yX4_would : MethodName := ⟨RX4, "would", "(IIII)I"⟩
abbrev cX4_ifCalled : ByteArray := prog_6_method_51_code
def yX4_ifCalled : MethodName := ⟨RX4, "ifCalled", "(IIII)I"⟩
abbrev cX4_untilFree : ByteArray := prog_6_method_52_code
def yX4_untilFree : MethodName := ⟨RX4, "untilFree", "(I)I"⟩
abbrev cX4_freeIn : ByteArray := prog_6_method_53_code
def yX4_freeIn : MethodName := ⟨RX4, "freeIn", "(I)I"⟩
abbrev cX4_healthiest : ByteArray := prog_6_method_54_code
def yX4_healthiest : MethodName := ⟨RX4, "healthiest", "()I"⟩
abbrev cX4_share : ByteArray := prog_6_method_55_code
def yX4_share : MethodName := ⟨RX4, "share", "()D"⟩
abbrev cX4_health : ByteArray := prog_6_method_56_code
def yX4_health : MethodName := ⟨RX4, "health", "()D"⟩
abbrev cX4_hashes : ByteArray := prog_6_method_57_code
def yX4_hashes : MethodName := ⟨RX4, "hashes", "(J)V"⟩
abbrev cX4_digest : ByteArray := prog_6_method_58_code
def yX4_digest : MethodName := ⟨RX4, "digest", "()J"⟩
def RJx145de : String := "java/io/Serializable"
def TJx145de : u_T := fun k => match k with
  | _ => ("", "", "", false)
def RJxb160c : String := "java/lang/Comparable"
def TJxb160c : u_T := fun k => match k with
  | _ => ("", "", "", false)
def RJxe99ae : String := "java/lang/Double"
def TJxe99ae : u_T := fun k => match k with
  | _ => ("", "", "", false)
abbrev cJxe99ae_isNaN_b9ae7 : ByteArray := prog_7_method_6_code
def yJxe99ae_isNaN_b9ae7 : MethodName := ⟨RJxe99ae, "isNaN", "(D)Z"⟩
abbrev cJxe99ae_doubleToLongBits_ccdee : ByteArray := prog_7_method_23_code
def yJxe99ae_doubleToLongBits_ccdee : MethodName := ⟨RJxe99ae, "doubleToLongBits", "(D)J"⟩
def RJ6 : String := "java/lang/Integer"
def TJ6 : u_T := fun k => match k with
  | _ => ("", "", "", false)
abbrev cJ6_bitCount_0f7a4 : ByteArray := prog_12_method_49_code
def yJ6_bitCount_0f7a4 : MethodName := ⟨RJ6, "bitCount", "(I)I"⟩
def RJ9 : String := "java/lang/Math"
def TJ9 : u_T := fun k => match k with
  | _ => ("", "", "", false)
abbrev cJ9_min_7cf53 : ByteArray := prog_13_method_69_code
def yJ9_min_7cf53 : MethodName := ⟨RJ9, "min", "(II)I"⟩
def RJxd2413 : String := "java/lang/Number"
def TJxd2413 : u_T := fun k => match k with
  | _ => ("", "", "", false)
def RJ0 : String := "java/lang/String"
def TJ0 : u_T := fun k => match k with
  | _ => ("", "", "", false)
def RJ10 : String := "java/lang/System"
def TJ10 : u_T := fun k => match k with
  | _ => ("", "", "", false)
def RJxfd54e : String := "java/lang/constant/Constable"
def TJxfd54e : u_T := fun k => match k with
  | _ => ("", "", "", false)
def RJx3cf43 : String := "java/lang/constant/ConstantDesc"
def TJx3cf43 : u_T := fun k => match k with
  | _ => ("", "", "", false)
def RJ7 : String := "java/util/Arrays"
def TJ7 : u_T := fun k => match k with
  | _ => ("", "", "", false)
abbrev cJ7_fill_53178 : ByteArray := prog_19_method_103_code
def yJ7_fill_53178 : MethodName := ⟨RJ7, "fill", "([II)V"⟩
def RL : String := "BreakerTrialsLaw"
abbrev cL_call : ByteArray := method_3_code
def yL_call : MethodName := ⟨RL, "call", "(LBreakerTrials;I[J)I"⟩
abbrev cL_callOften : ByteArray := method_4_code
def yL_callOften : MethodName := ⟨RL, "callOften", "(LBreakerTrials;III[J)I"⟩
abbrev cL_callHealthiest : ByteArray := method_5_code
def yL_callHealthiest : MethodName := ⟨RL, "callHealthiest", "(LBreakerTrials;[J)I"⟩
abbrev cL_close : ByteArray := method_6_code
def yL_close : MethodName := ⟨RL, "close", "(LBreakerTrials;I[J)I"⟩
abbrev cL_set : ByteArray := method_7_code
def yL_set : MethodName := ⟨RL, "set", "(LBreakerTrials;II[J)I"⟩
abbrev cL_pass : ByteArray := method_8_code
def yL_pass : MethodName := ⟨RL, "pass", "(LBreakerTrials;I[J)I"⟩
abbrev cL_append : ByteArray := method_9_code
def yL_append : MethodName := ⟨RL, "append", "(LBreakerTrials;I[J)I"⟩
abbrev cL_delays : ByteArray := method_10_code
def yL_delays : MethodName := ⟨RL, "delays", "(LBreakerTrials;I[J)I"⟩
abbrev cL_undo : ByteArray := method_11_code
def yL_undo : MethodName := ⟨RL, "undo", "(LBreakerTrials;[J)I"⟩
abbrev cL_store : ByteArray := method_12_code
def yL_store : MethodName := ⟨RL, "store", "(LBreakerTrials;II[J)I"⟩
abbrev cL_delay : ByteArray := method_13_code
def yL_delay : MethodName := ⟨RL, "delay", "(LBreakerTrials;II[J)I"⟩
abbrev cL_onWay : ByteArray := method_14_code
def yL_onWay : MethodName := ⟨RL, "onWay", "(LBreakerTrials;II[J)I"⟩
abbrev cL_count : ByteArray := method_15_code
def yL_count : MethodName := ⟨RL, "count", "(LBreakerTrials;I[J)I"⟩
abbrev cL_setting : ByteArray := method_16_code
def yL_setting : MethodName := ⟨RL, "setting", "(LBreakerTrials;I[J)I"⟩
abbrev cL_ifCalled : ByteArray := method_17_code
def yL_ifCalled : MethodName := ⟨RL, "ifCalled", "(LBreakerTrials;IIII[J)I"⟩
abbrev cL_freeIn : ByteArray := method_18_code
def yL_freeIn : MethodName := ⟨RL, "freeIn", "(LBreakerTrials;I[J)I"⟩
abbrev cL_law : ByteArray := code
def yL_law : MethodName := ⟨RL, "law", "([I)Z"⟩
abbrev vwCl : List vw_C := [(RX0, TX0, 2), (RX1, TX1, 7), (RX2, TX2, 14), (RX3, TX3, 6), (RX4, TX4, 12)]
end
section
/-! THE FRAME OF THE WHOLE: methods over a memory of numbered cells. Cell o lies at the address ad o; K o says what it is, R, J, I what its slots hold (references, longs, ints). -/
/-- the words that every method is given: the table's good ones -/
def gT : List Cond := lw_tbl.filter goodWord
theorem gT_good {w : Cond} (h : w ∈ gT) : goodWord w = true := (List.mem_filter.mp h).2
theorem gT_in {w : Cond} (h : w ∈ lw_tbl) (g : goodWord w = true) : w ∈ gT := List.mem_filter.mpr ⟨h, g⟩
theorem gT_ix {w : Cond} (i : Nat) (h : lw_tbl[i]? = some w) (g : goodWord w = true) : w ∈ gT := gT_in (List.mem_of_getElem? h) g
theorem gT_goodIn {ws : List Cond} (h : ∀ w ∈ ws, w ∈ gT) : GoodIn gT ws := fun w hw => ⟨h w hw, good_of_word (gT_good (h w hw))⟩
/-- K, R, I, J, how many cells are made -/
abbrev Sg : Type := (Nat → Option (Nat × Nat)) × (Nat → Nat → Value) × (Nat → Nat → Int32) × (Nat → Nat → Int64) × Nat
/-- addresses, classes and slots, the base, the launch -/
abbrev GG : Type := (Nat → Nat) × va_G × Nat × Launch
/-- name, code, locals, answer, room, table -/
abbrev YY : Type := MethodName × ByteArray × Nat × Option FieldType × Room × List (Nat × Nat × Nat × Nat)
abbrev RT : Type := Option Value ⊕ String
/-- what a slot holds: 0 an int, 1 a long, 2 a reference -/
def fk : Nat → Nat → Nat
  | 0, 0 => 2
  | 1, 0 => 2
  | 1, 1 => 2
  | 1, 2 => 2
  | 2, 0 => 2
  | 3, 3 => 0
  | 3, 4 => 0
  | 3, _ => 2
  | 4, 1 => 2
  | 4, 2 => 2
  | 4, 3 => 2
  | 4, 5 => 2
  | 4, 9 => 2
  | 4, 11 => 1
  | 11, _ => 1
  | 12, _ => 2
  | 13, _ => 2
  | 14, _ => 2
  | _, _ => 0
def sv (k : Nat) (i : Int32) (j : Int64) (r : Value) : Value := match k with
  | 0 => .int i
  | 1 => .long j
  | _ => r
/-- what an array holds -/
def aty : Nat → FieldType
  | 10 => .int
  | 11 => .long
  | 12 => .object RX1
  | 13 => .object RX2
  | _ => .array .int
/-- an array's cell, whatever its monitor is -/
def AR (cell : Cell) (cA : ClassId) (n : Nat) (V : Nat → Value) : Prop := cell.cls = cA ∧ (n ≤ cell.slots.size ∧ cell.slots.size.toInt32 = nI n ∧ ∀ j, j < n → cell.slots[j]? = some (V j)) ∧ cell.vm ≠ .unknown ∧ ∀ k, cell.vm ≠ .statics k
theorem AR.rf {cA : ClassId} {n : Nat} {V : Nat → Value} : AR (arrV cA n V) cA n V := ⟨rfl, ⟨by rw [arrV_size]; exact Nat.le_refl _, by rw [arrV_size]; rfl, fun j hj => arrV_read _ _ hj⟩, fun q => (by cases q), fun k q => (by cases q)⟩
theorem AR.arr {s : State} {cell : Cell} {cA : ClassId} {n : Nat} {V : Nat → Value} {ty : FieldType} (h : AR cell cA n V) (hA : ArrOfT s cA ty) : s.isArrayOf cell ty := by
  obtain ⟨-, k, hk, comp, hc⟩ := hA n V
  exact ⟨h.2.2.2, k, by rw [h.1]; exact hk, comp, hc⟩
theorem AR.read {cell : Cell} {cA : ClassId} {n i : Nat} {V : Nat → Value} (h : AR cell cA n V) (hi : i < n) : cell.slots[i]? = some (V i) := h.2.1.2.2 i hi
/-- cells whose first n slots are the same -/
def SE (n : Nat) (c1 c2 : Cell) : Prop := n ≤ c1.slots.size ∧ n ≤ c2.slots.size ∧ ∀ j, j < n → c1.slots[j]? = c2.slots[j]?
theorem SE.set {n k : Nat} {x : Value} {c1 c2 : Cell} (h : SE n c1 c2) : SE n (c1.setSlot k x) (c2.setSlot k x) := by
  obtain ⟨h1, h2, h3⟩ := h
  unfold Cell.setSlot
  refine ⟨by simpa using h1, by simpa using h2, fun j hj => ?_⟩
  have e := h3 j hj
  simp only [Array.getElem?_setIfInBounds]
  by_cases q : k = j
  · rw [if_pos q, if_pos q, if_pos (by omega), if_pos (by omega)]
  · rw [if_neg q, if_neg q]; exact e
theorem SE.pairs {n a : Nat} : ∀ (vs : List (Value × Nat)) (c1 c2 : Cell), SE n c1 c2 → SE n (c1.storePairs a vs) (c2.storePairs a vs)
  | [], _, _, h => h
  | p :: vs, _, _, h => SE.pairs vs _ _ h.set
theorem AR.se {cell : Cell} {cA : ClassId} {n : Nat} {V : Nat → Value} (h : AR cell cA n V) : SE n cell (arrV cA n V) := ⟨h.2.1.1, by rw [arrV_size]; exact Nat.le_refl _, fun j hj => by rw [h.read hj, arrV_read _ _ hj]⟩
theorem SE.ar {cell c0 : Cell} {cA : ClassId} {n : Nat} {V V' : Nat → Value} (hs : SE n c0 (arrV cA n V')) (h : AR cell cA n V) (h1 : c0.cls = cell.cls) (h2 : c0.vm = cell.vm) (h3 : c0.slots.size = cell.slots.size) : AR c0 cA n V' :=
  ⟨h1.trans h.1, ⟨hs.1, by rw [h3]; exact h.2.1.2.1, fun j hj => by rw [hs.2.2 j hj, arrV_read _ _ hj]⟩, by rw [h2]; exact h.2.2.1, by rw [h2]; exact h.2.2.2⟩
theorem AR.put {cell : Cell} {cA : ClassId} {n k : Nat} {x : Value} {V V' : Nat → Value} (h : AR cell cA n V) (hV : ∀ j, V' j = updV V k x j) : AR (cell.setSlot k x) cA n V' := by
  have e : V' = updV V k x := funext hV
  subst e
  refine SE.ar (cell := cell) ?_ h rfl rfl (by unfold Cell.setSlot; simp)
  rw [← arrV_store]
  exact h.se.set
def vce (D : va_G) (s : State) (kd : Nat × Nat) (a : Nat) (V : Nat → Value) (H : Heap) : Prop :=
  (kd.1 < 10 ∧ ∃ r : vw_C, vwCl[kd.1]? = some r ∧ kd.2 = r.2.2 ∧ t_OB a (D.1 kd.1) r.2.2 (D.2 kd.1) H V) ∨
  (10 ≤ kd.1 ∧ ∃ (cA : ClassId) (cell : Cell), H[a]? = some cell ∧ AR cell cA kd.2 V ∧ ArrOfT s cA (aty kd.1) ∧ (12 ≤ kd.1 → va_RA s cA (aty kd.1)))
def cV (σ : Sg) (o : Nat) (kd : Nat × Nat) : Nat → Value := fun j => sv (fk kd.1 j) (σ.2.2.1 o j) (σ.2.2.2.1 o j) (σ.2.1 o j)
/-- the heap holds the memory -/
def WD (G : GG) (σ : Sg) (s : State) (H : Heap) : Prop :=
  (∀ (o : Nat) (kd : Nat × Nat), σ.1 o = some kd → vce G.2.1 s kd (G.1 o) (cV σ o kd) H) ∧ H.size = G.2.2.1 + σ.2.2.2.2
def Aof (G : GG) : Nat → Prop := fun q => G.2.2.1 ≤ q
def GOk (G : GG) : Prop := (∀ o, o < 1000 → G.1 o = G.2.2.1 + o) ∧ (∀ o, 1000 ≤ o → G.1 o < G.2.2.1)
/-- the texts of the class's own exceptions -/
def strs : List (Nat × String) := [(220, "there is no such store"), (40, "16 calls are on their way"), (225, "out of range"), (223, "there is no such setting"), (88, "the buffer has 60 characters"), (104, "the buffer is not complete delays as a text"), (121, "there is no saved state"), (227, "place is below 0")]
/-- arrays of int arrays are there -/
def vA2 (U : State) : Prop := (Cond.arrayOver (.array .int)).before #[] U = true
theorem vA2.spec {u : State} (h : vA2 u) : ∃ comp c k, u.vm.findClass (FieldType.array .int).toString = some comp ∧ (u.vm.classes.findIdx? fun (x : Class) => match x.kind with | .array component _ => component == comp | _ => false) = some c ∧ u.vm.classes[c]? = some k ∧ k.kind = .array comp (.array .int) ∧ u.vm.findClass ("[" ++ (FieldType.array .int).toString) = some c := by
  simp only [vA2, Cond.before, Cond.holds, Cond.value, beq_iff_eq] at h
  cases hc : u.vm.findClass (FieldType.array .int).toString with
  | none => simp [hc] at h
  | some comp =>
    simp only [hc, Option.bind_some, Option.bind_eq_some_iff, Option.map_eq_some_iff] at h
    obtain ⟨c, hi, k, hk, hb⟩ := h
    obtain ⟨hlt, hp, -⟩ := Array.findIdx?_eq_some_iff_getElem.mp hi
    have hkk : u.vm.classes[c] = k := (Array.getElem?_eq_some_iff.mp hk).2
    rw [hkk] at hp
    cases hkind : k.kind with
    | array component ty =>
      rw [hkind] at hb hp
      simp only [Bool.and_eq_true, decide_eq_true_eq, beq_iff_eq] at hb hp
      exact ⟨comp, c, k, rfl, hi, hk, by rw [hkind, hp, hb.1], hb.2⟩
    | _ => rw [hkind] at hb; simp at hb
theorem vA2.moved {u U : State} (hvm : u.vm.Alike U.vm) (h : vA2 u) : vA2 U := by
  obtain ⟨comp, c, k, h1, h2, h3, h4, h5⟩ := h.spec
  obtain ⟨k', hk', he⟩ := hvm.2.2 _ _ h3
  have hi : (U.vm.classes.findIdx? fun (x : Class) => match x.kind with | .array component _ => component == comp | _ => false) = some c := by
    refine (va_idx_bare U.vm comp).symm.trans ?_
    first | rw [hvm.bare_eq] | rw [← hvm.bare_eq]
    exact (va_idx_bare u.vm comp).trans h2
  have hkind : k'.kind = .array comp (.array .int) := by rw [he]; exact h4
  have f1 : U.vm.findClass (FieldType.array .int).toString = some comp := by rw [hvm.findClass]; exact h1
  have f2 : U.vm.findClass ("[" ++ (FieldType.array .int).toString) = some c := by rw [hvm.findClass]; exact h5
  unfold vA2 Cond.before Cond.holds
  simp only [Cond.value]
  rw [f1, Option.bind_some]
  refine (congrArg (fun o : Option Nat => (o.bind (fun c => (U.vm.classes[c]?).map fun (k : Class) => match k.kind with | .array _ ty => decide (ty = FieldType.array .int) && decide (U.vm.findClass ("[" ++ (FieldType.array .int).toString) = some c) | _ => false) == some true)) hi).trans ?_
  simp [hk', hkind, f2]
/-- which exception is which, which arrays are there -/
def EXs (s : State) : Prop :=
  va_Nw (.castable "java/lang/IndexOutOfBoundsException" "java/lang/IndexOutOfBoundsException") s ∧ va_Nw (.castable "java/lang/IllegalArgumentException" "java/lang/IllegalArgumentException") s ∧ va_Nw (.castable "java/lang/IllegalStateException" "java/lang/IllegalStateException") s ∧
  va_Nc "java/lang/IllegalArgumentException" "java/lang/IndexOutOfBoundsException" s ∧ va_Nc "java/lang/IllegalStateException" "java/lang/IndexOutOfBoundsException" s ∧ va_Nc "java/lang/IllegalStateException" "java/lang/IllegalArgumentException" s ∧
  va_Nw (.declares (Bundle.initS "java/lang/RuntimeException")) s ∧ va_Nw (.declares (Bundle.initS "java/lang/Exception")) s ∧ va_Nw (.declares (Bundle.initS Bundle.tN)) s ∧ va_AO RX1 s ∧ va_AO RX2 s ∧ vA2 s
/-- what stays of the start: tables, statics, texts, the launch's flag -/
def EN (G : GG) (s : State) (H : Heap) : Prop :=
  GOk G ∧ va_K G.2.1 vwCl [] s ∧ vx_Zq Bundle.tN "UNASSIGNED_STACK" Bundle.steD (Aof G) s H ∧ vx_Zq Bundle.tN "SUPPRESSED_SENTINEL" Bundle.listD (Aof G) s H ∧
  (∀ q ∈ strs, ∃ a, vk_R RX3 q.1 q.2 a s) ∧ va_Z RX3 "AT_FIRST" "[I" (.ref (G.1 1001)) (Aof G) s H ∧ va_Z RX3 "LEAST" "[I" (.ref (G.1 1002)) (Aof G) s H ∧ va_Z RX3 "MOST" "[I" (.ref (G.1 1003)) (Aof G) s H ∧
  va_Nw (.methodLinkNest RX3 25 yX0_init RX3) s ∧ va_Nw (.fieldLinkNest RX1 27 RX3 "AT_FIRST" "[I" RX3) s ∧ G.2.2.2.stackTraces = false ∧ EXs s
/-! moving and keeping -/
theorem vce_kept {D : va_G} {s : State} {kd : Nat × Nat} {a : Nat} {V : Nat → Value} {H H1 : Heap} (h : vce D s kd a V H) (hq : H1[a]? = H[a]?) : vce D s kd a V H1 := by
  rcases h with ⟨h0, r, h1, h2, h3⟩ | ⟨h0, cA, cell, h1, h2⟩
  · exact Or.inl ⟨h0, r, h1, h2, h3.kept hq⟩
  · exact Or.inr ⟨h0, cA, cell, hq.trans h1, h2⟩
theorem vce_moved {D : va_G} {s u : State} {kd : Nat × Nat} {a : Nat} {V : Nat → Value} {H : Heap} (hvm : s.vm.Alike u.vm) (h : vce D s kd a V H) : vce D u kd a V H := by
  rcases h with h | ⟨h0, cA, cell, h1, ha, h2, h3⟩
  · exact Or.inl h
  · exact Or.inr ⟨h0, cA, cell, h1, ha, arrOfT_moved hvm h2, fun q => (h3 q).moved hvm⟩
theorem vce_lt {D : va_G} {s : State} {kd : Nat × Nat} {a : Nat} {V : Nat → Value} {H : Heap} (h : vce D s kd a V H) : a < H.size := by
  rcases h with ⟨-, r, -, -, cell, h3, -⟩ | ⟨-, cA, cell, h1, -⟩
  · exact (Array.getElem?_eq_some_iff.mp h3).1
  · exact (Array.getElem?_eq_some_iff.mp h1).1
theorem WD_moved {G : GG} {σ : Sg} {s u : State} {H : Heap} (hvm : s.vm.Alike u.vm) (h : WD G σ s H) : WD G σ u H := ⟨fun o kd hk => vce_moved hvm (h.1 o kd hk), h.2⟩
theorem EN_moved {G : GG} {s u : State} {H : Heap} (hW : s.WarmedH u.vm) (h : EN G s H) : EN G u H := by
  obtain ⟨h1, h2, h3, h4, h5, h6, h7, h8, h9, h10, h11, x1, x2, x3, x4, x5, x6, x7, x8, x9, x10, x11, x12⟩ := h
  have hvm := hW.alike
  exact ⟨h1, h2.moved hvm, h3.moved hvm, h4.moved hvm, fun q hq => (h5 q hq).elim fun a ha => ⟨a, vk_R.warm hW ha⟩, h6.moved hvm, h7.moved hvm, h8.moved hvm, va_Nw.warmM hW h9, va_Nw.warmF hW h10, h11, va_Nw.warmC hW x1, va_Nw.warmC hW x2, va_Nw.warmC hW x3, x4.moved hvm, x5.moved hvm, x6.moved hvm, va_Nw.warmD hW x7, va_Nw.warmD hW x8, va_Nw.warmD hW x9, x10.moved hvm, x11.moved hvm, x12.moved hvm⟩
theorem EN_kept {G : GG} {s : State} {H H1 : Heap} (h : EN G s H) (hq : ∀ a : Nat, a < H.size → ¬ Aof G a → H1[a]? = H[a]?) : EN G s H1 := by
  obtain ⟨h1, h2, h3, h4, h5, h6, h7, h8, h9⟩ := h
  exact ⟨h1, h2, h3.kept hq, h4.kept hq, h5, h6.kept hq, h7.kept hq, h8.kept hq, h9⟩
theorem EN_vm {G : GG} {s u : State} {H : Heap} (hv : u.vm = s.vm) (h : EN G s H) : EN G u H := by
  refine EN_moved (s := s) (u := u) ?_ h
  rw [hv]; exact State.WarmedH.refl s
theorem Aof_new {G : GG} (hG : GOk G) {o : Nat} (ho : o < 1000) : Aof G (G.1 o) := by
  show G.2.2.1 ≤ G.1 o
  rw [hG.1 o ho]; omega
theorem ad_ne {G : GG} (hG : GOk G) {o q : Nat} (ho : o < 1000) (h : q ≠ o) : G.1 q ≠ G.1 o := by
  rw [hG.1 o ho]
  rcases Nat.lt_or_ge q 1000 with hq | hq
  · rw [hG.1 q hq]; omega
  · have := hG.2 q hq; omega
/-- one cell is written -/
theorem WD_upd {G : GG} {σ σ' : Sg} {s : State} {H H1 : Heap} {o : Nat} {kd : Nat × Nat} (hG : GOk G) (ho : o < 1000) (h : WD G σ s H) (hK : σ'.1 = σ.1) (hz : σ'.2.2.2.2 = σ.2.2.2.2) (hk : σ.1 o = some kd)
    (hne : ∀ (q : Nat) (kq : Nat × Nat), q ≠ o → cV σ' q kq = cV σ q kq) (hc : vce G.2.1 s kd (G.1 o) (cV σ' o kd) H1) (z : H1.size = H.size) (oq : ∀ q : Nat, q ≠ G.1 o → H1[q]? = H[q]?) : WD G σ' s H1 := by
  refine ⟨fun q kq hq => ?_, by rw [z, hz]; exact h.2⟩
  rw [hK] at hq
  by_cases e : q = o
  · subst e
    cases Option.some.inj (hk.symm.trans hq)
    exact hc
  · rw [hne q kq e]
    exact vce_kept (h.1 q kq hq) (oq _ (ad_ne hG ho e))
/-! the classes' own facts -/
theorem cl_in : ∀ (c : Nat) (r : vw_C), vwCl[c]? = some r → ∀ w ∈ u_ws r.1 r.2.1 r.2.2, w ∈ gT := by
  have h : ∀ r ∈ vwCl, ∀ w ∈ u_ws r.1 r.2.1 r.2.2, w ∈ lw_tbl ∧ goodWord w = true := by decide +kernel
  intro c r hr w hw
  obtain ⟨h1, h2⟩ := h r (List.mem_of_getElem? hr) w hw
  exact gT_in h1 h2
def fty : Nat → Nat → FieldType
  | 0 => tyX0
  | 1 => tyX1
  | 2 => tyX2
  | 3 => tyX3
  | _ => tyX4
theorem cl_ty {c : Nat} {r : vw_C} (hr : vwCl[c]? = some r) : ∀ k, k < r.2.2 → parseFieldDescriptor (r.2.1 k).2.2.1 = some (fty c k) := by
  match c, hr with
  | 0, hr => cases hr; exact tyX0_ok
  | 1, hr => cases hr; exact tyX1_ok
  | 2, hr => cases hr; exact tyX2_ok
  | 3, hr => cases hr; exact tyX3_ok
  | 4, hr => cases hr; exact tyX4_ok
  | c + 5, hr => simp [vwCl] at hr
theorem cl_nm {c : Nat} {r : vw_C} (hr : vwCl[c]? = some r) : ∀ a, a < r.2.2 → ∀ b, b < r.2.2 → a ≠ b → (r.2.1 a).2.1 ≠ (r.2.1 b).2.1 := by
  match c, hr with
  | 0, hr => cases hr; exact nmX0
  | 1, hr => cases hr; exact nmX1
  | 2, hr => cases hr; exact nmX2
  | 3, hr => cases hr; exact nmX3
  | 4, hr => cases hr; exact nmX4
  | c + 5, hr => simp [vwCl] at hr
/-- entry idx of own's pool names field j of class c -/
def FL (own : String) (idx c j : Nat) : Prop := ∃ r : vw_C, vwCl[c]? = some r ∧ j < r.2.2 ∧ Cond.fieldLink own idx (r.2.1 j).1 (r.2.1 j).2.1 (r.2.1 j).2.2.1 ∈ gT
/-! the walk: from here the method comes to its end -/
/-- what a walk may use: the machine, the code, the words, the start's facts -/
def CX (G : GG) (y : YY) (p : Program) (s : State) (m : MethodId) (args : Array Value) (meth : Method) (c : Code) : Prop :=
  p.tables.exec = Jvm.exec ∧ c.code = y.2.1 ∧ c.maxLocals = y.2.2.1 ∧ meth.sig.returnType = y.2.2.2.1 ∧ meth.locks = false ∧ (∀ w ∈ gT, w.before args s = true) ∧ s.vm.findClass y.1.cls = some m.cls ∧ EN G s s.heap ∧ meth.name = y.1.name ∧ c.exceptionTable.toList = tableOf y.2.2.2.2.2
abbrev ZT : Type := List Frame → Array Value → State → State → Prop
def AW (G : GG) (y : YY) (Z : ZT) (pc : Nat) (ls : List (Nat × Value)) (st : List Value) (σ : Sg) (cu su : Nat) : Prop :=
  ∀ (p : Program) (e : Env) (s : State) (m : MethodId) (args : Array Value) (below : List Frame) (meth : Method) (c : Code) (H : Heap) (locs : List Loc) (lsa : Array Slot),
    CX G y p s m args meth c → WD G σ s H → va_S (Aof G) s.heap H locs → lv_has lsa y.2.2.1 ls → W p G.2.2.2 e y.2.2.2.2.1 s m args below meth c H locs cu su (Z below args s) (F0 m pc lsa st)
def Qn (G : GG) (Q : RT → Sg → Prop) : Array Value → State → Outcome → State → Prop := fun _ st oc t => (∃ v σ', oc = .returned v ∧ Q (.inl v) σ' ∧ WD G σ' t t.heap) ∧ va_F (Aof G) st t
def Qx (G : GG) (Q : RT → Sg → Prop) : String → State → State → Prop := fun E st t => ∃ σ', Q (.inr E) σ' ∧ WD G σ' t t.heap ∧ va_F (Aof G) st t
def MZ (G : GG) (y : YY) (Q : RT → Sg → Prop) : ZT := fun below args s => vx_MQ below (Qn G Q) (Qx G Q) args s y.2.2.2.2.1.cells y.2.2.2.2.1.slots (Aof G)
def PcW (G : GG) (av : List Value) (σ : Sg) : Array Value → State → Prop := va_Pc av (fun U => EN G U U.heap ∧ WD G σ U U.heap)
/-- called with av over the memory σ, y ends with Q -/
def Run (G : GG) (y : YY) (av : List Value) (σ : Sg) (Q : RT → Sg → Prop) : Prop :=
  vx_Met G.2.2.2 y.1 (.code y.1 y.2.1 y.2.2.1 y.2.2.2.1 :: gT) y.2.2.2.2.1 (PcW G av σ) (Qn G Q) (Qx G Q) y.2.2.2.2.1.cells y.2.2.2.2.1.slots (Aof G)
theorem PcW_blind (G : GG) (av : List Value) (σ : Sg) : FrameBlind (PcW G av σ) := by
  intro a U g mk h
  obtain ⟨h1, h2, h3⟩ := h
  exact ⟨h1, EN_vm (s := U) (u := U.calling g mk a) rfl h2, WD_moved (s := U) (u := U.calling g mk a) (Vm.Alike.refl U.vm) h3⟩
/-- a method's contract out of its walk -/
theorem run_of {G : GG} {y : YY} {av : List Value} {σ : Sg} {Q : RT → Sg → Prop} (hy : plainName y.1.cls = true) (htb : y.2.2.2.2.2 = []) {ls : List (Nat × Value)} (hls : lv_args 0 av = ls) (hn : (lg_sl av).length ≤ y.2.2.1) (h : AW G y (MZ G y Q) 0 ls [] σ 0 0) : Run G y av σ Q := by
  refine vx_ofW (cc := y.2.1) (maxL := y.2.2.1) (ret := y.2.2.2.1) hy rfl ?_
  intro p e s m args below meth c s₁ B hml htab hv
  obtain ⟨rfl, hE, hW⟩ := hv
  have hts := atoms_spec (ws := .code y.1 y.2.1 y.2.2.1 y.2.2.2.1 :: gT) B.pre
  have hl := lv_entry av (n := y.2.2.1) hn
  rw [lg_entry_eq]
  rw [hls] at hl
  refine h p e s m av.toArray below meth c s.heap [] _ ⟨B.exec, B.bytes, hml, B.returns, B.notSynchronized, fun w hw => hts w (List.mem_cons_of_mem _ hw), findClass_of_methodNamed B.named, hE, (name_of_methodNamed B.named B.method).1, ?_⟩ hW va_S.rf hl
  rw [htb]
  cases hx : c.exceptionTable.toList with
  | nil => rfl
  | cons x l => exact (htab x (by rw [hx]; exact List.mem_cons_self)).elim
end
section
/-! THE ROWS: one instruction, over the memory -/
def lget : List (Nat × Value) → Nat → Option Value
  | [], _ => none
  | (i, v) :: r, k => if i = k then some v else lget r k
theorem lget_mem : ∀ {ls : List (Nat × Value)} {k : Nat} {v : Value}, lget ls k = some v → (k, v) ∈ ls
  | [], k, v, h => by simp [lget] at h
  | (i, w) :: r, k, v, h => by
    unfold lget at h
    by_cases e : i = k
    · rw [if_pos e] at h
      cases h; subst e
      exact List.mem_cons_self
    · rw [if_neg e] at h
      exact List.mem_cons_of_mem _ (lget_mem h)
theorem lget_at {lsa : Array Slot} {n : Nat} {ls : List (Nat × Value)} {k : Nat} {v : Value} (L : lv_has lsa n ls) (h : lget ls k = some v) : lsa[k]? = some (.val v) := L.2.2 (k, v) (lget_mem h)
def lset (ls : List (Nat × Value)) (i : Nat) (v : Value) : List (Nat × Value) := (i, v) :: ls.filter (fun q => !(q.1 == i) && !(q.1 + 1 == i && q.2.category == 2))
def lset2 (ls : List (Nat × Value)) (i : Nat) (v : Value) : List (Nat × Value) := (i, v) :: ls.filter (fun q => !(q.1 == i) && (!(q.1 == i + 1) && !(q.1 + 1 == i && q.2.category == 2)))
/-- ints written: at cell o, slot j -/
def up2 (I : Nat → Nat → Int32) (o j : Nat) (x : Int32) : Nat → Nat → Int32 := fun q k => if q = o ∧ k = j then x else I q k
def upJ (J : Nat → Nat → Int64) (o j : Nat) (x : Int64) : Nat → Nat → Int64 := fun q k => if q = o ∧ k = j then x else J q k
def upR (R : Nat → Nat → Value) (o j : Nat) (x : Value) : Nat → Nat → Value := fun q k => if q = o ∧ k = j then x else R q k
def upK (K : Nat → Option (Nat × Nat)) (o : Nat) (x : Nat × Nat) : Nat → Option (Nat × Nat) := fun q => if q = o then some x else K q
section ROWS
variable {G : GG} {y : YY} {Z : ZT} {pc : Nat} {ls ls' : List (Nat × Value)} {st : List Value} {σ : Sg} {K : Nat → Option (Nat × Nat)} {R : Nat → Nat → Value} {I : Nat → Nat → Int32} {J : Nat → Nat → Int64} {z cu su : Nat}
theorem aw_iconst {n : Int} {v : Int32} (hd : decode y.2.1 pc = .ok (.iconst n, 1)) (hv : Int32.ofInt n = v) (kk : AW G y Z (pc + 1) ls (.int v :: st) σ cu su) : AW G y Z pc ls (st) σ cu su := by
  intro p e s m args below meth c H locs lsa C V S L
  exact lv_iconst C.1 C.2.1 hd hv (kk p e s m args below meth c H locs lsa C V S L)
theorem aw_bipush {n : Int} {v : Int32} (hd : decode y.2.1 pc = .ok (.bipush n, 2)) (hv : (Int8.ofInt n).toInt32 = v) (kk : AW G y Z (pc + 2) ls (.int v :: st) σ cu su) : AW G y Z pc ls (st) σ cu su := by
  intro p e s m args below meth c H locs lsa C V S L
  exact lv_bipush C.1 C.2.1 hd hv (kk p e s m args below meth c H locs lsa C V S L)
theorem aw_sipush {n : Int} {v : Int32} (hd : decode y.2.1 pc = .ok (.sipush n, 3)) (hv : (Int16.ofInt n).toInt32 = v) (kk : AW G y Z (pc + 3) ls (.int v :: st) σ cu su) : AW G y Z pc ls (st) σ cu su := by
  intro p e s m args below meth c H locs lsa C V S L
  exact lv_sipush C.1 C.2.1 hd hv (kk p e s m args below meth c H locs lsa C V S L)
theorem aw_lconst {n : Fin 2} {v : Int64} (hd : decode y.2.1 pc = .ok (.lconst n, 1)) (hv : Int64.ofNat (n : Nat) = v) (kk : AW G y Z (pc + 1) ls (.long v :: st) σ cu su) : AW G y Z pc ls (st) σ cu su := by
  intro p e s m args below meth c H locs lsa C V S L
  exact lv_lconst C.1 C.2.1 hd hv (kk p e s m args below meth c H locs lsa C V S L)
theorem aw_dconst0  (hd : decode y.2.1 pc = .ok (.dconst 0, 1))  (kk : AW G y Z (pc + 1) ls (.double FP.dconst0 :: st) σ cu su) : AW G y Z pc ls (st) σ cu su := by
  intro p e s m args below meth c H locs lsa C V S L
  exact lv_dconst0 C.1 C.2.1 hd  (kk p e s m args below meth c H locs lsa C V S L)
theorem aw_dconst1  (hd : decode y.2.1 pc = .ok (.dconst 1, 1))  (kk : AW G y Z (pc + 1) ls (.double FP.dconst1 :: st) σ cu su) : AW G y Z pc ls (st) σ cu su := by
  intro p e s m args below meth c H locs lsa C V S L
  exact lv_dconst1 C.1 C.2.1 hd  (kk p e s m args below meth c H locs lsa C V S L)
theorem aw_iload_n {k : Fin 4} {x : Int32} (hd : decode y.2.1 pc = .ok (.iload_n k, 1)) (h : lget ls k = some (.int x)) (kk : AW G y Z (pc + 1) ls (.int x :: st) σ cu su) : AW G y Z pc ls (st) σ cu su := by
  intro p e s m args below meth c H locs lsa C V S L
  exact lv_iload_n C.1 C.2.1 hd rfl (lget_at L h) (kk p e s m args below meth c H locs lsa C V S L)
theorem aw_iload {k : Nat} {x : Int32} (hd : decode y.2.1 pc = .ok (.iload k, 2)) (h : lget ls k = some (.int x)) (kk : AW G y Z (pc + 2) ls (.int x :: st) σ cu su) : AW G y Z pc ls (st) σ cu su := by
  intro p e s m args below meth c H locs lsa C V S L
  exact lv_iload C.1 C.2.1 hd (lget_at L h) (kk p e s m args below meth c H locs lsa C V S L)
theorem aw_lload_n {k : Fin 4} {x : Int64} (hd : decode y.2.1 pc = .ok (.lload_n k, 1)) (h : lget ls k = some (.long x)) (kk : AW G y Z (pc + 1) ls (.long x :: st) σ cu su) : AW G y Z pc ls (st) σ cu su := by
  intro p e s m args below meth c H locs lsa C V S L
  exact lv_lload_n C.1 C.2.1 hd rfl (lget_at L h) (kk p e s m args below meth c H locs lsa C V S L)
theorem aw_lload {k : Nat} {x : Int64} (hd : decode y.2.1 pc = .ok (.lload k, 2)) (h : lget ls k = some (.long x)) (kk : AW G y Z (pc + 2) ls (.long x :: st) σ cu su) : AW G y Z pc ls (st) σ cu su := by
  intro p e s m args below meth c H locs lsa C V S L
  exact lv_lload C.1 C.2.1 hd (lget_at L h) (kk p e s m args below meth c H locs lsa C V S L)
theorem aw_dload_n {k : Fin 4} {x : UInt64} (hd : decode y.2.1 pc = .ok (.dload_n k, 1)) (h : lget ls k = some (.double x)) (kk : AW G y Z (pc + 1) ls (.double x :: st) σ cu su) : AW G y Z pc ls (st) σ cu su := by
  intro p e s m args below meth c H locs lsa C V S L
  exact lv_dload_n C.1 C.2.1 hd rfl (lget_at L h) (kk p e s m args below meth c H locs lsa C V S L)
theorem aw_dload {k : Nat} {x : UInt64} (hd : decode y.2.1 pc = .ok (.dload k, 2)) (h : lget ls k = some (.double x)) (kk : AW G y Z (pc + 2) ls (.double x :: st) σ cu su) : AW G y Z pc ls (st) σ cu su := by
  intro p e s m args below meth c H locs lsa C V S L
  exact lv_dload C.1 C.2.1 hd (lget_at L h) (kk p e s m args below meth c H locs lsa C V S L)
theorem aw_aload_n {k : Fin 4} {x : Nat} (hd : decode y.2.1 pc = .ok (.aload_n k, 1)) (h : lget ls k = some (.ref x)) (kk : AW G y Z (pc + 1) ls (.ref x :: st) σ cu su) : AW G y Z pc ls (st) σ cu su := by
  intro p e s m args below meth c H locs lsa C V S L
  exact lv_aload_n C.1 C.2.1 hd rfl (lget_at L h) (kk p e s m args below meth c H locs lsa C V S L)
theorem aw_aload {k : Nat} {x : Nat} (hd : decode y.2.1 pc = .ok (.aload k, 2)) (h : lget ls k = some (.ref x)) (kk : AW G y Z (pc + 2) ls (.ref x :: st) σ cu su) : AW G y Z pc ls (st) σ cu su := by
  intro p e s m args below meth c H locs lsa C V S L
  exact lv_aload C.1 C.2.1 hd (lget_at L h) (kk p e s m args below meth c H locs lsa C V S L)
theorem aw_istore_n {k : Fin 4} {x : Int32} (hd : decode y.2.1 pc = .ok (.istore_n k, 1)) (hn : (k : Nat) < y.2.2.1) (hl : lset ls (k : Nat) (.int x) = ls') (kk : AW G y Z (pc + 1) ls' st σ cu su) : AW G y Z pc ls (.int x :: st) σ cu su := by
  intro p e s m args below meth c H locs lsa C V S L
  exact lv_istore_n C.1 C.2.1 hd rfl L hn hl (fun lsb L' => kk p e s m args below meth c H locs lsb C V S L')
theorem aw_istore {k : Nat} {x : Int32} (hd : decode y.2.1 pc = .ok (.istore k, 2)) (hn : k < y.2.2.1) (hl : lset ls k (.int x) = ls') (kk : AW G y Z (pc + 2) ls' st σ cu su) : AW G y Z pc ls (.int x :: st) σ cu su := by
  intro p e s m args below meth c H locs lsa C V S L
  exact lv_istore C.1 C.2.1 hd L hn hl (fun lsb L' => kk p e s m args below meth c H locs lsb C V S L')
theorem aw_lstore_n {k : Fin 4} {x : Int64} (hd : decode y.2.1 pc = .ok (.lstore_n k, 1)) (hn : (k : Nat) + 1 < y.2.2.1) (hl : lset2 ls (k : Nat) (.long x) = ls') (kk : AW G y Z (pc + 1) ls' st σ cu su) : AW G y Z pc ls (.long x :: st) σ cu su := by
  intro p e s m args below meth c H locs lsa C V S L
  exact lv_lstore_n C.1 C.2.1 hd rfl L hn hl (fun lsb L' => kk p e s m args below meth c H locs lsb C V S L')
theorem aw_lstore {k : Nat} {x : Int64} (hd : decode y.2.1 pc = .ok (.lstore k, 2)) (hn : k + 1 < y.2.2.1) (hl : lset2 ls k (.long x) = ls') (kk : AW G y Z (pc + 2) ls' st σ cu su) : AW G y Z pc ls (.long x :: st) σ cu su := by
  intro p e s m args below meth c H locs lsa C V S L
  exact lv_lstore C.1 C.2.1 hd L hn hl (fun lsb L' => kk p e s m args below meth c H locs lsb C V S L')
theorem aw_dstore_n {k : Fin 4} {x : UInt64} (hd : decode y.2.1 pc = .ok (.dstore_n k, 1)) (hn : (k : Nat) + 1 < y.2.2.1) (hl : lset2 ls (k : Nat) (.double x) = ls') (kk : AW G y Z (pc + 1) ls' st σ cu su) : AW G y Z pc ls (.double x :: st) σ cu su := by
  intro p e s m args below meth c H locs lsa C V S L
  exact lv_dstore_n C.1 C.2.1 hd rfl L hn hl (fun lsb L' => kk p e s m args below meth c H locs lsb C V S L')
theorem aw_dstore {k : Nat} {x : UInt64} (hd : decode y.2.1 pc = .ok (.dstore k, 2)) (hn : k + 1 < y.2.2.1) (hl : lset2 ls k (.double x) = ls') (kk : AW G y Z (pc + 2) ls' st σ cu su) : AW G y Z pc ls (.double x :: st) σ cu su := by
  intro p e s m args below meth c H locs lsa C V S L
  exact lv_dstore C.1 C.2.1 hd L hn hl (fun lsb L' => kk p e s m args below meth c H locs lsb C V S L')
theorem aw_astore_n {k : Fin 4} {x : Nat} (hd : decode y.2.1 pc = .ok (.astore_n k, 1)) (hn : (k : Nat) < y.2.2.1) (hl : lset ls (k : Nat) (.ref x) = ls') (kk : AW G y Z (pc + 1) ls' st σ cu su) : AW G y Z pc ls (.ref x :: st) σ cu su := by
  intro p e s m args below meth c H locs lsa C V S L
  exact lv_astore_n C.1 C.2.1 hd rfl L hn hl (fun lsb L' => kk p e s m args below meth c H locs lsb C V S L')
theorem aw_astore {k : Nat} {x : Nat} (hd : decode y.2.1 pc = .ok (.astore k, 2)) (hn : k < y.2.2.1) (hl : lset ls k (.ref x) = ls') (kk : AW G y Z (pc + 2) ls' st σ cu su) : AW G y Z pc ls (.ref x :: st) σ cu su := by
  intro p e s m args below meth c H locs lsa C V S L
  exact lv_astore C.1 C.2.1 hd L hn hl (fun lsb L' => kk p e s m args below meth c H locs lsb C V S L')
theorem aw_iinc {i : Nat} {n : Int} {x v : Int32} (hd : decode y.2.1 pc = .ok (.iinc i n, 3)) (h : lget ls i = some (.int x)) (hv : x + Int32.ofInt n = v) (hn : i < y.2.2.1) (hl : lset ls i (.int v) = ls') (kk : AW G y Z (pc + 3) ls' st σ cu su) : AW G y Z pc ls st σ cu su := by
  intro p e s m args below meth c H locs lsa C V S L
  obtain ⟨k, hk⟩ := List.getElem?_of_mem (lget_mem h)
  exact lv_iinc (k := k) (v := v) C.1 C.2.1 hd L hk hv hn hl (fun lsb L' => kk p e s m args below meth c H locs lsb C V S L')
theorem aw_iadd {x y1 : Int32} (hd : decode y.2.1 pc = .ok (.iadd, 1))  (kk : AW G y Z (pc + 1) ls (.int (x + y1) :: st) σ cu su) : AW G y Z pc ls (.int y1 :: .int x :: st) σ cu su := by
  intro p e s m args below meth c H locs lsa C V S L
  exact lv_iadd C.1 C.2.1 hd  (kk p e s m args below meth c H locs lsa C V S L)
theorem aw_isub {x y1 : Int32} (hd : decode y.2.1 pc = .ok (.isub, 1))  (kk : AW G y Z (pc + 1) ls (.int (x - y1) :: st) σ cu su) : AW G y Z pc ls (.int y1 :: .int x :: st) σ cu su := by
  intro p e s m args below meth c H locs lsa C V S L
  exact lv_isub C.1 C.2.1 hd  (kk p e s m args below meth c H locs lsa C V S L)
theorem aw_imul {x y1 : Int32} (hd : decode y.2.1 pc = .ok (.imul, 1))  (kk : AW G y Z (pc + 1) ls (.int (x * y1) :: st) σ cu su) : AW G y Z pc ls (.int y1 :: .int x :: st) σ cu su := by
  intro p e s m args below meth c H locs lsa C V S L
  exact lv_imul C.1 C.2.1 hd  (kk p e s m args below meth c H locs lsa C V S L)
theorem aw_iand {x y1 : Int32} (hd : decode y.2.1 pc = .ok (.iand, 1))  (kk : AW G y Z (pc + 1) ls (.int (x &&& y1) :: st) σ cu su) : AW G y Z pc ls (.int y1 :: .int x :: st) σ cu su := by
  intro p e s m args below meth c H locs lsa C V S L
  exact lv_iand C.1 C.2.1 hd  (kk p e s m args below meth c H locs lsa C V S L)
theorem aw_ior {x y1 : Int32} (hd : decode y.2.1 pc = .ok (.ior, 1))  (kk : AW G y Z (pc + 1) ls (.int (x ||| y1) :: st) σ cu su) : AW G y Z pc ls (.int y1 :: .int x :: st) σ cu su := by
  intro p e s m args below meth c H locs lsa C V S L
  exact lv_ior C.1 C.2.1 hd  (kk p e s m args below meth c H locs lsa C V S L)
theorem aw_ishl {x y1 : Int32} (hd : decode y.2.1 pc = .ok (.ishl, 1))  (kk : AW G y Z (pc + 1) ls (.int (x <<< (y1 &&& 31)) :: st) σ cu su) : AW G y Z pc ls (.int y1 :: .int x :: st) σ cu su := by
  intro p e s m args below meth c H locs lsa C V S L
  exact lv_ishl C.1 C.2.1 hd  (kk p e s m args below meth c H locs lsa C V S L)
theorem aw_ishr {x y1 : Int32} (hd : decode y.2.1 pc = .ok (.ishr, 1))  (kk : AW G y Z (pc + 1) ls (.int (x >>> (y1 &&& 31)) :: st) σ cu su) : AW G y Z pc ls (.int y1 :: .int x :: st) σ cu su := by
  intro p e s m args below meth c H locs lsa C V S L
  exact lv_ishr C.1 C.2.1 hd  (kk p e s m args below meth c H locs lsa C V S L)
theorem aw_iushr {x y1 : Int32} (hd : decode y.2.1 pc = .ok (.iushr, 1))  (kk : AW G y Z (pc + 1) ls (.int ((x.toUInt32 >>> (y1.toUInt32 &&& Int32.toUInt32 31)).toInt32) :: st) σ cu su) : AW G y Z pc ls (.int y1 :: .int x :: st) σ cu su := by
  intro p e s m args below meth c H locs lsa C V S L
  exact lv_iushr C.1 C.2.1 hd rfl (kk p e s m args below meth c H locs lsa C V S L)
theorem aw_idiv {x y1 : Int32} (hd : decode y.2.1 pc = .ok (.idiv, 1)) (hne : ¬ y1 = 0) (kk : AW G y Z (pc + 1) ls (.int (x / y1) :: st) σ cu su) : AW G y Z pc ls (.int y1 :: .int x :: st) σ cu su := by
  intro p e s m args below meth c H locs lsa C V S L
  exact lv_idiv C.1 C.2.1 hd hne (kk p e s m args below meth c H locs lsa C V S L)
theorem aw_irem {x y1 : Int32} (hd : decode y.2.1 pc = .ok (.irem, 1)) (hne : ¬ y1 = 0) (kk : AW G y Z (pc + 1) ls (.int (x - x / y1 * y1) :: st) σ cu su) : AW G y Z pc ls (.int y1 :: .int x :: st) σ cu su := by
  intro p e s m args below meth c H locs lsa C V S L
  exact lv_irem C.1 C.2.1 hd hne (kk p e s m args below meth c H locs lsa C V S L)
theorem aw_ladd {x y1 : Int64} (hd : decode y.2.1 pc = .ok (.ladd, 1))  (kk : AW G y Z (pc + 1) ls (.long (x + y1) :: st) σ cu su) : AW G y Z pc ls (.long y1 :: .long x :: st) σ cu su := by
  intro p e s m args below meth c H locs lsa C V S L
  exact lv_ladd C.1 C.2.1 hd  (kk p e s m args below meth c H locs lsa C V S L)
theorem aw_lsub {x y1 : Int64} (hd : decode y.2.1 pc = .ok (.lsub, 1))  (kk : AW G y Z (pc + 1) ls (.long (x - y1) :: st) σ cu su) : AW G y Z pc ls (.long y1 :: .long x :: st) σ cu su := by
  intro p e s m args below meth c H locs lsa C V S L
  exact lv_lsub C.1 C.2.1 hd  (kk p e s m args below meth c H locs lsa C V S L)
theorem aw_lmul {x y1 : Int64} (hd : decode y.2.1 pc = .ok (.lmul, 1))  (kk : AW G y Z (pc + 1) ls (.long (x * y1) :: st) σ cu su) : AW G y Z pc ls (.long y1 :: .long x :: st) σ cu su := by
  intro p e s m args below meth c H locs lsa C V S L
  exact lv_lmul C.1 C.2.1 hd  (kk p e s m args below meth c H locs lsa C V S L)
theorem aw_lshl {x : Int64} {y1 : Int32} (hd : decode y.2.1 pc = .ok (.lshl, 1))  (kk : AW G y Z (pc + 1) ls (.long (x <<< (y1.toInt64 &&& 63)) :: st) σ cu su) : AW G y Z pc ls (.int y1 :: .long x :: st) σ cu su := by
  intro p e s m args below meth c H locs lsa C V S L
  exact lv_lshl C.1 C.2.1 hd rfl (kk p e s m args below meth c H locs lsa C V S L)
theorem aw_i2l {x : Int32} (hd : decode y.2.1 pc = .ok (.i2l, 1))  (kk : AW G y Z (pc + 1) ls (.long x.toInt64 :: st) σ cu su) : AW G y Z pc ls (.int x :: st) σ cu su := by
  intro p e s m args below meth c H locs lsa C V S L
  exact lv_i2l C.1 C.2.1 hd rfl (kk p e s m args below meth c H locs lsa C V S L)
theorem aw_i2d {x : Int32} (hd : decode y.2.1 pc = .ok (.i2d, 1))  (kk : AW G y Z (pc + 1) ls (.double (FP.i2d x) :: st) σ cu su) : AW G y Z pc ls (.int x :: st) σ cu su := by
  intro p e s m args below meth c H locs lsa C V S L
  exact lv_i2d C.1 C.2.1 hd  (kk p e s m args below meth c H locs lsa C V S L)
theorem aw_d2l {x : UInt64} (hd : decode y.2.1 pc = .ok (.d2l, 1))  (kk : AW G y Z (pc + 1) ls (.long (FP.d2l x) :: st) σ cu su) : AW G y Z pc ls (.double x :: st) σ cu su := by
  intro p e s m args below meth c H locs lsa C V S L
  exact lv_d2l C.1 C.2.1 hd  (kk p e s m args below meth c H locs lsa C V S L)
theorem aw_lcmp {x y1 : Int64} (hd : decode y.2.1 pc = .ok (.lcmp, 1))  (kk : AW G y Z (pc + 1) ls (.int (lg_cmp x y1) :: st) σ cu su) : AW G y Z pc ls (.long y1 :: .long x :: st) σ cu su := by
  intro p e s m args below meth c H locs lsa C V S L
  exact W.lcmp C.1 C.2.1 hd  (kk p e s m args below meth c H locs lsa C V S L)
theorem aw_dcmp {x y1 : UInt64} {op : CmpOp} (hd : decode y.2.1 pc = .ok (.dcmp op, 1))  (kk : AW G y Z (pc + 1) ls (.int (Op.cmpValue (FP.dcmp x y1) op) :: st) σ cu su) : AW G y Z pc ls (.double y1 :: .double x :: st) σ cu su := by
  intro p e s m args below meth c H locs lsa C V S L
  exact lv_dcmp C.1 C.2.1 hd  (kk p e s m args below meth c H locs lsa C V S L)
theorem aw_ddiv {x y1 : UInt64} (hd : decode y.2.1 pc = .ok (.ddiv, 1)) (hne : vf_n64 (FP.ddiv x y1)) (kk : AW G y Z (pc + 1) ls (.double (FP.ddiv x y1) :: st) σ cu su) : AW G y Z pc ls (.double y1 :: .double x :: st) σ cu su := by
  intro p e s m args below meth c H locs lsa C V S L
  exact lv_ddiv C.1 C.2.1 hd hne (kk p e s m args below meth c H locs lsa C V S L)
theorem aw_dmul {x y1 : UInt64} (hd : decode y.2.1 pc = .ok (.dmul, 1)) (hne : vf_n64 (FP.dmul x y1)) (kk : AW G y Z (pc + 1) ls (.double (FP.dmul x y1) :: st) σ cu su) : AW G y Z pc ls (.double y1 :: .double x :: st) σ cu su := by
  intro p e s m args below meth c H locs lsa C V S L
  exact lv_dmul C.1 C.2.1 hd hne (kk p e s m args below meth c H locs lsa C V S L)
theorem aw_dsub {x y1 : UInt64} (hd : decode y.2.1 pc = .ok (.dsub, 1)) (hne : vf_n64 (FP.dsub x y1)) (kk : AW G y Z (pc + 1) ls (.double (FP.dsub x y1) :: st) σ cu su) : AW G y Z pc ls (.double y1 :: .double x :: st) σ cu su := by
  intro p e s m args below meth c H locs lsa C V S L
  exact lv_dsub C.1 C.2.1 hd hne (kk p e s m args below meth c H locs lsa C V S L)
theorem aw_dup {va : Value} (hd : decode y.2.1 pc = .ok (.dup, 1)) (hva : va.category = 1) (kk : AW G y Z (pc + 1) ls (va :: va :: st) σ cu su) : AW G y Z pc ls (va :: st) σ cu su := by
  intro p e s m args below meth c H locs lsa C V S L
  exact lv_dup C.1 C.2.1 hd hva (kk p e s m args below meth c H locs lsa C V S L)
theorem aw_pop {va : Value} (hd : decode y.2.1 pc = .ok (.pop, 1)) (hva : va.category = 1) (kk : AW G y Z (pc + 1) ls (st) σ cu su) : AW G y Z pc ls (va :: st) σ cu su := by
  intro p e s m args below meth c H locs lsa C V S L
  exact lv_pop C.1 C.2.1 hd hva (kk p e s m args below meth c H locs lsa C V S L)
theorem aw_dup2 {va vb : Value} (hd : decode y.2.1 pc = .ok (.dup2, 1)) (hva : va.category = 1) (hvb : vb.category = 1) (kk : AW G y Z (pc + 1) ls (va :: vb :: va :: vb :: st) σ cu su) : AW G y Z pc ls (va :: vb :: st) σ cu su := by
  intro p e s m args below meth c H locs lsa C V S L
  exact lv_dup2_11 C.1 C.2.1 hd hva hvb (kk p e s m args below meth c H locs lsa C V S L)
theorem aw_ldc {i : Nat} {v : Int32} (hd : decode y.2.1 pc = .ok (.ldc i, 2)) (hc : Cond.constant y.1.cls i v ∈ gT) (kk : AW G y Z (pc + 2) ls (.int v :: st) σ cu su) : AW G y Z pc ls st σ cu su := by
  intro p e s m args below meth c H locs lsa C V S L
  exact lv_ldc C.1 C.2.1 C.2.2.2.2.2.2.1 (C.2.2.2.2.2.1 _ hc) hd (kk p e s m args below meth c H locs lsa C V S L)
theorem aw_ldcw {i : Nat} {v : Int32} (hd : decode y.2.1 pc = .ok (.ldc_w i, 3)) (hc : Cond.constant y.1.cls i v ∈ gT) (kk : AW G y Z (pc + 3) ls (.int v :: st) σ cu su) : AW G y Z pc ls st σ cu su := by
  intro p e s m args below meth c H locs lsa C V S L
  exact lv_ldcw C.1 C.2.1 C.2.2.2.2.2.2.1 (C.2.2.2.2.2.1 _ hc) hd (kk p e s m args below meth c H locs lsa C V S L)
theorem aw_ldc2 {i : Nat} {v : Int64} (hd : decode y.2.1 pc = .ok (.ldc2_w i, 3)) (hc : Cond.constantLong y.1.cls i v ∈ gT) (kk : AW G y Z (pc + 3) ls (.long v :: st) σ cu su) : AW G y Z pc ls st σ cu su := by
  intro p e s m args below meth c H locs lsa C V S L
  exact lv_ldc2 C.1 C.2.1 C.2.2.2.2.2.2.1 (C.2.2.2.2.2.1 _ hc) hd (kk p e s m args below meth c H locs lsa C V S L)
theorem aw_ldc2d {i : Nat} {v : UInt64} (hd : decode y.2.1 pc = .ok (.ldc2_w i, 3)) (hc : Cond.constantDouble y.1.cls i v ∈ gT) (kk : AW G y Z (pc + 3) ls (.double v :: st) σ cu su) : AW G y Z pc ls st σ cu su := by
  intro p e s m args below meth c H locs lsa C V S L
  exact lv_ldc2d C.1 C.2.1 C.2.2.2.2.2.2.1 (C.2.2.2.2.2.1 _ hc) hd (kk p e s m args below meth c H locs lsa C V S L)
theorem aw_if_eq {x : Int32} {off : Int} {tgt : Nat} (hd : decode y.2.1 pc = .ok (.ifCond .eq off, 3)) (ht : (pc : Int) + off = (tgt : Int)) (kt : x = 0 → AW G y Z tgt ls st σ cu su) (kf : ¬ x = 0 → AW G y Z (pc + 3) ls st σ cu su) : AW G y Z pc ls (.int x :: st) σ cu su := by
  intro p e s m args below meth c H locs lsa C V S L
  exact lv_if_eq C.1 C.2.1 hd ht (fun q => kt q p e s m args below meth c H locs lsa C V S L) (fun q => kf q p e s m args below meth c H locs lsa C V S L)
theorem aw_if_ne {x : Int32} {off : Int} {tgt : Nat} (hd : decode y.2.1 pc = .ok (.ifCond .ne off, 3)) (ht : (pc : Int) + off = (tgt : Int)) (kt : ¬ x = 0 → AW G y Z tgt ls st σ cu su) (kf : x = 0 → AW G y Z (pc + 3) ls st σ cu su) : AW G y Z pc ls (.int x :: st) σ cu su := by
  intro p e s m args below meth c H locs lsa C V S L
  exact lv_if_ne C.1 C.2.1 hd ht (fun q => kt q p e s m args below meth c H locs lsa C V S L) (fun q => kf q p e s m args below meth c H locs lsa C V S L)
theorem aw_if_lt {x : Int32} {off : Int} {tgt : Nat} (hd : decode y.2.1 pc = .ok (.ifCond .lt off, 3)) (ht : (pc : Int) + off = (tgt : Int)) (kt : x < 0 → AW G y Z tgt ls st σ cu su) (kf : ¬ x < 0 → AW G y Z (pc + 3) ls st σ cu su) : AW G y Z pc ls (.int x :: st) σ cu su := by
  intro p e s m args below meth c H locs lsa C V S L
  exact lv_if_lt C.1 C.2.1 hd ht (fun q => kt q p e s m args below meth c H locs lsa C V S L) (fun q => kf q p e s m args below meth c H locs lsa C V S L)
theorem aw_if_ge {x : Int32} {off : Int} {tgt : Nat} (hd : decode y.2.1 pc = .ok (.ifCond .ge off, 3)) (ht : (pc : Int) + off = (tgt : Int)) (kt : 0 ≤ x → AW G y Z tgt ls st σ cu su) (kf : ¬ 0 ≤ x → AW G y Z (pc + 3) ls st σ cu su) : AW G y Z pc ls (.int x :: st) σ cu su := by
  intro p e s m args below meth c H locs lsa C V S L
  exact lv_if_ge C.1 C.2.1 hd ht (fun q => kt q p e s m args below meth c H locs lsa C V S L) (fun q => kf q p e s m args below meth c H locs lsa C V S L)
theorem aw_if_gt {x : Int32} {off : Int} {tgt : Nat} (hd : decode y.2.1 pc = .ok (.ifCond .gt off, 3)) (ht : (pc : Int) + off = (tgt : Int)) (kt : 0 < x → AW G y Z tgt ls st σ cu su) (kf : ¬ 0 < x → AW G y Z (pc + 3) ls st σ cu su) : AW G y Z pc ls (.int x :: st) σ cu su := by
  intro p e s m args below meth c H locs lsa C V S L
  exact lv_if_gt C.1 C.2.1 hd ht (fun q => kt q p e s m args below meth c H locs lsa C V S L) (fun q => kf q p e s m args below meth c H locs lsa C V S L)
theorem aw_if_le {x : Int32} {off : Int} {tgt : Nat} (hd : decode y.2.1 pc = .ok (.ifCond .le off, 3)) (ht : (pc : Int) + off = (tgt : Int)) (kt : x ≤ 0 → AW G y Z tgt ls st σ cu su) (kf : ¬ x ≤ 0 → AW G y Z (pc + 3) ls st σ cu su) : AW G y Z pc ls (.int x :: st) σ cu su := by
  intro p e s m args below meth c H locs lsa C V S L
  exact lv_if_le C.1 C.2.1 hd ht (fun q => kt q p e s m args below meth c H locs lsa C V S L) (fun q => kf q p e s m args below meth c H locs lsa C V S L)
theorem aw_icmp_eq {x y1 : Int32} {off : Int} {tgt : Nat} (hd : decode y.2.1 pc = .ok (.if_icmp .eq off, 3)) (ht : (pc : Int) + off = (tgt : Int)) (kt : x = y1 → AW G y Z tgt ls st σ cu su) (kf : ¬ x = y1 → AW G y Z (pc + 3) ls st σ cu su) : AW G y Z pc ls (.int y1 :: .int x :: st) σ cu su := by
  intro p e s m args below meth c H locs lsa C V S L
  exact lv_icmp_eq C.1 C.2.1 hd ht (fun q => kt q p e s m args below meth c H locs lsa C V S L) (fun q => kf q p e s m args below meth c H locs lsa C V S L)
theorem aw_icmp_ne {x y1 : Int32} {off : Int} {tgt : Nat} (hd : decode y.2.1 pc = .ok (.if_icmp .ne off, 3)) (ht : (pc : Int) + off = (tgt : Int)) (kt : ¬ x = y1 → AW G y Z tgt ls st σ cu su) (kf : x = y1 → AW G y Z (pc + 3) ls st σ cu su) : AW G y Z pc ls (.int y1 :: .int x :: st) σ cu su := by
  intro p e s m args below meth c H locs lsa C V S L
  exact lv_icmp_ne C.1 C.2.1 hd ht (fun q => kt q p e s m args below meth c H locs lsa C V S L) (fun q => kf q p e s m args below meth c H locs lsa C V S L)
theorem aw_icmp_lt {x y1 : Int32} {off : Int} {tgt : Nat} (hd : decode y.2.1 pc = .ok (.if_icmp .lt off, 3)) (ht : (pc : Int) + off = (tgt : Int)) (kt : x < y1 → AW G y Z tgt ls st σ cu su) (kf : ¬ x < y1 → AW G y Z (pc + 3) ls st σ cu su) : AW G y Z pc ls (.int y1 :: .int x :: st) σ cu su := by
  intro p e s m args below meth c H locs lsa C V S L
  exact lv_icmp_lt C.1 C.2.1 hd ht (fun q => kt q p e s m args below meth c H locs lsa C V S L) (fun q => kf q p e s m args below meth c H locs lsa C V S L)
theorem aw_icmp_ge {x y1 : Int32} {off : Int} {tgt : Nat} (hd : decode y.2.1 pc = .ok (.if_icmp .ge off, 3)) (ht : (pc : Int) + off = (tgt : Int)) (kt : y1 ≤ x → AW G y Z tgt ls st σ cu su) (kf : ¬ y1 ≤ x → AW G y Z (pc + 3) ls st σ cu su) : AW G y Z pc ls (.int y1 :: .int x :: st) σ cu su := by
  intro p e s m args below meth c H locs lsa C V S L
  exact lv_icmp_ge C.1 C.2.1 hd ht (fun q => kt q p e s m args below meth c H locs lsa C V S L) (fun q => kf q p e s m args below meth c H locs lsa C V S L)
theorem aw_icmp_gt {x y1 : Int32} {off : Int} {tgt : Nat} (hd : decode y.2.1 pc = .ok (.if_icmp .gt off, 3)) (ht : (pc : Int) + off = (tgt : Int)) (kt : y1 < x → AW G y Z tgt ls st σ cu su) (kf : ¬ y1 < x → AW G y Z (pc + 3) ls st σ cu su) : AW G y Z pc ls (.int y1 :: .int x :: st) σ cu su := by
  intro p e s m args below meth c H locs lsa C V S L
  exact lv_icmp_gt C.1 C.2.1 hd ht (fun q => kt q p e s m args below meth c H locs lsa C V S L) (fun q => kf q p e s m args below meth c H locs lsa C V S L)
theorem aw_icmp_le {x y1 : Int32} {off : Int} {tgt : Nat} (hd : decode y.2.1 pc = .ok (.if_icmp .le off, 3)) (ht : (pc : Int) + off = (tgt : Int)) (kt : x ≤ y1 → AW G y Z tgt ls st σ cu su) (kf : ¬ x ≤ y1 → AW G y Z (pc + 3) ls st σ cu su) : AW G y Z pc ls (.int y1 :: .int x :: st) σ cu su := by
  intro p e s m args below meth c H locs lsa C V S L
  exact lv_icmp_le C.1 C.2.1 hd ht (fun q => kt q p e s m args below meth c H locs lsa C V S L) (fun q => kf q p e s m args below meth c H locs lsa C V S L)
theorem aw_goto {off : Int} {tgt : Nat} (hd : decode y.2.1 pc = .ok (.goto off, 3)) (ht : (pc : Int) + off = (tgt : Int)) (kk : AW G y Z tgt ls st σ cu su) : AW G y Z pc ls st σ cu su := by
  intro p e s m args below meth c H locs lsa C V S L
  exact lv_goto C.1 C.2.1 hd ht (kk p e s m args below meth c H locs lsa C V S L)
theorem aw_tableIn {dflt lo hi : Int} {offs : Array Int} {len : Nat} {x : Int32} {off : Int} {tgt : Nat} (hd : decode y.2.1 pc = .ok (.tableswitch dflt lo hi offs, len)) (h1 : ¬ x.toInt < lo) (h2 : ¬ hi < x.toInt) (ho : offs[(x.toInt - lo).toNat]? = some off) (ht : (pc : Int) + off = (tgt : Int)) (kk : AW G y Z tgt ls st σ cu su) : AW G y Z pc ls (.int x :: st) σ cu su := by
  intro p e s m args below meth c H locs lsa C V S L
  exact lv_tableIn C.1 C.2.1 hd h1 h2 ho ht (kk p e s m args below meth c H locs lsa C V S L)
theorem aw_tableOut {dflt lo hi : Int} {offs : Array Int} {len : Nat} {x : Int32} {tgt : Nat} (hd : decode y.2.1 pc = .ok (.tableswitch dflt lo hi offs, len)) (h : x.toInt < lo ∨ hi < x.toInt) (ht : (pc : Int) + dflt = (tgt : Int)) (kk : AW G y Z tgt ls st σ cu su) : AW G y Z pc ls (.int x :: st) σ cu su := by
  intro p e s m args below meth c H locs lsa C V S L
  exact lv_tableOut C.1 C.2.1 hd h ht (kk p e s m args below meth c H locs lsa C V S L)
theorem aw_top {x x' : Int32} (h : x = x') (kk : AW G y Z pc ls (.int x' :: st) σ cu su) : AW G y Z pc ls (.int x :: st) σ cu su := by subst h; exact kk
theorem aw_topl {x x' : Int64} (h : x = x') (kk : AW G y Z pc ls (.long x' :: st) σ cu su) : AW G y Z pc ls (.long x :: st) σ cu su := by subst h; exact kk
theorem aw_mem {σ' : Sg} (h : σ = σ') (kk : AW G y Z pc ls st σ' cu su) : AW G y Z pc ls st σ cu su := by subst h; exact kk
/-- fewer locals known -/
theorem aw_sub (h : ∀ q ∈ ls', q ∈ ls) (kk : AW G y Z pc ls' st σ cu su) : AW G y Z pc ls st σ cu su := by
  intro p e s m args below meth c H locs lsa C V S L
  exact kk p e s m args below meth c H locs lsa C V S ⟨L.1, L.2.1, fun q hq => L.2.2 q (h q hq)⟩
/-- more room taken -/
theorem aw_widen {cu' su' : Nat} (h1 : cu ≤ cu') (h2 : su ≤ su') (kk : AW G y Z pc ls st σ cu' su') : AW G y Z pc ls st σ cu su := by
  intro p e s m args below meth c H locs lsa C V S L
  exact W.widen h1 h2 (kk p e s m args below meth c H locs lsa C V S L)
end ROWS
end
section
/-! THE ROWS ON THE MEMORY -/
section MEM
variable {G : GG} {y : YY} {Z : ZT} {pc : Nat} {ls ls' : List (Nat × Value)} {st : List Value} {σ : Sg} {K : Nat → Option (Nat × Nat)} {R : Nat → Nat → Value} {I : Nat → Nat → Int32} {J : Nat → Nat → Int64} {z cu su : Nat}
theorem vce_obj {D : va_G} {s : State} {c n a : Nat} {V : Nat → Value} {H : Heap} (h : vce D s (c, n) a V H) (hc : c < 10) : ∃ r : vw_C, vwCl[c]? = some r ∧ n = r.2.2 ∧ t_OB a (D.1 c) r.2.2 (D.2 c) H V := by
  rcases h with ⟨-, h⟩ | ⟨h0, -⟩
  · exact h
  · exact absurd h0 (by show ¬ 10 ≤ c; omega)
theorem vce_arr {D : va_G} {s : State} {t n a : Nat} {V : Nat → Value} {H : Heap} (h : vce D s (t, n) a V H) (ht : 10 ≤ t) : ∃ (cA : ClassId) (cell : Cell), H[a]? = some cell ∧ AR cell cA n V ∧ ArrOfT s cA (aty t) ∧ (12 ≤ t → va_RA s cA (aty t)) := by
  rcases h with ⟨h0, -⟩ | ⟨-, h⟩
  · exact absurd h0 (by show ¬ t < 10; omega)
  · exact h
theorem FL_lt {own : String} {idx c j : Nat} (h : FL own idx c j) : c < 10 := by
  obtain ⟨r, h1, -⟩ := h
  have := (List.getElem?_eq_some_iff.mp h1).1
  simp [vwCl] at this
  omega
/-- getfield -/
theorem aw_get {idx c n o j : Nat} {v : Value} (hd : decode y.2.1 pc = .ok (.getfield idx, 3)) (hf : FL y.1.cls idx c j) (hk : σ.1 o = some (c, n)) (hv : cV σ o (c, n) j = v) (kk : AW G y Z (pc + 3) ls (v :: st) σ cu su) : AW G y Z pc ls (.ref (G.1 o) :: st) σ cu su := by
  intro p e s m args below meth c0 H locs lsa C V S L
  obtain ⟨r, hr, hj, hl⟩ := hf
  obtain ⟨r', hr', hn, hob⟩ := vce_obj (V.1 o _ hk) (FL_lt ⟨r, hr, hj, hl⟩)
  cases Option.some.inj (hr.symm.trans hr')
  subst hv
  obtain ⟨hx, hb, hml, hret, hlk, hts, hown, hE, hnm, htb⟩ := id C
  have hP : va_P G.2.1 vwCl [(G.1 o, .inr (c, (List.range r.2.2).map (cV σ o (c, n))))] H := by
    intro k q hq
    match k, hq with
    | 0, hq =>
      cases hq
      exact ⟨r, hr, hob.to fun k hk => by simp [vp_V, hk]⟩
    | k + 1, hq => simp at hq
  exact va_get hx hb hts (cl_in c r hr) hown hE.2.1 hP 0 rfl hr j hj (hts _ hl) (fun _ h => h) (v := cV σ o (c, n) j) (by simp [hj]) hd (kk p e s m args below meth c0 H locs lsa C V S L)
/-- the ints' fields -/
theorem aw_getI {idx c n o j : Nat} {x : Int32} (hd : decode y.2.1 pc = .ok (.getfield idx, 3)) (hf : FL y.1.cls idx c j) (hfk : fk c j = 0) (hk : K o = some (c, n)) (hv : I o j = x) (kk : AW G y Z (pc + 3) ls (.int x :: st) (K, R, I, J, z) cu su) : AW G y Z pc ls (.ref (G.1 o) :: st) (K, R, I, J, z) cu su :=
  aw_get hd hf hk (by show sv (fk c j) _ _ _ = _; rw [hfk]; exact congrArg Value.int hv) kk
theorem aw_getJ {idx c n o j : Nat} {x : Int64} (hd : decode y.2.1 pc = .ok (.getfield idx, 3)) (hf : FL y.1.cls idx c j) (hfk : fk c j = 1) (hk : K o = some (c, n)) (hv : J o j = x) (kk : AW G y Z (pc + 3) ls (.long x :: st) (K, R, I, J, z) cu su) : AW G y Z pc ls (.ref (G.1 o) :: st) (K, R, I, J, z) cu su :=
  aw_get hd hf hk (by show sv (fk c j) _ _ _ = _; rw [hfk]; exact congrArg Value.long hv) kk
theorem aw_getR {idx c n o j : Nat} {v : Value} (hd : decode y.2.1 pc = .ok (.getfield idx, 3)) (hf : FL y.1.cls idx c j) (hfk : fk c j = 2) (hk : K o = some (c, n)) (hv : R o j = v) (kk : AW G y Z (pc + 3) ls (v :: st) (K, R, I, J, z) cu su) : AW G y Z pc ls (.ref (G.1 o) :: st) (K, R, I, J, z) cu su :=
  aw_get hd hf hk (by show sv (fk c j) _ _ _ = _; rw [hfk]; exact hv) kk
/-- putfield, the field not final -/
theorem aw_put {idx c n o j : Nat} {v : Value} {σ' : Sg} (hd : decode y.2.1 pc = .ok (.putfield idx, 3)) (hf : FL y.1.cls idx c j) (hfin : ∀ r, vwCl[c]? = some r → (r.2.1 j).2.2.2 = false) (hk : σ.1 o = some (c, n)) (ho : o < 1000) (hn : narrow (fty c j) v = v) (hfit : fits (fty c j) v = true)
    (hK : σ'.1 = σ.1) (hz : σ'.2.2.2.2 = σ.2.2.2.2) (hne : ∀ (q : Nat) (kq : Nat × Nat), q ≠ o → cV σ' q kq = cV σ q kq) (hu : ∀ k, cV σ' o (c, n) k = updV (cV σ o (c, n)) j v k) (kk : AW G y Z (pc + 3) ls st σ' cu su) : AW G y Z pc ls (v :: .ref (G.1 o) :: st) σ cu su := by
  intro p e s m args below meth c0 H locs lsa C V S L
  obtain ⟨r, hr, hj, hl⟩ := hf
  have hc10 := FL_lt ⟨r, hr, hj, hl⟩
  obtain ⟨r', hr', hnn, hob⟩ := vce_obj (V.1 o _ hk) hc10
  cases Option.some.inj (hr.symm.trans hr')
  obtain ⟨hx, hb, hml, hret, hlk, hts, hown, hE, hnm, htb⟩ := id C
  have hin := cl_in c r hr
  have hap := va_apart (own := y.1.cls) hts hin (fty c) (cl_ty hr) (cl_nm hr) hE.2.1 hr
  obtain ⟨cell, q1, q2, q3, q4⟩ := hob
  obtain ⟨hS, hfc, kC, hkC, hkind⟩ := hE.2.1.1 c _ hr
  obtain ⟨cf, kf, fi, f, hi, hsl⟩ := hS j hj
  have hlay := hts _ (hin _ (u_in_lay hj))
  unfold u_lay at hlay
  rw [if_neg (by rw [hfin r hr]; decide)] at hlay
  have hst := (u_facts hfc hkC (u_lays hts hin hj) hi).1
  have h6 := u_store hfc hkC hkind hlay hi (cl_ty hr j hj) hn hfit
  refine W.putK hx hb (f := f) ⟨hown, hts _ hl, ⟨_, _, _, hi⟩, hst⟩ (by rw [q2]; exact h6) q1 q3 (by rw [hsl]; exact k2_hasslot (q4 j hj)) rfl rfl hd fun H' e1 e2 e3 => ?_
  rw [hsl] at e1 ⊢
  refine kk p e s m args below meth c0 H' _ lsa C ?_ (S.put e2 e3 (Aof_new hE.1 ho)) L
  refine WD_upd hE.1 ho V hK hz hk hne (Or.inl ⟨hc10, r, hr, hnn, ?_⟩) e2 e3
  exact t_OB.to (V := updV (cV σ o (c, n)) j v) ⟨_, e1, q2, q3, t_set q4 hap hj v⟩ (fun k _ => (hu k).symm)
/-- putfield, the field final, in its constructor -/
theorem aw_putFin {idx c n o j : Nat} {v : Value} {σ' : Sg} (hd : decode y.2.1 pc = .ok (.putfield idx, 3)) (hf : FL y.1.cls idx c j) (hfin : ∀ r, vwCl[c]? = some r → (r.2.1 j).2.2.2 = true ∧ (r.2.1 j).1 = y.1.cls) (hinit : y.1.name = "<init>") (hk : σ.1 o = some (c, n)) (ho : o < 1000) (hn : narrow (fty c j) v = v) (hfit : fits (fty c j) v = true)
    (hK : σ'.1 = σ.1) (hz : σ'.2.2.2.2 = σ.2.2.2.2) (hne : ∀ (q : Nat) (kq : Nat × Nat), q ≠ o → cV σ' q kq = cV σ q kq) (hu : ∀ k, cV σ' o (c, n) k = updV (cV σ o (c, n)) j v k) (kk : AW G y Z (pc + 3) ls st σ' cu su) : AW G y Z pc ls (v :: .ref (G.1 o) :: st) σ cu su := by
  intro p e s m args below meth c0 H locs lsa C V S L
  obtain ⟨r, hr, hj, hl⟩ := hf
  have hc10 := FL_lt ⟨r, hr, hj, hl⟩
  obtain ⟨r', hr', hnn, hob⟩ := vce_obj (V.1 o _ hk) hc10
  cases Option.some.inj (hr.symm.trans hr')
  obtain ⟨hx, hb, hml, hret, hlk, hts, hown, hE, hnm, htb⟩ := id C
  have hin := cl_in c r hr
  have hap := va_apart (own := y.1.cls) hts hin (fty c) (cl_ty hr) (cl_nm hr) hE.2.1 hr
  obtain ⟨cell, q1, q2, q3, q4⟩ := hob
  obtain ⟨hS, hfc, kC, hkC, hkind⟩ := hE.2.1.1 c _ hr
  obtain ⟨cf, kf, fi, f, hi, hsl⟩ := hS j hj
  have hlay := hts _ (hin _ (u_in_lay hj))
  unfold u_lay at hlay
  rw [if_pos (hfin r hr).1] at hlay
  have hst := (u_facts hfc hkC (u_lays hts hin hj) hi).1
  have hcf : m.cls = cf := by
    obtain ⟨_, _, c', _, _, _, -, -, hf', -, -, -, hown2, -⟩ := Cond.laysFinal_spec hlay
    have e1 : c' = cf := by have := hi.symm.trans hf'; simp at this; exact this.1.symm
    rw [(hfin r hr).2] at hown2
    rw [← e1]; exact Option.some.inj (hown.symm.trans hown2)
  have h6 := u_fits hfc hkC hkind (Or.inr hlay) hi (cl_ty hr j hj) hn hfit
  refine W.putFinK hx hb hown (hts _ hl) hi hst hcf (hnm.trans hinit) (by rw [q2]; exact h6) q1 q3 (by rw [hsl]; exact k2_hasslot (q4 j hj)) rfl rfl hd fun H' e1 e2 e3 => ?_
  rw [hsl] at e1 ⊢
  refine kk p e s m args below meth c0 H' _ lsa C ?_ (S.put e2 e3 (Aof_new hE.1 ho)) L
  refine WD_upd hE.1 ho V hK hz hk hne (Or.inl ⟨hc10, r, hr, hnn, ?_⟩) e2 e3
  exact t_OB.to (V := updV (cV σ o (c, n)) j v) ⟨_, e1, q2, q3, t_set q4 hap hj v⟩ (fun k _ => (hu k).symm)
theorem cV_up2_ne {q o j : Nat} {x : Int32} (h : q ≠ o) (kq : Nat × Nat) : cV (K, R, up2 I o j x, J, z) q kq = cV (K, R, I, J, z) q kq := by
  funext k; simp [cV, up2, h]
theorem cV_upJ_ne {q o j : Nat} {x : Int64} (h : q ≠ o) (kq : Nat × Nat) : cV (K, R, I, upJ J o j x, z) q kq = cV (K, R, I, J, z) q kq := by
  funext k; simp [cV, upJ, h]
theorem cV_upR_ne {q o j : Nat} {x : Value} (h : q ≠ o) (kq : Nat × Nat) : cV (K, upR R o j x, I, J, z) q kq = cV (K, R, I, J, z) q kq := by
  funext k; simp [cV, upR, h]
theorem cV_up2 {o j : Nat} {x : Int32} {kd : Nat × Nat} (h : fk kd.1 j = 0) (k : Nat) : cV (K, R, up2 I o j x, J, z) o kd k = updV (cV (K, R, I, J, z) o kd) j (.int x) k := by
  by_cases e : k = j
  · subst e; simp [cV, up2, updV, h, sv]
  · simp [cV, up2, updV, e]
theorem cV_upJ {o j : Nat} {x : Int64} {kd : Nat × Nat} (h : fk kd.1 j = 1) (k : Nat) : cV (K, R, I, upJ J o j x, z) o kd k = updV (cV (K, R, I, J, z) o kd) j (.long x) k := by
  by_cases e : k = j
  · subst e; simp [cV, upJ, updV, h, sv]
  · simp [cV, upJ, updV, e]
theorem cV_upR {o j : Nat} {x : Value} {kd : Nat × Nat} (h : fk kd.1 j = 2) (k : Nat) : cV (K, upR R o j x, I, J, z) o kd k = updV (cV (K, R, I, J, z) o kd) j x k := by
  by_cases e : k = j
  · subst e; simp [cV, upR, updV, h, sv]
  · simp [cV, upR, updV, e]
theorem aw_putI {idx c n o j : Nat} {x : Int32} (hd : decode y.2.1 pc = .ok (.putfield idx, 3)) (hf : FL y.1.cls idx c j) (hfk : fk c j = 0) (hfin : ∀ r, vwCl[c]? = some r → (r.2.1 j).2.2.2 = false) (hk : K o = some (c, n)) (ho : o < 1000) (hn : narrow (fty c j) (.int x) = .int x) (hfit : fits (fty c j) (.int x) = true)
    (kk : AW G y Z (pc + 3) ls st (K, R, up2 I o j x, J, z) cu su) : AW G y Z pc ls (.int x :: .ref (G.1 o) :: st) (K, R, I, J, z) cu su :=
  aw_put (σ := (K, R, I, J, z)) (σ' := (K, R, up2 I o j x, J, z)) hd hf hfin hk ho hn hfit rfl rfl (fun q kq h => cV_up2_ne h kq) (cV_up2 (kd := (c, n)) hfk) kk
theorem aw_putJ {idx c n o j : Nat} {x : Int64} (hd : decode y.2.1 pc = .ok (.putfield idx, 3)) (hf : FL y.1.cls idx c j) (hfk : fk c j = 1) (hfin : ∀ r, vwCl[c]? = some r → (r.2.1 j).2.2.2 = false) (hk : K o = some (c, n)) (ho : o < 1000) (hn : narrow (fty c j) (.long x) = .long x) (hfit : fits (fty c j) (.long x) = true)
    (kk : AW G y Z (pc + 3) ls st (K, R, I, upJ J o j x, z) cu su) : AW G y Z pc ls (.long x :: .ref (G.1 o) :: st) (K, R, I, J, z) cu su :=
  aw_put (σ := (K, R, I, J, z)) (σ' := (K, R, I, upJ J o j x, z)) hd hf hfin hk ho hn hfit rfl rfl (fun q kq h => cV_upJ_ne h kq) (cV_upJ (kd := (c, n)) hfk) kk
theorem aw_putR {idx c n o j : Nat} {v : Value} (hd : decode y.2.1 pc = .ok (.putfield idx, 3)) (hf : FL y.1.cls idx c j) (hfk : fk c j = 2) (hfin : ∀ r, vwCl[c]? = some r → (r.2.1 j).2.2.2 = true ∧ (r.2.1 j).1 = y.1.cls) (hinit : y.1.name = "<init>") (hk : K o = some (c, n)) (ho : o < 1000) (hn : narrow (fty c j) v = v) (hfit : fits (fty c j) v = true)
    (kk : AW G y Z (pc + 3) ls st (K, upR R o j v, I, J, z) cu su) : AW G y Z pc ls (v :: .ref (G.1 o) :: st) (K, R, I, J, z) cu su :=
  aw_putFin (σ := (K, R, I, J, z)) (σ' := (K, upR R o j v, I, J, z)) hd hf hfin hinit hk ho hn hfit rfl rfl (fun q kq h => cV_upR_ne h kq) (cV_upR (kd := (c, n)) hfk) kk
/-! arrays -/
theorem ix_in {x : Int32} {i n : Nat} (hi : x = nI i) (h : i < n) (hn : n < 2 ^ 31) : ¬ (x < 0 ∨ n ≤ x.toNatClampNeg) := by
  subst hi; exact nI_in h hn
theorem ix_cl {x : Int32} {i n : Nat} (hi : x = nI i) (h : i < n) (hn : n < 2 ^ 31) : x.toNatClampNeg = i := by
  subst hi; exact nI_clamp (Nat.lt_trans h hn)
theorem ix_in' {x : Int32} {i n m : Nat} (h0 : n ≤ m) (hi : x = nI i) (h : i < n) (hn : n < 2 ^ 31) : ¬ (x < 0 ∨ m ≤ x.toNatClampNeg) := fun q => ix_in hi h hn (q.elim Or.inl (fun w => Or.inr (Nat.le_trans h0 w)))
theorem aw_iald {o n i : Nat} {x v : Int32} (hd : decode y.2.1 pc = .ok (.iaload, 1)) (hk : K o = some (10, n)) (hn : n < 2 ^ 31) (hi : x = nI i) (hlt : i < n) (hv : I o i = v) (kk : AW G y Z (pc + 1) ls (.int v :: st) (K, R, I, J, z) cu su) : AW G y Z pc ls (.int x :: .ref (G.1 o) :: st) (K, R, I, J, z) cu su := by
  intro p e s m args below meth c H locs lsa C V S L
  obtain ⟨cA, cell, h1, ha, h2, h3⟩ := vce_arr (V.1 o _ hk) (Nat.le_refl 10)
  exact W.iald (v := .int v) C.1 C.2.1 h1 (ha.arr h2) ha.2.2.1 (ix_in' ha.2.1.1 hi hlt hn) (by rw [ix_cl hi hlt hn, ha.read hlt]; exact congrArg some (congrArg Value.int hv)) rfl rfl hd (kk p e s m args below meth c H locs lsa C V S L)
theorem aw_lald {o n i : Nat} {x : Int32} {v : Int64} (hd : decode y.2.1 pc = .ok (.laload, 1)) (hk : K o = some (11, n)) (hn : n < 2 ^ 31) (hi : x = nI i) (hlt : i < n) (hv : J o i = v) (kk : AW G y Z (pc + 1) ls (.long v :: st) (K, R, I, J, z) cu su) : AW G y Z pc ls (.int x :: .ref (G.1 o) :: st) (K, R, I, J, z) cu su := by
  intro p e s m args below meth c H locs lsa C V S L
  obtain ⟨cA, cell, h1, ha, h2, h3⟩ := vce_arr (V.1 o _ hk) (by decide)
  exact W.lald (v := .long v) C.1 C.2.1 h1 (ha.arr h2) ha.2.2.1 (ix_in' ha.2.1.1 hi hlt hn) (by rw [ix_cl hi hlt hn, ha.read hlt]; exact congrArg some (congrArg Value.long hv)) rfl rfl hd (kk p e s m args below meth c H locs lsa C V S L)
theorem aty_ref {t : Nat} (ht : 12 ≤ t) : (aty t).isReference = true ∧ ∀ j, fk t j = 2 ∨ 15 ≤ t := by
  refine ⟨?_, fun j => ?_⟩
  · match t, ht with
    | 12, _ => rfl
    | 13, _ => rfl
    | t + 14, _ => rfl
  · by_cases h : 15 ≤ t
    · exact Or.inr h
    · rcases (show t = 12 ∨ t = 13 ∨ t = 14 by omega) with rfl | rfl | rfl <;> exact Or.inl rfl
theorem aw_aald {o t n i : Nat} {x : Int32} {v : Value} (hd : decode y.2.1 pc = .ok (.aaload, 1)) (hk : K o = some (t, n)) (ht : 12 ≤ t ∧ t < 15) (hn : n < 2 ^ 31) (hi : x = nI i) (hlt : i < n) (hv : R o i = v) (kk : AW G y Z (pc + 1) ls (v :: st) (K, R, I, J, z) cu su) : AW G y Z pc ls (.int x :: .ref (G.1 o) :: st) (K, R, I, J, z) cu su := by
  intro p e s m args below meth c H locs lsa C V S L
  obtain ⟨cA, cell, h1, ha, h2, h3⟩ := vce_arr (V.1 o _ hk) (by omega)
  have hfk : fk t i = 2 := by rcases (aty_ref ht.1).2 i with h | h <;> first | exact h | omega
  exact W.aald (v := v) C.1 C.2.1 h1 (ha.arr h2) (aty_ref ht.1).1 ha.2.2.1 (ix_in' ha.2.1.1 hi hlt hn) (by rw [ix_cl hi hlt hn, ha.read hlt]; show some (sv (fk t i) _ _ _) = _; rw [hfk]; exact congrArg some hv) rfl rfl hd (kk p e s m args below meth c H locs lsa C V S L)
theorem aw_alen {o t n : Nat} (hd : decode y.2.1 pc = .ok (.arraylength, 1)) (hk : σ.1 o = some (t, n)) (ht : 10 ≤ t) (kk : AW G y Z (pc + 1) ls (.int (nI n) :: st) σ cu su) : AW G y Z pc ls (.ref (G.1 o) :: st) σ cu su := by
  intro p e s m args below meth c H locs lsa C V S L
  obtain ⟨cA, cell, h1, ha, h2, h3⟩ := vce_arr (V.1 o _ hk) ht
  exact W.alen (n := nI n) C.1 C.2.1 h1 (ha.arr h2) ha.2.1.2.1 rfl rfl hd (kk p e s m args below meth c H locs lsa C V S L)
theorem aw_iast {o n i : Nat} {x v : Int32} (hd : decode y.2.1 pc = .ok (.iastore, 1)) (hk : K o = some (10, n)) (ho : o < 1000) (hn : n < 2 ^ 31) (hi : x = nI i) (hlt : i < n) (kk : AW G y Z (pc + 1) ls st (K, R, up2 I o i v, J, z) cu su) : AW G y Z pc ls (.int v :: .int x :: .ref (G.1 o) :: st) (K, R, I, J, z) cu su := by
  intro p e s m args below meth c H locs lsa C V S L
  obtain ⟨cA, cell, h1, ha, h2, h3⟩ := vce_arr (V.1 o _ hk) (Nat.le_refl 10)
  have hE := C.2.2.2.2.2.2.2.1
  refine W.iast C.1 C.2.1 h1 (ha.arr h2) ha.2.2.1 (ix_in' ha.2.1.1 hi hlt hn) rfl rfl hd fun H' e1 e2 e3 => ?_
  refine kk p e s m args below meth c H' _ lsa C ?_ (S.put e2 e3 (Aof_new hE.1 ho)) L
  refine WD_upd hE.1 ho V rfl rfl hk (fun q kq h => cV_up2_ne h kq) (Or.inr ⟨Nat.le_refl 10, cA, _, e1, by rw [ix_cl hi hlt hn]; exact ha.put (fun k => cV_up2 (kd := (10, n)) rfl k), h2, h3⟩) e2 e3
theorem aw_last {o n i : Nat} {x : Int32} {v : Int64} (hd : decode y.2.1 pc = .ok (.lastore, 1)) (hk : K o = some (11, n)) (ho : o < 1000) (hn : n < 2 ^ 31) (hi : x = nI i) (hlt : i < n) (kk : AW G y Z (pc + 1) ls st (K, R, I, upJ J o i v, z) cu su) : AW G y Z pc ls (.long v :: .int x :: .ref (G.1 o) :: st) (K, R, I, J, z) cu su := by
  intro p e s m args below meth c H locs lsa C V S L
  obtain ⟨cA, cell, h1, ha, h2, h3⟩ := vce_arr (V.1 o _ hk) (by decide)
  have hE := C.2.2.2.2.2.2.2.1
  refine W.last C.1 C.2.1 h1 (ha.arr h2) ha.2.2.1 (ix_in' ha.2.1.1 hi hlt hn) rfl rfl hd fun H' e1 e2 e3 => ?_
  refine kk p e s m args below meth c H' _ lsa C ?_ (S.put e2 e3 (Aof_new hE.1 ho)) L
  refine WD_upd hE.1 ho V rfl rfl hk (fun q kq h => cV_upJ_ne h kq) (Or.inr ⟨show 10 ≤ 11 by decide, cA, _, e1, by rw [ix_cl hi hlt hn]; exact ha.put (fun k => cV_upJ (kd := (11, n)) rfl k), h2, h3⟩) e2 e3
/-- a static array, by its number -/
def stF : Nat → String
  | 1001 => "AT_FIRST"
  | 1002 => "LEAST"
  | _ => "MOST"
theorem EN_stat {s : State} {H : Heap} (h : EN G s H) {a : Nat} (ha : a = 1001 ∨ a = 1002 ∨ a = 1003) : va_Z RX3 (stF a) "[I" (.ref (G.1 a)) (Aof G) s H := by
  rcases ha with rfl | rfl | rfl
  · exact h.2.2.2.2.2.1
  · exact h.2.2.2.2.2.2.1
  · exact h.2.2.2.2.2.2.2.1
theorem aw_gets {idx a : Nat} (hd : decode y.2.1 pc = .ok (.getstatic idx, 3)) (ha : a = 1001 ∨ a = 1002 ∨ a = 1003) (hl : Cond.fieldLink y.1.cls idx RX3 (stF a) "[I" ∈ gT) (kk : AW G y Z (pc + 3) ls (.ref (G.1 a) :: st) σ cu su) : AW G y Z pc ls st σ cu su := by
  intro p e s m args below meth c H locs lsa C V S L
  obtain ⟨hx, hb, hml, hret, hlk, hts, hown, hE, hnm, htb⟩ := id C
  exact va_gets hx hb (EN_stat hE ha) S hown (hts _ hl) (fun _ h => h) hd (kk p e s m args below meth c H locs lsa C V S L)
/-- another class's static array (State reads BreakerTrials' AT_FIRST) -/
theorem aw_getsN (hd : decode y.2.1 pc = .ok (.getstatic 27, 3)) (hy : y.1.cls = RX1) (kk : AW G y Z (pc + 3) ls (.ref (G.1 1001) :: st) σ cu su) : AW G y Z pc ls st σ cu su := by
  intro p e s m args below meth c H locs lsa C V S L
  obtain ⟨hx, hb, hml, hret, hlk, hts, hown, hE, hnm, htb⟩ := id C
  rw [hy] at hown
  exact va_getsN hx hb (EN_stat hE (a := 1001) (Or.inl rfl)) S hown (va_Nw.use rfl hE.2.2.2.2.2.2.2.2.2.1) (fun _ h => h) hd (kk p e s m args below meth c H locs lsa C V S L)
end MEM
end
section
/-! CALLS, ENDS, THROWS -/
section CALLS
variable {G : GG} {y : YY} {Z : ZT} {Q : RT → Sg → Prop} {pc : Nat} {ls ls' : List (Nat × Value)} {st rest : List Value} {σ : Sg} {K : Nat → Option (Nat × Nat)} {R : Nat → Nat → Value} {I : Nat → Nat → Int32} {J : Nat → Nat → Int64} {z cu su : Nat}
theorem aw_iret {x : Int32} (hd : decode y.2.1 pc = .ok (.ireturn, 1)) (hr : y.2.2.2.1 = some .int) (h1 : cu ≤ y.2.2.2.2.1.cells) (h2 : su ≤ y.2.2.2.2.1.slots) (hq : Q (.inl (some (.int x))) σ) : AW G y (MZ G y Q) pc ls [.int x] σ cu su := by
  intro p e s m args below meth c H locs lsa C V S L
  have hlocks := C.2.2.2.2.1
  refine W.widen h1 h2 (vx_ret ?_)
  exact W.iret C.1 C.2.1 (C.2.2.2.1.trans hr) (fun t ht hW => ⟨⟨_, σ, rfl, hq, by rw [ht]; exact WD_moved hW.alike V⟩, S.F ht⟩) S.2.2 hd
theorem aw_zret {x : Int32} (hd : decode y.2.1 pc = .ok (.ireturn, 1)) (hr : y.2.2.2.1 = some .boolean) (hn : narrow .boolean (.int x) = .int x) (h1 : cu ≤ y.2.2.2.2.1.cells) (h2 : su ≤ y.2.2.2.2.1.slots) (hq : Q (.inl (some (.int x))) σ) : AW G y (MZ G y Q) pc ls [.int x] σ cu su := by
  intro p e s m args below meth c H locs lsa C V S L
  have hlocks := C.2.2.2.2.1
  refine W.widen h1 h2 (vx_ret ?_)
  exact W.zret C.1 C.2.1 (C.2.2.2.1.trans hr) hn (fun t ht hW => ⟨⟨_, σ, rfl, hq, by rw [ht]; exact WD_moved hW.alike V⟩, S.F ht⟩) S.2.2 hd
theorem aw_lret {x : Int64} (hd : decode y.2.1 pc = .ok (.lreturn, 1)) (hr : y.2.2.2.1 = some .long) (h1 : cu ≤ y.2.2.2.2.1.cells) (h2 : su ≤ y.2.2.2.2.1.slots) (hq : Q (.inl (some (.long x))) σ) : AW G y (MZ G y Q) pc ls [.long x] σ cu su := by
  intro p e s m args below meth c H locs lsa C V S L
  have hlocks := C.2.2.2.2.1
  refine W.widen h1 h2 (vx_ret ?_)
  exact W.lret C.1 C.2.1 (C.2.2.2.1.trans hr) (fun t ht hW => ⟨⟨_, σ, rfl, hq, by rw [ht]; exact WD_moved hW.alike V⟩, S.F ht⟩) S.2.2 hd
theorem aw_dret {x : UInt64} (hd : decode y.2.1 pc = .ok (.dreturn, 1)) (hr : y.2.2.2.1 = some .double) (h1 : cu ≤ y.2.2.2.2.1.cells) (h2 : su ≤ y.2.2.2.2.1.slots) (hq : Q (.inl (some (.double x))) σ) : AW G y (MZ G y Q) pc ls [.double x] σ cu su := by
  intro p e s m args below meth c H locs lsa C V S L
  have hlocks := C.2.2.2.2.1
  refine W.widen h1 h2 (vx_ret ?_)
  exact W.dret C.1 C.2.1 (C.2.2.2.1.trans hr) (fun t ht hW => ⟨⟨_, σ, rfl, hq, by rw [ht]; exact WD_moved hW.alike V⟩, S.F ht⟩) S.2.2 hd
theorem aw_vret (hd : decode y.2.1 pc = .ok (.return_, 1)) (hr : y.2.2.2.1 = none) (h1 : cu ≤ y.2.2.2.2.1.cells) (h2 : su ≤ y.2.2.2.2.1.slots) (hq : Q (.inl none) σ) : AW G y (MZ G y Q) pc ls [] σ cu su := by
  intro p e s m args below meth c H locs lsa C V S L
  have hlocks := C.2.2.2.2.1
  refine W.widen h1 h2 (vx_ret ?_)
  exact W.vret C.1 C.2.1 (C.2.2.2.1.trans hr) (fun t ht hW => ⟨⟨_, σ, rfl, hq, by rw [ht]; exact WD_moved hW.alike V⟩, S.F ht⟩) S.2.2 hd
/-- an exception of class E flies here -/
def AX (G : GG) (y : YY) (Z : ZT) (pc : Nat) (ls : List (Nat × Value)) (rest : List Value) (σ : Sg) (E : String) (cu su : Nat) : Prop :=
  ∀ (p : Program) (e : Env) (s : State) (m : MethodId) (args : Array Value) (below : List Frame) (meth : Method) (c : Code) (H : Heap) (locs : List Loc) (lsa : Array Slot) (q : Addr) (ce : Cell),
    CX G y p s m args meth c → WD G σ s H → va_S (Aof G) s.heap H locs → lv_has lsa y.2.2.1 ls → H[q]? = some ce → ce.vm = .none → s.vm.findClass E = some ce.cls → vx_W p G.2.2.2 e y.2.2.2.2.1 s m args below meth c H locs cu su (Z below args s) (F0 m pc lsa rest) q
theorem ax_out {E : String} (htb : y.2.2.2.2.2 = []) (h1 : cu ≤ y.2.2.2.2.1.cells) (h2 : su ≤ y.2.2.2.2.1.slots) (hq : Q (.inr E) σ) : AX G y (MZ G y Q) pc ls rest σ E cu su := by
  intro p e s m args below meth c H locs lsa q ce C V S L hc hv hcl
  refine vx_out (fun x hx => ?_) C.2.2.2.2.1 hc hv hcl (fun t ht hA => ⟨σ, hq, by rw [ht]; exact WD_moved hA V, S.F ht⟩) S.2.2 h1 h2
  rw [C.2.2.2.2.2.2.2.2.2, htb] at hx
  cases hx
abbrev notMH (x : MethodName) (n : Nat) : Prop := x.cls ≠ "java/lang/invoke/MethodHandle" ∧ x.cls ≠ "java/lang/invoke/VarHandle" ∧ (parseMethodDescriptor x.desc).map (fun d => d.parameters.length) = some n
def CV (own : String) (idx : Nat) (yc : YY) (n : Nat) : Prop := Cond.methodLink own idx yc.1 ∈ gT ∧ Cond.instanceMethod yc.1 ∈ gT ∧ Cond.selects yc.1.cls yc.1 yc.1 ∈ gT ∧ Cond.initialized yc.1.cls ∈ gT ∧ Cond.code yc.1 yc.2.1 yc.2.2.1 yc.2.2.2.1 ∈ gT ∧ notMH yc.1 n
def CS (own : String) (idx : Nat) (yc : YY) (n : Nat) : Prop := Cond.methodLink own idx yc.1 ∈ gT ∧ Cond.static yc.1 ∈ gT ∧ Cond.initialized yc.1.cls ∈ gT ∧ Cond.code yc.1 yc.2.1 yc.2.2.1 yc.2.2.2.1 ∈ gT ∧ notMH yc.1 n
def CI (own : String) (idx : Nat) (yc : YY) (n : Nat) : Prop := Cond.methodLink own idx yc.1 ∈ gT ∧ Cond.instanceMethod yc.1 ∈ gT ∧ Cond.initialized yc.1.cls ∈ gT ∧ Cond.code yc.1 yc.2.1 yc.2.2.1 yc.2.2.2.1 ∈ gT ∧ notMH yc.1 n ∧ yc.1.name = "<init>" ∧ yc.2.2.2.1 = none
abbrev CR (yc y : YY) : Prop := yc.2.2.2.2.1.frames + 1 ≤ y.2.2.2.2.1.frames ∧ 8 + (yc.2.2.1 + 11) + yc.2.2.2.2.1.locals ≤ y.2.2.2.2.1.locals
theorem pcw_at {av : List Value} {s : State} {H : Heap} {locs : List Loc} {ar : Array Value} (har : ar = av.toArray) (hE : EN G s s.heap) (V : WD G σ s H) (S : va_S (Aof G) s.heap H locs) : ∀ U : State, U.heap = H → s.WarmedH U.vm → PcW G av σ ar U := by
  intro U hU hW
  refine ⟨har, ?_, ?_⟩
  · rw [hU]; exact EN_moved hW (EN_kept hE (fun a h1 h2 => S.2.1 a h1 h2))
  · rw [hU]; exact WD_moved hW.alike V
/-- behind a call that may throw -/
theorem aw_behind {p : Program} {e : Env} {s : State} {m : MethodId} {args : Array Value} {below : List Frame} {meth : Method} {c : Code} {H : Heap} {locs : List Loc} {lsa : Array Slot} {mc ms : Nat} {ar : Array Value} {Qc : RT → Sg → Prop}
    (C : CX G y p s m args meth c) (S : va_S (Aof G) s.heap H locs) (L : lv_has lsa y.2.2.1 ls)
    (hrun : vx_Run p G.2.2.2 e y.2.2.2.2.1 s m args below meth c H locs cu su mc ms (F0 m pc lsa st) rest (Qn G Qc ar) (Qx G Qc) (Aof G))
    (kx : ∀ E σ', Qc (.inr E) σ' → AX G y Z pc ls rest σ' E (cu + mc) (su + ms))
    (kk : ∀ v σ', Qc (.inl v) σ' → AW G y Z (pc + 3) ls (v.toList ++ rest) σ' (cu + mc) (su + ms)) : W p G.2.2.2 e y.2.2.2.2.1 s m args below meth c H locs cu su (Z below args s) (F0 m pc lsa st) := by
  intro T hT X
  rcases hrun T hT X with ⟨v, st₀, t, T', L', h0, X', hL, e1, e2, ⟨⟨v', σ', ho, hQ, hW⟩, hF⟩, st'⟩ | ⟨q, st₀, t, T', L', E, ce, h0, X', hL, e1, e2, ⟨σ', hQ, hW, hF⟩, hce, hcv, hcl, st'⟩
  · cases ho
    obtain ⟨k1, k2, k3⟩ := vx_keep h0 e1 S (fun _ _ h => h) (fun _ h => h) hL hF
    have hal : t.vm.Alike s.vm := by rw [← e2]; exact X'.warmed.alike.symm
    obtain ⟨t2, a1, b1⟩ := kk v σ' hQ p e s m args below meth c T'.heap (locs ++ L') lsa C (by rw [e1]; exact WD_moved hal hW) k3 L T' rfl X'
    exact ⟨t2, st' t2 a1, b1⟩
  · obtain ⟨k1, k2, k3⟩ := vx_keep h0 e1 S (fun _ _ h => h) (fun _ h => h) hL hF
    have hal : t.vm.Alike s.vm := by rw [← e2]; exact X'.warmed.alike.symm
    obtain ⟨t2, a1, b1⟩ := kx E σ' hQ p e s m args below meth c T'.heap (locs ++ L') lsa q ce C (by rw [e1]; exact WD_moved hal hW) k3 L (by rw [e1]; exact hce) hcv hcl T' rfl X'
    exact ⟨t2, st'.trans a1, b1⟩
theorem callB_g {s : State} {args : Array Value} {own : String} {idx n : Nat} {yc : YY} (hts : ∀ w ∈ gT, w.before args s = true) (h1 : Cond.methodLink own idx yc.1 ∈ gT) (h4 : Cond.initialized yc.1.cls ∈ gT) (h5 : Cond.code yc.1 yc.2.1 yc.2.2.1 yc.2.2.2.1 ∈ gT) (h6 : notMH yc.1 n) (cr : CR yc y) :
    CallB y.2.2.2.2.1 s args own idx yc.1 yc.2.1 yc.2.2.1 yc.2.2.2.1 (.code yc.1 yc.2.1 yc.2.2.1 yc.2.2.2.1 :: gT) yc.2.2.2.2.1 yc.2.2.2.2.1.cells yc.2.2.2.2.1.slots n :=
  callB_of n hts (gT_goodIn fun w hw => by rcases List.mem_cons.mp hw with rfl | hw; exact h5; exact hw) rfl rfl rfl (hts _ h4) (hts _ h1) h6 cr
/-- the receiver -/
theorem recv_g {s : State} {H : Heap} {o c n : Nat} {C : String} (hE : EN G s s.heap) (V : WD G σ s H) (hk : σ.1 o = some (c, n)) (hcl : ∃ r : vw_C, vwCl[c]? = some r ∧ r.1 = C) : ∃ cellB : Cell, H[G.1 o]? = some cellB ∧ cellB.vm.isStatics = false ∧ s.vm.findClass C = some cellB.cls := by
  obtain ⟨r, hr, rfl⟩ := hcl
  have hc : c < 10 := by have := (List.getElem?_eq_some_iff.mp hr).1; simp [vwCl] at this; omega
  obtain ⟨r', hr', -, cell, h1, h2, h3, -⟩ := vce_obj (V.1 o _ hk) hc
  cases Option.some.inj (hr.symm.trans hr')
  exact ⟨cell, h1, by rw [h3]; rfl, by rw [h2]; exact (hE.2.1.1 c _ hr).2.1⟩
/-- invokevirtual -/
theorem aw_invV {yc : YY} {idx n o c nn : Nat} {As : List Value} {Qc : RT → Sg → Prop} (hd : decode y.2.1 pc = .ok (.invokevirtual idx, 3)) (cv : CV y.1.cls idx yc n) (cr : CR yc y) (hk : σ.1 o = some (c, nn)) (hcl : ∃ r : vw_C, vwCl[c]? = some r ∧ r.1 = yc.1.cls) (hst : st = As.reverse ++ .ref (G.1 o) :: rest) (hn : As.length = n) (hrest : (rest.map fun v => v.category).sum ≤ 8)
    (hroom : cu + yc.2.2.2.2.1.cells ≤ y.2.2.2.2.1.cells ∧ su + yc.2.2.2.2.1.slots ≤ y.2.2.2.2.1.slots) (hr : Run G yc (.ref (G.1 o) :: As) σ Qc)
    (kx : ∀ E σ', Qc (.inr E) σ' → AX G y Z pc ls rest σ' E (cu + yc.2.2.2.2.1.cells) (su + yc.2.2.2.2.1.slots))
    (kk : ∀ v σ', Qc (.inl v) σ' → AW G y Z (pc + 3) ls (v.toList ++ rest) σ' (cu + yc.2.2.2.2.1.cells) (su + yc.2.2.2.2.1.slots)) : AW G y Z pc ls st σ cu su := by
  intro p e s m args below meth c0 H locs lsa C V S L
  obtain ⟨hx, hb, hml, hret, hlk, hts, hown, hE, hnm, htb⟩ := id C
  obtain ⟨v1, v2, v3, v4, v5, v6⟩ := cv
  exact aw_behind C S L (vx_runV ⟨hx, hb, hml, hown, hts⟩ hr ⟨callB_g hts v1 v4 v5 v6 cr, hts _ v2, hts _ v3⟩ ⟨PcW_blind _ _ _, recv_g hE V hk hcl, pcw_at rfl hE V S⟩ (g := F0 m pc lsa st) rfl hn L.1 hst (lv_room hrest) hd hroom) kx kk
/-- invokestatic -/
theorem aw_invS {yc : YY} {idx n : Nat} {As : List Value} {Qc : RT → Sg → Prop} (hd : decode y.2.1 pc = .ok (.invokestatic idx, 3)) (cv : CS y.1.cls idx yc n) (cr : CR yc y) (hst : st = As.reverse ++ rest) (hn : As.length = n) (hrest : (rest.map fun v => v.category).sum ≤ 8)
    (hroom : cu + yc.2.2.2.2.1.cells ≤ y.2.2.2.2.1.cells ∧ su + yc.2.2.2.2.1.slots ≤ y.2.2.2.2.1.slots) (hr : Run G yc As σ Qc)
    (kx : ∀ E σ', Qc (.inr E) σ' → AX G y Z pc ls rest σ' E (cu + yc.2.2.2.2.1.cells) (su + yc.2.2.2.2.1.slots))
    (kk : ∀ v σ', Qc (.inl v) σ' → AW G y Z (pc + 3) ls (v.toList ++ rest) σ' (cu + yc.2.2.2.2.1.cells) (su + yc.2.2.2.2.1.slots)) : AW G y Z pc ls st σ cu su := by
  intro p e s m args below meth c0 H locs lsa C V S L
  obtain ⟨hx, hb, hml, hret, hlk, hts, hown, hE, hnm, htb⟩ := id C
  obtain ⟨v1, v2, v4, v5, v6⟩ := cv
  exact aw_behind C S L (vx_runS ⟨hx, hb, hml, hown, hts⟩ hr ⟨callB_g hts v1 v4 v5 v6 cr, hts _ v2⟩ ⟨PcW_blind _ _ _, pcw_at rfl hE V S⟩ (g := F0 m pc lsa st) rfl hn L.1 hst (lv_room hrest) hd hroom) kx kk
/-- a method that never throws, as a plain contract -/
theorem run_met {yc : YY} {av : List Value} {Qc : RT → Sg → Prop} (h : Run G yc av σ Qc) (hn : ∀ E σ', ¬ Qc (.inr E) σ') : Met G.2.2.2 yc.1 (.code yc.1 yc.2.1 yc.2.2.1 yc.2.2.2.1 :: gT) yc.2.2.2.2.1 (PcW G av σ) (Qn G Qc) yc.2.2.2.2.1.cells yc.2.2.2.2.1.slots (Aof G) := by
  intro p e ha hc hk s m args below hf hp hP hK
  obtain ⟨k, o, h1, h2, h3, h4⟩ := h p e ha hc hk s m args below hf hp hP hK
  refine ⟨k, o, h1, h2, h3, ?_⟩
  rcases h4 with h4 | ⟨q, rfl, E, ce, L, ⟨σ', hq, -⟩, -⟩
  · exact h4
  · exact absurd hq (hn E σ')
theorem run_of_va {p : Program} {e : Env} {s : State} {m : MethodId} {args : Array Value} {below : List Frame} {meth : Method} {c : Code} {H : Heap} {locs : List Loc} {mc ms : Nat} {g : JFrame} {Qa : State → Outcome → State → Prop} {XC : String → State → State → Prop} {free : Addr → Prop} {Rm : Room} {l : Launch}
    (h : va_Run p l e Rm s m args below meth c H locs cu su mc ms g rest Qa free) : vx_Run p l e Rm s m args below meth c H locs cu su mc ms g rest Qa XC free := fun T hT X => Or.inl (h T hT X)
/-- a constructor -/
theorem aw_invI {yc : YY} {idx n o : Nat} {As : List Value} {Qc : RT → Sg → Prop} (hd : decode y.2.1 pc = .ok (.invokespecial idx, 3)) (cv : CI y.1.cls idx yc n) (cr : CR yc y) (hst : st = As.reverse ++ .ref (G.1 o) :: rest) (hn : As.length = n) (hrest : (rest.map fun v => v.category).sum ≤ 8)
    (hroom : cu + yc.2.2.2.2.1.cells ≤ y.2.2.2.2.1.cells ∧ su + yc.2.2.2.2.1.slots ≤ y.2.2.2.2.1.slots) (hr : Run G yc (.ref (G.1 o) :: As) σ Qc) (hnx : ∀ E σ', ¬ Qc (.inr E) σ')
    (kk : ∀ v σ', Qc (.inl v) σ' → AW G y Z (pc + 3) ls (v.toList ++ rest) σ' (cu + yc.2.2.2.2.1.cells) (su + yc.2.2.2.2.1.slots)) : AW G y Z pc ls st σ cu su := by
  intro p e s m args below meth c0 H locs lsa C V S L
  obtain ⟨hx, hb, hml, hret, hlk, hts, hown, hE, hnm, htb⟩ := id C
  obtain ⟨v1, v2, v4, v5, v6, v7, v8⟩ := cv
  have cb := callB_g (y := y) hts v1 v4 v5 v6 cr
  have hm := run_met hr hnx
  rw [v8] at cb hm
  exact aw_behind C S L (run_of_va (va_runI ⟨hx, hb, hml, hown, hts⟩ hm ⟨cb, v7, hts _ v2⟩ ⟨PcW_blind _ _ _, pcw_at rfl hE V S⟩ (g := F0 m pc lsa st) rfl hn L.1 hst (lv_room hrest) hd hroom)) (fun E σ' h => absurd h (hnx E σ')) kk
/-- the buffer's constructor, a nest mate's -/
theorem aw_invIN {yc : YY} {n o : Nat} {As : List Value} {Qc : RT → Sg → Prop} (hd : decode y.2.1 pc = .ok (.invokespecial 25, 3)) (hy : y.1.cls = RX3) (hyc : yc.1 = yX0_init) (v2 : Cond.instanceMethod yc.1 ∈ gT) (v4 : Cond.initialized yc.1.cls ∈ gT) (v5 : Cond.code yc.1 yc.2.1 yc.2.2.1 yc.2.2.2.1 ∈ gT) (v6 : notMH yc.1 n) (v8 : yc.2.2.2.1 = none) (cr : CR yc y) (hst : st = As.reverse ++ .ref (G.1 o) :: rest) (hn : As.length = n) (hrest : (rest.map fun v => v.category).sum ≤ 8)
    (hroom : cu + yc.2.2.2.2.1.cells ≤ y.2.2.2.2.1.cells ∧ su + yc.2.2.2.2.1.slots ≤ y.2.2.2.2.1.slots) (hr : Run G yc (.ref (G.1 o) :: As) σ Qc) (hnx : ∀ E σ', ¬ Qc (.inr E) σ')
    (kk : ∀ v σ', Qc (.inl v) σ' → AW G y Z (pc + 3) ls (v.toList ++ rest) σ' (cu + yc.2.2.2.2.1.cells) (su + yc.2.2.2.2.1.slots)) : AW G y Z pc ls st σ cu su := by
  intro p e s m args below meth c0 H locs lsa C V S L
  obtain ⟨hx, hb, hml, hret, hlk, hts, hown, hE, hnm, htb⟩ := id C
  have hm := run_met hr hnx
  have hcn : va_CN y.2.2.2.2.1 s args RX3 25 yc.1 RX3 yc.2.1 yc.2.2.1 yc.2.2.2.1 (.code yc.1 yc.2.1 yc.2.2.1 yc.2.2.2.1 :: gT) yc.2.2.2.2.1 yc.2.2.2.2.1.cells yc.2.2.2.2.1.slots n :=
    va_cnB n hts (gT_goodIn fun w hw => by rcases List.mem_cons.mp hw with rfl | hw; exact v5; exact hw) rfl rfl rfl (by rw [hyc]; exact hE.2.2.2.2.2.2.2.2.1) (hts _ v4) v6 cr
  rw [v8] at hcn hm
  rw [hy] at hown
  exact aw_behind C S L (run_of_va (va_runIN ⟨hx, hb, hml, hown, hts⟩ hm ⟨hcn, by rw [hyc]; rfl, hts _ v2⟩ ⟨PcW_blind _ _ _, pcw_at rfl hE V S⟩ (g := F0 m pc lsa st) rfl hn L.1 hst (lv_room hrest) hd hroom)) (fun E σ' h => absurd h (hnx E σ')) kk
/-- Object's constructor -/
theorem aw_objInit {idx a : Nat} (hd : decode y.2.1 pc = .ok (.invokespecial idx, 3)) (h1 : Cond.methodLink y.1.cls idx Lib.objectInit ∈ gT) (h2 : Cond.instanceMethod Lib.objectInit ∈ gT) (h3 : Cond.code Lib.objectInit ⟨#[0xb1]⟩ 1 none ∈ gT) (hf : 1 ≤ y.2.2.2.2.1.frames) (hl : (st.map fun v => v.category).sum + 12 ≤ y.2.2.2.2.1.locals) (kk : AW G y Z (pc + 3) ls st σ cu su) : AW G y Z pc ls (.ref a :: st) σ cu su := by
  intro p e s m args below meth c H locs lsa C V S L
  obtain ⟨hx, hb, hml, hret, hlk, hts, hown, hE, hnm, htb⟩ := id C
  refine W.objInit hx hb hown (hts _ h1) (hts _ h2) (hts _ h3) rfl (by rw [hml]; exact L.1) rfl hd hf ?_ ?_
  · show 2 * 0 + _ + 12 ≤ _
    omega
  · exact kk p e s m args below meth c H locs lsa C V S L
/-- throw new E("text") -/
theorem aw_throw {cls text : String} {ik is ic : Nat} (d0 : decode y.2.1 pc = .ok (.new ik, 3)) (d3 : decode y.2.1 (pc + 3) = .ok (.dup, 1)) (d4 : decode y.2.1 (pc + 4) = .ok (.ldc is, 2)) (d6 : decode y.2.1 (pc + 6) = .ok (.invokespecial ic, 3)) (d9 : decode y.2.1 (pc + 9) = .ok (.athrow, 1))
    (hy : y.1.cls = RX3) (htb : y.2.2.2.2.2 = []) (hcls : Bundle.fit cls = true) (hk : Cond.classLink RX3 ik cls ∈ gT) (hini : Cond.initialized cls ∈ gT) (hs : (is, text) ∈ strs) (hgood : (vx_atS RX3 ic cls ["java/lang/RuntimeException", "java/lang/Exception"]).all vx_ot = true)
    (hfr : 5 < y.2.2.2.2.1.frames) (hlo : (st.map fun v => v.category).sum + 82 ≤ y.2.2.2.2.1.locals) (hc : cu + 1 ≤ y.2.2.2.2.1.cells) (hsl : su + 6 ≤ y.2.2.2.2.1.slots) (hats : ∀ (args : Array Value) (s : State), (∀ w ∈ gT, w.before args s = true) → EXs s → ∀ w ∈ vx_atS RX3 ic cls ["java/lang/RuntimeException", "java/lang/Exception"], w.before args s = true)
    (hq : ∀ z', z ≤ z' → Q (.inr cls) (K, R, I, J, z')) : AW G y (MZ G y Q) pc ls st (K, R, I, J, z) cu su := by
  intro p e s m args below meth c H locs lsa C V S L
  obtain ⟨hx, hb, hml, hret, hlk, hts, hown, hE, hnm, htb2⟩ := id C
  rw [hy] at hown
  obtain ⟨sa, hsa⟩ := hE.2.2.2.2.1 _ hs
  refine vx_throwS (names := ["java/lang/RuntimeException", "java/lang/Exception"]) hx hb hE.2.2.2.2.2.2.2.2.2.2.1 hown hcls (by decide +kernel) (hts _ hk) (hts _ hini) hsa (hats args s hts hE.2.2.2.2.2.2.2.2.2.2.2) ?_ hE.2.2.1 hE.2.2.2.1 S (by rw [hml]; exact L.1) d0 d3 d4 d6 d9 (fun x hx => by rw [htb2, htb] at hx; cases hx) hfr hlo hc hsl hlk ?_ S.2.2 hc hsl
  · intro w hw
    rcases List.mem_cons.mp hw with rfl | hw
    · exact Bool.or_eq_true_iff.mpr (Or.inr (gT_good hk))
    · rcases List.mem_cons.mp hw with rfl | hw
      · exact Bool.or_eq_true_iff.mpr (Or.inr (gT_good hini))
      · exact List.all_eq_true.mp hgood w hw
  · intro t hA hz hk'
    have hg : t.heap.size = G.2.2.1 + (t.heap.size - G.2.2.1) := by have := V.2; omega
    refine ⟨(K, R, I, J, t.heap.size - G.2.2.1), hq _ (by have := V.2; simp only at this; omega), ⟨fun o kd ho => ?_, hg⟩, ?_⟩
    · exact vce_kept (vce_moved hA (V.1 o kd ho)) (hk' _ (vce_lt (V.1 o kd ho)))
    · exact ⟨Nat.le_trans S.1 hz, fun q h1 h2 => (hk' q (Nat.lt_of_lt_of_le h1 S.1)).trans (S.2.1 q h1 h2)⟩
end CALLS
end
section
/-! MAKING CELLS -/
/-- a cell's slots, all of one value -/
def zr {α : Type} (f : Nat → Nat → α) (z : Nat) (d : α) : Nat → Nat → α := fun q k => if q = z then d else f q k
theorem dfl0 : ∀ k, k < 2 → defaultValue (fty 0 k) = sv (fk 0 k) 0 0 .null
  | 0, _ => rfl
  | 1, _ => rfl
  | k + 2, h => absurd h (by omega)
theorem dfl1 : ∀ k, k < 7 → defaultValue (fty 1 k) = sv (fk 1 k) 0 0 .null
  | 0, _ => rfl
  | 1, _ => rfl
  | 2, _ => rfl
  | 3, _ => rfl
  | 4, _ => rfl
  | 5, _ => rfl
  | 6, _ => rfl
  | k + 7, h => absurd h (by omega)
theorem dfl2 : ∀ k, k < 14 → defaultValue (fty 2 k) = sv (fk 2 k) 0 0 .null
  | 0, _ => rfl
  | 1, _ => rfl
  | 2, _ => rfl
  | 3, _ => rfl
  | 4, _ => rfl
  | 5, _ => rfl
  | 6, _ => rfl
  | 7, _ => rfl
  | 8, _ => rfl
  | 9, _ => rfl
  | 10, _ => rfl
  | 11, _ => rfl
  | 12, _ => rfl
  | 13, _ => rfl
  | k + 14, h => absurd h (by omega)
theorem dfl3 : ∀ k, k < 6 → defaultValue (fty 3 k) = sv (fk 3 k) 0 0 .null
  | 0, _ => rfl
  | 1, _ => rfl
  | 2, _ => rfl
  | 3, _ => rfl
  | 4, _ => rfl
  | 5, _ => rfl
  | k + 6, h => absurd h (by omega)
theorem dfl4 : ∀ k, k < 12 → defaultValue (fty 4 k) = sv (fk 4 k) 0 0 .null
  | 0, _ => rfl
  | 1, _ => rfl
  | 2, _ => rfl
  | 3, _ => rfl
  | 4, _ => rfl
  | 5, _ => rfl
  | 6, _ => rfl
  | 7, _ => rfl
  | 8, _ => rfl
  | 9, _ => rfl
  | 10, _ => rfl
  | 11, _ => rfl
  | k + 12, h => absurd h (by omega)
theorem dfl_all {c : Nat} {r : vw_C} (hr : vwCl[c]? = some r) : ∀ k, k < r.2.2 → defaultValue (fty c k) = sv (fk c k) 0 0 .null := by
  match c, hr with
  | 0, hr => cases hr; exact dfl0
  | 1, hr => cases hr; exact dfl1
  | 2, hr => cases hr; exact dfl2
  | 3, hr => cases hr; exact dfl3
  | 4, hr => cases hr; exact dfl4
  | c + 5, hr => simp [vwCl] at hr
section ALLOC
variable {G : GG} {y : YY} {Z : ZT} {Q : RT → Sg → Prop} {pc : Nat} {ls ls' : List (Nat × Value)} {st rest : List Value} {σ : Sg} {K : Nat → Option (Nat × Nat)} {R : Nat → Nat → Value} {I : Nat → Nat → Int32} {J : Nat → Nat → Int64} {z cu su : Nat}
/-- one more cell -/
theorem WD_new {s : State} {H H1 : Heap} {kd : Nat × Nat} (hG : GOk G) (hz : z < 1000) (V : WD G (K, R, I, J, z) s H) (hc : vce G.2.1 s kd (G.1 z) (fun k => sv (fk kd.1 k) 0 0 .null) H1) (z1 : H1.size = H.size + 1) (o1 : ∀ q, q < H.size → H1[q]? = H[q]?) :
    WD G (upK K z kd, zr R z .null, zr I z 0, zr J z 0, z + 1) s H1 := by
  refine ⟨fun o kq ho => ?_, by rw [z1, V.2]; exact Nat.add_assoc _ _ _⟩
  by_cases e : o = z
  · subst e
    have : kq = kd := by simp [upK] at ho; exact ho.symm
    subst this
    have h2 : cV (upK K o kq, zr R o .null, zr I o 0, zr J o 0, o + 1) o kq = fun k => sv (fk kq.1 k) 0 0 .null := by funext k; simp [cV, zr]
    rw [h2]; exact hc
  · have h1 : K o = some kq := by simpa [upK, e] using ho
    have h2 : cV (upK K z kd, zr R z .null, zr I z 0, zr J z 0, z + 1) o kq = cV (K, R, I, J, z) o kq := by funext k; simp [cV, zr, e]
    rw [h2]
    have h3 := V.1 o kq h1
    exact vce_kept h3 (o1 _ (vce_lt h3))
theorem va_S_new {s : State} {H H1 : Heap} {locs : List Loc} (S : va_S (Aof G) s.heap H locs) (z1 : H.size ≤ H1.size) (o1 : ∀ q, q < H.size → H1[q]? = H[q]?) : va_S (Aof G) s.heap H1 locs :=
  ⟨Nat.le_trans S.1 z1, fun x h1 h2 => (o1 x (Nat.lt_of_lt_of_le h1 S.1)).trans (S.2.1 x h1 h2), S.2.2⟩
theorem ad_z {s : State} {H : Heap} (hG : GOk G) (hz : z < 1000) (V : WD G (K, R, I, J, z) s H) : H.size = G.1 z := by rw [V.2, hG.1 z hz]
theorem aw_new {idx c : Nat} {r : vw_C} (hd : decode y.2.1 pc = .ok (.new idx, 3)) (hr : vwCl[c]? = some r) (h1 : Cond.classLink y.1.cls idx r.1 ∈ gT) (h2 : Cond.instantiable r.1 r.2.2 ∈ gT) (h3 : Cond.initialized r.1 ∈ gT) (hz : z < 1000) (hc : cu + 1 ≤ y.2.2.2.2.1.cells) (hs : su + r.2.2 ≤ y.2.2.2.2.1.slots)
    (kk : AW G y Z (pc + 3) ls (.ref (G.1 z) :: st) (upK K z (c, r.2.2), zr R z .null, zr I z 0, zr J z 0, z + 1) (cu + 1) (su + r.2.2)) : AW G y Z pc ls st (K, R, I, J, z) cu su := by
  intro p e s m args below meth c0 H locs lsa C V S L
  obtain ⟨hx, hb, hml, hret, hlk, hts, hown, hE, hnm, htb⟩ := id C
  have hc10 : c < 10 := by have := (List.getElem?_eq_some_iff.mp hr).1; simp [vwCl] at this; omega
  have hKn := hE.2.1.1 c _ hr
  refine W.newcK hx hb hown (hts _ h1) (hts _ h2) (hts _ h3) rfl hd hc hs hKn.2.1 (ad_z hE.1 hz V) fun H1 kC hkC e1 z1 o1 => ?_
  have o1' : ∀ q, q < H.size → H1[q]? = H[q]? := fun q hq => o1 q (by rw [← ad_z hE.1 hz V]; exact hq)
  have z1' : H1.size = H.size + 1 := by rw [z1, ad_z hE.1 hz V]
  exact kk p e s m args below meth c0 H1 locs lsa C (WD_new hE.1 hz V (Or.inl ⟨hc10, r, hr, rfl, (u_born (fty c) hts (cl_in c r hr) hKn hkC e1 (cl_ty hr)).to (dfl_all hr)⟩) z1' o1') (va_S_new S (by omega) o1') L
theorem aw_newa {atype : ArrayType} {t N : Nat} (hd : decode y.2.1 pc = .ok (.newarray atype, 2)) (ht : 10 ≤ t) (hty : newarray.typeOf atype = aty t) (h1 : Cond.arrayClass (newarray.typeOf atype) ∈ gT) (hN : N ≤ 5000) (hdv : ∀ k, defaultValue (aty t) = sv (fk t k) 0 0 .null) (hcb : componentBytes (newarray.typeOf atype) ≤ 8) (hra : ∀ (s : State) (cA : ClassId), s.vm.findClass ("[" ++ (newarray.typeOf atype).toString) = some cA → va_RA s cA (aty t)) (hz : z < 1000) (hc : cu + 1 ≤ y.2.2.2.2.1.cells) (hs : su + N ≤ y.2.2.2.2.1.slots)
    (kk : AW G y Z (pc + 2) ls (.ref (G.1 z) :: st) (upK K z (t, N), zr R z .null, zr I z 0, zr J z 0, z + 1) (cu + 1) (su + N)) : AW G y Z pc ls (.int (nI N) :: st) (K, R, I, J, z) cu su := by
  intro p e s m args below meth c0 H locs lsa C V S L
  obtain ⟨hx, hb, hml, hret, hlk, hts, hown, hE, hnm, htb⟩ := id C
  have hNl : N < 2 ^ 31 := by omega
  refine va_newaK hx hb (hts _ h1) rfl hd rfl (nI_pos hNl) (nI_clamp hNl) (by have := Nat.mul_le_mul hN hcb; omega) hc hs (ad_z hE.1 hz V) fun H1 cA e1 z1 o1 hAr hfc => ?_
  have o1' : ∀ q, q < H.size → H1[q]? = H[q]? := fun q hq => o1 q (by rw [← ad_z hE.1 hz V]; exact hq)
  have z1' : H1.size = H.size + 1 := by rw [z1, ad_z hE.1 hz V]
  refine kk p e s m args below meth c0 H1 locs lsa C (WD_new hE.1 hz V (Or.inr ⟨ht, cA, arrV cA N (fun k => sv (fk t k) 0 0 .null), ?_, AR.rf, by rw [← hty]; exact hAr, fun _ => hra s cA hfc⟩) z1' o1') (va_S_new S (by omega) o1') L
  rw [e1, hty]
  exact congrArg some (congrArg (arrV cA N) (funext fun k => hdv k))
theorem aw_newaI {N : Nat} (hd : decode y.2.1 pc = .ok (.newarray .int, 2)) (h1 : Cond.arrayClass .int ∈ gT) (hN : N ≤ 5000) (hz : z < 1000) (hc : cu + 1 ≤ y.2.2.2.2.1.cells) (hs : su + N ≤ y.2.2.2.2.1.slots)
    (kk : AW G y Z (pc + 2) ls (.ref (G.1 z) :: st) (upK K z (10, N), zr R z .null, zr I z 0, zr J z 0, z + 1) (cu + 1) (su + N)) : AW G y Z pc ls (.int (nI N) :: st) (K, R, I, J, z) cu su :=
  aw_newa (t := 10) hd (Nat.le_refl 10) rfl h1 hN (fun _ => rfl) (by decide) (fun s cA h => h) hz hc hs kk
theorem aw_newaL {N : Nat} (hd : decode y.2.1 pc = .ok (.newarray .long, 2)) (h1 : Cond.arrayClass .long ∈ gT) (hN : N ≤ 5000) (hz : z < 1000) (hc : cu + 1 ≤ y.2.2.2.2.1.cells) (hs : su + N ≤ y.2.2.2.2.1.slots)
    (kk : AW G y Z (pc + 2) ls (.ref (G.1 z) :: st) (upK K z (11, N), zr R z .null, zr I z 0, zr J z 0, z + 1) (cu + 1) (su + N)) : AW G y Z pc ls (.int (nI N) :: st) (K, R, I, J, z) cu su :=
  aw_newa (t := 11) hd (by decide) rfl h1 hN (fun _ => rfl) (by decide) (fun s cA h => h) hz hc hs kk
theorem aw_anew {idx t N : Nat} {C : String} (hd : decode y.2.1 pc = .ok (.anewarray idx, 3)) (ht : t = 12 ∧ C = RX1 ∨ t = 13 ∧ C = RX2) (h1 : Cond.classLink y.1.cls idx C ∈ gT) (hN : N ≤ 5000) (hz : z < 1000) (hc : cu + 1 ≤ y.2.2.2.2.1.cells) (hs : su + N ≤ y.2.2.2.2.1.slots)
    (kk : AW G y Z (pc + 3) ls (.ref (G.1 z) :: st) (upK K z (t, N), zr R z .null, zr I z 0, zr J z 0, z + 1) (cu + 1) (su + N)) : AW G y Z pc ls (.int (nI N) :: st) (K, R, I, J, z) cu su := by
  intro p e s m args below meth c0 H locs lsa C0 V S L
  obtain ⟨hx, hb, hml, hret, hlk, hts, hown, hE, hnm, htb⟩ := id C0
  have hNl : N < 2 ^ 31 := by omega
  have hcl := nI_clamp hNl
  have hEX := hE.2.2.2.2.2.2.2.2.2.2.2.2.2.2.2.2.2.2.2.2
  have h2 : va_AO C s := by
    rcases ht with ⟨-, rfl⟩ | ⟨-, rfl⟩
    · exact hEX.1
    · exact hEX.2.1
  have haty : aty t = .object C := by rcases ht with ⟨rfl, rfl⟩ | ⟨rfl, rfl⟩ <;> rfl
  refine W.anew hx hb hown (hts _ h1) (va_AO.use h2) rfl hd rfl (nI_pos hNl) (by rw [hcl]; omega) hc (by rw [hcl]; exact hs) fun cA kA comp f1 f2 f3 f4 => ?_
  rw [hcl]
  have e1 : (H.push ({ cls := cA, slots := Array.replicate N .null, vm := .none } : Cell))[G.1 z]? = some (arrV cA N (fun _ => .null)) := by rw [← ad_z hE.1 hz V, Array.getElem?_push_size, ← arrV_new]
  have o1 : ∀ q : Nat, q < H.size → (H.push ({ cls := cA, slots := Array.replicate N .null, vm := .none } : Cell))[q]? = H[q]? := fun q hq => by rw [Array.getElem?_push, if_neg (Nat.ne_of_lt hq)]
  have z1 : (H.push ({ cls := cA, slots := Array.replicate N .null, vm := .none } : Cell)).size = H.size + 1 := Array.size_push _
  rw [ad_z hE.1 hz V]
  refine kk p e s m args below meth c0 _ locs lsa C0 (WD_new hE.1 hz V (Or.inr ⟨by show 10 ≤ t; omega, cA, arrV cA N (fun k => sv (fk t k) 0 0 .null), ?_, AR.rf, by rw [haty]; exact fun N z => ⟨(fun k h => by cases h), kA, f2, comp, f3⟩, fun _ => by rw [haty]; exact ⟨kA, comp, f2, f3, f4, f1⟩⟩) z1 o1) (va_S_new S (by omega) o1) L
  rw [e1]
  refine congrArg some (congrArg (arrV cA N) (funext fun k => ?_))
  rcases ht with ⟨rfl, -⟩ | ⟨rfl, -⟩ <;> rfl
/-- new int[5][16] -/
theorem aw_multi {idx : Nat} (hd : decode y.2.1 pc = .ok (.multianewarray idx 2, 4)) (h1 : Cond.classLink y.1.cls idx ("[" ++ (FieldType.array .int).toString) ∈ gT) (h3 : Cond.arrayClass .int ∈ gT) (hz : z + 6 ≤ 1000) (hc : cu + 6 ≤ y.2.2.2.2.1.cells) (hs : su + 85 ≤ y.2.2.2.2.1.slots)
    (kk : AW G y Z (pc + 4) ls (.ref (G.1 z) :: st) (fun q => if q = z then some (14, 5) else if z < q ∧ q ≤ z + 5 then some (10, 16) else K q, fun q k => if q = z then (if k < 5 then .ref (G.1 (z + 1 + k)) else .null) else if z < q ∧ q ≤ z + 5 then .null else R q k, fun q k => if z ≤ q ∧ q ≤ z + 5 then 0 else I q k, fun q k => if z ≤ q ∧ q ≤ z + 5 then 0 else J q k, z + 6) (cu + 6) (su + 85)) : AW G y Z pc ls (.int (nI 16) :: .int (nI 5) :: st) (K, R, I, J, z) cu su := by
  intro p e s m args below meth c0 H locs lsa C0 V S L T hT X
  obtain ⟨hx, hb, hml, hret, hlk, hts, hown, hE, hnm, htb⟩ := id C0
  obtain ⟨vm₁, cA, comp, -, fA, fC, hO, hI, X', step⟩ := X.multianewarray2F hx hown (hts _ h1) (show (Cond.arrayOver (.array .int)).before args s = true from hE.2.2.2.2.2.2.2.2.2.2.2.2.2.2.2.2.2.2.2.2.2.2) (hts _ h3) (g := F0 m pc lsa (.int (nI 16) :: .int (nI 5) :: st)) rfl (by rw [hb]; exact hd) rfl (by decide) (by decide) (by decide) (by decide) (by decide) rfl rfl hc hs
  rw [show (nI 5).toNatClampNeg = 5 from rfl, show (nI 16).toNatClampNeg = 16 from rfl] at X' step
  generalize hF : Jvm.Free.Multi.fill (T.setVm vm₁) cA comp 5 16 (defaultValue .int) 5 = F at X' step
  have hTh : (T.setVm vm₁).heap = H := hT
  obtain ⟨f1, f2, -, -⟩ := Jvm.Free.Multi.fill_facts (T.setVm vm₁) cA comp 5 16 (defaultValue .int) 5
  rw [hF, hTh] at f1 f2
  have hold : ∀ x : Nat, x < H.size → F.heap[x]? = H[x]? := fun x hx => by
    have := Jvm.Free.Multi.fill_old (T.setVm vm₁) cA comp 5 16 (defaultValue .int) (a := x) (by rw [hTh]; exact hx) 5
    rw [hF, hTh] at this
    exact this
  have hrow : ∀ j : Nat, j < 5 → F.heap[H.size + 1 + j]? = some (arrV comp 16 (fun _ => .int 0)) := fun j hj => by
    have := Jvm.Free.Multi.fill_inner (T.setVm vm₁) cA comp 5 16 (defaultValue .int) 5 j hj
    rw [hF, hTh] at this
    rw [this]
    exact congrArg some (arrV_new comp 16 (.int 0))
  rw [vr_outer] at f2
  have hzs := ad_z hE.1 (by omega : z < 1000) V
  have hG := hE.1
  have hAr : ArrOfT s cA (.array .int) := fun N9 z9 => by
    obtain ⟨-, k9, hk9, cm9, hkk9⟩ := (hO 0 0 0).1
    exact ⟨(fun q hq => by cases hq), k9, hk9, cm9, hkk9⟩
  have hAi : ArrOfT s comp .int := fun N9 z9 => by
    obtain ⟨-, k9, hk9, cm9, hkk9⟩ := (hI 0 (.int 0)).1
    exact ⟨(fun q hq => by cases hq), k9, hk9, cm9, hkk9⟩
  obtain ⟨t, a1, b1⟩ := kk p e s m args below meth c0 F.heap locs lsa C0 (by
    have hV : H.size = G.2.2.1 + z := V.2
    refine ⟨fun o kq ho => ?_, by show F.heap.size = G.2.2.1 + (z + 6); rw [f1, hV]; omega⟩
    by_cases e0 : o = z
    · subst e0
      simp only [if_true] at ho
      cases ho
      refine Or.inr ⟨show 10 ≤ 14 by decide, cA, _, ?_, AR.rf, hAr, fun _ => fA⟩
      rw [← hzs, f2]
      refine congrArg some (congrArg (arrV cA 5) (funext fun k => ?_))
      simp only [cV, if_true]
      show va_rf _ = (if k < 5 then Value.ref (G.1 (o + 1 + k)) else .null)
      by_cases hk : k < 5
      · rw [if_pos hk, if_pos hk, hzs, hG.1 o (by omega), hG.1 (o + 1 + k) (by omega)]
        exact congrArg Value.ref (show G.2.2.1 + o + 1 + k = G.2.2.1 + (o + 1 + k) by omega)
      · rw [if_neg hk, if_neg hk]; rfl
    · simp only [if_neg e0] at ho
      by_cases e1 : z < o ∧ o ≤ z + 5
      · rw [if_pos e1] at ho
        cases ho
        refine Or.inr ⟨Nat.le_refl 10, comp, _, ?_, AR.rf, hAi, fun h => absurd h (by show ¬ 12 ≤ 10; decide)⟩
        · have h5 : G.1 o = H.size + 1 + (o - z - 1) := by rw [hzs, hG.1 o (by omega), hG.1 z (by omega)]; omega
          rw [h5, hrow _ (by omega)]
          refine congrArg some (congrArg (arrV comp 16) (funext fun k => ?_))
          simp only [cV]
          rw [if_pos (show z ≤ o ∧ o ≤ z + 5 by omega)]
          rfl
      · rw [if_neg e1] at ho
        have h2 : cV (fun q => if q = z then some (14, 5) else if z < q ∧ q ≤ z + 5 then some (10, 16) else K q, fun q k => if q = z then (if k < 5 then .ref (G.1 (z + 1 + k)) else .null) else if z < q ∧ q ≤ z + 5 then .null else R q k, fun q k => if z ≤ q ∧ q ≤ z + 5 then 0 else I q k, fun q k => if z ≤ q ∧ q ≤ z + 5 then 0 else J q k, z + 6) o kq = cV (K, R, I, J, z) o kq := by
          funext k
          have e2 : ¬ (z ≤ o ∧ o ≤ z + 5) := by omega
          simp only [cV, if_neg e0, if_neg e1, if_neg e2]
        rw [h2]
        have h3 := V.1 o kq ho
        exact vce_kept h3 (hold _ (vce_lt h3)))
    (va_S_new S (by omega) hold) L F rfl X'
  refine ⟨t, step t ?_, b1⟩
  rw [show T.heap.size = G.1 z by rw [hT]; exact hzs]
  exact a1
/-- a reference into an array of its class -/
theorem aw_aast {o t n i c nn q : Nat} {x : Int32} (hd : decode y.2.1 pc = .ok (.aastore, 1)) (hk : K o = some (t, n)) (ht : t = 12 ∧ c = 1 ∨ t = 13 ∧ c = 2) (ho : o < 1000) (hn : n < 2 ^ 31) (hi : x = nI i) (hlt : i < n) (hq : K q = some (c, nn)) (kk : AW G y Z (pc + 1) ls st (K, upR R o i (.ref (G.1 q)), I, J, z) cu su) : AW G y Z pc ls (.ref (G.1 q) :: .int x :: .ref (G.1 o) :: st) (K, R, I, J, z) cu su := by
  intro p e s m args below meth c0 H locs lsa C V S L
  have hE := C.2.2.2.2.2.2.2.1
  have ht10 : 10 ≤ t := by omega
  obtain ⟨cA, cell, h1, ha, h2, h3⟩ := vce_arr (V.1 o _ hk) ht10
  have h3 := h3 (by omega)
  obtain ⟨r, hr, haty⟩ : ∃ r : vw_C, vwCl[c]? = some r ∧ aty t = .object r.1 := by
    rcases ht with ⟨rfl, rfl⟩ | ⟨rfl, rfl⟩
    · exact ⟨_, rfl, rfl⟩
    · exact ⟨_, rfl, rfl⟩
  obtain ⟨r', hr', -, cellV, g1, g2, g3, -⟩ := vce_obj (V.1 q _ hq) (by omega)
  cases Option.some.inj (hr.symm.trans hr')
  have hcls := (hE.2.1.1 c r hr).2
  rw [haty] at h3
  obtain ⟨kA, comp, k1, k2, k3, -⟩ := id h3
  have hcomp : comp = G.2.1.1 c := Option.some.inj (k3.symm.trans hcls.1)
  subst hcomp
  obtain ⟨kC, hkC, -⟩ := hcls.2
  have hfk : fk t i = 2 := by rcases ht with ⟨rfl, -⟩ | ⟨rfl, -⟩ <;> rfl
  refine W.aast C.1 C.2.1 h1 ha.2.2.2 ha.2.2.1 (by rw [ha.1]; exact k1) k2 rfl hkC ⟨by rw [hi]; exact nI_pos (Nat.lt_trans hlt hn), by rw [ix_cl hi hlt hn]; exact Nat.lt_of_lt_of_le hlt ha.2.1.1⟩ g1 (fun q h => by rw [g3] at h; cases h) (by rw [g2]; exact hkC) (by rw [g2]; exact va_assign hcls) rfl rfl hd fun H1 e1 e2 e3 => ?_
  refine kk p e s m args below meth c0 H1 _ lsa C ?_ (S.put e2 e3 (Aof_new hE.1 ho)) L
  refine WD_upd hE.1 ho V rfl rfl hk (fun q kq h => cV_upR_ne h kq) (Or.inr ⟨ht10, cA, _, e1, by rw [ix_cl hi hlt hn]; exact ha.put (fun k => cV_upR (kd := (t, n)) hfk k), h2, fun _ => by rw [haty]; exact h3⟩) e2 e3
/-- System.arraycopy from place 0 to place 0 of int arrays -/
def cpyI (I : Nat → Nat → Int32) (o1 o2 m : Nat) : Nat → Nat → Int32 := fun q k => if q = o2 ∧ k < m then I o1 k else I q k
theorem aw_copy {idx o1 o2 n1 n2 mm : Nat} (hd : decode y.2.1 pc = .ok (.invokestatic idx, 3)) (h1 : Cond.methodLink y.1.cls idx arraycopyName ∈ gT) (h2 : Cond.native arraycopyName ∈ gT) (h3 : Cond.static arraycopyName ∈ gT) (h4 : Cond.initialized "java/lang/System" ∈ gT) (hk1 : K o1 = some (10, n1)) (hk2 : K o2 = some (10, n2)) (ho : o2 < 1000) (hm : mm < 2 ^ 31) (hm1 : mm ≤ n1) (hm2 : mm ≤ n2)
    (hf : 1 ≤ y.2.2.2.2.1.frames) (hl : (st.map fun v => v.category).sum + (nativeFrameWords "java/lang/System" "arraycopy" 5 + 11) ≤ y.2.2.2.2.1.locals) (kk : AW G y Z (pc + 3) ls st (K, R, cpyI I o1 o2 mm, J, z) cu su) :
    AW G y Z pc ls (.int (nI mm) :: .int (nI 0) :: .ref (G.1 o2) :: .int (nI 0) :: .ref (G.1 o1) :: st) (K, R, I, J, z) cu su := by
  intro p e s m args below meth c0 H locs lsa C V S L T hT X
  obtain ⟨hx, hb, hml, hret, hlk, hts, hown, hE, hnm, htb⟩ := id C
  obtain ⟨c1, cs1, a1, aR, a2, a3⟩ := vce_arr (V.1 o1 _ hk1) (Nat.le_refl 10)
  obtain ⟨c2, cd1, b1, bR, b2, b3⟩ := vce_arr (V.1 o2 _ hk2) (Nat.le_refl 10)
  obtain ⟨-, k0, hk0, cm0, hkk0⟩ := aR.arr a2
  obtain ⟨-, k1, hk1', cm1, hkk1⟩ := bR.arr b2
  have hcm := nI_clamp hm
  have hc0 : (nI 0).toNatClampNeg = 0 := rfl
  have hti := nI_toInt hm
  have ht0 : (nI 0).toInt = 0 := rfl
  obtain ⟨vm', X', step⟩ := X.arraycopy hx hown (hts _ h1) (hts _ h2) (hts _ h3) (hts _ h4) (src := G.1 o1) (dst := G.1 o2) (cs := cs1) (cd := cd1) (srcPos := nI 0) (destPos := nI 0) (n := nI mm) (by rw [hT]; exact a1) (by rw [hT]; exact b1)
    aR.2.2.2 bR.2.2.2 aR.2.2.1 bR.2.2.1 hk0 hk1' hkk0 hkk1 (by simp [aty, refKind]) (by decide) (by decide) (nI_pos hm)
    (by have := aR.2.1.1; rw [ht0, hti]; omega)
    (by have := bR.2.1.1; rw [ht0, hti]; omega)
    (fun vm₁ _ i hi => by
      rw [hcm] at hi
      have e : cs1.slots.getD ((nI 0).toNatClampNeg + i) .null = .int (I o1 i) := by
        rw [hc0, Nat.zero_add, Array.getD_eq_getD_getElem?, aR.read (by omega)]
        rfl
      refine ⟨?_, ?_⟩
      · rw [e]; rfl
      · rw [e]; exact trivial)
    (g := F0 m pc lsa (.int (nI mm) :: .int (nI 0) :: .ref (G.1 o2) :: .int (nI 0) :: .ref (G.1 o1) :: st)) rfl (by rw [hml]; exact L.1) (rest := st) rfl (by rw [hb]; exact hd) hf (by show 2 * 0 + _ + _ ≤ _; omega)
  have e1 : copied (arrV c1 n1 (cV (K, R, I, J, z) o1 (10, n1))) (arrV c2 n2 (cV (K, R, I, J, z) o2 (10, n2))) (nI 0) (nI 0) (nI mm) = arrV c2 n2 (cV (K, R, cpyI I o1 o2 mm, J, z) o2 (10, n2)) := by
    have h := va_copied (fun v : Value => v) c1 c2 (n0 := n1) (n1 := n2) (sp := 0) (dp := 0) (n := mm) (cV (K, R, I, J, z) o1 (10, n1)) (cV (K, R, I, J, z) o2 (10, n2)) (by omega)
    have h9 : copied (arrV c1 n1 (cV (K, R, I, J, z) o1 (10, n1))) (arrV c2 n2 (cV (K, R, I, J, z) o2 (10, n2))) (nI 0) (nI 0) (nI mm) = (arrV c2 n2 (cV (K, R, I, J, z) o2 (10, n2))).storeRun (nI 0).toNatClampNeg ((arrV c1 n1 (cV (K, R, I, J, z) o1 (10, n1))).stretch (nI 0).toNatClampNeg (nI mm).toNatClampNeg) := rfl
    rw [h9, hc0, hcm]
    refine h.trans (congrArg (arrV c2 n2) (funext fun k => ?_))
    simp only [va_cpy, cV, cpyI]
    by_cases hkm : k < mm
    · simp [hkm, fk, sv]
    · simp [hkm]
  have e2 : AR (copied cs1 cd1 (nI 0) (nI 0) (nI mm)) c2 n2 (cV (K, R, cpyI I o1 o2 mm, J, z) o2 (10, n2)) := by
    have q1 : copied cs1 cd1 (nI 0) (nI 0) (nI mm) = cd1.storePairs (nI 0).toNatClampNeg (cs1.stretch (nI 0).toNatClampNeg (nI mm).toNatClampNeg).zipIdx := rfl
    have q2 : cs1.stretch (nI 0).toNatClampNeg (nI mm).toNatClampNeg = (arrV c1 n1 (cV (K, R, I, J, z) o1 (10, n1))).stretch (nI 0).toNatClampNeg (nI mm).toNatClampNeg := by
      unfold Cell.stretch
      refine List.map_congr_left (fun i hi => ?_)
      have hi' := List.mem_range.mp hi
      rw [hcm] at hi'
      rw [hc0, Nat.zero_add, Array.getD_eq_getD_getElem?, Array.getD_eq_getD_getElem?, aR.read (by omega), arrV_read _ _ (by omega)]
    obtain ⟨w1, w2, w3, -⟩ := Cell.storePairs_facts cd1 (nI 0).toNatClampNeg (cs1.stretch (nI 0).toNatClampNeg (nI mm).toNatClampNeg).zipIdx
    refine SE.ar (cell := cd1) ?_ bR w1 w2 w3
    rw [← e1, q1, q2]
    exact SE.pairs _ _ _ bR.se
  have hlt : G.1 o2 < H.size := (Array.getElem?_eq_some_iff.mp b1).1
  generalize copied cs1 cd1 (nI 0) (nI 0) (nI mm) = cell at X' step e2
  have hheap : ((T.setVm vm').setCell (G.1 o2) cell).heap = H.setIfInBounds (G.1 o2) cell := by rw [← hT]; rfl
  have oq : ∀ q : Nat, q ≠ G.1 o2 → (H.setIfInBounds (G.1 o2) cell)[q]? = H[q]? := fun q hq => by simp [Array.getElem?_setIfInBounds, Ne.symm hq]
  have hA := Aof_new hE.1 ho
  obtain ⟨t, a1', b1'⟩ := kk p e s m args below meth c0 _ _ lsa C
    (WD_upd (σ' := (K, R, cpyI I o1 o2 mm, J, z)) hE.1 ho V rfl rfl hk2 (fun q kq h => by funext k; simp [cV, cpyI, h]) (Or.inr ⟨Nat.le_refl 10, c2, cell, by simp [Array.getElem?_setIfInBounds, hlt], e2, b2, b3⟩) (by simp) oq)
    ⟨by simp; exact S.1, fun q g1 g2 => by
      rw [oq q (fun e => g2 (by rw [e]; exact hA))]
      exact S.2.1 q g1 g2, fun q hq => by
      rcases List.mem_append.mp hq with h | h
      · exact S.2.2 q h
      · obtain ⟨z9, -, hz9⟩ := List.mem_map.mp h
        rw [← hz9]
        exact hA⟩ L _ hheap X'
  exact ⟨t, step t a1', b1'⟩
end ALLOC
end
