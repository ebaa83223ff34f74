section
-- ===== PART A: goes FIRST, ahead of the names: the tables' words, and 'selects' of the private methods out of them =====
/-- a private method of a class that the tables say can be made, by its rows of tables_1 -/
def lw_okq (q : MethodName × Nat) : Prop := (q.1.cls ≠ "java/lang/invoke/MethodHandle" ∧ q.1.cls ≠ "java/lang/invoke/VarHandle") ∧ Cond.instantiable q.1.cls q.2 ∈ tables_1 ∧ Cond.privateMethod q.1 ∈ tables_1 ∧ Cond.instanceMethod q.1 ∈ tables_1
theorem lw_p0 : lw_okq (⟨"BreakerTrials", "counted", "(I)I"⟩, 6) := ⟨⟨by decide +kernel, by decide +kernel⟩, List.mem_of_getElem? (i := 19) (by decide +kernel), List.mem_of_getElem? (i := 244) (by decide +kernel), List.mem_of_getElem? (i := 245) (by decide +kernel)⟩
theorem lw_p1 : lw_okq (⟨"BreakerTrials", "foresee", "(III)V"⟩, 6) := ⟨⟨by decide +kernel, by decide +kernel⟩, List.mem_of_getElem? (i := 19) (by decide +kernel), List.mem_of_getElem? (i := 257) (by decide +kernel), List.mem_of_getElem? (i := 258) (by decide +kernel)⟩
theorem lw_p2 : lw_okq (⟨"BreakerTrials", "mixStore", "(JI)J"⟩, 6) := ⟨⟨by decide +kernel, by decide +kernel⟩, List.mem_of_getElem? (i := 19) (by decide +kernel), List.mem_of_getElem? (i := 349) (by decide +kernel), List.mem_of_getElem? (i := 350) (by decide +kernel)⟩
theorem lw_p3 : lw_okq (⟨"BreakerTrials", "foreseen", "(II)I"⟩, 6) := ⟨⟨by decide +kernel, by decide +kernel⟩, List.mem_of_getElem? (i := 19) (by decide +kernel), List.mem_of_getElem? (i := 358) (by decide +kernel), List.mem_of_getElem? (i := 359) (by decide +kernel)⟩
theorem lw_p4 : lw_okq (⟨"java/lang/Throwable", "fillInStackTrace", "(I)Ljava/lang/Throwable;"⟩, 6) := ⟨⟨by decide +kernel, by decide +kernel⟩, List.mem_of_getElem? (i := 418) (by decide +kernel), List.mem_of_getElem? (i := 416) (by decide +kernel), List.mem_of_getElem? (i := 417) (by decide +kernel)⟩
theorem lw_p5 : lw_okq (⟨"BreakerTrials", "save", "()V"⟩, 6) := ⟨⟨by decide +kernel, by decide +kernel⟩, List.mem_of_getElem? (i := 19) (by decide +kernel), List.mem_of_getElem? (i := 465) (by decide +kernel), List.mem_of_getElem? (i := 466) (by decide +kernel)⟩
theorem lw_p6 : lw_okq (⟨"BreakerTrialsModel", "lay", "(III)V"⟩, 12) := ⟨⟨by decide +kernel, by decide +kernel⟩, List.mem_of_getElem? (i := 645) (by decide +kernel), List.mem_of_getElem? (i := 651) (by decide +kernel), List.mem_of_getElem? (i := 652) (by decide +kernel)⟩
theorem lw_p7 : lw_okq (⟨"BreakerTrialsModel", "fails", "(I)I"⟩, 12) := ⟨⟨by decide +kernel, by decide +kernel⟩, List.mem_of_getElem? (i := 645) (by decide +kernel), List.mem_of_getElem? (i := 706) (by decide +kernel), List.mem_of_getElem? (i := 707) (by decide +kernel)⟩
theorem lw_p8 : lw_okq (⟨"BreakerTrialsModel", "isRefused", "(I)Z"⟩, 12) := ⟨⟨by decide +kernel, by decide +kernel⟩, List.mem_of_getElem? (i := 645) (by decide +kernel), List.mem_of_getElem? (i := 710) (by decide +kernel), List.mem_of_getElem? (i := 711) (by decide +kernel)⟩
theorem lw_p9 : lw_okq (⟨"BreakerTrialsModel", "of", "(II)I"⟩, 12) := ⟨⟨by decide +kernel, by decide +kernel⟩, List.mem_of_getElem? (i := 645) (by decide +kernel), List.mem_of_getElem? (i := 714) (by decide +kernel), List.mem_of_getElem? (i := 715) (by decide +kernel)⟩
theorem lw_p10 : lw_okq (⟨"BreakerTrialsModel", "hasTrial", "(I)Z"⟩, 12) := ⟨⟨by decide +kernel, by decide +kernel⟩, List.mem_of_getElem? (i := 645) (by decide +kernel), List.mem_of_getElem? (i := 718) (by decide +kernel), List.mem_of_getElem? (i := 719) (by decide +kernel)⟩
theorem lw_p11 : lw_okq (⟨"BreakerTrialsModel", "callOf", "(II)I"⟩, 12) := ⟨⟨by decide +kernel, by decide +kernel⟩, List.mem_of_getElem? (i := 645) (by decide +kernel), List.mem_of_getElem? (i := 722) (by decide +kernel), List.mem_of_getElem? (i := 723) (by decide +kernel)⟩
theorem lw_p12 : lw_okq (⟨"BreakerTrialsModel", "saves", "()V"⟩, 12) := ⟨⟨by decide +kernel, by decide +kernel⟩, List.mem_of_getElem? (i := 645) (by decide +kernel), List.mem_of_getElem? (i := 726) (by decide +kernel), List.mem_of_getElem? (i := 727) (by decide +kernel)⟩
theorem lw_p13 : lw_okq (⟨"BreakerTrialsModel", "calls", "(I)I"⟩, 12) := ⟨⟨by decide +kernel, by decide +kernel⟩, List.mem_of_getElem? (i := 645) (by decide +kernel), List.mem_of_getElem? (i := 730) (by decide +kernel), List.mem_of_getElem? (i := 731) (by decide +kernel)⟩
theorem lw_p14 : lw_okq (⟨"BreakerTrialsModel", "adds", "(II)V"⟩, 12) := ⟨⟨by decide +kernel, by decide +kernel⟩, List.mem_of_getElem? (i := 645) (by decide +kernel), List.mem_of_getElem? (i := 734) (by decide +kernel), List.mem_of_getElem? (i := 735) (by decide +kernel)⟩
theorem lw_p15 : lw_okq (⟨"BreakerTrialsModel", "comesOut", "(IIZI)V"⟩, 12) := ⟨⟨by decide +kernel, by decide +kernel⟩, List.mem_of_getElem? (i := 645) (by decide +kernel), List.mem_of_getElem? (i := 738) (by decide +kernel), List.mem_of_getElem? (i := 739) (by decide +kernel)⟩
def lw_privs_1 : List (MethodName × Nat) := [(⟨"BreakerTrials", "counted", "(I)I"⟩, 6), (⟨"BreakerTrials", "foresee", "(III)V"⟩, 6), (⟨"BreakerTrials", "mixStore", "(JI)J"⟩, 6), (⟨"BreakerTrials", "foreseen", "(II)I"⟩, 6), (⟨"java/lang/Throwable", "fillInStackTrace", "(I)Ljava/lang/Throwable;"⟩, 6), (⟨"BreakerTrials", "save", "()V"⟩, 6), (⟨"BreakerTrialsModel", "lay", "(III)V"⟩, 12), (⟨"BreakerTrialsModel", "fails", "(I)I"⟩, 12), (⟨"BreakerTrialsModel", "isRefused", "(I)Z"⟩, 12), (⟨"BreakerTrialsModel", "of", "(II)I"⟩, 12), (⟨"BreakerTrialsModel", "hasTrial", "(I)Z"⟩, 12), (⟨"BreakerTrialsModel", "callOf", "(II)I"⟩, 12), (⟨"BreakerTrialsModel", "saves", "()V"⟩, 12), (⟨"BreakerTrialsModel", "calls", "(I)I"⟩, 12), (⟨"BreakerTrialsModel", "adds", "(II)V"⟩, 12), (⟨"BreakerTrialsModel", "comesOut", "(IIZI)V"⟩, 12)]
theorem lw_r1 : ∀ q ∈ lw_privs_1, lw_okq q := List.forall_mem_cons.mpr ⟨lw_p0, List.forall_mem_cons.mpr ⟨lw_p1, List.forall_mem_cons.mpr ⟨lw_p2, List.forall_mem_cons.mpr ⟨lw_p3, List.forall_mem_cons.mpr ⟨lw_p4, List.forall_mem_cons.mpr ⟨lw_p5, List.forall_mem_cons.mpr ⟨lw_p6, List.forall_mem_cons.mpr ⟨lw_p7, List.forall_mem_cons.mpr ⟨lw_p8, List.forall_mem_cons.mpr ⟨lw_p9, List.forall_mem_cons.mpr ⟨lw_p10, List.forall_mem_cons.mpr ⟨lw_p11, List.forall_mem_cons.mpr ⟨lw_p12, List.forall_mem_cons.mpr ⟨lw_p13, List.forall_mem_cons.mpr ⟨lw_p14, List.forall_mem_cons.mpr ⟨lw_p15, fun _ h => absurd h List.not_mem_nil⟩⟩⟩⟩⟩⟩⟩⟩⟩⟩⟩⟩⟩⟩⟩⟩
theorem lw_p16 : lw_okq (⟨"BreakerTrialsModel", "cutsOff", "(II)V"⟩, 12) := ⟨⟨by decide +kernel, by decide +kernel⟩, List.mem_of_getElem? (i := 645) (by decide +kernel), List.mem_of_getElem? (i := 742) (by decide +kernel), List.mem_of_getElem? (i := 743) (by decide +kernel)⟩
theorem lw_p17 : lw_okq (⟨"BreakerTrialsModel", "closes", "(I)V"⟩, 12) := ⟨⟨by decide +kernel, by decide +kernel⟩, List.mem_of_getElem? (i := 645) (by decide +kernel), List.mem_of_getElem? (i := 746) (by decide +kernel), List.mem_of_getElem? (i := 747) (by decide +kernel)⟩
theorem lw_p18 : lw_okq (⟨"BreakerTrialsModel", "inWindow", "(I)I"⟩, 12) := ⟨⟨by decide +kernel, by decide +kernel⟩, List.mem_of_getElem? (i := 645) (by decide +kernel), List.mem_of_getElem? (i := 751) (by decide +kernel), List.mem_of_getElem? (i := 752) (by decide +kernel)⟩
theorem lw_p19 : lw_okq (⟨"BreakerTrialsModel", "badInWindow", "(I)I"⟩, 12) := ⟨⟨by decide +kernel, by decide +kernel⟩, List.mem_of_getElem? (i := 645) (by decide +kernel), List.mem_of_getElem? (i := 755) (by decide +kernel), List.mem_of_getElem? (i := 756) (by decide +kernel)⟩
theorem lw_p20 : lw_okq (⟨"BreakerTrialsModel", "callsOften", "(III)I"⟩, 12) := ⟨⟨by decide +kernel, by decide +kernel⟩, List.mem_of_getElem? (i := 645) (by decide +kernel), List.mem_of_getElem? (i := 763) (by decide +kernel), List.mem_of_getElem? (i := 764) (by decide +kernel)⟩
theorem lw_p21 : lw_okq (⟨"BreakerTrialsModel", "ticks", "(I)I"⟩, 12) := ⟨⟨by decide +kernel, by decide +kernel⟩, List.mem_of_getElem? (i := 645) (by decide +kernel), List.mem_of_getElem? (i := 767) (by decide +kernel), List.mem_of_getElem? (i := 768) (by decide +kernel)⟩
theorem lw_p22 : lw_okq (⟨"BreakerTrialsModel", "tick", "()I"⟩, 12) := ⟨⟨by decide +kernel, by decide +kernel⟩, List.mem_of_getElem? (i := 645) (by decide +kernel), List.mem_of_getElem? (i := 771) (by decide +kernel), List.mem_of_getElem? (i := 772) (by decide +kernel)⟩
theorem lw_p23 : lw_okq (⟨"BreakerTrialsModel", "drops", "(I)V"⟩, 12) := ⟨⟨by decide +kernel, by decide +kernel⟩, List.mem_of_getElem? (i := 645) (by decide +kernel), List.mem_of_getElem? (i := 775) (by decide +kernel), List.mem_of_getElem? (i := 776) (by decide +kernel)⟩
theorem lw_p24 : lw_okq (⟨"BreakerTrialsModel", "bestStore", "()I"⟩, 12) := ⟨⟨by decide +kernel, by decide +kernel⟩, List.mem_of_getElem? (i := 645) (by decide +kernel), List.mem_of_getElem? (i := 783) (by decide +kernel), List.mem_of_getElem? (i := 784) (by decide +kernel)⟩
theorem lw_p25 : lw_okq (⟨"BreakerTrialsModel", "onWayOf", "(I)I"⟩, 12) := ⟨⟨by decide +kernel, by decide +kernel⟩, List.mem_of_getElem? (i := 645) (by decide +kernel), List.mem_of_getElem? (i := 787) (by decide +kernel), List.mem_of_getElem? (i := 788) (by decide +kernel)⟩
theorem lw_p26 : lw_okq (⟨"BreakerTrialsModel", "readsAll", "()V"⟩, 12) := ⟨⟨by decide +kernel, by decide +kernel⟩, List.mem_of_getElem? (i := 645) (by decide +kernel), List.mem_of_getElem? (i := 818) (by decide +kernel), List.mem_of_getElem? (i := 819) (by decide +kernel)⟩
theorem lw_p27 : lw_okq (⟨"BreakerTrialsModel", "readsNumber", "()V"⟩, 12) := ⟨⟨by decide +kernel, by decide +kernel⟩, List.mem_of_getElem? (i := 645) (by decide +kernel), List.mem_of_getElem? (i := 822) (by decide +kernel), List.mem_of_getElem? (i := 823) (by decide +kernel)⟩
theorem lw_p28 : lw_okq (⟨"BreakerTrialsModel", "sign", "()I"⟩, 12) := ⟨⟨by decide +kernel, by decide +kernel⟩, List.mem_of_getElem? (i := 645) (by decide +kernel), List.mem_of_getElem? (i := 826) (by decide +kernel), List.mem_of_getElem? (i := 827) (by decide +kernel)⟩
theorem lw_p29 : lw_okq (⟨"BreakerTrialsModel", "tellsStore", "(II)I"⟩, 12) := ⟨⟨by decide +kernel, by decide +kernel⟩, List.mem_of_getElem? (i := 645) (by decide +kernel), List.mem_of_getElem? (i := 842) (by decide +kernel), List.mem_of_getElem? (i := 843) (by decide +kernel)⟩
theorem lw_p30 : lw_okq (⟨"BreakerTrialsModel", "counts", "(I)I"⟩, 12) := ⟨⟨by decide +kernel, by decide +kernel⟩, List.mem_of_getElem? (i := 645) (by decide +kernel), List.mem_of_getElem? (i := 858) (by decide +kernel), List.mem_of_getElem? (i := 859) (by decide +kernel)⟩
theorem lw_p31 : lw_okq (⟨"BreakerTrialsModel", "overStores", "(I)I"⟩, 12) := ⟨⟨by decide +kernel, by decide +kernel⟩, List.mem_of_getElem? (i := 645) (by decide +kernel), List.mem_of_getElem? (i := 862) (by decide +kernel), List.mem_of_getElem? (i := 863) (by decide +kernel)⟩
def lw_privs_2 : List (MethodName × Nat) := [(⟨"BreakerTrialsModel", "cutsOff", "(II)V"⟩, 12), (⟨"BreakerTrialsModel", "closes", "(I)V"⟩, 12), (⟨"BreakerTrialsModel", "inWindow", "(I)I"⟩, 12), (⟨"BreakerTrialsModel", "badInWindow", "(I)I"⟩, 12), (⟨"BreakerTrialsModel", "callsOften", "(III)I"⟩, 12), (⟨"BreakerTrialsModel", "ticks", "(I)I"⟩, 12), (⟨"BreakerTrialsModel", "tick", "()I"⟩, 12), (⟨"BreakerTrialsModel", "drops", "(I)V"⟩, 12), (⟨"BreakerTrialsModel", "bestStore", "()I"⟩, 12), (⟨"BreakerTrialsModel", "onWayOf", "(I)I"⟩, 12), (⟨"BreakerTrialsModel", "readsAll", "()V"⟩, 12), (⟨"BreakerTrialsModel", "readsNumber", "()V"⟩, 12), (⟨"BreakerTrialsModel", "sign", "()I"⟩, 12), (⟨"BreakerTrialsModel", "tellsStore", "(II)I"⟩, 12), (⟨"BreakerTrialsModel", "counts", "(I)I"⟩, 12), (⟨"BreakerTrialsModel", "overStores", "(I)I"⟩, 12)]
theorem lw_r2 : ∀ q ∈ lw_privs_2, lw_okq q := List.forall_mem_cons.mpr ⟨lw_p16, List.forall_mem_cons.mpr ⟨lw_p17, List.forall_mem_cons.mpr ⟨lw_p18, List.forall_mem_cons.mpr ⟨lw_p19, List.forall_mem_cons.mpr ⟨lw_p20, List.forall_mem_cons.mpr ⟨lw_p21, List.forall_mem_cons.mpr ⟨lw_p22, List.forall_mem_cons.mpr ⟨lw_p23, List.forall_mem_cons.mpr ⟨lw_p24, List.forall_mem_cons.mpr ⟨lw_p25, List.forall_mem_cons.mpr ⟨lw_p26, List.forall_mem_cons.mpr ⟨lw_p27, List.forall_mem_cons.mpr ⟨lw_p28, List.forall_mem_cons.mpr ⟨lw_p29, List.forall_mem_cons.mpr ⟨lw_p30, List.forall_mem_cons.mpr ⟨lw_p31, fun _ h => absurd h List.not_mem_nil⟩⟩⟩⟩⟩⟩⟩⟩⟩⟩⟩⟩⟩⟩⟩⟩
theorem lw_p32 : lw_okq (⟨"BreakerTrialsModel", "would", "(IIII)I"⟩, 12) := ⟨⟨by decide +kernel, by decide +kernel⟩, List.mem_of_getElem? (i := 645) (by decide +kernel), List.mem_of_getElem? (i := 874) (by decide +kernel), List.mem_of_getElem? (i := 875) (by decide +kernel)⟩
theorem lw_p33 : lw_okq (⟨"BreakerTrialsModel", "putAside", "()V"⟩, 12) := ⟨⟨by decide +kernel, by decide +kernel⟩, List.mem_of_getElem? (i := 645) (by decide +kernel), List.mem_of_getElem? (i := 878) (by decide +kernel), List.mem_of_getElem? (i := 879) (by decide +kernel)⟩
theorem lw_p34 : lw_okq (⟨"BreakerTrialsModel", "takeBack", "()V"⟩, 12) := ⟨⟨by decide +kernel, by decide +kernel⟩, List.mem_of_getElem? (i := 645) (by decide +kernel), List.mem_of_getElem? (i := 882) (by decide +kernel), List.mem_of_getElem? (i := 883) (by decide +kernel)⟩
theorem lw_p35 : lw_okq (⟨"BreakerTrialsModel", "untilFree", "(I)I"⟩, 12) := ⟨⟨by decide +kernel, by decide +kernel⟩, List.mem_of_getElem? (i := 645) (by decide +kernel), List.mem_of_getElem? (i := 890) (by decide +kernel), List.mem_of_getElem? (i := 891) (by decide +kernel)⟩
theorem lw_p36 : lw_okq (⟨"BreakerTrialsModel", "share", "()D"⟩, 12) := ⟨⟨by decide +kernel, by decide +kernel⟩, List.mem_of_getElem? (i := 645) (by decide +kernel), List.mem_of_getElem? (i := 902) (by decide +kernel), List.mem_of_getElem? (i := 903) (by decide +kernel)⟩
theorem lw_p37 : lw_okq (⟨"BreakerTrialsModel", "hashes", "(J)V"⟩, 12) := ⟨⟨by decide +kernel, by decide +kernel⟩, List.mem_of_getElem? (i := 645) (by decide +kernel), List.mem_of_getElem? (i := 911) (by decide +kernel), List.mem_of_getElem? (i := 912) (by decide +kernel)⟩
def lw_privs_3 : List (MethodName × Nat) := [(⟨"BreakerTrialsModel", "would", "(IIII)I"⟩, 12), (⟨"BreakerTrialsModel", "putAside", "()V"⟩, 12), (⟨"BreakerTrialsModel", "takeBack", "()V"⟩, 12), (⟨"BreakerTrialsModel", "untilFree", "(I)I"⟩, 12), (⟨"BreakerTrialsModel", "share", "()D"⟩, 12), (⟨"BreakerTrialsModel", "hashes", "(J)V"⟩, 12)]
theorem lw_r3 : ∀ q ∈ lw_privs_3, lw_okq q := List.forall_mem_cons.mpr ⟨lw_p32, List.forall_mem_cons.mpr ⟨lw_p33, List.forall_mem_cons.mpr ⟨lw_p34, List.forall_mem_cons.mpr ⟨lw_p35, List.forall_mem_cons.mpr ⟨lw_p36, List.forall_mem_cons.mpr ⟨lw_p37, fun _ h => absurd h List.not_mem_nil⟩⟩⟩⟩⟩⟩
def lw_privs : List (MethodName × Nat) := lw_privs_1 ++ (lw_privs_2 ++ (lw_privs_3))
def lw_tbl : List Cond := k2_sels lw_privs ++ tables_1
theorem lw_privs_ok : ∀ q ∈ lw_privs, lw_okq q := by
  show ∀ q ∈ lw_privs_1 ++ (lw_privs_2 ++ (lw_privs_3)), lw_okq q
  exact List.forall_mem_append.mpr ⟨lw_r1, List.forall_mem_append.mpr ⟨lw_r2, lw_r3⟩⟩
/-- the streams that the claim lets the run draw from -/
abbrev lw_cs : List Choice := [Jvm.Choice.named "NaN.bits"]
theorem lw_bits : nanBits ∈ lw_cs := by first | decide | exact List.mem_cons_self | simp [lw_cs, nanBits]
/-! ===== BEGIN words of one list among another's, by their places ===== -/
theorem goodIn_r {big : List Cond} (ws : List Cond) (ps : List Nat) (hp : ws = ps.filterMap (fun i => big[i]?)) (h : ws.all goodWord = true) : GoodIn big ws := by
  intro w hw
  have h1 := List.all_eq_true.mp h w hw
  rw [hp] at hw
  obtain ⟨i, -, hi⟩ := List.mem_filterMap.mp hw
  have hm : w ∈ big := by first | exact List.mem_of_getElem? hi | exact List.getElem?_mem hi
  exact ⟨hm, good_of_word h1⟩
theorem goodIn_app {big a b : List Cond} (ha : GoodIn big a) (hb : GoodIn big b) : GoodIn big (a ++ b) := fun w h => (List.mem_append.mp h).elim (ha w) (hb w)
theorem goodIn_ca {big a b : List Cond} {c : Cond} (ha : GoodIn big (c :: a)) (hb : GoodIn big b) : GoodIn big (c :: (a ++ b)) := fun w h => (List.mem_cons.mp h).elim (fun e => ha w (List.mem_cons.mpr (Or.inl e))) (fun h => (List.mem_append.mp h).elim (fun h => ha w (List.mem_cons.mpr (Or.inr h))) (hb w))
theorem goodIn_sub {big ws : List Cond} (hm : ∀ w ∈ ws, w ∈ big) (h : ws.all goodWord = true) : GoodIn big ws := fun w hw => ⟨hm w hw, good_of_word (List.all_eq_true.mp h w hw)⟩
/-! ===== END ===== -/

theorem vr_outer (c : ClassId) (N h0 : Nat) : ∀ i : Nat, Jvm.Free.Multi.outerC c N h0 i = arrV c N (fun j => va_rf (if j < i then some (h0 + 1 + j) else none))
  | 0 => by
    show ({ cls := c, slots := Array.replicate N .null, vm := .none } : Cell) = _
    rw [arrV_new]
    refine congrArg (arrV c N) (funext fun j => ?_)
    simp [va_rf]
  | i + 1 => by
    show (Jvm.Free.Multi.outerC c N h0 i).setSlot i (.ref (h0 + 1 + i)) = _
    rw [vr_outer c N h0 i, arrV_store]
    refine congrArg (arrV c N) (funext fun j => ?_)
    by_cases e : j = i
    · subst e
      simp [updV, va_rf]
    · by_cases h : j < i
      · simp [updV, e, h, Nat.lt_succ_of_lt h]
      · simp [updV, e, h, show ¬ j < i + 1 by omega]

/-! ===== BEGIN exceptions that leave a method, and their catching by the caller (launches without stack traces) ===== -/
section VXA
/-! The laws vx_back, vx_callV, vx_callS, vx_callSW, vx_throw0, vx_throwS follow proofs of the library, with one case more: JvmDerived/Free/Laws.lean (Back.of_free), Shelf42/LK1.lean (callV, callS), Shelf/KitTraced.lean (throwNew0V, throwNewS). -/
/-- where a method has thrown q: the class by its name, the cell, what was written, the world -/
def vx_T (XC : String → State → State → Prop) (st : State) (q : Addr) (t : State) (mc ms : Nat) (free : Addr → Prop) : Prop :=
  ∃ (E : String) (ce : Cell) (L : List Loc), XC E st t ∧ t.heap[q]? = some ce ∧ ce.vm = .none ∧ st.vm.findClass E = some ce.cls ∧ st.WarmedH t.vm ∧ st.sameButNew ({ t with vm := st.vm } : State) L mc ms ∧ ∀ z ∈ L, free z.base
def vx_Q (Qc : Array Value → State → Outcome → State → Prop) (XC : String → State → State → Prop) (mc ms : Nat) (free : Addr → Prop) : Array Value → State → Outcome → State → Prop := fun a st o t =>
  (Qc a st o t ∧ ∃ L, FrameEnd st o t L mc ms ∧ ∀ q ∈ L, free q.base) ∨ ∃ q, o = .threw q ∧ vx_T XC st q t mc ms free
/-- a callee that returns or throws -/
def vx_Met (l : Launch) (y : MethodName) (ws : List Cond) (rm : Room) (Pc : Array Value → State → Prop) (Qc : Array Value → State → Outcome → State → Prop) (XC : String → State → State → Prop) (mc ms : Nat) (free : Addr → Prop) : Prop :=
  MetFree l y (headSpec ws rm) Pc (fun _ _ _ _ _ => True) (vx_Q Qc XC mc ms free)
def vx_Post (XC : String → State → State → Prop) (mc ms : Nat) (free : Addr → Prop) : Pt → Array Value → Addr → Pt → Prop := fun A a q B =>
  ∃ (g : JFrame) (mk : MethodId) (t : State) (L : List Loc) (E : String) (ce : Cell), B.U.heap = t.heap ∧ B.U.vm = t.vm ∧ XC E (A.U.calling g mk a) t ∧ t.heap[q]? = some ce ∧ ce.vm = .none ∧ A.U.vm.findClass E = some ce.cls ∧ B.locs = A.locs ++ L ∧ (∀ z ∈ L, free z.base) ∧ B.cells = A.cells + mc ∧ B.slots = A.slots + ms
def vx_Back (l : Launch) (R : Room) (p : Program) (e : Env) (below : List Frame) (s : State) (sargs : Array Value) (y : MethodName) (len W9 : Nat)
    (Pre : Pt → Array Value → Prop) (Post : Pt → Array Value → Option Value → Pt → Prop) (PostX : Pt → Array Value → Addr → Pt → Prop) : Prop :=
  ∀ (m : MethodId) (meth : Method) (c : Code) (A : Pt) (g : JFrame) (ig : Instr) (mk : MethodId) (a : Array Value),
    Stand p l e R s m sargs below meth c A.U A.locs A.cells A.slots → g.method = m → g.locals.size = c.maxLocals → decode c.code g.pc = .ok (ig, len) →
    2 * g.monitorRoom + (g.stack.map fun v => v.category).sum ≤ W9 → A.U.methodNamed? y = some mk → Pre A a →
    (∃ (v : Option Value) (B : Pt), Stand p l e R s m sargs below meth c B.U B.locs B.cells B.slots ∧ Post A a v B ∧
      Steps p.tables e below (doInvoke e (A.U.setTop g) [] mk a).1 (B.U.setTop { g with pc := g.pc + len, stack := v.toList ++ g.stack })) ∨
    (∃ (q : Addr) (B : Pt), Stand p l e R s m sargs below meth c B.U B.locs B.cells B.slots ∧ PostX A a q B ∧
      Steps p.tables e below (doInvoke e (A.U.setTop g) [] mk a).1 ((B.U.setTop g).pushFrame (.throwing q)))
section Payer
variable {l : Launch} {R : Room} {p : Program} {e : Env} {below : List Frame} {s : State} {sargs : Array Value} {y : MethodName} {len W9 : Nat}
theorem vx_back {ws : List Cond} {rm : Room} {Pc : Array Value → State → Prop} {Qc : Array Value → State → Outcome → State → Prop} {XC : String → State → State → Prop} {mc ms : Nat} {free : Addr → Prop} {bytes : ByteArray} {maxL : Nat} {ret : Option FieldType}
    (hM : vx_Met l y ws rm Pc Qc XC mc ms free) (hblind : FrameBlind Pc) (hrc : rm.cells = mc) (hrs : rm.slots = ms)
    (hframes : rm.frames + 1 ≤ R.frames) (hlocals : W9 + (maxL + 11) + rm.locals ≤ R.locals)
    (hws : ∀ w ∈ ws, ∀ a' U, s.WarmedH U.vm → w.before a' U = true) (hcode : Cond.code y bytes maxL ret ∈ ws) (hinit : ∀ a' U, s.WarmedH U.vm → (Cond.initialized y.cls).before a' U = true) :
    vx_Back l R p e below s sargs y len W9 (PreOf R mc ms Pc) (PostOf Qc mc ms free) (vx_Post XC mc ms free) := by
  intro m meth c A g ig mk a X hg hsize hdg hW hn hp
  have h1 : (headSpec ws rm).pre.before a A.U = true := atoms_intro fun w hw => hws w hw _ _ X.warmed
  have h2 : (Cond.code y bytes maxL ret).before a A.U = true := hws _ hcode _ _ X.warmed
  have h3 : (Cond.initialized y.cls).before a A.U = true := hinit _ _ X.warmed
  have h4 : A.cells + (headSpec ws rm).room.cells ≤ R.cells := by rw [show (headSpec ws rm).room.cells = mc from hrc]; exact hp.1
  have h5 : A.slots + (headSpec ws rm).room.slots ≤ R.slots := by rw [show (headSpec ws rm).room.slots = ms from hrs]; exact hp.2.1
  have hPc : Pc a (A.U.calling g mk a) := hblind _ _ _ _ hp.2.2
  obtain ⟨U, Ls, c0, s0⟩ := A
  dsimp only [Pt.U, Pt.locs, Pt.cells, Pt.slots] at h1 h2 h3 h4 h5 X hn hPc ⊢
  obtain ⟨methY, cY, hmY, hcY, -, hlY, -, -, -, -⟩ := Cond.code_spec hn h2
  obtain ⟨kY, hkY, -⟩ := className_of_methodNamed hn
  have hinitY : kY.init = .initialized := Cond.initialized_spec (findClass_of_methodNamed hn) hkY h3
  have h : At U g.method c below := by rw [hg]; exact X.here
  have hlocals9 : W9 + (maxL + 11) + (headSpec ws rm).room.locals ≤ R.locals := hlocals
  have happ : (headSpec ws rm).appliesLoose y e.platform (U.calling g mk a) = true :=
    Spec.appliesLoose_calling (g := g) h hdg hn hkY hinitY
      (X.room_calling (g := g) (R' := (headSpec ws rm).room) hsize hmY hcY hframes (by rw [hlY]; omega) h4 h5) h1
  obtain ⟨mid, hmid⟩ := h.above
  have hfr : (U.setTop g).frames = (.java g :: mid) ++ below := by rw [State.frames_setTop' g h.top, hmid]; rfl
  obtain ⟨o, s₂, hsteps, -, hend, hq⟩ := Steps.callFree hM p X.admits X.cas X.clock (acts := []) hfr happ hPc trivial
  have hq' : vx_Q Qc XC mc ms free a (U.calling g mk a) o s₂ := hq
  rw [State.frames_setTop' g h.top] at hend
  obtain ⟨g₀, hg0⟩ := Option.isSome_iff_exists.mp h.top
  obtain ⟨r, hr⟩ := State.topJava?_eq_some.mp hg0
  have hr' : (({ U with heap := s₂.heap, slotsUsed := s₂.slotsUsed } : State).setVm s₂.vm).frames = .java g₀ :: r := hr
  rcases hq' with ⟨hqc, L, hfe, hL⟩ | ⟨q, rfl, E, ce, L, hx, hce, hcv, hcl, hW₂, hsm, hL⟩
  · obtain ⟨⟨v, rfl⟩, hW₂, e2, q2, q3, q4, q5, q6⟩ := id hfe
    have e3 : s₂ = ({ (U.calling g mk a).setFrames s₂.frames with heap := s₂.heap, slotsUsed := s₂.slotsUsed } : State).setVm s₂.vm := by
      have : s₂ = ({ s₂ with vm := (U.calling g mk a).vm } : State).setVm s₂.vm := rfl
      rw [e2] at this
      exact this
    obtain ⟨c₂, i₂, len₂, hc₂, hd₂, hf₂⟩ := hend
    have hW' : U.WarmedH s₂.vm := hW₂
    have hcc : c₂ = c := by
      have h1 : s₂.code? g.method = U.code? g.method := by
        rw [State.code?_eq, State.code?_eq, hW'.alike.method?]
      exact Option.some.inj (hc₂.symm.trans (h1.trans h.code))
    subst hcc
    have hlen : len₂ = len := by rw [hdg] at hd₂; cases hd₂; rfl
    subst hlen
    have hs₂ : s₂ = (({ U with heap := s₂.heap, slotsUsed := s₂.slotsUsed } : State).setVm s₂.vm).setTop { g with pc := g.pc + len₂, stack := v.toList ++ g.stack } := by
      refine e3.trans ?_
      rw [hf₂, State.calling_eq h.top, State.setFrames_setFrames, State.setTop_of_frames _ hr', hr]
      rfl
    have hsame : U.sameButNew ({ U with heap := s₂.heap, slotsUsed := s₂.slotsUsed } : State) L mc ms := by
      refine ⟨?_, q2, q3, q4, q5, q6⟩
      obtain ⟨t, ht, -⟩ := State.frames_cons hr
      show ({ U with heap := s₂.heap, slotsUsed := s₂.slotsUsed } : State) = { U.setFrames U.frames with heap := s₂.heap, slotsUsed := s₂.slotsUsed }
      rw [State.setFrames_self ht]
    subst hg
    refine Or.inl ⟨v, ⟨(({ U with heap := s₂.heap, slotsUsed := s₂.slotsUsed } : State).setVm s₂.vm), Ls ++ L, c0 + mc, s0 + ms⟩,
      ⟨X.admits, X.cas, X.clock, X.frames, X.room, X.hears, X.method, X.code, (X.here.setHeapUsed s₂.heap s₂.slotsUsed).setVm hW'.alike, X.tail, State.WarmedH.trans X.warmed hW', X.limits, X.bytes, X.same.trans (hsame.setVm s.vm)⟩,
      ⟨g, mk, s₂, L, rfl, rfl, hqc, rfl, hL, rfl, rfl⟩, ?_⟩
    show Steps p.tables e below _ ((({ U with heap := s₂.heap, slotsUsed := s₂.slotsUsed } : State).setVm s₂.vm).setTop { g with pc := g.pc + len₂, stack := v.toList ++ g.stack })
    rw [← hs₂]
    exact hsteps
  · obtain ⟨e2, q2, q3, q4, q5, q6⟩ := id hsm
    have e3 : s₂ = ({ (U.calling g mk a).setFrames s₂.frames with heap := s₂.heap, slotsUsed := s₂.slotsUsed } : State).setVm s₂.vm := by
      have : s₂ = ({ s₂ with vm := (U.calling g mk a).vm } : State).setVm s₂.vm := rfl
      rw [e2] at this
      exact this
    have hf₂ : s₂.frames = .throwing q :: .java g :: U.frames.tail := hend
    have hW' : U.WarmedH s₂.vm := hW₂
    have hs₂ : s₂ = ((({ U with heap := s₂.heap, slotsUsed := s₂.slotsUsed } : State).setVm s₂.vm).setTop g).pushFrame (.throwing q) := by
      refine e3.trans ?_
      rw [hf₂, State.calling_eq h.top, State.setFrames_setFrames, State.pushFrame, State.frames_setTop _ hr', State.setTop_of_frames _ hr', State.setFrames_setFrames, hr]
      rfl
    have hsame : U.sameButNew ({ U with heap := s₂.heap, slotsUsed := s₂.slotsUsed } : State) L mc ms := by
      refine ⟨?_, q2, q3, q4, q5, q6⟩
      obtain ⟨t, ht, -⟩ := State.frames_cons hr
      show ({ U with heap := s₂.heap, slotsUsed := s₂.slotsUsed } : State) = { U.setFrames U.frames with heap := s₂.heap, slotsUsed := s₂.slotsUsed }
      rw [State.setFrames_self ht]
    subst hg
    refine Or.inr ⟨q, ⟨(({ U with heap := s₂.heap, slotsUsed := s₂.slotsUsed } : State).setVm s₂.vm), Ls ++ L, c0 + mc, s0 + ms⟩,
      ⟨X.admits, X.cas, X.clock, X.frames, X.room, X.hears, X.method, X.code, (X.here.setHeapUsed s₂.heap s₂.slotsUsed).setVm hW'.alike, X.tail, State.WarmedH.trans X.warmed hW', X.limits, X.bytes, X.same.trans (hsame.setVm s.vm)⟩,
      ⟨g, mk, s₂, L, E, ce, rfl, rfl, hx, hce, hcv, hcl, rfl, hL, rfl, rfl⟩, ?_⟩
    show Steps p.tables e below _ (((({ U with heap := s₂.heap, slotsUsed := s₂.slotsUsed } : State).setVm s₂.vm).setTop g).pushFrame (.throwing q))
    rw [← hs₂]
    exact hsteps
end Payer
section Calls
variable {p : Program} {l : Launch} {e : Env} {R : Room} {s : State} {m : MethodId} {args : Array Value} {below : List Frame} {meth : Method} {c : Code} {T : State} {locs : List Loc} {cells slots : Nat}
theorem vx_callV (X : Stand p l e R s m args below meth c T locs cells slots) (hexec : p.tables.exec = Jvm.exec) {own C : String} {index : Nat} {y : MethodName} {bytes : ByteArray} {maxL : Nat} {ret : Option FieldType}
    (hown : s.vm.findClass own = some m.cls) (hlink : (Cond.methodLink own index y).before args s = true) (hinst : (Cond.instanceMethod y).before args s = true) (hsel : (Cond.selects C y y).before args s = true)
    (hcode : (Cond.code y bytes maxL ret).before args s = true) (hy : y.cls ≠ "java/lang/invoke/MethodHandle" ∧ y.cls ≠ "java/lang/invoke/VarHandle")
    {W9 : Nat} {Pre : Pt → Array Value → Prop} {Post : Pt → Array Value → Option Value → Pt → Prop} {PostX : Pt → Array Value → Addr → Pt → Prop} (hK : vx_Back l R p e below s args y 3 W9 Pre Post PostX)
    {b : Addr} {cellB : Cell} (hcell : T.heap[b]? = some cellB) (hobj : cellB.vm.isStatics = false) (hcls : s.vm.findClass C = some cellB.cls)
    {g : JFrame} (hg : g.method = m) (hsize : g.locals.size = c.maxLocals) {argsL rest : List Value} (hlen : ∀ sig, parseMethodDescriptor y.desc = some sig → argsL.length = sig.parameters.length)
    (hstack : g.stack = argsL.reverse ++ .ref b :: rest) (hW : 2 * g.monitorRoom + (rest.map fun v => v.category).sum ≤ W9) (hdg : decode c.code g.pc = .ok (.invokevirtual index, 3))
    (hpre : ∀ vm₁, s.WarmedH vm₁ → Pre ⟨T.setVm vm₁, locs, cells, slots⟩ (Value.ref b :: argsL).toArray) :
    (∃ (v : Option Value) (vm₁ : Vm) (B : Pt), s.WarmedH vm₁ ∧ Stand p l e R s m args below meth c B.U B.locs B.cells B.slots ∧ Post ⟨T.setVm vm₁, locs, cells, slots⟩ (Value.ref b :: argsL).toArray v B ∧
      ∀ target, Steps p.tables e below (B.U.setTop { g with pc := g.pc + 3, stack := v.toList ++ rest }) target → Steps p.tables e below (T.setTop g) target) ∨
    (∃ (q : Addr) (vm₁ : Vm) (B : Pt), s.WarmedH vm₁ ∧ Stand p l e R s m args below meth c B.U B.locs B.cells B.slots ∧ PostX ⟨T.setVm vm₁, locs, cells, slots⟩ (Value.ref b :: argsL).toArray q B ∧
      Steps p.tables e below (T.setTop g) ((B.U.setTop { g with stack := rest }).pushFrame (.throwing q))) := by
  obtain ⟨mk, methM, hnamed, hmethM, hstM, habM⟩ := Cond.instanceMethod_spec hinst
  obtain ⟨methM', cM, hmethM', -, -, -, -, -, -, hsigM⟩ := Cond.code_spec hnamed hcode
  cases hmethM.symm.trans hmethM'
  obtain ⟨c2, r2, m2, q1, q2, q3, q4, kP, hkP, hkPi⟩ := Cond.selects_spec hsel
  cases hcls.symm.trans q1
  cases (State.methodFound?_of_named hnamed hy).symm.trans q2
  cases hnamed.symm.trans q3
  have hselP : selectMethod e.platform s.vm cellB.cls mk = .method mk := by rw [Launch.admits_selectMethod X.admits]; exact q4
  obtain ⟨vm₁, X₁, hstep₁⟩ := X.invokevirtual hexec hown hlink hnamed hmethM hstM hkP hkPi hy (a := b) (cell := cellB) hcell
    (fun z h => by rw [h] at hobj; cases hobj) hselP hmethM habM hkP hkPi (g := g) hg (argsL := argsL) (rest := rest) (hlen _ hsigM) hstack hdg
  rcases hK m meth c ⟨T.setVm vm₁, locs, cells, slots⟩ { g with stack := rest } (.invokevirtual index) mk (Value.ref b :: argsL).toArray X₁ hg hsize hdg hW (X₁.named hnamed) (hpre vm₁ X₁.warmed) with ⟨v, B, X', hpost, hsteps⟩ | ⟨q, B, X', hpost, hsteps⟩
  · exact Or.inl ⟨v, vm₁, B, X₁.warmed, X', hpost, fun target h => hstep₁ _ fun acts => by rw [doInvoke_state]; exact hsteps.trans h⟩
  · exact Or.inr ⟨q, vm₁, B, X₁.warmed, X', hpost, hstep₁ _ fun acts => by rw [doInvoke_state]; exact hsteps⟩
theorem vx_callS (X : Stand p l e R s m args below meth c T locs cells slots) (hexec : p.tables.exec = Jvm.exec) {own : String} {index : Nat} {y : MethodName} {bytes : ByteArray} {maxL : Nat} {ret : Option FieldType}
    (hown : s.vm.findClass own = some m.cls) (hlink : (Cond.methodLink own index y).before args s = true) (hstat : (Cond.static y).before args s = true) (hinit : (Cond.initialized y.cls).before args s = true)
    (hcode : (Cond.code y bytes maxL ret).before args s = true) (hy : y.cls ≠ "java/lang/invoke/MethodHandle" ∧ y.cls ≠ "java/lang/invoke/VarHandle")
    {W9 : Nat} {Pre : Pt → Array Value → Prop} {Post : Pt → Array Value → Option Value → Pt → Prop} {PostX : Pt → Array Value → Addr → Pt → Prop} (hK : vx_Back l R p e below s args y 3 W9 Pre Post PostX)
    {g : JFrame} (hg : g.method = m) (hsize : g.locals.size = c.maxLocals) {argsL rest : List Value} (hlen : ∀ sig, parseMethodDescriptor y.desc = some sig → argsL.length = sig.parameters.length)
    (hstack : g.stack = argsL.reverse ++ rest) (hW : 2 * g.monitorRoom + (rest.map fun v => v.category).sum ≤ W9) (hdg : decode c.code g.pc = .ok (.invokestatic index, 3))
    (hpre : ∀ vm₁, s.WarmedH vm₁ → Pre ⟨T.setVm vm₁, locs, cells, slots⟩ argsL.toArray) :
    (∃ (v : Option Value) (vm₁ : Vm) (B : Pt), s.WarmedH vm₁ ∧ Stand p l e R s m args below meth c B.U B.locs B.cells B.slots ∧ Post ⟨T.setVm vm₁, locs, cells, slots⟩ argsL.toArray v B ∧
      ∀ target, Steps p.tables e below (B.U.setTop { g with pc := g.pc + 3, stack := v.toList ++ rest }) target → Steps p.tables e below (T.setTop g) target) ∨
    (∃ (q : Addr) (vm₁ : Vm) (B : Pt), s.WarmedH vm₁ ∧ Stand p l e R s m args below meth c B.U B.locs B.cells B.slots ∧ PostX ⟨T.setVm vm₁, locs, cells, slots⟩ argsL.toArray q B ∧
      Steps p.tables e below (T.setTop g) ((B.U.setTop { g with stack := rest }).pushFrame (.throwing q))) := by
  obtain ⟨mk, hnamed⟩ := Cond.code_named hcode
  obtain ⟨methM, cM, hmethM, -, -, -, -, -, -, hsigM⟩ := Cond.code_spec hnamed hcode
  have hstatic : methM.isStatic = true := Cond.static_spec hnamed hmethM hstat
  obtain ⟨kP, hkP, -⟩ := className_of_methodNamed hnamed
  have hinitP : kP.init = .initialized := Cond.initialized_spec (findClass_of_methodNamed hnamed) hkP hinit
  obtain ⟨vm₁, X₁, hstep₁⟩ := X.invokestatic hexec hown hlink hnamed hmethM hstatic hkP hinitP hy (g := g) hg (argsL := argsL) (rest := rest) (hlen _ hsigM) hstack hdg
  rcases hK m meth c ⟨T.setVm vm₁, locs, cells, slots⟩ { g with stack := rest } (.invokestatic index) mk argsL.toArray X₁ hg hsize hdg hW (X₁.named hnamed) (hpre vm₁ X₁.warmed) with ⟨v, B, X', hpost, hsteps⟩ | ⟨q, B, X', hpost, hsteps⟩
  · exact Or.inl ⟨v, vm₁, B, X₁.warmed, X', hpost, fun target h => hstep₁ _ fun acts => by rw [doInvoke_state]; exact hsteps.trans h⟩
  · exact Or.inr ⟨q, vm₁, B, X₁.warmed, X', hpost, hstep₁ _ fun acts => by rw [doInvoke_state]; exact hsteps⟩
end Calls
theorem vx_cls {s : State} {T : State} {vm₁ : Vm} {E : String} {k : ClassId} (hW : s.WarmedH vm₁) (h : (T.setVm vm₁).vm.findClass E = some k) : s.vm.findClass E = some k := by
  have h1 : vm₁.findClass E = some k := h
  rw [hW.alike.findClass] at h1
  exact h1
/-- the method's frame g, with q thrown over it -/
def vx_W (p : Program) (l : Launch) (e : Env) (R : Room) (s : State) (m : MethodId) (args : Array Value) (below : List Frame) (meth : Method) (c : Code) (H : Heap) (locs : List Loc) (cells slots : Nat) (Q : State → Prop) (g : JFrame) (q : Addr) : Prop :=
  ∀ T : State, T.heap = H → Stand p l e R s m args below meth c T locs cells slots → ∃ t, Steps p.tables e below ((T.setTop g).pushFrame (.throwing q)) t ∧ Q t
def vx_Run (p : Program) (l : Launch) (e : Env) (R : Room) (s : State) (m : MethodId) (args : Array Value) (below : List Frame) (meth : Method) (c : Code) (H : Heap) (locs : List Loc) (cells slots mc ms : Nat) (g : JFrame) (rest : List Value) (Qa : State → Outcome → State → Prop) (XC : String → State → State → Prop) (free : Addr → Prop) : Prop :=
  ∀ T : State, T.heap = H → Stand p l e R s m args below meth c T locs cells slots →
    (∃ (v : Option Value) (st₀ t T' : State) (L : List Loc), st₀.heap = H ∧ Stand p l e R s m args below meth c T' (locs ++ L) (cells + mc) (slots + ms) ∧ (∀ q ∈ L, free q.base) ∧ T'.heap = t.heap ∧ T'.vm = t.vm ∧ Qa st₀ (.returned v) t ∧
      Goes p e below T g T' { g with pc := g.pc + 3, stack := v.toList ++ rest }) ∨
    (∃ (q : Addr) (st₀ t T' : State) (L : List Loc) (E : String) (ce : Cell), st₀.heap = H ∧ Stand p l e R s m args below meth c T' (locs ++ L) (cells + mc) (slots + ms) ∧ (∀ z ∈ L, free z.base) ∧ T'.heap = t.heap ∧ T'.vm = t.vm ∧ XC E st₀ t ∧ t.heap[q]? = some ce ∧ ce.vm = .none ∧ s.vm.findClass E = some ce.cls ∧
      Steps p.tables e below (T.setTop g) ((T'.setTop { g with stack := rest }).pushFrame (.throwing q)))
def vx_X {S : Type} (px : S → Prop) (B : String → S → State → Prop) (A : Nat → Prop) : String → State → State → Prop := fun E st t => ∃ u : S, px u ∧ B E u t ∧ va_F A st t
section Runs
variable {p : Program} {l : Launch} {e : Env} {R : Room} {s : State} {m : MethodId} {args : Array Value} {below : List Frame} {meth : Method} {c : Code} {H : Heap} {locs : List Loc} {cells slots : Nat}
variable {y : MethodName} {bytes cc : ByteArray} {maxL nL mc ms n index : Nat} {ret : Option FieldType} {ws : List Cond} {rm : Room} {Pc : Array Value → State → Prop} {Qc : Array Value → State → Outcome → State → Prop} {XC : String → State → State → Prop} {free : Addr → Prop} {Ts : List Cond} {own C : String} {b : Addr} {As rest : List Value} {g : JFrame}
theorem vx_callBack (cb : CallB R s args own index y bytes maxL ret ws rm mc ms n) (hM : vx_Met l y ws rm Pc Qc XC mc ms free) (hbl : FrameBlind Pc) : vx_Back l R p e below s args y 3 8 (PreOf R mc ms Pc) (PostOf Qc mc ms free) (vx_Post XC mc ms free) := by
  obtain ⟨hrc, hrs, hfr, hlo, hws, hcw, -, hini, -⟩ := cb
  exact vx_back (bytes := bytes) (maxL := maxL) (ret := ret) hM hbl hrc hrs hfr hlo hws hcw (fun a' U hW => word_at hW (Or.inl (by first | rfl | simp [Cond.onTables, Cond.keeps, Cond.steady])) hini)
theorem vx_runV (S : CallFix p m c cc nL s args Ts own) (hM : vx_Met l y ws rm Pc Qc XC mc ms free) (cw : CallW R s args own C index y bytes maxL ret ws rm mc ms n) (hp : PreV s H C b Pc As)
    (hg : g.method = m) (hn : As.length = n) (hsize : g.locals.size = nL) (hstack : g.stack = As.reverse ++ .ref b :: rest) (hW : 2 * g.monitorRoom + (rest.map fun v => v.category).sum ≤ 8) (hdg : decode cc g.pc = .ok (.invokevirtual index, 3)) (hf : cells + mc ≤ R.cells ∧ slots + ms ≤ R.slots) :
    vx_Run p l e R s m args below meth c H locs cells slots mc ms g rest (Qc (Value.ref b :: As).toArray) XC free := by
  have hK : vx_Back l R p e below s args y 3 8 (PreOf R mc ms Pc) (PostOf Qc mc ms free) (vx_Post XC mc ms free) := vx_callBack cw.1 hM hp.1
  obtain ⟨⟨-, -, -, -, -, -, hcode, -, hy, hlen, hl⟩, hin, hse⟩ := cw
  obtain ⟨hx, hb, hml, ho, -⟩ := S
  obtain ⟨-, ⟨cellB, hcB, hoB, hclB⟩, hPc⟩ := hp
  intro T hT X
  rcases vx_callV X hx (C := C) (bytes := bytes) (maxL := maxL) (ret := ret) ho hl hin hse hcode hy hK (by rw [hT]; exact hcB) hoB hclB hg (hsize.trans hml.symm) (argsL := As) (rest := rest) (fun sig h => hn.trans (hlen sig h)) hstack hW (by rw [hb]; exact hdg)
    (fun vm₁ hW₁ => ⟨hf.1, hf.2, hPc (T.setVm vm₁) hT hW₁⟩) with ⟨v, vm₁, ⟨U', l2, c2, s2⟩, hW₁, X', ⟨g', mk, t, L, e1, e2, hq, h1, hL, h2, h3⟩, st⟩ | ⟨q, vm₁, ⟨U', l2, c2, s2⟩, hW₁, X', ⟨g', mk, t, L, E, ce, e1, e2, hq, hce, hcv, hcl, h1, hL, h2, h3⟩, st⟩
  · dsimp only [Pt.U, Pt.locs, Pt.cells, Pt.slots] at X' e1 e2 h1 h2 h3 st
    subst h1; subst h2; subst h3
    exact Or.inl ⟨v, (T.setVm vm₁).calling g' mk (Value.ref b :: As).toArray, t, U', L, hT, X', hL, e1, e2, hq, st⟩
  · dsimp only [Pt.U, Pt.locs, Pt.cells, Pt.slots] at X' e1 e2 h1 h2 h3 st hcl
    subst h1; subst h2; subst h3
    exact Or.inr ⟨q, (T.setVm vm₁).calling g' mk (Value.ref b :: As).toArray, t, U', L, E, ce, hT, X', hL, e1, e2, hq, hce, hcv, vx_cls hW₁ hcl, st⟩
theorem vx_runS (S : CallFix p m c cc nL s args Ts own) (hM : vx_Met l y ws rm Pc Qc XC mc ms free) (cw : CallB R s args own index y bytes maxL ret ws rm mc ms n ∧ (Cond.static y).before args s = true) (hp : PreS s H Pc As)
    (hg : g.method = m) (hn : As.length = n) (hsize : g.locals.size = nL) (hstack : g.stack = As.reverse ++ rest) (hW : 2 * g.monitorRoom + (rest.map fun v => v.category).sum ≤ 8) (hdg : decode cc g.pc = .ok (.invokestatic index, 3)) (hf : cells + mc ≤ R.cells ∧ slots + ms ≤ R.slots) :
    vx_Run p l e R s m args below meth c H locs cells slots mc ms g rest (Qc As.toArray) XC free := by
  have hK : vx_Back l R p e below s args y 3 8 (PreOf R mc ms Pc) (PostOf Qc mc ms free) (vx_Post XC mc ms free) := vx_callBack cw.1 hM hp.1
  obtain ⟨⟨-, -, -, -, -, -, hcode, hini, hy, hlen, hl⟩, hstt⟩ := cw
  obtain ⟨hx, hb, hml, ho, -⟩ := S
  intro T hT X
  rcases vx_callS X hx (bytes := bytes) (maxL := maxL) (ret := ret) ho hl hstt hini hcode hy hK hg (hsize.trans hml.symm) (argsL := As) (rest := rest) (fun sig h => hn.trans (hlen sig h)) hstack hW (by rw [hb]; exact hdg)
    (fun vm₁ hW₁ => ⟨hf.1, hf.2, hp.2 (T.setVm vm₁) hT hW₁⟩) with ⟨v, vm₁, ⟨U', l2, c2, s2⟩, hW₁, X', ⟨g', mk, t, L, e1, e2, hq, h1, hL, h2, h3⟩, st⟩ | ⟨q, vm₁, ⟨U', l2, c2, s2⟩, hW₁, X', ⟨g', mk, t, L, E, ce, e1, e2, hq, hce, hcv, hcl, h1, hL, h2, h3⟩, st⟩
  · dsimp only [Pt.U, Pt.locs, Pt.cells, Pt.slots] at X' e1 e2 h1 h2 h3 st
    subst h1; subst h2; subst h3
    exact Or.inl ⟨v, (T.setVm vm₁).calling g' mk As.toArray, t, U', L, hT, X', hL, e1, e2, hq, st⟩
  · dsimp only [Pt.U, Pt.locs, Pt.cells, Pt.slots] at X' e1 e2 h1 h2 h3 st hcl
    subst h1; subst h2; subst h3
    exact Or.inr ⟨q, (T.setVm vm₁).calling g' mk As.toArray, t, U', L, E, ce, hT, X', hL, e1, e2, hq, hce, hcv, vx_cls hW₁ hcl, st⟩
end Runs
section Rows
variable {p : Program} {l : Launch} {e : Env} {R : Room} {s : State} {m : MethodId} {args : Array Value} {below : List Frame} {meth : Method} {c : Code} {H : Heap} {locs : List Loc} {cells slots : Nat} {Q : State → Prop}
variable {mc ms : Nat} {free : Addr → Prop} {A0 A1 : Nat → Prop} {H0 : Heap} {a : Array Value} {pc : Nat} {ls : Array Slot} {st0 rest : List Value}
theorem vx_keep {st₀ t T' : State} {L : List Loc} (h0 : st₀.heap = H) (e1 : T'.heap = t.heap) (hS : va_S A0 H0 H locs) (hA : ∀ q, q < H.size → A1 q → A0 q) (hf : ∀ q, free q → A0 q) (hL : ∀ q ∈ L, free q.base) (hF : va_F A1 st₀ t) :
    H.size ≤ T'.heap.size ∧ (∀ q : Nat, q < H.size → ¬ A1 q → T'.heap[q]? = H[q]?) ∧ va_S A0 H0 T'.heap (locs ++ L) := by
  obtain ⟨hz, hk⟩ := hF
  rw [h0] at hz hk
  exact ⟨by rw [e1]; exact hz, fun q h1 h2 => by rw [e1]; exact hk q h1 h2,
    ⟨Nat.le_trans hS.1 (by rw [e1]; exact hz), fun q h1 h2 => by rw [e1, hk q (Nat.lt_of_lt_of_le h1 hS.1) (fun z => h2 (hA q (Nat.lt_of_lt_of_le h1 hS.1) z))]; exact hS.2.1 q h1 h2, fun q hq => by
      rcases List.mem_append.mp hq with h | h
      · exact hS.2.2 q h
      · exact hf _ (hL q h)⟩⟩
theorem vx_calli {S SX : Type} {post : Int32 → S → Prop} {px : SX → Prop} {B : S → State → Prop} {BX : String → SX → State → Prop} {AX : Nat → Prop} (hr : vx_Run p l e R s m args below meth c H locs cells slots mc ms (F0 m pc ls st0) rest (va_Qi post B A1 a) (vx_X px BX AX) free) (hS : va_S A0 H0 H locs) (hA : ∀ q, q < H.size → A1 q → A0 q) (hf : ∀ q, free q → A0 q) (hAX : ∀ q, q < H.size → AX q → A0 q)
    (kx : ∀ (E : String) (ce : Cell) (q9 : Addr) (u : SX) (t : State) (H1 : Heap) (locs1 : List Loc), t.heap = H1 → s.vm.Alike t.vm → px u → BX E u t → H.size ≤ H1.size → (∀ q : Nat, q < H.size → ¬ AX q → H1[q]? = H[q]?) → va_S A0 H0 H1 locs1 → H1[q9]? = some ce → ce.vm = .none → s.vm.findClass E = some ce.cls → vx_W p l e R s m args below meth c H1 locs1 (cells + mc) (slots + ms) Q (F0 m pc ls rest) q9)
    (kk : ∀ (r : Int32) (u : S) (t : State) (H1 : Heap) (locs1 : List Loc), t.heap = H1 → s.vm.Alike t.vm → post r u → B u t → H.size ≤ H1.size → (∀ q : Nat, q < H.size → ¬ A1 q → H1[q]? = H[q]?) → va_S A0 H0 H1 locs1 → W p l e R s m args below meth c H1 locs1 (cells + mc) (slots + ms) Q (F0 m (pc + 3) ls (.int r :: rest))) : W p l e R s m args below meth c H locs cells slots Q (F0 m pc ls st0) := by
  intro T hT X
  rcases hr T hT X with ⟨v, st₀, t, T', L, h0, X', hL, e1, e2, ⟨⟨r, u, hv, hp, hb⟩, hF⟩, st⟩ | ⟨q, st₀, t, T', L, E, ce, h0, X', hL, e1, e2, ⟨u, hp, hb, hF⟩, hce, hcv, hcl, st⟩
  · cases hv
    obtain ⟨k1, k2, k3⟩ := vx_keep h0 e1 hS hA hf hL hF
    obtain ⟨t2, a1, b1⟩ := kk r u t T'.heap (locs ++ L) e1.symm (by rw [← e2]; exact X'.warmed.alike) hp hb k1 k2 k3 T' rfl X'
    exact ⟨t2, st t2 a1, b1⟩
  · obtain ⟨k1, k2, k3⟩ := vx_keep h0 e1 hS hAX hf hL hF
    obtain ⟨t2, a1, b1⟩ := kx E ce q u t T'.heap (locs ++ L) e1.symm (by rw [← e2]; exact X'.warmed.alike) hp hb k1 k2 k3 (by rw [e1]; exact hce) hcv hcl T' rfl X'
    exact ⟨t2, st.trans a1, b1⟩
theorem vx_calll {S SX : Type} {post : Int64 → S → Prop} {px : SX → Prop} {B : S → State → Prop} {BX : String → SX → State → Prop} {AX : Nat → Prop} (hr : vx_Run p l e R s m args below meth c H locs cells slots mc ms (F0 m pc ls st0) rest (va_Ql post B A1 a) (vx_X px BX AX) free) (hS : va_S A0 H0 H locs) (hA : ∀ q, q < H.size → A1 q → A0 q) (hf : ∀ q, free q → A0 q) (hAX : ∀ q, q < H.size → AX q → A0 q)
    (kx : ∀ (E : String) (ce : Cell) (q9 : Addr) (u : SX) (t : State) (H1 : Heap) (locs1 : List Loc), t.heap = H1 → s.vm.Alike t.vm → px u → BX E u t → H.size ≤ H1.size → (∀ q : Nat, q < H.size → ¬ AX q → H1[q]? = H[q]?) → va_S A0 H0 H1 locs1 → H1[q9]? = some ce → ce.vm = .none → s.vm.findClass E = some ce.cls → vx_W p l e R s m args below meth c H1 locs1 (cells + mc) (slots + ms) Q (F0 m pc ls rest) q9)
    (kk : ∀ (r : Int64) (u : S) (t : State) (H1 : Heap) (locs1 : List Loc), t.heap = H1 → s.vm.Alike t.vm → post r u → B u t → H.size ≤ H1.size → (∀ q : Nat, q < H.size → ¬ A1 q → H1[q]? = H[q]?) → va_S A0 H0 H1 locs1 → W p l e R s m args below meth c H1 locs1 (cells + mc) (slots + ms) Q (F0 m (pc + 3) ls (.long r :: rest))) : W p l e R s m args below meth c H locs cells slots Q (F0 m pc ls st0) := by
  intro T hT X
  rcases hr T hT X with ⟨v, st₀, t, T', L, h0, X', hL, e1, e2, ⟨⟨r, u, hv, hp, hb⟩, hF⟩, st⟩ | ⟨q, st₀, t, T', L, E, ce, h0, X', hL, e1, e2, ⟨u, hp, hb, hF⟩, hce, hcv, hcl, st⟩
  · cases hv
    obtain ⟨k1, k2, k3⟩ := vx_keep h0 e1 hS hA hf hL hF
    obtain ⟨t2, a1, b1⟩ := kk r u t T'.heap (locs ++ L) e1.symm (by rw [← e2]; exact X'.warmed.alike) hp hb k1 k2 k3 T' rfl X'
    exact ⟨t2, st t2 a1, b1⟩
  · obtain ⟨k1, k2, k3⟩ := vx_keep h0 e1 hS hAX hf hL hF
    obtain ⟨t2, a1, b1⟩ := kx E ce q u t T'.heap (locs ++ L) e1.symm (by rw [← e2]; exact X'.warmed.alike) hp hb k1 k2 k3 (by rw [e1]; exact hce) hcv hcl T' rfl X'
    exact ⟨t2, st.trans a1, b1⟩
theorem vx_callf {S SX : Type} {post : UInt32 → S → Prop} {px : SX → Prop} {B : S → State → Prop} {BX : String → SX → State → Prop} {AX : Nat → Prop} (hr : vx_Run p l e R s m args below meth c H locs cells slots mc ms (F0 m pc ls st0) rest (va_Qf post B A1 a) (vx_X px BX AX) free) (hS : va_S A0 H0 H locs) (hA : ∀ q, q < H.size → A1 q → A0 q) (hf : ∀ q, free q → A0 q) (hAX : ∀ q, q < H.size → AX q → A0 q)
    (kx : ∀ (E : String) (ce : Cell) (q9 : Addr) (u : SX) (t : State) (H1 : Heap) (locs1 : List Loc), t.heap = H1 → s.vm.Alike t.vm → px u → BX E u t → H.size ≤ H1.size → (∀ q : Nat, q < H.size → ¬ AX q → H1[q]? = H[q]?) → va_S A0 H0 H1 locs1 → H1[q9]? = some ce → ce.vm = .none → s.vm.findClass E = some ce.cls → vx_W p l e R s m args below meth c H1 locs1 (cells + mc) (slots + ms) Q (F0 m pc ls rest) q9)
    (kk : ∀ (r : UInt32) (u : S) (t : State) (H1 : Heap) (locs1 : List Loc), t.heap = H1 → s.vm.Alike t.vm → post r u → B u t → H.size ≤ H1.size → (∀ q : Nat, q < H.size → ¬ A1 q → H1[q]? = H[q]?) → va_S A0 H0 H1 locs1 → W p l e R s m args below meth c H1 locs1 (cells + mc) (slots + ms) Q (F0 m (pc + 3) ls (.float r :: rest))) : W p l e R s m args below meth c H locs cells slots Q (F0 m pc ls st0) := by
  intro T hT X
  rcases hr T hT X with ⟨v, st₀, t, T', L, h0, X', hL, e1, e2, ⟨⟨r, u, hv, hp, hb⟩, hF⟩, st⟩ | ⟨q, st₀, t, T', L, E, ce, h0, X', hL, e1, e2, ⟨u, hp, hb, hF⟩, hce, hcv, hcl, st⟩
  · cases hv
    obtain ⟨k1, k2, k3⟩ := vx_keep h0 e1 hS hA hf hL hF
    obtain ⟨t2, a1, b1⟩ := kk r u t T'.heap (locs ++ L) e1.symm (by rw [← e2]; exact X'.warmed.alike) hp hb k1 k2 k3 T' rfl X'
    exact ⟨t2, st t2 a1, b1⟩
  · obtain ⟨k1, k2, k3⟩ := vx_keep h0 e1 hS hAX hf hL hF
    obtain ⟨t2, a1, b1⟩ := kx E ce q u t T'.heap (locs ++ L) e1.symm (by rw [← e2]; exact X'.warmed.alike) hp hb k1 k2 k3 (by rw [e1]; exact hce) hcv hcl T' rfl X'
    exact ⟨t2, st.trans a1, b1⟩
theorem vx_calld {S SX : Type} {post : UInt64 → S → Prop} {px : SX → Prop} {B : S → State → Prop} {BX : String → SX → State → Prop} {AX : Nat → Prop} (hr : vx_Run p l e R s m args below meth c H locs cells slots mc ms (F0 m pc ls st0) rest (va_Qd post B A1 a) (vx_X px BX AX) free) (hS : va_S A0 H0 H locs) (hA : ∀ q, q < H.size → A1 q → A0 q) (hf : ∀ q, free q → A0 q) (hAX : ∀ q, q < H.size → AX q → A0 q)
    (kx : ∀ (E : String) (ce : Cell) (q9 : Addr) (u : SX) (t : State) (H1 : Heap) (locs1 : List Loc), t.heap = H1 → s.vm.Alike t.vm → px u → BX E u t → H.size ≤ H1.size → (∀ q : Nat, q < H.size → ¬ AX q → H1[q]? = H[q]?) → va_S A0 H0 H1 locs1 → H1[q9]? = some ce → ce.vm = .none → s.vm.findClass E = some ce.cls → vx_W p l e R s m args below meth c H1 locs1 (cells + mc) (slots + ms) Q (F0 m pc ls rest) q9)
    (kk : ∀ (r : UInt64) (u : S) (t : State) (H1 : Heap) (locs1 : List Loc), t.heap = H1 → s.vm.Alike t.vm → post r u → B u t → H.size ≤ H1.size → (∀ q : Nat, q < H.size → ¬ A1 q → H1[q]? = H[q]?) → va_S A0 H0 H1 locs1 → W p l e R s m args below meth c H1 locs1 (cells + mc) (slots + ms) Q (F0 m (pc + 3) ls (.double r :: rest))) : W p l e R s m args below meth c H locs cells slots Q (F0 m pc ls st0) := by
  intro T hT X
  rcases hr T hT X with ⟨v, st₀, t, T', L, h0, X', hL, e1, e2, ⟨⟨r, u, hv, hp, hb⟩, hF⟩, st⟩ | ⟨q, st₀, t, T', L, E, ce, h0, X', hL, e1, e2, ⟨u, hp, hb, hF⟩, hce, hcv, hcl, st⟩
  · cases hv
    obtain ⟨k1, k2, k3⟩ := vx_keep h0 e1 hS hA hf hL hF
    obtain ⟨t2, a1, b1⟩ := kk r u t T'.heap (locs ++ L) e1.symm (by rw [← e2]; exact X'.warmed.alike) hp hb k1 k2 k3 T' rfl X'
    exact ⟨t2, st t2 a1, b1⟩
  · obtain ⟨k1, k2, k3⟩ := vx_keep h0 e1 hS hAX hf hL hF
    obtain ⟨t2, a1, b1⟩ := kx E ce q u t T'.heap (locs ++ L) e1.symm (by rw [← e2]; exact X'.warmed.alike) hp hb k1 k2 k3 (by rw [e1]; exact hce) hcv hcl T' rfl X'
    exact ⟨t2, st.trans a1, b1⟩
theorem vx_callv {S SX : Type} {post : S → Prop} {px : SX → Prop} {B : S → State → Prop} {BX : String → SX → State → Prop} {AX : Nat → Prop} (hr : vx_Run p l e R s m args below meth c H locs cells slots mc ms (F0 m pc ls st0) rest (va_Qv post B A1 a) (vx_X px BX AX) free) (hS : va_S A0 H0 H locs) (hA : ∀ q, q < H.size → A1 q → A0 q) (hf : ∀ q, free q → A0 q) (hAX : ∀ q, q < H.size → AX q → A0 q)
    (kx : ∀ (E : String) (ce : Cell) (q9 : Addr) (u : SX) (t : State) (H1 : Heap) (locs1 : List Loc), t.heap = H1 → s.vm.Alike t.vm → px u → BX E u t → H.size ≤ H1.size → (∀ q : Nat, q < H.size → ¬ AX q → H1[q]? = H[q]?) → va_S A0 H0 H1 locs1 → H1[q9]? = some ce → ce.vm = .none → s.vm.findClass E = some ce.cls → vx_W p l e R s m args below meth c H1 locs1 (cells + mc) (slots + ms) Q (F0 m pc ls rest) q9)
    (kk : ∀ (u : S) (t : State) (H1 : Heap) (locs1 : List Loc), t.heap = H1 → s.vm.Alike t.vm → post u → B u t → H.size ≤ H1.size → (∀ q : Nat, q < H.size → ¬ A1 q → H1[q]? = H[q]?) → va_S A0 H0 H1 locs1 → W p l e R s m args below meth c H1 locs1 (cells + mc) (slots + ms) Q (F0 m (pc + 3) ls (rest))) : W p l e R s m args below meth c H locs cells slots Q (F0 m pc ls st0) := by
  intro T hT X
  rcases hr T hT X with ⟨v, st₀, t, T', L, h0, X', hL, e1, e2, ⟨⟨u, hv, hp, hb⟩, hF⟩, st⟩ | ⟨q, st₀, t, T', L, E, ce, h0, X', hL, e1, e2, ⟨u, hp, hb, hF⟩, hce, hcv, hcl, st⟩
  · cases hv
    obtain ⟨k1, k2, k3⟩ := vx_keep h0 e1 hS hA hf hL hF
    obtain ⟨t2, a1, b1⟩ := kk u t T'.heap (locs ++ L) e1.symm (by rw [← e2]; exact X'.warmed.alike) hp hb k1 k2 k3 T' rfl X'
    exact ⟨t2, st t2 a1, b1⟩
  · obtain ⟨k1, k2, k3⟩ := vx_keep h0 e1 hS hAX hf hL hF
    obtain ⟨t2, a1, b1⟩ := kx E ce q u t T'.heap (locs ++ L) e1.symm (by rw [← e2]; exact X'.warmed.alike) hp hb k1 k2 k3 (by rw [e1]; exact hce) hcv hcl T' rfl X'
    exact ⟨t2, st.trans a1, b1⟩
/-- caught by the row x of this method's table; the rows ahead don't take it -/
theorem vx_catch {own name : String} {E : String} {ce : Cell} {q : Addr} (hown : s.vm.findClass own = some m.cls) (pre : List ExceptionTableEntry) (x : ExceptionTableEntry) (suf : List ExceptionTableEntry) (hsplit : c.exceptionTable.toList = pre ++ x :: suf)
    (hpass : ∀ z ∈ pre, covers z pc = false ∨ (z.catchType ≠ 0 ∧ ∃ nm : String, (Cond.classLink own z.catchType nm).before args s = true ∧ va_Nc E nm s)) (hx : covers x pc = true) (h0 : x.catchType ≠ 0)
    (hlink : (Cond.classLink own x.catchType name).before args s = true) (hcast : (Cond.castable E name).before args s = true) (hcell : H[q]? = some ce) (hv : ce.vm = .none) (hcl : s.vm.findClass E = some ce.cls)
    (kk : W p l e R s m args below meth c H locs cells slots Q (F0 m x.handlerPc ls [.ref q])) : vx_W p l e R s m args below meth c H locs cells slots Q (F0 m pc ls rest) q := by
  intro T hT X
  have hpl : e.platform.magicAccessors = ({} : Platform).magicAccessors := by rw [X.admits.platform]
  obtain ⟨c3, c4, hc3, hc4, hasg⟩ := Cond.castable_spec hcast
  cases Option.some.inj (hc3.symm.trans hcl)
  obtain ⟨c5, hc5, hcl5⟩ := Cond.classLink_spec hown hlink e.platform hpl
  cases Option.some.inj (hc4.symm.trans hc5)
  obtain ⟨vm', X', st⟩ := X.thenCaughtThrough q (g := F0 m pc ls rest) rfl (Steps.refl _) (by rw [hT]; exact hcell) (by rw [hv]; rfl) (by obtain ⟨k9, h9, -⟩ := Vm.findClass_spec hcl; exact ⟨k9, h9⟩) pre x suf hsplit
    (fun z hz => by
      rcases hpass z hz with h | ⟨hz0, nm, hl1, hn1⟩
      · exact Or.inl h
      · obtain ⟨c6, hc6, hcl6⟩ := Cond.classLink_spec hown hl1 e.platform hpl
        obtain ⟨a8, b8, h1, h2, h3⟩ := hn1
        cases Option.some.inj (h1.symm.trans hcl)
        cases Option.some.inj (h2.symm.trans hc6)
        exact Or.inr ⟨hz0, _, hcl6, h3⟩) hx (Or.inr ⟨h0, c4, hcl5, hasg⟩)
  obtain ⟨t, a1, b1⟩ := kk (T.setVm vm') hT X'
  exact ⟨t, st.trans a1, b1⟩
end Rows
section Ends
variable {p : Program} {l : Launch} {e : Env} {R : Room} {s : State} {m : MethodId} {args : Array Value} {below : List Frame} {meth : Method} {c : Code} {H : Heap} {locs : List Loc} {cells slots : Nat} {Q : State → Prop}
variable {mc ms : Nat} {free : Addr → Prop} {A0 A1 : Nat → Prop} {H0 : Heap} {a : Array Value} {ls : Array Slot} {st0 rest : List Value}
variable {Qc : Array Value → State → Outcome → State → Prop} {XC : String → State → State → Prop}
/-- what a body that may throw owes at its end -/
def vx_MQ (below : List Frame) (Qc : Array Value → State → Outcome → State → Prop) (XC : String → State → State → Prop) (a : Array Value) (s : State) (mc ms : Nat) (free : Addr → Prop) : State → Prop := fun t =>
  ∃ o, t.status = .running ∧ Ended t below o ∧ vx_Q Qc XC mc ms free a s o t
theorem vx_ret {g : JFrame} {mc ms : Nat} (k : W p l e R s m args below meth c H locs cells slots (MQ below Qc args s mc ms free) g) : W p l e R s m args below meth c H locs cells slots (vx_MQ below Qc XC args s mc ms free) g := by
  intro T hT X
  obtain ⟨t, a1, o, b1, b2, b3, b4⟩ := k T hT X
  exact ⟨t, a1, o, b1, b2, Or.inl ⟨b3, b4⟩⟩
/-- not caught here: it goes on to the caller -/
theorem vx_widen {g : JFrame} {q : Addr} {k n : Nat} (h1 : cells ≤ k) (h2 : slots ≤ n) (kk : vx_W p l e R s m args below meth c H locs k n Q g q) : vx_W p l e R s m args below meth c H locs cells slots Q g q := fun T hT X => kk T hT (stand_widen X h1 h2)
theorem vx_out {pc : Nat} {E : String} {ce : Cell} {q : Addr} {mc ms : Nat} (hout : ∀ x ∈ c.exceptionTable.toList, covers x pc = false) (hlocks : meth.locks = false) (hcell : H[q]? = some ce) (hv : ce.vm = .none) (hcl : s.vm.findClass E = some ce.cls)
    (hx : ∀ t : State, t.heap = H → s.vm.Alike t.vm → XC E s t) (hf : ∀ z ∈ locs, free z.base) (hc : cells ≤ mc) (hs : slots ≤ ms) :
    vx_W p l e R s m args below meth c H locs cells slots (vx_MQ below Qc XC args s mc ms free) (F0 m pc ls rest) q := by
  intro T hT X
  obtain ⟨st1, hrun, hend, hW, hsm⟩ := X.leaveThrown q (g := F0 m pc ls rest) rfl rfl rfl hout hlocks
  have hcell9 : (T.setFrames (.throwing q :: below)).heap[q]? = some ce := by
    show T.heap[q]? = some ce
    rw [hT]; exact hcell
  exact ⟨_, st1, .threw q, hrun, hend, Or.inr ⟨q, rfl, E, ce, locs, hx _ hT hW.alike, hcell9, hv, hcl, hW, hsm.mono hc hs, hf⟩⟩
theorem vx_frame {U : State} {k n : Nat} (h : s.sameButNew ({ U with vm := s.vm } : State) locs k n) : s.heap.size ≤ U.heap.size ∧ ∀ q : Nat, q < s.heap.size → (∀ z ∈ locs, z.base ≠ q) → U.heap[q]? = s.heap[q]? := by
  obtain ⟨-, h2, -, -, -, h6⟩ := h
  refine ⟨h2, fun q hq hz => ?_⟩
  obtain ⟨c9, e1, e2, e3, e4⟩ := h6 q _ (Array.getElem?_eq_getElem hq)
  have hs : c9.slots = (s.heap[q]).slots := Array.ext_getElem? fun i => e4 i fun hm => hz _ hm rfl
  have h9 : c9 = s.heap[q] := by
    rw [hs] at e2
    exact e2
  have e5 : U.heap[q]? = some c9 := e1
  rw [e5, h9, Array.getElem?_eq_getElem hq]
/-- the words of a throw but the four that speak of the heap -/
def vx_no (w : Cond) : Bool := decide (w ≠ .isRef (.static Bundle.tN "UNASSIGNED_STACK" Bundle.steD)) && decide (w ≠ .isRef (.static Bundle.tN "SUPPRESSED_SENTINEL" Bundle.listD)) && decide (w ≠ .laysStatic Bundle.tN "UNASSIGNED_STACK" Bundle.steD) && decide (w ≠ .laysStatic Bundle.tN "SUPPRESSED_SENTINEL" Bundle.listD)
def vx_at0 (own : String) (ic : Nat) (X : String) (names : List String) : List Cond := (Bundle.ownAtoms0 own ic X names).filter vx_no
def vx_atS (own : String) (ic : Nat) (X : String) (names : List String) : List Cond := (Bundle.ownAtoms own ic X names).filter vx_no
/-- a word that the tables alone decide, or a good one -/
def vx_ot (w : Cond) : Bool := w.onTables || goodWord w
theorem vx_ot_at {args a' : Array Value} {s U : State} {w : Cond} (hW : s.WarmedH U.vm) (hvm : s.vm = U.vm) (hg : vx_ot w = true) (h : w.before args s = true) : w.before a' U = true := by
  simp only [vx_ot, Bool.or_eq_true] at hg
  rcases hg with hg | hg
  · exact va_tabs hg hvm h
  · exact word_at hW (good_of_word hg) h
/-- a list's words: the good ones out of the method's own list, the others by premises of their own -/
theorem vx_hat {args : Array Value} {s : State} {L B : List Cond} (h1 : ∀ w ∈ L.filter goodWord, w.before args s = true) (h2 : ∀ w ∈ L.filter (fun w => !goodWord w), w ∈ B) (h3 : ∀ w ∈ B, w.before args s = true) : ∀ w ∈ L, w.before args s = true := by
  intro w hw
  by_cases g : goodWord w = true
  · exact h1 w (List.mem_filter.mpr ⟨hw, g⟩)
  · refine h3 w (h2 w (List.mem_filter.mpr ⟨hw, ?_⟩))
    show (!goodWord w) = true
    cases hgw : goodWord w
    · rfl
    · exact absurd hgw g
theorem vx_c {args : Array Value} {s : State} {w : Cond} {B : List Cond} (h : w.before args s = true) (t : ∀ w ∈ B, w.before args s = true) : ∀ w' ∈ w :: B, w'.before args s = true := fun w' h' => (List.mem_cons.mp h').elim (fun e => by rw [e]; exact h) (t w')
theorem vx_n {args : Array Value} {s : State} : ∀ w ∈ ([] : List Cond), w.before args s = true := fun _ h => nomatch h
theorem vx_own {args : Array Value} {s : State} {L : List Cond} (h1 : ∀ w ∈ L.filter vx_no, w.before args s = true)
    (hU : (Cond.isRef (.static Bundle.tN "UNASSIGNED_STACK" Bundle.steD)).before args s = true) (hN : (Cond.isRef (.static Bundle.tN "SUPPRESSED_SENTINEL" Bundle.listD)).before args s = true)
    (lU : (Cond.laysStatic Bundle.tN "UNASSIGNED_STACK" Bundle.steD).before args s = true) (lN : (Cond.laysStatic Bundle.tN "SUPPRESSED_SENTINEL" Bundle.listD).before args s = true) : ∀ w ∈ L, w.before args s = true := by
  intro w hw
  by_cases e1 : w = .isRef (.static Bundle.tN "UNASSIGNED_STACK" Bundle.steD)
  · rw [e1]; exact hU
  · by_cases e2 : w = .isRef (.static Bundle.tN "SUPPRESSED_SENTINEL" Bundle.listD)
    · rw [e2]; exact hN
    · by_cases e3 : w = .laysStatic Bundle.tN "UNASSIGNED_STACK" Bundle.steD
      · rw [e3]; exact lU
      · by_cases e4 : w = .laysStatic Bundle.tN "SUPPRESSED_SENTINEL" Bundle.listD
        · rw [e4]; exact lN
        · exact h1 w (List.mem_filter.mpr ⟨hw, by unfold vx_no; rw [decide_eq_true e1, decide_eq_true e2, decide_eq_true e3, decide_eq_true e4]; rfl⟩)
/-- where a static field lies, its class's statics cell in H -/
def vx_L (C n d : String) (A : Nat → Prop) (U : State) (H : Heap) : Prop := ∃ (c : ClassId) (k : Class) (i : Nat) (f : Field) (a : Nat) (cell : Cell), U.vm.findClass C = some c ∧ U.fieldFound? C n d = some (c, k, i, f) ∧ f.isStatic = true ∧ k.statics = some a ∧ H[a]? = some cell ∧ cell.vm.isStatics = true ∧ cell.cls = c ∧ f.slot < cell.slots.size ∧ k.staticTypes[f.slot]? = some f.type ∧ ¬ A a
theorem vx_L.moved {C n d : String} {A : Nat → Prop} {u U : State} {H : Heap} (hvm : u.vm.Alike U.vm) (h : vx_L C n d A u H) : vx_L C n d A U H := by
  obtain ⟨c, k, i, f, a, cell, h1, h2, h3, h4, h5, h6, h7, h8, h9, h10⟩ := h
  obtain ⟨k', hi', he⟩ := State.fieldFound?_setVm hvm h2
  exact ⟨c, k', i, f, a, cell, by rw [hvm.findClass]; exact h1, hi', h3, by rw [he]; exact h4, h5, h6, h7, h8, by rw [he]; exact h9, h10⟩
theorem vx_L.kept {C n d : String} {A : Nat → Prop} {U : State} {H H1 : Heap} (h : vx_L C n d A U H) (hq : ∀ a : Nat, a < H.size → ¬ A a → H1[a]? = H[a]?) : vx_L C n d A U H1 := by
  obtain ⟨c, k, i, f, a, cell, h1, h2, h3, h4, h5, h6, h7, h8, h9, h10⟩ := h
  exact ⟨c, k, i, f, a, cell, h1, h2, h3, h4, by rw [hq a (Array.getElem?_eq_some_iff.mp h5).1 h10]; exact h5, h6, h7, h8, h9, h10⟩
theorem vx_L.narrow {C n d : String} {A B : Nat → Prop} {U : State} {H : Heap} (h : vx_L C n d A U H) (hAB : ∀ q, B q → A q) : vx_L C n d B U H := by
  obtain ⟨c, k, i, f, a, cell, h1, h2, h3, h4, h5, h6, h7, h8, h9, h10⟩ := h
  exact ⟨c, k, i, f, a, cell, h1, h2, h3, h4, h5, h6, h7, h8, h9, fun z => h10 (hAB _ z)⟩
theorem vx_L.word {C n d : String} {A : Nat → Prop} {s : State} {args : Array Value} (h : vx_L C n d A s s.heap) : (Cond.laysStatic C n d).before args s = true := by
  obtain ⟨c, k, i, f, a, cell, h1, h2, h3, h4, h5, h6, h7, h8, h9, -⟩ := h
  show (Cond.laysStatic C n d).holds args s none s [] = true
  exact Cond.laysStatic_of h1 h2 h3 h4 h5 h6 h7 h8 h9
/-- .. and what it holds: null or some reference -/
def vx_Zq (C n d : String) (A : Nat → Prop) (U : State) (H : Heap) : Prop := va_Zq C n d A U H ∧ vx_L C n d A U H
theorem vx_Zq.moved {C n d : String} {A : Nat → Prop} {u U : State} {H : Heap} (hvm : u.vm.Alike U.vm) (h : vx_Zq C n d A u H) : vx_Zq C n d A U H := ⟨va_Zq.moved hvm h.1, vx_L.moved hvm h.2⟩
theorem vx_Zq.kept {C n d : String} {A : Nat → Prop} {U : State} {H H1 : Heap} (h : vx_Zq C n d A U H) (hq : ∀ a : Nat, a < H.size → ¬ A a → H1[a]? = H[a]?) : vx_Zq C n d A U H1 := ⟨va_Zq.kept h.1 hq, vx_L.kept h.2 hq⟩
theorem vx_Zq.narrow {C n d : String} {A B : Nat → Prop} {U : State} {H : Heap} (h : vx_Zq C n d A U H) (hAB : ∀ q, B q → A q) : vx_Zq C n d B U H := ⟨va_Zq.narrow h.1 hAB, vx_L.narrow h.2 hAB⟩
theorem vx_Zqof {args : Array Value} {s : State} {C n d : String} {A : Nat → Prop} (hl : (Cond.laysStatic C n d).before args s = true) (hini : (Cond.initialized C).before args s = true) (h : (Cond.isRef (.static C n d)).before args s = true) (hA : ∀ a : Nat, a < s.heap.size → ¬ A a) : vx_Zq C n d A s s.heap := by
  refine ⟨va_Zqof hl hini h hA, ?_⟩
  obtain ⟨c, k, i, f, a, cell, h1, h2, h3, h4, h5, h6, h7, h8, h9⟩ := Cond.laysStatic_spec hl
  exact ⟨c, k, i, f, a, cell, h1, h2, h3, h4, h5, h6, h7, h8, h9, hA a (Array.getElem?_eq_some_iff.mp h5).1⟩
theorem vx_isRef {C n d : String} {v : Value} {A : Nat → Prop} {s : State} {args : Array Value} (h : va_Z C n d v A s s.heap) (hv : v.isRef = true) : (Cond.isRef (.static C n d)).before args s = true := by
  obtain ⟨cf, kf, fi, f, a, cell, h1, h2, h3, h4, h5, h6, h7, -⟩ := h
  have he : (Term.static C n d).eval args s none [] s = some v := by
    simp [Term.eval, State.fieldNamed?, h1, h2, h4, h5, h6, h7]
  simp only [Cond.before, Cond.holds, Cond.value, he]
  cases v <;> simp_all [Value.isRef]
theorem vx_isRefq {C n d : String} {A : Nat → Prop} {s : State} {args : Array Value} (h : va_Zq C n d A s s.heap) : (Cond.isRef (.static C n d)).before args s = true := by
  rcases h with h | ⟨t, h⟩
  · exact vx_isRef h rfl
  · exact vx_isRef h rfl
/-- the same frame, seen from here: as if the method were called anew in this heap -/
theorem vx_rebase {T : State} (X : Stand p l e R s m args below meth c T locs cells slots) {R' : Room} (hf : R'.frames ≤ R.frames) (hl : R'.locals ≤ R.locals) (hc : cells + R'.cells ≤ R.cells) (hs : slots + R'.slots ≤ R.slots) :
    Stand p l e R' ((T.setVm s.vm).setFrames (.invoking m args :: below)) m args below meth c T [] 0 0 := by
  have htop : (T.setVm s.vm).topJava?.isSome := X.here.top
  have hF : ((T.setVm s.vm).setFrames (.invoking m args :: below)).frames = .invoking m args :: below := State.frames_setFrames _ (State.cur_lt_of_top htop)
  obtain ⟨g₀, hg0⟩ := Option.isSome_iff_exists.mp htop
  obtain ⟨r, hr⟩ := State.topJava?_eq_some.mp hg0
  have hl9 : e.platform.stackLimits (T.setVm s.vm).me = e.platform.stackLimits s.me := X.limits
  have hb9 : (T.setVm s.vm).me.stackBytes = s.me.stackBytes := X.bytes
  refine ⟨X.admits, X.cas, X.clock, hF, ?_, X.hears, X.method, X.code, X.here, X.tail, X.warmed, ?_, ?_, ?_⟩
  · have h := X.room
    have hU : ((T.setVm s.vm).setFrames (.invoking m args :: below)).localsInUse = s.localsInUse := by
      rw [State.localsInUse_invoking hF (meth := meth) (c := c) X.method X.code, State.localsInUse_invoking X.frames X.method X.code]
    simp only [State.hasRoom, Bool.and_eq_true, decide_eq_true_eq] at h ⊢
    obtain ⟨⟨⟨⟨h1, h2, h3, h4, h5, h6⟩, h7⟩, h8⟩, h9⟩ := h
    rw [X.frames, List.length_cons] at h2 h3
    have q1 := X.heapSize
    have q2 := X.used
    simp only [hF, hU, List.length_cons, State.stackLimits_setFrames, State.stackBytes_setFrames, hl9, hb9]
    refine ⟨⟨⟨⟨by omega, by omega, by omega, by omega, by omega, h6⟩, ?_⟩, ?_⟩, X.book⟩
    · show T.heap.size + R'.cells ≤ e.platform.maxCells
      omega
    · show T.slotsUsed + R'.slots ≤ e.platform.maxSlots
      omega
  · rw [State.stackLimits_setFrames]; rfl
  · rw [State.stackBytes_setFrames]; rfl
  · refine ⟨?_, Nat.le_refl _, Nat.le_refl _, ?_, ?_, fun a c9 h9 => ⟨c9, h9, rfl, rfl, fun _ _ => rfl⟩⟩
    · obtain ⟨t, ht, -⟩ := State.frames_cons hr
      show T.setVm s.vm = { ((T.setVm s.vm).setFrames (.invoking m args :: below)).setFrames (T.setVm s.vm).frames with heap := T.heap, slotsUsed := T.slotsUsed }
      rw [State.setFrames_setFrames, State.setFrames_self ht]
      rfl
    · show T.slotsUsed = T.slotsUsed + ((T.heap.toList.drop T.heap.size).map (·.slots.size)).sum
      rw [List.drop_eq_nil_of_le (Nat.le_of_eq Array.length_toList)]
      rfl
    · show ((T.heap.toList.drop T.heap.size).map (·.slots.size)).sum ≤ 0
      rw [List.drop_eq_nil_of_le (Nat.le_of_eq Array.length_toList)]
      exact Nat.le_refl _
/-- 'throw new E()': new; dup; invokespecial; athrow -/
theorem vx_throw0 {cc : ByteArray} {pc : Nat} (hexec : p.tables.exec = Jvm.exec) (hb : c.code = cc) (hl : l.stackTraces = false) {own cls : String} {names : List String} {ik ic mc ms : Nat} {A : Nat → Prop}
    (hown : s.vm.findClass own = some m.cls) (hcls : Bundle.fit cls = true) (hnames : ∀ n ∈ names, Bundle.fit n = true)
    (hk : (Cond.classLink own ik cls).before args s = true) (hini : (Cond.initialized cls).before args s = true) (hat : ∀ w ∈ vx_at0 own ic cls names, w.before args s = true)
    (hgood : ∀ w ∈ Cond.classLink own ik cls :: Cond.initialized cls :: vx_at0 own ic cls names, vx_ot w = true)
    (hU : vx_Zq Bundle.tN "UNASSIGNED_STACK" Bundle.steD A s s.heap) (hN : vx_Zq Bundle.tN "SUPPRESSED_SENTINEL" Bundle.listD A s s.heap) (hS : va_S A s.heap H locs) (hsize : ls.size = c.maxLocals)
    (d0 : decode cc pc = .ok (.new ik, 3)) (d3 : decode cc (pc + 3) = .ok (.dup, 1)) (d4 : decode cc (pc + 4) = .ok (.invokespecial ic, 3)) (d7 : decode cc (pc + 7) = .ok (.athrow, 1))
    (hout : ∀ x ∈ c.exceptionTable.toList, covers x (pc + 7) = false)
    (hRframes : names.length + 3 < R.frames) (hRlocals : (rest.map fun v => v.category).sum + (13 * (names.length + 1) + 42) ≤ R.locals) (hRcells : cells + 1 ≤ R.cells) (hRslots : slots + 6 ≤ R.slots) (hlocks : meth.locks = false)
    (hx : ∀ t : State, s.vm.Alike t.vm → H.size ≤ t.heap.size → (∀ q : Nat, q < H.size → t.heap[q]? = H[q]?) → XC cls s t)
    (hf : ∀ z ∈ locs, free z.base) (hc : cells + 1 ≤ mc) (hs : slots + 6 ≤ ms) :
    W p l e R s m args below meth c H locs cells slots (vx_MQ below Qc XC args s mc ms free) (F0 m pc ls rest) := by
  intro T hT X
  have htr : e.platform.stackTraces = false := (show e.platform.stackTraces = l.stackTraces by rw [X.admits.platform]).trans hl
  have Y := vx_rebase X (R' := { frames := R.frames, locals := R.locals, cells := 1, slots := 6 }) (Nat.le_refl _) (Nat.le_refl _) hRcells hRslots
  obtain ⟨s', hA⟩ : ∃ z, z = (T.setVm s.vm).setFrames (.invoking m args :: below) := ⟨_, rfl⟩
  rw [← hA] at Y
  have hvm : s'.vm = s.vm := by rw [hA]; rfl
  have hhp : s'.heap = H := by rw [hA]; exact hT
  have hW0 : s.WarmedH s'.vm := by rw [hvm]; exact State.WarmedH.refl s
  have hat' : ∀ w ∈ vx_at0 own ic cls names, w.before args s' = true := fun w hw => vx_ot_at hW0 hvm.symm (hgood w (List.mem_cons_of_mem _ (List.mem_cons_of_mem _ hw))) (hat w hw)
  have hk' : (Cond.classLink own ik cls).before args s' = true := vx_ot_at hW0 hvm.symm (hgood _ List.mem_cons_self) hk
  have hini' : (Cond.initialized cls).before args s' = true := vx_ot_at hW0 hvm.symm (hgood _ (List.mem_cons_of_mem _ List.mem_cons_self)) hini
  have hU' : vx_Zq Bundle.tN "UNASSIGNED_STACK" Bundle.steD A s' s'.heap := by rw [hhp]; exact vx_Zq.moved hW0.alike (hU.kept hS.2.1)
  have hN' : vx_Zq Bundle.tN "SUPPRESSED_SENTINEL" Bundle.listD A s' s'.heap := by rw [hhp]; exact vx_Zq.moved hW0.alike (hN.kept hS.2.1)
  have h : ∀ w ∈ Bundle.ownAtoms0 own ic cls names, w.before args s' = true := vx_own hat' (vx_isRefq hU'.1) (vx_isRefq hN'.1) hU'.2.word hN'.2.word
  have hown' : s'.vm.findClass own = some m.cls := by rw [hvm]; exact hown
  have hins : (Cond.instantiable cls 6).before args s' = true := h _ (by simp [Bundle.ownAtoms0])
  obtain ⟨vm₁, cX, kX, hfX, hkX, -, -, X₁, st1⟩ := Y.newCold hexec (own := own) (C := cls) (index := ik) (n := 6) hown' hk' hins hini'
    (g := F0 m pc ls rest) rfl (by rw [hb]; exact d0) (Nat.le_refl _) (Nat.le_refl _)
  generalize hT1 : (T.setVm vm₁).pushCell { cls := cX, slots := kX.instanceTypes.map defaultValue, vm := .none } = T1 at X₁ st1
  have hcat : (Value.ref T.heap.size).category = 1 := rfl
  have hcellA : T1.heap[T.heap.size]? = some (freshCell cX kX) := by rw [← hT1]; exact State.heap_pushCell_size _ _
  have d3' : decode c.code (pc + 3) = .ok (.dup, 1) := by rw [hb]; exact d3
  obtain ⟨U, hsteps, hrun, hend, hW, hsame, ce, hce, hO⟩ := X₁.ctorThrow0 hexec htr (own := own) (cls := cls) (names := names) (ic := ic) hown' hcls hnames h (fun x hx => nomatch hx) hfX hkX hcellA (by rw [hhp, hT]; exact Nat.le_refl _)
    (g := { method := m, pc := pc + 4, locals := ls, stack := .ref T.heap.size :: .ref T.heap.size :: rest, locked := none }) rfl hsize rfl rfl (rest := rest) rfl
    (by rw [hb]; exact d4) (by rw [hb]; exact d7) hout hRframes (by simp only [List.map_cons, List.sum_cons, hcat]; omega) hlocks
  obtain ⟨f1, f2⟩ := vx_frame hsame
  rw [hhp] at f1 f2
  have hWs : s.WarmedH U.vm := State.WarmedH.trans hW0 hW
  have hcl : s.vm.findClass cls = some ce.cls := by
    have h9 := hO.cls
    rw [hvm] at h9
    exact h9
  have hall : s.sameButNew ({ U with vm := s.vm } : State) locs mc ms := by
    subst hA
    obtain ⟨e1, e2⟩ := hsame
    rw [State.setFrames_setFrames] at e1
    have h2 : (T.setVm s.vm).sameButNew ({ U with vm := s.vm } : State) [] (0 + 1) (0 + 6) := ⟨e1, e2⟩
    have h3 := X.same.trans h2
    rw [List.append_nil] at h3
    exact h3.mono hc hs
  refine ⟨U, ?_, .threw T.heap.size, hrun, hend, Or.inr ⟨T.heap.size, rfl, cls, ce, locs, hx U hWs.alike f1 (fun q hq => f2 q hq (fun z hz => nomatch hz)), hce, hO.vm, hcl, hWs, hall, hf⟩⟩
  refine st1 _ ?_
  show Steps p.tables e below (T1.setTop { method := m, pc := pc + 3, locals := ls, stack := .ref T.heap.size :: rest, locked := none }) _
  jvm_step X₁.here [X₁.here.top, hexec, d3', Value.category]
  exact hsteps
/-- 'throw new E("text")': new; dup; ldc; invokespecial; athrow -/
theorem vx_throwS {cc : ByteArray} {pc : Nat} (hexec : p.tables.exec = Jvm.exec) (hb : c.code = cc) (hl : l.stackTraces = false) {own cls text : String} {names : List String} {ik is ic mc ms sa : Nat} {A : Nat → Prop}
    (hown : s.vm.findClass own = some m.cls) (hcls : Bundle.fit cls = true) (hnames : ∀ n ∈ names, Bundle.fit n = true)
    (hk : (Cond.classLink own ik cls).before args s = true) (hini : (Cond.initialized cls).before args s = true) (hstr : vk_R own is text sa s) (hat : ∀ w ∈ vx_atS own ic cls names, w.before args s = true)
    (hgood : ∀ w ∈ Cond.classLink own ik cls :: Cond.initialized cls :: vx_atS own ic cls names, vx_ot w = true)
    (hU : vx_Zq Bundle.tN "UNASSIGNED_STACK" Bundle.steD A s s.heap) (hN : vx_Zq Bundle.tN "SUPPRESSED_SENTINEL" Bundle.listD A s s.heap) (hS : va_S A s.heap H locs) (hsize : ls.size = c.maxLocals)
    (d0 : decode cc pc = .ok (.new ik, 3)) (d3 : decode cc (pc + 3) = .ok (.dup, 1)) (d4 : decode cc (pc + 4) = .ok (.ldc is, 2)) (d6 : decode cc (pc + 6) = .ok (.invokespecial ic, 3)) (d9 : decode cc (pc + 9) = .ok (.athrow, 1))
    (hout : ∀ x ∈ c.exceptionTable.toList, covers x (pc + 9) = false)
    (hRframes : names.length + 3 < R.frames) (hRlocals : (rest.map fun v => v.category).sum + (13 * (names.length + 1) + 43) ≤ R.locals) (hRcells : cells + 1 ≤ R.cells) (hRslots : slots + 6 ≤ R.slots) (hlocks : meth.locks = false)
    (hx : ∀ t : State, s.vm.Alike t.vm → H.size ≤ t.heap.size → (∀ q : Nat, q < H.size → t.heap[q]? = H[q]?) → XC cls s t)
    (hf : ∀ z ∈ locs, free z.base) (hc : cells + 1 ≤ mc) (hs : slots + 6 ≤ ms) :
    W p l e R s m args below meth c H locs cells slots (vx_MQ below Qc XC args s mc ms free) (F0 m pc ls rest) := by
  intro T hT X
  have htr : e.platform.stackTraces = false := (show e.platform.stackTraces = l.stackTraces by rw [X.admits.platform]).trans hl
  have Y := vx_rebase X (R' := { frames := R.frames, locals := R.locals, cells := 1, slots := 6 }) (Nat.le_refl _) (Nat.le_refl _) hRcells hRslots
  obtain ⟨s', hA⟩ : ∃ z, z = (T.setVm s.vm).setFrames (.invoking m args :: below) := ⟨_, rfl⟩
  rw [← hA] at Y
  have hvm : s'.vm = s.vm := by rw [hA]; rfl
  have hhp : s'.heap = H := by rw [hA]; exact hT
  have hW0 : s.WarmedH s'.vm := by rw [hvm]; exact State.WarmedH.refl s
  have hat' : ∀ w ∈ vx_atS own ic cls names, w.before args s' = true := fun w hw => vx_ot_at hW0 hvm.symm (hgood w (List.mem_cons_of_mem _ (List.mem_cons_of_mem _ hw))) (hat w hw)
  have hk' : (Cond.classLink own ik cls).before args s' = true := vx_ot_at hW0 hvm.symm (hgood _ List.mem_cons_self) hk
  have hini' : (Cond.initialized cls).before args s' = true := vx_ot_at hW0 hvm.symm (hgood _ (List.mem_cons_of_mem _ List.mem_cons_self)) hini
  have hU' : vx_Zq Bundle.tN "UNASSIGNED_STACK" Bundle.steD A s' s'.heap := by rw [hhp]; exact vx_Zq.moved hW0.alike (hU.kept hS.2.1)
  have hN' : vx_Zq Bundle.tN "SUPPRESSED_SENTINEL" Bundle.listD A s' s'.heap := by rw [hhp]; exact vx_Zq.moved hW0.alike (hN.kept hS.2.1)
  have h : ∀ w ∈ Bundle.ownAtoms own ic cls names, w.before args s' = true := vx_own hat' (vx_isRefq hU'.1) (vx_isRefq hN'.1) hU'.2.word hN'.2.word
  have hown' : s'.vm.findClass own = some m.cls := by rw [hvm]; exact hown
  have hins : (Cond.instantiable cls 6).before args s' = true := h _ (by simp [Bundle.ownAtoms])
  obtain ⟨vm₁, cX, kX, hfX, hkX, -, -, X₁, st1⟩ := Y.newCold hexec (own := own) (C := cls) (index := ik) (n := 6) hown' hk' hins hini'
    (g := F0 m pc ls rest) rfl (by rw [hb]; exact d0) (Nat.le_refl _) (Nat.le_refl _)
  generalize hT1 : (T.setVm vm₁).pushCell { cls := cX, slots := kX.instanceTypes.map defaultValue, vm := .none } = T1 at X₁ st1
  have hcat : (Value.ref T.heap.size).category = 1 := rfl
  have hcellA : T1.heap[T.heap.size]? = some (freshCell cX kX) := by rw [← hT1]; exact State.heap_pushCell_size _ _
  have d3' : decode c.code (pc + 3) = .ok (.dup, 1) := by rw [hb]; exact d3
  have d4' : decode c.code (pc + 4) = .ok (.ldc is, 2) := by rw [hb]; exact d4
  have hstr' : vk_R own is text sa s' := vk_R.warm hW0 hstr
  obtain ⟨U, hsteps, hrun, hend, hW, hsame, ce, hce, hO⟩ := X₁.ctorThrowS hexec htr (own := own) (cls := cls) (names := names) (ic := ic) hown' hcls hnames h (fun x hx => nomatch hx) hfX hkX hcellA (by rw [hhp, hT]; exact Nat.le_refl _) (msg := .ref sa) rfl
    (g := { method := m, pc := pc + 6, locals := ls, stack := .ref sa :: .ref T.heap.size :: .ref T.heap.size :: rest, locked := none }) rfl hsize rfl rfl (rest := rest) rfl
    (by rw [hb]; exact d6) (by rw [hb]; exact d9) hout hRframes (by simp only [List.map_cons, List.sum_cons, hcat]; omega) hlocks
  obtain ⟨f1, f2⟩ := vx_frame hsame
  rw [hhp] at f1 f2
  have hWs : s.WarmedH U.vm := State.WarmedH.trans hW0 hW
  have hcl : s.vm.findClass cls = some ce.cls := by
    have h9 := hO.cls
    rw [hvm] at h9
    exact h9
  have hall : s.sameButNew ({ U with vm := s.vm } : State) locs mc ms := by
    subst hA
    obtain ⟨e1, e2⟩ := hsame
    rw [State.setFrames_setFrames] at e1
    have h2 : (T.setVm s.vm).sameButNew ({ U with vm := s.vm } : State) [] (0 + 1) (0 + 6) := ⟨e1, e2⟩
    have h3 := X.same.trans h2
    rw [List.append_nil] at h3
    exact h3.mono hc hs
  refine ⟨U, ?_, .threw T.heap.size, hrun, hend, Or.inr ⟨T.heap.size, rfl, cls, ce, locs, hx U hWs.alike f1 (fun q hq => f2 q hq (fun z hz => nomatch hz)), hce, hO.vm, hcl, hWs, hall, hf⟩⟩
  refine st1 _ ?_
  show Steps p.tables e below (T1.setTop { method := m, pc := pc + 3, locals := ls, stack := .ref T.heap.size :: rest, locked := none }) _
  jvm_step X₁.here [X₁.here.top, hexec, d3', Value.category]
  exact X₁.ldcString hexec (own := own) (text := text) (index := is) (a := sa) hown' hstr'.1 hstr'.2
    (g := { method := m, pc := pc + 4, locals := ls, stack := .ref T.heap.size :: .ref T.heap.size :: rest, locked := none }) rfl d4' _ hsteps
/-- 'throw new E("text")', the text by a wide index -/
theorem vx_throwSW {cc : ByteArray} {pc : Nat} (hexec : p.tables.exec = Jvm.exec) (hb : c.code = cc) (hl : l.stackTraces = false) {own cls text : String} {names : List String} {ik is ic mc ms sa : Nat} {A : Nat → Prop}
    (hown : s.vm.findClass own = some m.cls) (hcls : Bundle.fit cls = true) (hnames : ∀ n ∈ names, Bundle.fit n = true)
    (hk : (Cond.classLink own ik cls).before args s = true) (hini : (Cond.initialized cls).before args s = true) (hstr : vk_R own is text sa s) (hat : ∀ w ∈ vx_atS own ic cls names, w.before args s = true)
    (hgood : ∀ w ∈ Cond.classLink own ik cls :: Cond.initialized cls :: vx_atS own ic cls names, vx_ot w = true)
    (hU : vx_Zq Bundle.tN "UNASSIGNED_STACK" Bundle.steD A s s.heap) (hN : vx_Zq Bundle.tN "SUPPRESSED_SENTINEL" Bundle.listD A s s.heap) (hS : va_S A s.heap H locs) (hsize : ls.size = c.maxLocals)
    (d0 : decode cc pc = .ok (.new ik, 3)) (d3 : decode cc (pc + 3) = .ok (.dup, 1)) (d4 : decode cc (pc + 4) = .ok (.ldc_w is, 3)) (d7 : decode cc (pc + 7) = .ok (.invokespecial ic, 3)) (d10 : decode cc (pc + 10) = .ok (.athrow, 1))
    (hout : ∀ x ∈ c.exceptionTable.toList, covers x (pc + 10) = false)
    (hRframes : names.length + 3 < R.frames) (hRlocals : (rest.map fun v => v.category).sum + (13 * (names.length + 1) + 43) ≤ R.locals) (hRcells : cells + 1 ≤ R.cells) (hRslots : slots + 6 ≤ R.slots) (hlocks : meth.locks = false)
    (hx : ∀ t : State, s.vm.Alike t.vm → H.size ≤ t.heap.size → (∀ q : Nat, q < H.size → t.heap[q]? = H[q]?) → XC cls s t)
    (hf : ∀ z ∈ locs, free z.base) (hc : cells + 1 ≤ mc) (hs : slots + 6 ≤ ms) :
    W p l e R s m args below meth c H locs cells slots (vx_MQ below Qc XC args s mc ms free) (F0 m pc ls rest) := by
  intro T hT X
  have htr : e.platform.stackTraces = false := (show e.platform.stackTraces = l.stackTraces by rw [X.admits.platform]).trans hl
  have Y := vx_rebase X (R' := { frames := R.frames, locals := R.locals, cells := 1, slots := 6 }) (Nat.le_refl _) (Nat.le_refl _) hRcells hRslots
  obtain ⟨s', hA⟩ : ∃ z, z = (T.setVm s.vm).setFrames (.invoking m args :: below) := ⟨_, rfl⟩
  rw [← hA] at Y
  have hvm : s'.vm = s.vm := by rw [hA]; rfl
  have hhp : s'.heap = H := by rw [hA]; exact hT
  have hW0 : s.WarmedH s'.vm := by rw [hvm]; exact State.WarmedH.refl s
  have hat' : ∀ w ∈ vx_atS own ic cls names, w.before args s' = true := fun w hw => vx_ot_at hW0 hvm.symm (hgood w (List.mem_cons_of_mem _ (List.mem_cons_of_mem _ hw))) (hat w hw)
  have hk' : (Cond.classLink own ik cls).before args s' = true := vx_ot_at hW0 hvm.symm (hgood _ List.mem_cons_self) hk
  have hini' : (Cond.initialized cls).before args s' = true := vx_ot_at hW0 hvm.symm (hgood _ (List.mem_cons_of_mem _ List.mem_cons_self)) hini
  have hU' : vx_Zq Bundle.tN "UNASSIGNED_STACK" Bundle.steD A s' s'.heap := by rw [hhp]; exact vx_Zq.moved hW0.alike (hU.kept hS.2.1)
  have hN' : vx_Zq Bundle.tN "SUPPRESSED_SENTINEL" Bundle.listD A s' s'.heap := by rw [hhp]; exact vx_Zq.moved hW0.alike (hN.kept hS.2.1)
  have h : ∀ w ∈ Bundle.ownAtoms own ic cls names, w.before args s' = true := vx_own hat' (vx_isRefq hU'.1) (vx_isRefq hN'.1) hU'.2.word hN'.2.word
  have hown' : s'.vm.findClass own = some m.cls := by rw [hvm]; exact hown
  have hins : (Cond.instantiable cls 6).before args s' = true := h _ (by simp [Bundle.ownAtoms])
  obtain ⟨vm₁, cX, kX, hfX, hkX, -, -, X₁, st1⟩ := Y.newCold hexec (own := own) (C := cls) (index := ik) (n := 6) hown' hk' hins hini'
    (g := F0 m pc ls rest) rfl (by rw [hb]; exact d0) (Nat.le_refl _) (Nat.le_refl _)
  generalize hT1 : (T.setVm vm₁).pushCell { cls := cX, slots := kX.instanceTypes.map defaultValue, vm := .none } = T1 at X₁ st1
  have hcat : (Value.ref T.heap.size).category = 1 := rfl
  have hcellA : T1.heap[T.heap.size]? = some (freshCell cX kX) := by rw [← hT1]; exact State.heap_pushCell_size _ _
  have d3' : decode c.code (pc + 3) = .ok (.dup, 1) := by rw [hb]; exact d3
  have d4' : decode c.code (pc + 4) = .ok (.ldc_w is, 3) := by rw [hb]; exact d4
  have hstr' : vk_R own is text sa s' := vk_R.warm hW0 hstr
  obtain ⟨U, hsteps, hrun, hend, hW, hsame, ce, hce, hO⟩ := X₁.ctorThrowS hexec htr (own := own) (cls := cls) (names := names) (ic := ic) hown' hcls hnames h (fun x hx => nomatch hx) hfX hkX hcellA (by rw [hhp, hT]; exact Nat.le_refl _) (msg := .ref sa) rfl
    (g := { method := m, pc := pc + 7, locals := ls, stack := .ref sa :: .ref T.heap.size :: .ref T.heap.size :: rest, locked := none }) rfl hsize rfl rfl (rest := rest) rfl
    (by rw [hb]; exact d7) (by rw [hb]; exact d10) hout hRframes (by simp only [List.map_cons, List.sum_cons, hcat]; omega) hlocks
  obtain ⟨f1, f2⟩ := vx_frame hsame
  rw [hhp] at f1 f2
  have hWs : s.WarmedH U.vm := State.WarmedH.trans hW0 hW
  have hcl : s.vm.findClass cls = some ce.cls := by
    have h9 := hO.cls
    rw [hvm] at h9
    exact h9
  have hall : s.sameButNew ({ U with vm := s.vm } : State) locs mc ms := by
    subst hA
    obtain ⟨e1, e2⟩ := hsame
    rw [State.setFrames_setFrames] at e1
    have h2 : (T.setVm s.vm).sameButNew ({ U with vm := s.vm } : State) [] (0 + 1) (0 + 6) := ⟨e1, e2⟩
    have h3 := X.same.trans h2
    rw [List.append_nil] at h3
    exact h3.mono hc hs
  refine ⟨U, ?_, .threw T.heap.size, hrun, hend, Or.inr ⟨T.heap.size, rfl, cls, ce, locs, hx U hWs.alike f1 (fun q hq => f2 q hq (fun z hz => nomatch hz)), hce, hO.vm, hcl, hWs, hall, hf⟩⟩
  refine st1 _ ?_
  show Steps p.tables e below (T1.setTop { method := m, pc := pc + 3, locals := ls, stack := .ref T.heap.size :: rest, locked := none }) _
  jvm_step X₁.here [X₁.here.top, hexec, d3', Value.category]
  exact X₁.ldcStringW hexec (own := own) (text := text) (index := is) (a := sa) hown' hstr'.1 hstr'.2
    (g := { method := m, pc := pc + 4, locals := ls, stack := .ref T.heap.size :: .ref T.heap.size :: rest, locked := none }) rfl d4' _ hsteps
end Ends
section Bodies
variable {l : Launch}
theorem vx_ofW {y : MethodName} {ws ws' : List Cond} {rm : Room} {Pc : Array Value → State → Prop} {Qc : Array Value → State → Outcome → State → Prop} {XC : String → State → State → Prop} {mc ms : Nat} {free : Addr → Prop} {cc : ByteArray} {maxL : Nat} {ret : Option FieldType}
    (hy : plainName y.cls = true) (hw : ws = Cond.code y cc maxL ret :: ws')
    (body : ∀ p e s m args below meth c s₁, BodyLoose p l y (headSpec ws rm) cc maxL ret e s m args below meth c s₁ → c.maxLocals = maxL → (∀ x ∈ c.exceptionTable.toList, False) → Pc args s →
      W p l e (headSpec ws rm).room s m args below meth c s.heap [] 0 0 (vx_MQ below Qc XC args s mc ms free) (entryFrame m args maxL)) : vx_Met l y ws rm Pc Qc XC mc ms free := by
  refine MetFree.of_bodyS (code := cc) (maxLocals := maxL) (ret := ret) hy ?_ ?_
  · intro args s m h hn
    obtain ⟨meth, c, h1, h2, h3, h4, h5, h6, -, -⟩ := Cond.code_spec hn (atoms_spec (ws := ws) h _ (by rw [hw]; exact List.mem_cons_self))
    exact ⟨meth, c, h1, h2, h3, h4, h5, h6⟩
  · intro p e s m args below meth c s₁ B hml hP _
    have hh0 : s₁.heap = s.heap := by rw [B.state]; rfl
    have ht : ∀ x ∈ c.exceptionTable.toList, False := by
      obtain ⟨meth9, c9, h1, h2, -, -, -, -, h7, -⟩ := Cond.code_spec B.named (atoms_spec (ws := ws) B.pre _ (by rw [hw]; exact List.mem_cons_self))
      cases Option.some.inj (h1.symm.trans B.method)
      cases Option.some.inj (h2.symm.trans (Stand.of_body B).code)
      intro x hx
      rw [Array.isEmpty_iff.mp h7] at hx
      cases hx
    obtain ⟨t, a1, o, b1, b2, b3⟩ := body p e s m args below meth c s₁ B hml ht hP s₁ hh0 (Stand.of_body B)
    exact ⟨t, o, a1, b1, b2, b3⟩
/-- the table of a body with handlers -/
theorem vx_table {p : Program} {x y : MethodName} {S : Spec} {cc bytes : ByteArray} {maxL maxL' : Nat} {ret ret' : Option FieldType} {e : Env} {s s₁ : State} {m : MethodId} {args : Array Value} {below : List Frame} {meth : Method} {c : Code} {hh : List (Nat × Nat × Nat × Nat)}
    (B : BodyLoose p l y S cc maxL ret e s m args below meth c s₁) (h : (Cond.codeWith y bytes maxL' ret' hh).before args s = true) : c.exceptionTable.toList = tableOf hh := by
  obtain ⟨m9, meth9, c9, hn9, h1, h2, -, -, h6, -⟩ := Cond.codeWith_spec h
  cases Option.some.inj (hn9.symm.trans B.named)
  cases Option.some.inj (h1.symm.trans B.method)
  cases Option.some.inj (h2.symm.trans (Stand.of_body B).code)
  rw [← h6, table_eq]
end Bodies
end VXA
/-! ===== END ===== -/
/-! ===== BEGIN a static call of a method with an exception table ===== -/
section VXS
variable {p : Program} {l : Launch} {e : Env} {R : Room} {s : State} {m : MethodId} {args : Array Value} {below : List Frame} {meth : Method} {c : Code} {T : State} {H : Heap} {locs : List Loc} {cells slots : Nat}
abbrev vx_CSW (R : Room) (s : State) (args : Array Value) (own : String) (index : Nat) (y : MethodName) (bytes : ByteArray) (maxL : Nat) (ret : Option FieldType) (hh : List (Nat × Nat × Nat × Nat)) (ws : List Cond) (rm : Room) (mc ms n : Nat) : Prop :=
  (rm.cells = mc ∧ rm.slots = ms ∧ rm.frames + 1 ≤ R.frames ∧ 8 + (maxL + 11) + rm.locals ≤ R.locals ∧ (∀ w ∈ ws, ∀ (a' : Array Value) (U : State), s.WarmedH U.vm → w.before a' U = true) ∧ Cond.codeWith y bytes maxL ret hh ∈ ws) ∧
  (Cond.codeWith y bytes maxL ret hh).before args s = true ∧ (Cond.initialized y.cls).before args s = true ∧ (y.cls ≠ "java/lang/invoke/MethodHandle" ∧ y.cls ≠ "java/lang/invoke/VarHandle") ∧
  (∀ sig, parseMethodDescriptor y.desc = some sig → n = sig.parameters.length) ∧ (Cond.methodLink own index y).before args s = true ∧ (Cond.static y).before args s = true
theorem vx_cwSW {own : String} {index maxL mc ms : Nat} {y : MethodName} {bytes : ByteArray} {ret : Option FieldType} {hh : List (Nat × Nat × Nat × Nat)} {Ts ws ws' : List Cond} {rm : Room} (n : Nat) (ht : ∀ w ∈ Ts, w.before args s = true) (hT : GoodIn Ts (va_wsS own index y ws)) (hw : ws = Cond.codeWith y bytes maxL ret hh :: ws') (hrc : rm.cells = mc) (hrs : rm.slots = ms)
    (hd : y.cls ≠ "java/lang/invoke/MethodHandle" ∧ y.cls ≠ "java/lang/invoke/VarHandle" ∧ (parseMethodDescriptor y.desc).map (fun d => d.parameters.length) = some n) (hR : rm.frames + 1 ≤ R.frames ∧ 8 + (maxL + 11) + rm.locals ≤ R.locals) :
    vx_CSW R s args own index y bytes maxL ret hh ws rm mc ms n := by
  have ok : ∀ w ∈ va_wsS own index y ws, w.before args s = true := fun w h => ht w (hT w h).1
  have hG : GoodIn Ts ws := fun w h => hT w (by unfold va_wsS; exact List.mem_append_right _ h)
  have hc : Cond.codeWith y bytes maxL ret hh ∈ ws := by rw [hw]; exact List.mem_cons_self
  refine ⟨⟨hrc, hrs, hR.1, hR.2, pay_in ht hG, hc⟩, ht _ (hG _ hc).1, ok _ (by simp [va_wsS]), ⟨hd.1, hd.2.1⟩, fun sig h => ?_, ok _ (by simp [va_wsS]), ok _ (by simp [va_wsS])⟩
  have h2 := hd.2.2
  rw [h] at h2
  exact (Option.some.inj h2).symm
theorem vx_callSW (X : Stand p l e R s m args below meth c T locs cells slots) (hexec : p.tables.exec = Jvm.exec) {own : String} {index : Nat} {y : MethodName} {bytes : ByteArray} {maxL : Nat} {ret : Option FieldType} {hh : List (Nat × Nat × Nat × Nat)}
    (hown : s.vm.findClass own = some m.cls) (hlink : (Cond.methodLink own index y).before args s = true) (hstat : (Cond.static y).before args s = true) (hinit : (Cond.initialized y.cls).before args s = true)
    (hcode : (Cond.codeWith y bytes maxL ret hh).before args s = true) (hy : y.cls ≠ "java/lang/invoke/MethodHandle" ∧ y.cls ≠ "java/lang/invoke/VarHandle")
    {W9 : Nat} {Pre : Pt → Array Value → Prop} {Post : Pt → Array Value → Option Value → Pt → Prop} (hK : Back l R p e below s args y 3 W9 Pre Post)
    {g : JFrame} (hg : g.method = m) (hsize : g.locals.size = c.maxLocals) {argsL rest : List Value} (hlen : ∀ sig, parseMethodDescriptor y.desc = some sig → argsL.length = sig.parameters.length)
    (hstack : g.stack = argsL.reverse ++ rest) (hW : 2 * g.monitorRoom + (rest.map fun v => v.category).sum ≤ W9) (hdg : decode c.code g.pc = .ok (.invokestatic index, 3))
    (hpre : ∀ vm₁, s.WarmedH vm₁ → Pre ⟨T.setVm vm₁, locs, cells, slots⟩ argsL.toArray) :
    ∃ (v : Option Value) (vm₁ : Vm) (B : Pt), s.WarmedH vm₁ ∧ Stand p l e R s m args below meth c B.U B.locs B.cells B.slots ∧ Post ⟨T.setVm vm₁, locs, cells, slots⟩ argsL.toArray v B ∧
      ∀ target, Steps p.tables e below (B.U.setTop { g with pc := g.pc + 3, stack := v.toList ++ rest }) target → Steps p.tables e below (T.setTop g) target := by
  obtain ⟨mk, methM, cM, hnamed, hmethM, -, -, -, -, -, -, hsigM⟩ := Cond.codeWith_spec hcode
  have hstatic : methM.isStatic = true := Cond.static_spec hnamed hmethM hstat
  obtain ⟨kP, hkP, -⟩ := className_of_methodNamed hnamed
  have hinitP : kP.init = .initialized := Cond.initialized_spec (findClass_of_methodNamed hnamed) hkP hinit
  obtain ⟨vm₁, X₁, hstep₁⟩ := X.invokestatic hexec hown hlink hnamed hmethM hstatic hkP hinitP hy (g := g) hg (argsL := argsL) (rest := rest) (hlen _ hsigM) hstack hdg
  obtain ⟨v, B, X', hpost, hsteps⟩ := hK m meth c ⟨T.setVm vm₁, locs, cells, slots⟩ { g with stack := rest } (.invokestatic index) mk argsL.toArray X₁ hg hsize hdg hW (X₁.named hnamed) (hpre vm₁ X₁.warmed)
  exact ⟨v, vm₁, B, X₁.warmed, X', hpost, fun target h => hstep₁ _ fun acts => by rw [doInvoke_state]; exact hsteps.trans h⟩
theorem vx_runSW {y : MethodName} {bytes cc : ByteArray} {maxL nL mc ms n index : Nat} {ret : Option FieldType} {hh : List (Nat × Nat × Nat × Nat)} {ws : List Cond} {rm : Room} {Pc : Array Value → State → Prop} {Qc : Array Value → State → Outcome → State → Prop} {free : Addr → Prop} {Ts : List Cond} {own : String} {As rest : List Value} {g : JFrame}
    (S : CallFix p m c cc nL s args Ts own) (hM : Met l y ws rm Pc Qc mc ms free) (cw : vx_CSW R s args own index y bytes maxL ret hh ws rm mc ms n) (hp : PreS s H Pc As)
    (hg : g.method = m) (hn : As.length = n) (hsize : g.locals.size = nL) (hstack : g.stack = As.reverse ++ rest) (hW : 2 * g.monitorRoom + (rest.map fun v => v.category).sum ≤ 8) (hdg : decode cc g.pc = .ok (.invokestatic index, 3)) (hf : cells + mc ≤ R.cells ∧ slots + ms ≤ R.slots) :
    va_Run p l e R s m args below meth c H locs cells slots mc ms g rest (Qc As.toArray) (free) := by
  obtain ⟨⟨hrc, hrs, hfr, hlo, hws, hcw⟩, hcode, hini, hy, hlen, hl, hstt⟩ := cw
  have hK : Back l R p e below s args y 3 8 (PreOf R mc ms Pc) (PostOf Qc mc ms free) := va_backW (hh := hh) (bytes := bytes) (maxL := maxL) (ret := ret) hM hp.1 hrc hrs hfr hlo hws hcw (fun a' U hW => word_at hW (Or.inl (by first | rfl | simp [Cond.onTables, Cond.keeps, Cond.steady])) hini)
  obtain ⟨hx, hb, hml, ho, -⟩ := S
  intro T hT X
  obtain ⟨v, vm₁, ⟨U', l2, c2, s2⟩, hW₁, X', ⟨g', mk, t, L, e1, e2, hq, h1, hL, h2, h3⟩, st⟩ := vx_callSW X hx (hh := hh) (bytes := bytes) (maxL := maxL) (ret := ret) ho hl hstt hini hcode hy hK hg (hsize.trans hml.symm) (argsL := As) (rest := rest) (fun sig h => hn.trans (hlen sig h)) hstack hW (by rw [hb]; exact hdg)
    (fun vm₁ hW₁ => ⟨hf.1, hf.2, hp.2 (T.setVm vm₁) hT hW₁⟩)
  dsimp only [Pt.U, Pt.locs, Pt.cells, Pt.slots] at X' e1 e2 h1 h2 h3 st
  subst h1; subst h2; subst h3
  exact ⟨v, (T.setVm vm₁).calling g' mk As.toArray, t, U', L, hT, X', hL, e1, e2, hq, st⟩
/-- not caught here, past rows that name other classes: it goes on to the caller -/
theorem vx_outP {p : Program} {l : Launch} {e : Env} {R : Room} {s : State} {m : MethodId} {args : Array Value} {below : List Frame} {meth : Method} {c : Code} {H : Heap} {locs : List Loc} {cells slots : Nat} {free : Addr → Prop} {ls : Array Slot} {rest : List Value} {Qc : Array Value → State → Outcome → State → Prop} {XC : String → State → State → Prop}
    {pc : Nat} {own E : String} {ce : Cell} {q : Addr} {mc ms : Nat} (hown : s.vm.findClass own = some m.cls) (hlocks : meth.locks = false)
    (hpass : ∀ z ∈ c.exceptionTable.toList, covers z pc = false ∨ (z.catchType ≠ 0 ∧ ∃ nm : String, (Cond.classLink own z.catchType nm).before args s = true ∧ va_Nc E nm s)) (hcell : H[q]? = some ce) (hv : ce.vm = .none) (hcl : s.vm.findClass E = some ce.cls)
    (hx : ∀ t : State, t.heap = H → s.vm.Alike t.vm → XC E s t) (hf : ∀ z ∈ locs, free z.base) (hc : cells ≤ mc) (hs : slots ≤ ms) :
    vx_W p l e R s m args below meth c H locs cells slots (vx_MQ below Qc XC args s mc ms free) (F0 m pc ls rest) q := by
  intro T hT X
  have hpl : e.platform.magicAccessors = ({} : Platform).magicAccessors := by rw [X.admits.platform]
  obtain ⟨vm', hW', X', st⟩ := X.outThrough hlocks q (g := F0 m pc ls rest) rfl rfl rfl (cell := ce) (by rw [hT]; exact hcell) (by rw [hv]; rfl)
    (by obtain ⟨k9, h9, -⟩ := Vm.findClass_spec hcl; exact ⟨k9, h9⟩) (fun z hz => by
      rcases hpass z hz with h | ⟨hz0, nm, hl1, hn1⟩
      · exact Or.inl h
      · obtain ⟨c6, hc6, hcl6⟩ := Cond.classLink_spec hown hl1 e.platform hpl
        obtain ⟨a8, b8, h1, h2, h3⟩ := hn1
        cases Option.some.inj (h1.symm.trans hcl)
        cases Option.some.inj (h2.symm.trans hc6)
        exact Or.inr ⟨hz0, _, hcl6, h3⟩)
  obtain ⟨g₀, hfr⟩ := X'.frames_eq
  have hcell9 : ((T.setVm vm').setFrames (.throwing q :: below)).heap[q]? = some ce := by
    show T.heap[q]? = some ce
    rw [hT]; exact hcell
  have hend : Ended ((T.setVm vm').setFrames (.throwing q :: below)) below (.threw q) := State.frames_setFrames _ (State.cur_lt_of_frames hfr)
  refine ⟨(T.setVm vm').setFrames (.throwing q :: below), ?_, .threw q, X'.here.running, hend, Or.inr ⟨q, rfl, E, ce, locs, hx _ hT (X'.ends _).1.alike, hcell9, hv, hcl, (X'.ends _).1, (X'.ends _).2.mono hc hs, hf⟩⟩
  rw [X.pushThrowing_eq]
  exact st
/-- a thing of a world lies in the heap -/
theorem vx_lt {D : va_G} {cl : List vw_C} {ws : va_W} {H1 : Heap} (h : va_P D cl ws H1) {k : Nat} {q : Nat × va_E} (hk : ws[k]? = some q) : q.1 < H1.size := (h k q hk).lt
end VXS
/-! ===== END ===== -/
/-! ===== BEGIN methods with a table of their own: called by a name, returning or throwing ===== -/
section VXH
/-! vx_backW, vx_callVX, vx_callSX, vx_callVW, vx_runVW, vx_runVX, vx_runSX, vx_ofWH follow the same proofs as their sisters above (Free/Laws.lean, Shelf42/LK1.lean); vx_outP calls Shelf42/NT130.lean (outThrough). -/
section
variable {l : Launch} {R : Room} {p : Program} {e : Env} {below : List Frame} {s : State} {sargs : Array Value} {y : MethodName} {len W9 : Nat}
theorem vx_backW {ws : List Cond} {rm : Room} {Pc : Array Value → State → Prop} {Qc : Array Value → State → Outcome → State → Prop} {XC : String → State → State → Prop} {mc ms : Nat} {free : Addr → Prop} {bytes : ByteArray} {maxL : Nat} {ret : Option FieldType} {hh : List (Nat × Nat × Nat × Nat)}
    (hM : vx_Met l y ws rm Pc Qc XC mc ms free) (hblind : FrameBlind Pc) (hrc : rm.cells = mc) (hrs : rm.slots = ms)
    (hframes : rm.frames + 1 ≤ R.frames) (hlocals : W9 + (maxL + 11) + rm.locals ≤ R.locals)
    (hws : ∀ w ∈ ws, ∀ a' U, s.WarmedH U.vm → w.before a' U = true) (hcode : Cond.codeWith y bytes maxL ret hh ∈ ws) (hinit : ∀ a' U, s.WarmedH U.vm → (Cond.initialized y.cls).before a' U = true) :
    vx_Back l R p e below s sargs y len W9 (PreOf R mc ms Pc) (PostOf Qc mc ms free) (vx_Post XC mc ms free) := by
  intro m meth c A g ig mk a X hg hsize hdg hW hn hp
  have h1 : (headSpec ws rm).pre.before a A.U = true := atoms_intro fun w hw => hws w hw _ _ X.warmed
  have h2 : (Cond.codeWith y bytes maxL ret hh).before a A.U = true := hws _ hcode _ _ X.warmed
  have h3 : (Cond.initialized y.cls).before a A.U = true := hinit _ _ X.warmed
  have h4 : A.cells + (headSpec ws rm).room.cells ≤ R.cells := by rw [show (headSpec ws rm).room.cells = mc from hrc]; exact hp.1
  have h5 : A.slots + (headSpec ws rm).room.slots ≤ R.slots := by rw [show (headSpec ws rm).room.slots = ms from hrs]; exact hp.2.1
  have hPc : Pc a (A.U.calling g mk a) := hblind _ _ _ _ hp.2.2
  obtain ⟨U, Ls, c0, s0⟩ := A
  dsimp only [Pt.U, Pt.locs, Pt.cells, Pt.slots] at h1 h2 h3 h4 h5 X hn hPc ⊢
  obtain ⟨m9, methY, cY, hn9, hmY, hcY, -, hlY, -⟩ := Cond.codeWith_spec h2
  cases Option.some.inj (hn9.symm.trans hn)
  obtain ⟨kY, hkY, -⟩ := className_of_methodNamed hn
  have hinitY : kY.init = .initialized := Cond.initialized_spec (findClass_of_methodNamed hn) hkY h3
  have h : At U g.method c below := by rw [hg]; exact X.here
  have hlocals9 : W9 + (maxL + 11) + (headSpec ws rm).room.locals ≤ R.locals := hlocals
  have happ : (headSpec ws rm).appliesLoose y e.platform (U.calling g mk a) = true :=
    Spec.appliesLoose_calling (g := g) h hdg hn hkY hinitY
      (X.room_calling (g := g) (R' := (headSpec ws rm).room) hsize hmY hcY hframes (by rw [hlY]; omega) h4 h5) h1
  obtain ⟨mid, hmid⟩ := h.above
  have hfr : (U.setTop g).frames = (.java g :: mid) ++ below := by rw [State.frames_setTop' g h.top, hmid]; rfl
  obtain ⟨o, s₂, hsteps, -, hend, hq⟩ := Steps.callFree hM p X.admits X.cas X.clock (acts := []) hfr happ hPc trivial
  have hq' : vx_Q Qc XC mc ms free a (U.calling g mk a) o s₂ := hq
  rw [State.frames_setTop' g h.top] at hend
  obtain ⟨g₀, hg0⟩ := Option.isSome_iff_exists.mp h.top
  obtain ⟨r, hr⟩ := State.topJava?_eq_some.mp hg0
  have hr' : (({ U with heap := s₂.heap, slotsUsed := s₂.slotsUsed } : State).setVm s₂.vm).frames = .java g₀ :: r := hr
  rcases hq' with ⟨hqc, L, hfe, hL⟩ | ⟨q, rfl, E, ce, L, hx, hce, hcv, hcl, hW₂, hsm, hL⟩
  · obtain ⟨⟨v, rfl⟩, hW₂, e2, q2, q3, q4, q5, q6⟩ := id hfe
    have e3 : s₂ = ({ (U.calling g mk a).setFrames s₂.frames with heap := s₂.heap, slotsUsed := s₂.slotsUsed } : State).setVm s₂.vm := by
      have : s₂ = ({ s₂ with vm := (U.calling g mk a).vm } : State).setVm s₂.vm := rfl
      rw [e2] at this
      exact this
    obtain ⟨c₂, i₂, len₂, hc₂, hd₂, hf₂⟩ := hend
    have hW' : U.WarmedH s₂.vm := hW₂
    have hcc : c₂ = c := by
      have h1 : s₂.code? g.method = U.code? g.method := by
        rw [State.code?_eq, State.code?_eq, hW'.alike.method?]
      exact Option.some.inj (hc₂.symm.trans (h1.trans h.code))
    subst hcc
    have hlen : len₂ = len := by rw [hdg] at hd₂; cases hd₂; rfl
    subst hlen
    have hs₂ : s₂ = (({ U with heap := s₂.heap, slotsUsed := s₂.slotsUsed } : State).setVm s₂.vm).setTop { g with pc := g.pc + len₂, stack := v.toList ++ g.stack } := by
      refine e3.trans ?_
      rw [hf₂, State.calling_eq h.top, State.setFrames_setFrames, State.setTop_of_frames _ hr', hr]
      rfl
    have hsame : U.sameButNew ({ U with heap := s₂.heap, slotsUsed := s₂.slotsUsed } : State) L mc ms := by
      refine ⟨?_, q2, q3, q4, q5, q6⟩
      obtain ⟨t, ht, -⟩ := State.frames_cons hr
      show ({ U with heap := s₂.heap, slotsUsed := s₂.slotsUsed } : State) = { U.setFrames U.frames with heap := s₂.heap, slotsUsed := s₂.slotsUsed }
      rw [State.setFrames_self ht]
    subst hg
    refine Or.inl ⟨v, ⟨(({ U with heap := s₂.heap, slotsUsed := s₂.slotsUsed } : State).setVm s₂.vm), Ls ++ L, c0 + mc, s0 + ms⟩,
      ⟨X.admits, X.cas, X.clock, X.frames, X.room, X.hears, X.method, X.code, (X.here.setHeapUsed s₂.heap s₂.slotsUsed).setVm hW'.alike, X.tail, State.WarmedH.trans X.warmed hW', X.limits, X.bytes, X.same.trans (hsame.setVm s.vm)⟩,
      ⟨g, mk, s₂, L, rfl, rfl, hqc, rfl, hL, rfl, rfl⟩, ?_⟩
    show Steps p.tables e below _ ((({ U with heap := s₂.heap, slotsUsed := s₂.slotsUsed } : State).setVm s₂.vm).setTop { g with pc := g.pc + len₂, stack := v.toList ++ g.stack })
    rw [← hs₂]
    exact hsteps
  · obtain ⟨e2, q2, q3, q4, q5, q6⟩ := id hsm
    have e3 : s₂ = ({ (U.calling g mk a).setFrames s₂.frames with heap := s₂.heap, slotsUsed := s₂.slotsUsed } : State).setVm s₂.vm := by
      have : s₂ = ({ s₂ with vm := (U.calling g mk a).vm } : State).setVm s₂.vm := rfl
      rw [e2] at this
      exact this
    have hf₂ : s₂.frames = .throwing q :: .java g :: U.frames.tail := hend
    have hW' : U.WarmedH s₂.vm := hW₂
    have hs₂ : s₂ = ((({ U with heap := s₂.heap, slotsUsed := s₂.slotsUsed } : State).setVm s₂.vm).setTop g).pushFrame (.throwing q) := by
      refine e3.trans ?_
      rw [hf₂, State.calling_eq h.top, State.setFrames_setFrames, State.pushFrame, State.frames_setTop _ hr', State.setTop_of_frames _ hr', State.setFrames_setFrames, hr]
      rfl
    have hsame : U.sameButNew ({ U with heap := s₂.heap, slotsUsed := s₂.slotsUsed } : State) L mc ms := by
      refine ⟨?_, q2, q3, q4, q5, q6⟩
      obtain ⟨t, ht, -⟩ := State.frames_cons hr
      show ({ U with heap := s₂.heap, slotsUsed := s₂.slotsUsed } : State) = { U.setFrames U.frames with heap := s₂.heap, slotsUsed := s₂.slotsUsed }
      rw [State.setFrames_self ht]
    subst hg
    refine Or.inr ⟨q, ⟨(({ U with heap := s₂.heap, slotsUsed := s₂.slotsUsed } : State).setVm s₂.vm), Ls ++ L, c0 + mc, s0 + ms⟩,
      ⟨X.admits, X.cas, X.clock, X.frames, X.room, X.hears, X.method, X.code, (X.here.setHeapUsed s₂.heap s₂.slotsUsed).setVm hW'.alike, X.tail, State.WarmedH.trans X.warmed hW', X.limits, X.bytes, X.same.trans (hsame.setVm s.vm)⟩,
      ⟨g, mk, s₂, L, E, ce, rfl, rfl, hx, hce, hcv, hcl, rfl, hL, rfl, rfl⟩, ?_⟩
    show Steps p.tables e below _ (((({ U with heap := s₂.heap, slotsUsed := s₂.slotsUsed } : State).setVm s₂.vm).setTop g).pushFrame (.throwing q))
    rw [← hs₂]
    exact hsteps
end
variable {p : Program} {l : Launch} {e : Env} {R : Room} {s : State} {m : MethodId} {args : Array Value} {below : List Frame} {meth : Method} {c : Code} {T : State} {H : Heap} {locs : List Loc} {cells slots : Nat}
theorem vx_callVX (X : Stand p l e R s m args below meth c T locs cells slots) (hexec : p.tables.exec = Jvm.exec) {own C : String} {index : Nat} {y : MethodName} {bytes : ByteArray} {maxL : Nat} {ret : Option FieldType} {hh : List (Nat × Nat × Nat × Nat)}
    (hown : s.vm.findClass own = some m.cls) (hlink : (Cond.methodLink own index y).before args s = true) (hinst : (Cond.instanceMethod y).before args s = true) (hsel : (Cond.selects C y y).before args s = true)
    (hcode : (Cond.codeWith y bytes maxL ret hh).before args s = true) (hy : y.cls ≠ "java/lang/invoke/MethodHandle" ∧ y.cls ≠ "java/lang/invoke/VarHandle")
    {W9 : Nat} {Pre : Pt → Array Value → Prop} {Post : Pt → Array Value → Option Value → Pt → Prop} {PostX : Pt → Array Value → Addr → Pt → Prop} (hK : vx_Back l R p e below s args y 3 W9 Pre Post PostX)
    {b : Addr} {cellB : Cell} (hcell : T.heap[b]? = some cellB) (hobj : cellB.vm.isStatics = false) (hcls : s.vm.findClass C = some cellB.cls)
    {g : JFrame} (hg : g.method = m) (hsize : g.locals.size = c.maxLocals) {argsL rest : List Value} (hlen : ∀ sig, parseMethodDescriptor y.desc = some sig → argsL.length = sig.parameters.length)
    (hstack : g.stack = argsL.reverse ++ .ref b :: rest) (hW : 2 * g.monitorRoom + (rest.map fun v => v.category).sum ≤ W9) (hdg : decode c.code g.pc = .ok (.invokevirtual index, 3))
    (hpre : ∀ vm₁, s.WarmedH vm₁ → Pre ⟨T.setVm vm₁, locs, cells, slots⟩ (Value.ref b :: argsL).toArray) :
    (∃ (v : Option Value) (vm₁ : Vm) (B : Pt), s.WarmedH vm₁ ∧ Stand p l e R s m args below meth c B.U B.locs B.cells B.slots ∧ Post ⟨T.setVm vm₁, locs, cells, slots⟩ (Value.ref b :: argsL).toArray v B ∧
      ∀ target, Steps p.tables e below (B.U.setTop { g with pc := g.pc + 3, stack := v.toList ++ rest }) target → Steps p.tables e below (T.setTop g) target) ∨
    (∃ (q : Addr) (vm₁ : Vm) (B : Pt), s.WarmedH vm₁ ∧ Stand p l e R s m args below meth c B.U B.locs B.cells B.slots ∧ PostX ⟨T.setVm vm₁, locs, cells, slots⟩ (Value.ref b :: argsL).toArray q B ∧
      Steps p.tables e below (T.setTop g) ((B.U.setTop { g with stack := rest }).pushFrame (.throwing q))) := by
  obtain ⟨mk, methM, hnamed, hmethM, hstM, habM⟩ := Cond.instanceMethod_spec hinst
  obtain ⟨m8, methM', cM, hn8, hmethM', -, -, -, -, -, -, hsigM⟩ := Cond.codeWith_spec hcode
  cases Option.some.inj (hn8.symm.trans hnamed)
  cases hmethM.symm.trans hmethM'
  obtain ⟨c2, r2, m2, q1, q2, q3, q4, kP, hkP, hkPi⟩ := Cond.selects_spec hsel
  cases hcls.symm.trans q1
  cases (State.methodFound?_of_named hnamed hy).symm.trans q2
  cases hnamed.symm.trans q3
  have hselP : selectMethod e.platform s.vm cellB.cls mk = .method mk := by rw [Launch.admits_selectMethod X.admits]; exact q4
  obtain ⟨vm₁, X₁, hstep₁⟩ := X.invokevirtual hexec hown hlink hnamed hmethM hstM hkP hkPi hy (a := b) (cell := cellB) hcell
    (fun z h => by rw [h] at hobj; cases hobj) hselP hmethM habM hkP hkPi (g := g) hg (argsL := argsL) (rest := rest) (hlen _ hsigM) hstack hdg
  rcases hK m meth c ⟨T.setVm vm₁, locs, cells, slots⟩ { g with stack := rest } (.invokevirtual index) mk (Value.ref b :: argsL).toArray X₁ hg hsize hdg hW (X₁.named hnamed) (hpre vm₁ X₁.warmed) with ⟨v, B, X', hpost, hsteps⟩ | ⟨q, B, X', hpost, hsteps⟩
  · exact Or.inl ⟨v, vm₁, B, X₁.warmed, X', hpost, fun target h => hstep₁ _ fun acts => by rw [doInvoke_state]; exact hsteps.trans h⟩
  · exact Or.inr ⟨q, vm₁, B, X₁.warmed, X', hpost, hstep₁ _ fun acts => by rw [doInvoke_state]; exact hsteps⟩
theorem vx_callSX (X : Stand p l e R s m args below meth c T locs cells slots) (hexec : p.tables.exec = Jvm.exec) {own : String} {index : Nat} {y : MethodName} {bytes : ByteArray} {maxL : Nat} {ret : Option FieldType} {hh : List (Nat × Nat × Nat × Nat)}
    (hown : s.vm.findClass own = some m.cls) (hlink : (Cond.methodLink own index y).before args s = true) (hstat : (Cond.static y).before args s = true) (hinit : (Cond.initialized y.cls).before args s = true)
    (hcode : (Cond.codeWith y bytes maxL ret hh).before args s = true) (hy : y.cls ≠ "java/lang/invoke/MethodHandle" ∧ y.cls ≠ "java/lang/invoke/VarHandle")
    {W9 : Nat} {Pre : Pt → Array Value → Prop} {Post : Pt → Array Value → Option Value → Pt → Prop} {PostX : Pt → Array Value → Addr → Pt → Prop} (hK : vx_Back l R p e below s args y 3 W9 Pre Post PostX)
    {g : JFrame} (hg : g.method = m) (hsize : g.locals.size = c.maxLocals) {argsL rest : List Value} (hlen : ∀ sig, parseMethodDescriptor y.desc = some sig → argsL.length = sig.parameters.length)
    (hstack : g.stack = argsL.reverse ++ rest) (hW : 2 * g.monitorRoom + (rest.map fun v => v.category).sum ≤ W9) (hdg : decode c.code g.pc = .ok (.invokestatic index, 3))
    (hpre : ∀ vm₁, s.WarmedH vm₁ → Pre ⟨T.setVm vm₁, locs, cells, slots⟩ argsL.toArray) :
    (∃ (v : Option Value) (vm₁ : Vm) (B : Pt), s.WarmedH vm₁ ∧ Stand p l e R s m args below meth c B.U B.locs B.cells B.slots ∧ Post ⟨T.setVm vm₁, locs, cells, slots⟩ argsL.toArray v B ∧
      ∀ target, Steps p.tables e below (B.U.setTop { g with pc := g.pc + 3, stack := v.toList ++ rest }) target → Steps p.tables e below (T.setTop g) target) ∨
    (∃ (q : Addr) (vm₁ : Vm) (B : Pt), s.WarmedH vm₁ ∧ Stand p l e R s m args below meth c B.U B.locs B.cells B.slots ∧ PostX ⟨T.setVm vm₁, locs, cells, slots⟩ argsL.toArray q B ∧
      Steps p.tables e below (T.setTop g) ((B.U.setTop { g with stack := rest }).pushFrame (.throwing q))) := by
  obtain ⟨mk, methM, cM, hnamed, hmethM, -, -, -, -, -, -, hsigM⟩ := Cond.codeWith_spec hcode
  have hstatic : methM.isStatic = true := Cond.static_spec hnamed hmethM hstat
  obtain ⟨kP, hkP, -⟩ := className_of_methodNamed hnamed
  have hinitP : kP.init = .initialized := Cond.initialized_spec (findClass_of_methodNamed hnamed) hkP hinit
  obtain ⟨vm₁, X₁, hstep₁⟩ := X.invokestatic hexec hown hlink hnamed hmethM hstatic hkP hinitP hy (g := g) hg (argsL := argsL) (rest := rest) (hlen _ hsigM) hstack hdg
  rcases hK m meth c ⟨T.setVm vm₁, locs, cells, slots⟩ { g with stack := rest } (.invokestatic index) mk argsL.toArray X₁ hg hsize hdg hW (X₁.named hnamed) (hpre vm₁ X₁.warmed) with ⟨v, B, X', hpost, hsteps⟩ | ⟨q, B, X', hpost, hsteps⟩
  · exact Or.inl ⟨v, vm₁, B, X₁.warmed, X', hpost, fun target h => hstep₁ _ fun acts => by rw [doInvoke_state]; exact hsteps.trans h⟩
  · exact Or.inr ⟨q, vm₁, B, X₁.warmed, X', hpost, hstep₁ _ fun acts => by rw [doInvoke_state]; exact hsteps⟩
theorem vx_callVW (X : Stand p l e R s m args below meth c T locs cells slots) (hexec : p.tables.exec = Jvm.exec) {own C : String} {index : Nat} {y : MethodName} {bytes : ByteArray} {maxL : Nat} {ret : Option FieldType} {hh : List (Nat × Nat × Nat × Nat)}
    (hown : s.vm.findClass own = some m.cls) (hlink : (Cond.methodLink own index y).before args s = true) (hinst : (Cond.instanceMethod y).before args s = true) (hsel : (Cond.selects C y y).before args s = true)
    (hcode : (Cond.codeWith y bytes maxL ret hh).before args s = true) (hy : y.cls ≠ "java/lang/invoke/MethodHandle" ∧ y.cls ≠ "java/lang/invoke/VarHandle")
    {W9 : Nat} {Pre : Pt → Array Value → Prop} {Post : Pt → Array Value → Option Value → Pt → Prop} (hK : Back l R p e below s args y 3 W9 Pre Post)
    {b : Addr} {cellB : Cell} (hcell : T.heap[b]? = some cellB) (hobj : cellB.vm.isStatics = false) (hcls : s.vm.findClass C = some cellB.cls)
    {g : JFrame} (hg : g.method = m) (hsize : g.locals.size = c.maxLocals) {argsL rest : List Value} (hlen : ∀ sig, parseMethodDescriptor y.desc = some sig → argsL.length = sig.parameters.length)
    (hstack : g.stack = argsL.reverse ++ .ref b :: rest) (hW : 2 * g.monitorRoom + (rest.map fun v => v.category).sum ≤ W9) (hdg : decode c.code g.pc = .ok (.invokevirtual index, 3))
    (hpre : ∀ vm₁, s.WarmedH vm₁ → Pre ⟨T.setVm vm₁, locs, cells, slots⟩ (Value.ref b :: argsL).toArray) :
    ∃ (v : Option Value) (vm₁ : Vm) (B : Pt), s.WarmedH vm₁ ∧ Stand p l e R s m args below meth c B.U B.locs B.cells B.slots ∧ Post ⟨T.setVm vm₁, locs, cells, slots⟩ (Value.ref b :: argsL).toArray v B ∧
      ∀ target, Steps p.tables e below (B.U.setTop { g with pc := g.pc + 3, stack := v.toList ++ rest }) target → Steps p.tables e below (T.setTop g) target := by
  obtain ⟨mk, methM, hnamed, hmethM, hstM, habM⟩ := Cond.instanceMethod_spec hinst
  obtain ⟨m8, methM', cM, hn8, hmethM', -, -, -, -, -, -, hsigM⟩ := Cond.codeWith_spec hcode
  cases Option.some.inj (hn8.symm.trans hnamed)
  cases hmethM.symm.trans hmethM'
  obtain ⟨c2, r2, m2, q1, q2, q3, q4, kP, hkP, hkPi⟩ := Cond.selects_spec hsel
  cases hcls.symm.trans q1
  cases (State.methodFound?_of_named hnamed hy).symm.trans q2
  cases hnamed.symm.trans q3
  have hselP : selectMethod e.platform s.vm cellB.cls mk = .method mk := by rw [Launch.admits_selectMethod X.admits]; exact q4
  obtain ⟨vm₁, X₁, hstep₁⟩ := X.invokevirtual hexec hown hlink hnamed hmethM hstM hkP hkPi hy (a := b) (cell := cellB) hcell
    (fun z h => by rw [h] at hobj; cases hobj) hselP hmethM habM hkP hkPi (g := g) hg (argsL := argsL) (rest := rest) (hlen _ hsigM) hstack hdg
  obtain ⟨v, B, X', hpost, hsteps⟩ := hK m meth c ⟨T.setVm vm₁, locs, cells, slots⟩ { g with stack := rest } (.invokevirtual index) mk (Value.ref b :: argsL).toArray X₁ hg hsize hdg hW (X₁.named hnamed) (hpre vm₁ X₁.warmed)
  exact ⟨v, vm₁, B, X₁.warmed, X', hpost, fun target h => hstep₁ _ fun acts => by rw [doInvoke_state]; exact hsteps.trans h⟩
abbrev vx_CVW (R : Room) (s : State) (args : Array Value) (own C : String) (index : Nat) (y : MethodName) (bytes : ByteArray) (maxL : Nat) (ret : Option FieldType) (hh : List (Nat × Nat × Nat × Nat)) (ws : List Cond) (rm : Room) (mc ms n : Nat) : Prop :=
  (rm.cells = mc ∧ rm.slots = ms ∧ rm.frames + 1 ≤ R.frames ∧ 8 + (maxL + 11) + rm.locals ≤ R.locals ∧ (∀ w ∈ ws, ∀ (a' : Array Value) (U : State), s.WarmedH U.vm → w.before a' U = true) ∧ Cond.codeWith y bytes maxL ret hh ∈ ws) ∧
  (Cond.codeWith y bytes maxL ret hh).before args s = true ∧ (Cond.initialized y.cls).before args s = true ∧ (y.cls ≠ "java/lang/invoke/MethodHandle" ∧ y.cls ≠ "java/lang/invoke/VarHandle") ∧
  (∀ sig, parseMethodDescriptor y.desc = some sig → n = sig.parameters.length) ∧ (Cond.methodLink own index y).before args s = true ∧ (Cond.instanceMethod y).before args s = true ∧ (Cond.selects C y y).before args s = true
theorem vx_cwVW {own C : String} {index maxL mc ms : Nat} {y : MethodName} {bytes : ByteArray} {ret : Option FieldType} {hh : List (Nat × Nat × Nat × Nat)} {Ts ws ws' : List Cond} {rm : Room} (n : Nat) (ht : ∀ w ∈ Ts, w.before args s = true) (hT : GoodIn Ts (wsV own index C y ws)) (hw : ws = Cond.codeWith y bytes maxL ret hh :: ws') (hrc : rm.cells = mc) (hrs : rm.slots = ms)
    (hd : y.cls = C ∧ y.cls ≠ "java/lang/invoke/MethodHandle" ∧ y.cls ≠ "java/lang/invoke/VarHandle" ∧ (parseMethodDescriptor y.desc).map (fun d => d.parameters.length) = some n) (hR : rm.frames + 1 ≤ R.frames ∧ 8 + (maxL + 11) + rm.locals ≤ R.locals) :
    vx_CVW R s args own C index y bytes maxL ret hh ws rm mc ms n := by
  obtain ⟨hC, hd⟩ := hd
  subst hC
  have ok : ∀ w ∈ wsV own index y.cls y ws, w.before args s = true := fun w h => ht w (hT w h).1
  have hG : GoodIn Ts ws := fun w h => hT w (by unfold wsV; exact List.mem_append_right _ h)
  have hc : Cond.codeWith y bytes maxL ret hh ∈ ws := by rw [hw]; exact List.mem_cons_self
  refine ⟨⟨hrc, hrs, hR.1, hR.2, pay_in ht hG, hc⟩, ht _ (hG _ hc).1, ok _ (by simp [wsV]), ⟨hd.1, hd.2.1⟩, fun sig h => ?_, ok _ (by simp [wsV]), ok _ (by simp [wsV]), ok _ (by simp [wsV])⟩
  have h2 := hd.2.2
  rw [h] at h2
  exact (Option.some.inj h2).symm
theorem vx_runVW {y : MethodName} {bytes cc : ByteArray} {maxL nL mc ms n index : Nat} {ret : Option FieldType} {hh : List (Nat × Nat × Nat × Nat)} {ws : List Cond} {rm : Room} {Pc : Array Value → State → Prop} {Qc : Array Value → State → Outcome → State → Prop} {free : Addr → Prop} {Ts : List Cond} {own C : String} {b : Addr} {As rest : List Value} {g : JFrame}
    (S : CallFix p m c cc nL s args Ts own) (hM : Met l y ws rm Pc Qc mc ms free) (cw : vx_CVW R s args own C index y bytes maxL ret hh ws rm mc ms n) (hp : PreV s H C b Pc As)
    (hg : g.method = m) (hn : As.length = n) (hsize : g.locals.size = nL) (hstack : g.stack = As.reverse ++ .ref b :: rest) (hW : 2 * g.monitorRoom + (rest.map fun v => v.category).sum ≤ 8) (hdg : decode cc g.pc = .ok (.invokevirtual index, 3)) (hf : cells + mc ≤ R.cells ∧ slots + ms ≤ R.slots) :
    va_Run p l e R s m args below meth c H locs cells slots mc ms g rest (Qc (Value.ref b :: As).toArray) free := by
  obtain ⟨⟨hrc, hrs, hfr, hlo, hws, hcw⟩, hcode, hini, hy, hlen, hl, hin, hse⟩ := cw
  have hK : Back l R p e below s args y 3 8 (PreOf R mc ms Pc) (PostOf Qc mc ms free) := va_backW (hh := hh) (bytes := bytes) (maxL := maxL) (ret := ret) hM hp.1 hrc hrs hfr hlo hws hcw (fun a' U hW => word_at hW (Or.inl (by first | rfl | simp [Cond.onTables, Cond.keeps, Cond.steady])) hini)
  obtain ⟨hx, hb, hml, ho, -⟩ := S
  obtain ⟨-, ⟨cellB, hcB, hoB, hclB⟩, hPc⟩ := hp
  intro T hT X
  obtain ⟨v, vm₁, ⟨U', l2, c2, s2⟩, hW₁, X', ⟨g', mk, t, L, e1, e2, hq, h1, hL, h2, h3⟩, st⟩ := vx_callVW X hx (C := C) (hh := hh) (bytes := bytes) (maxL := maxL) (ret := ret) ho hl hin hse hcode hy hK (by rw [hT]; exact hcB) hoB hclB hg (hsize.trans hml.symm) (argsL := As) (rest := rest) (fun sig h => hn.trans (hlen sig h)) hstack hW (by rw [hb]; exact hdg)
    (fun vm₁ hW₁ => ⟨hf.1, hf.2, hPc (T.setVm vm₁) hT hW₁⟩)
  dsimp only [Pt.U, Pt.locs, Pt.cells, Pt.slots] at X' e1 e2 h1 h2 h3 st
  subst h1; subst h2; subst h3
  exact ⟨v, (T.setVm vm₁).calling g' mk (Value.ref b :: As).toArray, t, U', L, hT, X', hL, e1, e2, hq, st⟩
section
variable {y : MethodName} {bytes cc : ByteArray} {maxL nL mc ms n index : Nat} {ret : Option FieldType} {ws : List Cond} {rm : Room} {Pc : Array Value → State → Prop} {Qc : Array Value → State → Outcome → State → Prop} {XC : String → State → State → Prop} {free : Addr → Prop} {Ts : List Cond} {own C : String} {b : Addr} {As rest : List Value} {g : JFrame}
theorem vx_runVX {hh : List (Nat × Nat × Nat × Nat)} (S : CallFix p m c cc nL s args Ts own) (hM : vx_Met l y ws rm Pc Qc XC mc ms free) (cw : vx_CVW R s args own C index y bytes maxL ret hh ws rm mc ms n) (hp : PreV s H C b Pc As)
    (hg : g.method = m) (hn : As.length = n) (hsize : g.locals.size = nL) (hstack : g.stack = As.reverse ++ .ref b :: rest) (hW : 2 * g.monitorRoom + (rest.map fun v => v.category).sum ≤ 8) (hdg : decode cc g.pc = .ok (.invokevirtual index, 3)) (hf : cells + mc ≤ R.cells ∧ slots + ms ≤ R.slots) :
    vx_Run p l e R s m args below meth c H locs cells slots mc ms g rest (Qc (Value.ref b :: As).toArray) XC free := by
  obtain ⟨⟨hrc, hrs, hfr, hlo, hws, hcw⟩, hcode, hini, hy, hlen, hl, hin, hse⟩ := cw
  have hK : vx_Back l R p e below s args y 3 8 (PreOf R mc ms Pc) (PostOf Qc mc ms free) (vx_Post XC mc ms free) := vx_backW (hh := hh) (bytes := bytes) (maxL := maxL) (ret := ret) hM hp.1 hrc hrs hfr hlo hws hcw (fun a' U hW => word_at hW (Or.inl (by first | rfl | simp [Cond.onTables, Cond.keeps, Cond.steady])) hini)
  obtain ⟨hx, hb, hml, ho, -⟩ := S
  obtain ⟨-, ⟨cellB, hcB, hoB, hclB⟩, hPc⟩ := hp
  intro T hT X
  rcases vx_callVX X hx (C := C) (hh := hh) (bytes := bytes) (maxL := maxL) (ret := ret) ho hl hin hse hcode hy hK (by rw [hT]; exact hcB) hoB hclB hg (hsize.trans hml.symm) (argsL := As) (rest := rest) (fun sig h => hn.trans (hlen sig h)) hstack hW (by rw [hb]; exact hdg)
    (fun vm₁ hW₁ => ⟨hf.1, hf.2, hPc (T.setVm vm₁) hT hW₁⟩) with ⟨v, vm₁, ⟨U', l2, c2, s2⟩, hW₁, X', ⟨g', mk, t, L, e1, e2, hq, h1, hL, h2, h3⟩, st⟩ | ⟨q, vm₁, ⟨U', l2, c2, s2⟩, hW₁, X', ⟨g', mk, t, L, E, ce, e1, e2, hq, hce, hcv, hcl, h1, hL, h2, h3⟩, st⟩
  · dsimp only [Pt.U, Pt.locs, Pt.cells, Pt.slots] at X' e1 e2 h1 h2 h3 st
    subst h1; subst h2; subst h3
    exact Or.inl ⟨v, (T.setVm vm₁).calling g' mk (Value.ref b :: As).toArray, t, U', L, hT, X', hL, e1, e2, hq, st⟩
  · dsimp only [Pt.U, Pt.locs, Pt.cells, Pt.slots] at X' e1 e2 h1 h2 h3 st hcl
    subst h1; subst h2; subst h3
    exact Or.inr ⟨q, (T.setVm vm₁).calling g' mk (Value.ref b :: As).toArray, t, U', L, E, ce, hT, X', hL, e1, e2, hq, hce, hcv, vx_cls hW₁ hcl, st⟩
theorem vx_runSX {hh : List (Nat × Nat × Nat × Nat)} (S : CallFix p m c cc nL s args Ts own) (hM : vx_Met l y ws rm Pc Qc XC mc ms free) (cw : vx_CSW R s args own index y bytes maxL ret hh ws rm mc ms n) (hp : PreS s H Pc As)
    (hg : g.method = m) (hn : As.length = n) (hsize : g.locals.size = nL) (hstack : g.stack = As.reverse ++ rest) (hW : 2 * g.monitorRoom + (rest.map fun v => v.category).sum ≤ 8) (hdg : decode cc g.pc = .ok (.invokestatic index, 3)) (hf : cells + mc ≤ R.cells ∧ slots + ms ≤ R.slots) :
    vx_Run p l e R s m args below meth c H locs cells slots mc ms g rest (Qc As.toArray) XC free := by
  obtain ⟨⟨hrc, hrs, hfr, hlo, hws, hcw⟩, hcode, hini, hy, hlen, hl, hstt⟩ := cw
  have hK : vx_Back l R p e below s args y 3 8 (PreOf R mc ms Pc) (PostOf Qc mc ms free) (vx_Post XC mc ms free) := vx_backW (hh := hh) (bytes := bytes) (maxL := maxL) (ret := ret) hM hp.1 hrc hrs hfr hlo hws hcw (fun a' U hW => word_at hW (Or.inl (by first | rfl | simp [Cond.onTables, Cond.keeps, Cond.steady])) hini)
  obtain ⟨hx, hb, hml, ho, -⟩ := S
  intro T hT X
  rcases vx_callSX X hx (hh := hh) (bytes := bytes) (maxL := maxL) (ret := ret) ho hl hstt hini hcode hy hK hg (hsize.trans hml.symm) (argsL := As) (rest := rest) (fun sig h => hn.trans (hlen sig h)) hstack hW (by rw [hb]; exact hdg)
    (fun vm₁ hW₁ => ⟨hf.1, hf.2, hp.2 (T.setVm vm₁) hT hW₁⟩) with ⟨v, vm₁, ⟨U', l2, c2, s2⟩, hW₁, X', ⟨g', mk, t, L, e1, e2, hq, h1, hL, h2, h3⟩, st⟩ | ⟨q, vm₁, ⟨U', l2, c2, s2⟩, hW₁, X', ⟨g', mk, t, L, E, ce, e1, e2, hq, hce, hcv, hcl, h1, hL, h2, h3⟩, st⟩
  · dsimp only [Pt.U, Pt.locs, Pt.cells, Pt.slots] at X' e1 e2 h1 h2 h3 st
    subst h1; subst h2; subst h3
    exact Or.inl ⟨v, (T.setVm vm₁).calling g' mk As.toArray, t, U', L, hT, X', hL, e1, e2, hq, st⟩
  · dsimp only [Pt.U, Pt.locs, Pt.cells, Pt.slots] at X' e1 e2 h1 h2 h3 st hcl
    subst h1; subst h2; subst h3
    exact Or.inr ⟨q, (T.setVm vm₁).calling g' mk As.toArray, t, U', L, E, ce, hT, X', hL, e1, e2, hq, hce, hcv, vx_cls hW₁ hcl, st⟩
end
end VXH
theorem vx_ofWH {l : Launch} {y : MethodName} {ws ws' : List Cond} {rm : Room} {Pc : Array Value → State → Prop} {Qc : Array Value → State → Outcome → State → Prop} {XC : String → State → State → Prop} {mc ms : Nat} {free : Addr → Prop} {cc : ByteArray} {maxL : Nat} {ret : Option FieldType} {hh : List (Nat × Nat × Nat × Nat)}
    (hy : plainName y.cls = true) (hw : ws = Cond.codeWith y cc maxL ret hh :: ws')
    (body : ∀ p e s m args below meth c s₁, BodyLoose p l y (headSpec ws rm) cc maxL ret e s m args below meth c s₁ → c.maxLocals = maxL → Pc args s →
      W p l e (headSpec ws rm).room s m args below meth c s.heap [] 0 0 (vx_MQ below Qc XC args s mc ms free) (entryFrame m args maxL)) : vx_Met l y ws rm Pc Qc XC mc ms free := by
  refine MetFree.of_bodyS (code := cc) (maxLocals := maxL) (ret := ret) hy ?_ ?_
  · intro args s m h hn
    obtain ⟨m9, meth, c, hn9, h1, h2, h3, h4, -, h5, h6, -⟩ := Cond.codeWith_spec (atoms_spec (ws := ws) h _ (by rw [hw]; exact List.mem_cons_self))
    cases hn.symm.trans hn9
    exact ⟨meth, c, h1, h2, h3, h4, h5, h6⟩
  · intro p e s m args below meth c s₁ B hml hP _
    have hh0 : s₁.heap = s.heap := by rw [B.state]; rfl
    obtain ⟨t, a1, o, b1, b2, b3⟩ := body p e s m args below meth c s₁ B hml hP s₁ hh0 (Stand.of_body B)
    exact ⟨t, o, a1, b1, b2, b3⟩
/-! ===== END ===== -/

def RX0 : String := "BreakerTrials$DelayText"
def TX0 : u_T := fun k => match k with
  | 0 => ("BreakerTrials$DelayText", "codes", "[I", true)
  | _ => ("BreakerTrials$DelayText", "length", "I", false)
def tyX0 : Nat → FieldType := fun k => match k with
  | 0 => .array .int
  | _ => .int
abbrev wsX00 : List Cond := u_ws RX0 TX0 2
theorem nmX0 : ∀ a, a < 2 → ∀ b, b < 2 → a ≠ b → (TX0 a).2.1 ≠ (TX0 b).2.1 := by decide +kernel
theorem tyX0_ok : ∀ k, k < 2 → parseFieldDescriptor (TX0 k).2.2.1 = some (tyX0 k) := by decide +kernel
abbrev cX0_init : ByteArray := prog_2_method_1_code
def yX0_init : MethodName := ⟨RX0, "<init>", "()V"⟩
abbrev cX0_isFull : ByteArray := prog_2_method_2_code
def yX0_isFull : MethodName := ⟨RX0, "isFull", "()Z"⟩
abbrev cX0_add : ByteArray := prog_2_method_3_code
def yX0_add : MethodName := ⟨RX0, "add", "(I)I"⟩
abbrev cX0_empty : ByteArray := prog_2_method_4_code
def yX0_empty : MethodName := ⟨RX0, "empty", "()I"⟩
abbrev cX0_firstWrong : ByteArray := prog_2_method_5_code
def yX0_firstWrong : MethodName := ⟨RX0, "firstWrong", "()I"⟩
abbrev cX0_isComplete : ByteArray := prog_2_method_6_code
def yX0_isComplete : MethodName := ⟨RX0, "isComplete", "()Z"⟩
abbrev cX0_readInto : ByteArray := prog_2_method_7_code
def yX0_readInto : MethodName := ⟨RX0, "readInto", "([I)I"⟩
abbrev cX0_isDigit : ByteArray := prog_2_method_8_code
def yX0_isDigit : MethodName := ⟨RX0, "isDigit", "(I)Z"⟩
def RX1 : String := "BreakerTrials$State"
def TX1 : u_T := fun k => match k with
  | 0 => ("BreakerTrials$State", "stores", "[LBreakerTrials$Store;", true)
  | 1 => ("BreakerTrials$State", "settings", "[I", true)
  | 2 => ("BreakerTrials$State", "calls", "[[I", true)
  | 3 => ("BreakerTrials$State", "callCount", "I", false)
  | 4 => ("BreakerTrials$State", "ticksGone", "I", false)
  | 5 => ("BreakerTrials$State", "goodOutcomes", "I", false)
  | _ => ("BreakerTrials$State", "trials", "I", false)
def tyX1 : Nat → FieldType := fun k => match k with
  | 0 => .array (.object "BreakerTrials$Store")
  | 1 => .array .int
  | 2 => .array (.array .int)
  | 3 => .int
  | 4 => .int
  | 5 => .int
  | _ => .int
abbrev wsX10 : List Cond := u_ws RX1 TX1 7
theorem nmX1 : ∀ a, a < 7 → ∀ b, b < 7 → a ≠ b → (TX1 a).2.1 ≠ (TX1 b).2.1 := by decide +kernel
theorem tyX1_ok : ∀ k, k < 7 → parseFieldDescriptor (TX1 k).2.2.1 = some (tyX1 k) := by decide +kernel
abbrev cX1_init : ByteArray := prog_3_method_1_code
def yX1_init : MethodName := ⟨RX1, "<init>", "()V"⟩
abbrev cX1_copyFrom : ByteArray := prog_3_method_2_code
def yX1_copyFrom : MethodName := ⟨RX1, "copyFrom", "(LBreakerTrials$State;)V"⟩
abbrev cX1_isFull : ByteArray := prog_3_method_3_code
def yX1_isFull : MethodName := ⟨RX1, "isFull", "()Z"⟩
abbrev cX1_blocks : ByteArray := prog_3_method_4_code
def yX1_blocks : MethodName := ⟨RX1, "blocks", "(I)Z"⟩
abbrev cX1_answerFor : ByteArray := prog_3_method_5_code
def yX1_answerFor : MethodName := ⟨RX1, "answerFor", "(I)I"⟩
abbrev cX1_trialOf : ByteArray := prog_3_method_6_code
def yX1_trialOf : MethodName := ⟨RX1, "trialOf", "(I)I"⟩
abbrev cX1_ring : ByteArray := prog_3_method_7_code
def yX1_ring : MethodName := ⟨RX1, "ring", "(I)I"⟩
abbrev cX1_sendOff : ByteArray := prog_3_method_8_code
def yX1_sendOff : MethodName := ⟨RX1, "sendOff", "(III)V"⟩
abbrev cX1_ringOften : ByteArray := prog_3_method_9_code
def yX1_ringOften : MethodName := ⟨RX1, "ringOften", "(III)I"⟩
abbrev cX1_letPass : ByteArray := prog_3_method_10_code
def yX1_letPass : MethodName := ⟨RX1, "letPass", "(I)I"⟩
abbrev cX1_tick : ByteArray := prog_3_method_11_code
def yX1_tick : MethodName := ⟨RX1, "tick", "()I"⟩
abbrev cX1_moveCall : ByteArray := prog_3_method_12_code
def yX1_moveCall : MethodName := ⟨RX1, "moveCall", "(II)V"⟩
abbrev cX1_settle : ByteArray := prog_3_method_13_code
def yX1_settle : MethodName := ⟨RX1, "settle", "(LBreakerTrials$Store;III)V"⟩
abbrev cX1_isBad : ByteArray := prog_3_method_14_code
def yX1_isBad : MethodName := ⟨RX1, "isBad", "(I)Z"⟩
abbrev cX1_settleTrial : ByteArray := prog_3_method_15_code
def yX1_settleTrial : MethodName := ⟨RX1, "settleTrial", "(LBreakerTrials$Store;Z)V"⟩
abbrev cX1_nextCut : ByteArray := prog_3_method_16_code
def yX1_nextCut : MethodName := ⟨RX1, "nextCut", "(LBreakerTrials$Store;)I"⟩
abbrev cX1_settleInWindow : ByteArray := prog_3_method_17_code
def yX1_settleInWindow : MethodName := ⟨RX1, "settleInWindow", "(LBreakerTrials$Store;Z)V"⟩
abbrev cX1_closeByHand : ByteArray := prog_3_method_18_code
def yX1_closeByHand : MethodName := ⟨RX1, "closeByHand", "(I)I"⟩
abbrev cX1_ticksTillFree : ByteArray := prog_3_method_19_code
def yX1_ticksTillFree : MethodName := ⟨RX1, "ticksTillFree", "(I)I"⟩
abbrev cX1_healthiestStore : ByteArray := prog_3_method_20_code
def yX1_healthiestStore : MethodName := ⟨RX1, "healthiestStore", "()I"⟩
abbrev cX1_isHealthier : ByteArray := prog_3_method_21_code
def yX1_isHealthier : MethodName := ⟨RX1, "isHealthier", "(LBreakerTrials$Store;LBreakerTrials$Store;)Z"⟩
abbrev cX1_closedBreakers : ByteArray := prog_3_method_22_code
def yX1_closedBreakers : MethodName := ⟨RX1, "closedBreakers", "()I"⟩
abbrev cX1_numberOf : ByteArray := prog_3_method_23_code
def yX1_numberOf : MethodName := ⟨RX1, "numberOf", "(II)I"⟩
abbrev cX1_sumOf : ByteArray := prog_3_method_24_code
def yX1_sumOf : MethodName := ⟨RX1, "sumOf", "(I)I"⟩
abbrev cX1_goodShare : ByteArray := prog_3_method_25_code
def yX1_goodShare : MethodName := ⟨RX1, "goodShare", "()D"⟩
def RX2 : String := "BreakerTrials$Store"
def TX2 : u_T := fun k => match k with
  | 0 => ("BreakerTrials$Store", "row", "[I", true)
  | 1 => ("BreakerTrials$Store", "rowLength", "I", false)
  | 2 => ("BreakerTrials$Store", "next", "I", false)
  | 3 => ("BreakerTrials$Store", "breaker", "I", false)
  | 4 => ("BreakerTrials$Store", "ticksLeft", "I", false)
  | 5 => ("BreakerTrials$Store", "lastCut", "I", false)
  | 6 => ("BreakerTrials$Store", "closings", "I", false)
  | 7 => ("BreakerTrials$Store", "outcomes", "I", false)
  | 8 => ("BreakerTrials$Store", "knownOutcomes", "I", false)
  | 9 => ("BreakerTrials$Store", "letThrough", "I", false)
  | 10 => ("BreakerTrials$Store", "refused", "I", false)
  | 11 => ("BreakerTrials$Store", "badOutcomes", "I", false)
  | 12 => ("BreakerTrials$Store", "callsOnWay", "I", false)
  | _ => ("BreakerTrials$Store", "cuts", "I", false)
def tyX2 : Nat → FieldType := fun k => match k with
  | 0 => .array .int
  | 1 => .int
  | 2 => .int
  | 3 => .int
  | 4 => .int
  | 5 => .int
  | 6 => .int
  | 7 => .int
  | 8 => .int
  | 9 => .int
  | 10 => .int
  | 11 => .int
  | 12 => .int
  | _ => .int
abbrev wsX20 : List Cond := u_ws RX2 TX2 14
theorem nmX2 : ∀ a, a < 14 → ∀ b, b < 14 → a ≠ b → (TX2 a).2.1 ≠ (TX2 b).2.1 := by decide +kernel
theorem tyX2_ok : ∀ k, k < 14 → parseFieldDescriptor (TX2 k).2.2.1 = some (tyX2 k) := by decide +kernel
abbrev cX2_init : ByteArray := prog_4_method_1_code
def yX2_init : MethodName := ⟨RX2, "<init>", "()V"⟩
abbrev cX2_copyFrom : ByteArray := prog_4_method_2_code
def yX2_copyFrom : MethodName := ⟨RX2, "copyFrom", "(LBreakerTrials$Store;)V"⟩
abbrev cX2_takeRow : ByteArray := prog_4_method_3_code
def yX2_takeRow : MethodName := ⟨RX2, "takeRow", "(LBreakerTrials$DelayText;)I"⟩
abbrev cX2_takeDelay : ByteArray := prog_4_method_4_code
def yX2_takeDelay : MethodName := ⟨RX2, "takeDelay", "()I"⟩
abbrev cX2_nextPlace : ByteArray := prog_4_method_5_code
def yX2_nextPlace : MethodName := ⟨RX2, "nextPlace", "()I"⟩
abbrev cX2_windowSize : ByteArray := prog_4_method_6_code
def yX2_windowSize : MethodName := ⟨RX2, "windowSize", "(I)I"⟩
abbrev cX2_badInWindow : ByteArray := prog_4_method_7_code
def yX2_badInWindow : MethodName := ⟨RX2, "badInWindow", "(I)I"⟩
abbrev cX2_noteOutcome : ByteArray := prog_4_method_8_code
def yX2_noteOutcome : MethodName := ⟨RX2, "noteOutcome", "(Z)V"⟩
abbrev cX2_shut : ByteArray := prog_4_method_9_code
def yX2_shut : MethodName := ⟨RX2, "shut", "()V"⟩
abbrev cX2_cutOff : ByteArray := prog_4_method_10_code
def yX2_cutOff : MethodName := ⟨RX2, "cutOff", "(I)V"⟩
abbrev cX2_waitATick : ByteArray := prog_4_method_11_code
def yX2_waitATick : MethodName := ⟨RX2, "waitATick", "()V"⟩
def RX3 : String := "BreakerTrials"
def TX3 : u_T := fun k => match k with
  | 0 => ("BreakerTrials", "now", "LBreakerTrials$State;", true)
  | 1 => ("BreakerTrials", "forecast", "LBreakerTrials$State;", true)
  | 2 => ("BreakerTrials", "saved", "[LBreakerTrials$State;", true)
  | 3 => ("BreakerTrials", "oldestSaved", "I", false)
  | 4 => ("BreakerTrials", "savedCount", "I", false)
  | _ => ("BreakerTrials", "buffer", "LBreakerTrials$DelayText;", true)
def tyX3 : Nat → FieldType := fun k => match k with
  | 0 => .object "BreakerTrials$State"
  | 1 => .object "BreakerTrials$State"
  | 2 => .array (.object "BreakerTrials$State")
  | 3 => .int
  | 4 => .int
  | _ => .object "BreakerTrials$DelayText"
abbrev wsX30 : List Cond := u_ws RX3 TX3 6
theorem nmX3 : ∀ a, a < 6 → ∀ b, b < 6 → a ≠ b → (TX3 a).2.1 ≠ (TX3 b).2.1 := by decide +kernel
theorem tyX3_ok : ∀ k, k < 6 → parseFieldDescriptor (TX3 k).2.2.1 = some (tyX3 k) := by decide +kernel
abbrev cX3_init : ByteArray := prog_1_method_1_code
def yX3_init : MethodName := ⟨RX3, "<init>", "()V"⟩
abbrev cX3_call : ByteArray := prog_1_method_2_code
def yX3_call : MethodName := ⟨RX3, "call", "(I)I"⟩
abbrev cX3_callOften : ByteArray := prog_1_method_3_code
def yX3_callOften : MethodName := ⟨RX3, "callOften", "(III)I"⟩
abbrev cX3_callHealthiest : ByteArray := prog_1_method_4_code
def yX3_callHealthiest : MethodName := ⟨RX3, "callHealthiest", "()I"⟩
abbrev cX3_close : ByteArray := prog_1_method_5_code
def yX3_close : MethodName := ⟨RX3, "close", "(I)I"⟩
abbrev cX3_set : ByteArray := prog_1_method_6_code
def yX3_set : MethodName := ⟨RX3, "set", "(II)I"⟩
abbrev cX3_pass : ByteArray := prog_1_method_7_code
def yX3_pass : MethodName := ⟨RX3, "pass", "(I)I"⟩
abbrev cX3_append : ByteArray := prog_1_method_8_code
def yX3_append : MethodName := ⟨RX3, "append", "(I)I"⟩
abbrev cX3_clearBuffer : ByteArray := prog_1_method_9_code
def yX3_clearBuffer : MethodName := ⟨RX3, "clearBuffer", "()I"⟩
abbrev cX3_firstError : ByteArray := prog_1_method_10_code
def yX3_firstError : MethodName := ⟨RX3, "firstError", "()I"⟩
abbrev cX3_delays : ByteArray := prog_1_method_11_code
def yX3_delays : MethodName := ⟨RX3, "delays", "(I)I"⟩
abbrev cX3_undo : ByteArray := prog_1_method_12_code
def yX3_undo : MethodName := ⟨RX3, "undo", "()I"⟩
abbrev cX3_store : ByteArray := prog_1_method_13_code
def yX3_store : MethodName := ⟨RX3, "store", "(II)I"⟩
abbrev cX3_delay : ByteArray := prog_1_method_14_code
def yX3_delay : MethodName := ⟨RX3, "delay", "(II)I"⟩
abbrev cX3_onWay : ByteArray := prog_1_method_15_code
def yX3_onWay : MethodName := ⟨RX3, "onWay", "(II)I"⟩
abbrev cX3_count : ByteArray := prog_1_method_16_code
def yX3_count : MethodName := ⟨RX3, "count", "(I)I"⟩
abbrev cX3_setting : ByteArray := prog_1_method_17_code
def yX3_setting : MethodName := ⟨RX3, "setting", "(I)I"⟩
abbrev cX3_ifCalled : ByteArray := prog_1_method_18_code
def yX3_ifCalled : MethodName := ⟨RX3, "ifCalled", "(IIII)I"⟩
abbrev cX3_freeIn : ByteArray := prog_1_method_19_code
def yX3_freeIn : MethodName := ⟨RX3, "freeIn", "(I)I"⟩
abbrev cX3_healthiest : ByteArray := prog_1_method_20_code
def yX3_healthiest : MethodName := ⟨RX3, "healthiest", "()I"⟩
abbrev cX3_health : ByteArray := prog_1_method_21_code
def yX3_health : MethodName := ⟨RX3, "health", "()D"⟩
abbrev cX3_digest : ByteArray := prog_1_method_22_code
def yX3_digest : MethodName := ⟨RX3, "digest", "()J"⟩
abbrev cX3_mixStore : ByteArray := prog_1_method_23_code
def yX3_mixStore : MethodName := ⟨RX3, "mixStore", "(JI)J"⟩
abbrev cX3_mix : ByteArray := prog_1_method_24_code
def yX3_mix : MethodName := ⟨RX3, "mix", "(JJ)J"⟩
abbrev cX3_bitsOfShare : ByteArray := prog_1_method_25_code
def yX3_bitsOfShare : MethodName := ⟨RX3, "bitsOfShare", "(D)J"⟩
abbrev cX3_counted : ByteArray := prog_1_method_26_code
def yX3_counted : MethodName := ⟨RX3, "counted", "(I)I"⟩
abbrev cX3_foresee : ByteArray := prog_1_method_27_code
def yX3_foresee : MethodName := ⟨RX3, "foresee", "(III)V"⟩
abbrev cX3_foreseen : ByteArray := prog_1_method_28_code
def yX3_foreseen : MethodName := ⟨RX3, "foreseen", "(II)I"⟩
abbrev cX3_save : ByteArray := prog_1_method_29_code
def yX3_save : MethodName := ⟨RX3, "save", "()V"⟩
abbrev cX3_requireStore : ByteArray := prog_1_method_30_code
def yX3_requireStore : MethodName := ⟨RX3, "requireStore", "(I)V"⟩
abbrev cX3_requireSetting : ByteArray := prog_1_method_31_code
def yX3_requireSetting : MethodName := ⟨RX3, "requireSetting", "(I)V"⟩
abbrev cX3_requireRange : ByteArray := prog_1_method_32_code
def yX3_requireRange : MethodName := ⟨RX3, "requireRange", "(III)V"⟩
abbrev cX3_requireNotNegative : ByteArray := prog_1_method_33_code
def yX3_requireNotNegative : MethodName := ⟨RX3, "requireNotNegative", "(I)V"⟩
def RX4 : String := "BreakerTrialsModel"
def TX4 : u_T := fun k => match k with
  | 0 => ("BreakerTrialsModel", "thrown", "I", false)
  | 1 => ("BreakerTrialsModel", "s", "[I", true)
  | 2 => ("BreakerTrialsModel", "aside", "[I", true)
  | 3 => ("BreakerTrialsModel", "saved", "[I", true)
  | 4 => ("BreakerTrialsModel", "savedMany", "I", false)
  | 5 => ("BreakerTrialsModel", "buffer", "[I", true)
  | 6 => ("BreakerTrialsModel", "length", "I", false)
  | 7 => ("BreakerTrialsModel", "at", "I", false)
  | 8 => ("BreakerTrialsModel", "isWell", "Z", false)
  | 9 => ("BreakerTrialsModel", "read", "[I", true)
  | 10 => ("BreakerTrialsModel", "readMany", "I", false)
  | _ => ("BreakerTrialsModel", "hash", "J", false)
def tyX4 : Nat → FieldType := fun k => match k with
  | 0 => .int
  | 1 => .array .int
  | 2 => .array .int
  | 3 => .array .int
  | 4 => .int
  | 5 => .array .int
  | 6 => .int
  | 7 => .int
  | 8 => .boolean
  | 9 => .array .int
  | 10 => .int
  | _ => .long
abbrev wsX40 : List Cond := u_ws RX4 TX4 12
theorem nmX4 : ∀ a, a < 12 → ∀ b, b < 12 → a ≠ b → (TX4 a).2.1 ≠ (TX4 b).2.1 := by decide +kernel
theorem tyX4_ok : ∀ k, k < 12 → parseFieldDescriptor (TX4 k).2.2.1 = some (tyX4 k) := by decide +kernel
abbrev cX4_init : ByteArray := prog_6_method_1_code
def yX4_init : MethodName := ⟨RX4, "<init>", "()V"⟩
abbrev cX4_thrown : ByteArray := prog_6_method_2_code
def yX4_thrown : MethodName := ⟨RX4, "thrown", "()I"⟩
abbrev cX4_in : ByteArray := prog_6_method_3_code
def yX4_in : MethodName := ⟨RX4, "in", "(III)Z"⟩
abbrev cX4_fails : ByteArray := prog_6_method_4_code
def yX4_fails : MethodName := ⟨RX4, "fails", "(I)I"⟩
abbrev cX4_isStore : ByteArray := prog_6_method_5_code
def yX4_isStore : MethodName := ⟨RX4, "isStore", "(I)Z"⟩
abbrev cX4_of : ByteArray := prog_6_method_6_code
def yX4_of : MethodName := ⟨RX4, "of", "(II)I"⟩
abbrev cX4_lay : ByteArray := prog_6_method_7_code
def yX4_lay : MethodName := ⟨RX4, "lay", "(III)V"⟩
abbrev cX4_adds : ByteArray := prog_6_method_8_code
def yX4_adds : MethodName := ⟨RX4, "adds", "(II)V"⟩
abbrev cX4_callOf : ByteArray := prog_6_method_9_code
def yX4_callOf : MethodName := ⟨RX4, "callOf", "(II)I"⟩
abbrev cX4_saves : ByteArray := prog_6_method_10_code
def yX4_saves : MethodName := ⟨RX4, "saves", "()V"⟩
abbrev cX4_putAside : ByteArray := prog_6_method_11_code
def yX4_putAside : MethodName := ⟨RX4, "putAside", "()V"⟩
abbrev cX4_takeBack : ByteArray := prog_6_method_12_code
def yX4_takeBack : MethodName := ⟨RX4, "takeBack", "()V"⟩
abbrev cX4_inWindow : ByteArray := prog_6_method_13_code
def yX4_inWindow : MethodName := ⟨RX4, "inWindow", "(I)I"⟩
abbrev cX4_badInWindow : ByteArray := prog_6_method_14_code
def yX4_badInWindow : MethodName := ⟨RX4, "badInWindow", "(I)I"⟩
abbrev cX4_cutsOff : ByteArray := prog_6_method_15_code
def yX4_cutsOff : MethodName := ⟨RX4, "cutsOff", "(II)V"⟩
abbrev cX4_closes : ByteArray := prog_6_method_16_code
def yX4_closes : MethodName := ⟨RX4, "closes", "(I)V"⟩
abbrev cX4_comesOut : ByteArray := prog_6_method_17_code
def yX4_comesOut : MethodName := ⟨RX4, "comesOut", "(IIZI)V"⟩
abbrev cX4_hasTrial : ByteArray := prog_6_method_18_code
def yX4_hasTrial : MethodName := ⟨RX4, "hasTrial", "(I)Z"⟩
abbrev cX4_isRefused : ByteArray := prog_6_method_19_code
def yX4_isRefused : MethodName := ⟨RX4, "isRefused", "(I)Z"⟩
abbrev cX4_calls : ByteArray := prog_6_method_20_code
def yX4_calls : MethodName := ⟨RX4, "calls", "(I)I"⟩
abbrev cX4_drops : ByteArray := prog_6_method_21_code
def yX4_drops : MethodName := ⟨RX4, "drops", "(I)V"⟩
abbrev cX4_tick : ByteArray := prog_6_method_22_code
def yX4_tick : MethodName := ⟨RX4, "tick", "()I"⟩
abbrev cX4_ticks : ByteArray := prog_6_method_23_code
def yX4_ticks : MethodName := ⟨RX4, "ticks", "(I)I"⟩
abbrev cX4_callsOften : ByteArray := prog_6_method_24_code
def yX4_callsOften : MethodName := ⟨RX4, "callsOften", "(III)I"⟩
abbrev cX4_call : ByteArray := prog_6_method_25_code
def yX4_call : MethodName := ⟨RX4, "call", "(I)I"⟩
abbrev cX4_callOften : ByteArray := prog_6_method_26_code
def yX4_callOften : MethodName := ⟨RX4, "callOften", "(III)I"⟩
abbrev cX4_onWayOf : ByteArray := prog_6_method_27_code
def yX4_onWayOf : MethodName := ⟨RX4, "onWayOf", "(I)I"⟩
abbrev cX4_bestStore : ByteArray := prog_6_method_28_code
def yX4_bestStore : MethodName := ⟨RX4, "bestStore", "()I"⟩
abbrev cX4_callHealthiest : ByteArray := prog_6_method_29_code
def yX4_callHealthiest : MethodName := ⟨RX4, "callHealthiest", "()I"⟩
abbrev cX4_close : ByteArray := prog_6_method_30_code
def yX4_close : MethodName := ⟨RX4, "close", "(I)I"⟩
abbrev cX4_isSetting : ByteArray := prog_6_method_31_code
def yX4_isSetting : MethodName := ⟨RX4, "isSetting", "(II)Z"⟩
abbrev cX4_set : ByteArray := prog_6_method_32_code
def yX4_set : MethodName := ⟨RX4, "set", "(II)I"⟩
abbrev cX4_pass : ByteArray := prog_6_method_33_code
def yX4_pass : MethodName := ⟨RX4, "pass", "(I)I"⟩
abbrev cX4_append : ByteArray := prog_6_method_34_code
def yX4_append : MethodName := ⟨RX4, "append", "(I)I"⟩
abbrev cX4_clearBuffer : ByteArray := prog_6_method_35_code
def yX4_clearBuffer : MethodName := ⟨RX4, "clearBuffer", "()I"⟩
abbrev cX4_sign : ByteArray := prog_6_method_36_code
def yX4_sign : MethodName := ⟨RX4, "sign", "()I"⟩
abbrev cX4_readsNumber : ByteArray := prog_6_method_37_code
def yX4_readsNumber : MethodName := ⟨RX4, "readsNumber", "()V"⟩
abbrev cX4_readsAll : ByteArray := prog_6_method_38_code
def yX4_readsAll : MethodName := ⟨RX4, "readsAll", "()V"⟩
abbrev cX4_firstError : ByteArray := prog_6_method_39_code
def yX4_firstError : MethodName := ⟨RX4, "firstError", "()I"⟩
abbrev cX4_delays : ByteArray := prog_6_method_40_code
def yX4_delays : MethodName := ⟨RX4, "delays", "(I)I"⟩
abbrev cX4_undo : ByteArray := prog_6_method_41_code
def yX4_undo : MethodName := ⟨RX4, "undo", "()I"⟩
abbrev cX4_tellsStore : ByteArray := prog_6_method_42_code
def yX4_tellsStore : MethodName := ⟨RX4, "tellsStore", "(II)I"⟩
abbrev cX4_store : ByteArray := prog_6_method_43_code
def yX4_store : MethodName := ⟨RX4, "store", "(II)I"⟩
abbrev cX4_delay : ByteArray := prog_6_method_44_code
def yX4_delay : MethodName := ⟨RX4, "delay", "(II)I"⟩
abbrev cX4_onWay : ByteArray := prog_6_method_45_code
def yX4_onWay : MethodName := ⟨RX4, "onWay", "(II)I"⟩
abbrev cX4_overStores : ByteArray := prog_6_method_46_code
def yX4_overStores : MethodName := ⟨RX4, "overStores", "(I)I"⟩
abbrev cX4_counts : ByteArray := prog_6_method_47_code
def yX4_counts : MethodName := ⟨RX4, "counts", "(I)I"⟩
abbrev cX4_count : ByteArray := prog_6_method_48_code
def yX4_count : MethodName := ⟨RX4, "count", "(I)I"⟩
abbrev cX4_setting : ByteArray := prog_6_method_49_code
def yX4_setting : MethodName := ⟨RX4, "setting", "(I)I"⟩
abbrev cX4_would : ByteArray := prog_6_method_50_code
def yX4_would : MethodName := ⟨RX4, "would", "(IIII)I"⟩
abbrev cX4_ifCalled : ByteArray := prog_6_method_51_code
def yX4_ifCalled : MethodName := ⟨RX4, "ifCalled", "(IIII)I"⟩
abbrev cX4_untilFree : ByteArray := prog_6_method_52_code
def yX4_untilFree : MethodName := ⟨RX4, "untilFree", "(I)I"⟩
abbrev cX4_freeIn : ByteArray := prog_6_method_53_code
def yX4_freeIn : MethodName := ⟨RX4, "freeIn", "(I)I"⟩
abbrev cX4_healthiest : ByteArray := prog_6_method_54_code
def yX4_healthiest : MethodName := ⟨RX4, "healthiest", "()I"⟩
abbrev cX4_share : ByteArray := prog_6_method_55_code
def yX4_share : MethodName := ⟨RX4, "share", "()D"⟩
abbrev cX4_health : ByteArray := prog_6_method_56_code
def yX4_health : MethodName := ⟨RX4, "health", "()D"⟩
abbrev cX4_hashes : ByteArray := prog_6_method_57_code
def yX4_hashes : MethodName := ⟨RX4, "hashes", "(J)V"⟩
abbrev cX4_digest : ByteArray := prog_6_method_58_code
def yX4_digest : MethodName := ⟨RX4, "digest", "()J"⟩
def RJx145de : String := "java/io/Serializable"
def TJx145de : u_T := fun k => match k with
  | _ => ("", "", "", false)
def RJxb160c : String := "java/lang/Comparable"
def TJxb160c : u_T := fun k => match k with
  | _ => ("", "", "", false)
def RJxe99ae : String := "java/lang/Double"
def TJxe99ae : u_T := fun k => match k with
  | _ => ("", "", "", false)
abbrev cJxe99ae_isNaN_b9ae7 : ByteArray := prog_7_method_6_code
def yJxe99ae_isNaN_b9ae7 : MethodName := ⟨RJxe99ae, "isNaN", "(D)Z"⟩
abbrev cJxe99ae_doubleToLongBits_ccdee : ByteArray := prog_7_method_23_code
def yJxe99ae_doubleToLongBits_ccdee : MethodName := ⟨RJxe99ae, "doubleToLongBits", "(D)J"⟩
def RJ6 : String := "java/lang/Integer"
def TJ6 : u_T := fun k => match k with
  | _ => ("", "", "", false)
abbrev cJ6_bitCount_0f7a4 : ByteArray := prog_12_method_49_code
def yJ6_bitCount_0f7a4 : MethodName := ⟨RJ6, "bitCount", "(I)I"⟩
def RJ9 : String := "java/lang/Math"
def TJ9 : u_T := fun k => match k with
  | _ => ("", "", "", false)
abbrev cJ9_min_7cf53 : ByteArray := prog_13_method_69_code
def yJ9_min_7cf53 : MethodName := ⟨RJ9, "min", "(II)I"⟩
def RJxd2413 : String := "java/lang/Number"
def TJxd2413 : u_T := fun k => match k with
  | _ => ("", "", "", false)
def RJ0 : String := "java/lang/String"
def TJ0 : u_T := fun k => match k with
  | _ => ("", "", "", false)
def RJ10 : String := "java/lang/System"
def TJ10 : u_T := fun k => match k with
  | _ => ("", "", "", false)
def RJxfd54e : String := "java/lang/constant/Constable"
def TJxfd54e : u_T := fun k => match k with
  | _ => ("", "", "", false)
def RJx3cf43 : String := "java/lang/constant/ConstantDesc"
def TJx3cf43 : u_T := fun k => match k with
  | _ => ("", "", "", false)
def RJ7 : String := "java/util/Arrays"
def TJ7 : u_T := fun k => match k with
  | _ => ("", "", "", false)
abbrev cJ7_fill_53178 : ByteArray := prog_19_method_103_code
def yJ7_fill_53178 : MethodName := ⟨RJ7, "fill", "([II)V"⟩
def RL : String := "BreakerTrialsLaw"
abbrev cL_call : ByteArray := method_3_code
def yL_call : MethodName := ⟨RL, "call", "(LBreakerTrials;I[J)I"⟩
abbrev cL_callOften : ByteArray := method_4_code
def yL_callOften : MethodName := ⟨RL, "callOften", "(LBreakerTrials;III[J)I"⟩
abbrev cL_callHealthiest : ByteArray := method_5_code
def yL_callHealthiest : MethodName := ⟨RL, "callHealthiest", "(LBreakerTrials;[J)I"⟩
abbrev cL_close : ByteArray := method_6_code
def yL_close : MethodName := ⟨RL, "close", "(LBreakerTrials;I[J)I"⟩
abbrev cL_set : ByteArray := method_7_code
def yL_set : MethodName := ⟨RL, "set", "(LBreakerTrials;II[J)I"⟩
abbrev cL_pass : ByteArray := method_8_code
def yL_pass : MethodName := ⟨RL, "pass", "(LBreakerTrials;I[J)I"⟩
abbrev cL_append : ByteArray := method_9_code
def yL_append : MethodName := ⟨RL, "append", "(LBreakerTrials;I[J)I"⟩
abbrev cL_delays : ByteArray := method_10_code
def yL_delays : MethodName := ⟨RL, "delays", "(LBreakerTrials;I[J)I"⟩
abbrev cL_undo : ByteArray := method_11_code
def yL_undo : MethodName := ⟨RL, "undo", "(LBreakerTrials;[J)I"⟩
abbrev cL_store : ByteArray := method_12_code
def yL_store : MethodName := ⟨RL, "store", "(LBreakerTrials;II[J)I"⟩
abbrev cL_delay : ByteArray := method_13_code
def yL_delay : MethodName := ⟨RL, "delay", "(LBreakerTrials;II[J)I"⟩
abbrev cL_onWay : ByteArray := method_14_code
def yL_onWay : MethodName := ⟨RL, "onWay", "(LBreakerTrials;II[J)I"⟩
abbrev cL_count : ByteArray := method_15_code
def yL_count : MethodName := ⟨RL, "count", "(LBreakerTrials;I[J)I"⟩
abbrev cL_setting : ByteArray := method_16_code
def yL_setting : MethodName := ⟨RL, "setting", "(LBreakerTrials;I[J)I"⟩
abbrev cL_ifCalled : ByteArray := method_17_code
def yL_ifCalled : MethodName := ⟨RL, "ifCalled", "(LBreakerTrials;IIII[J)I"⟩
abbrev cL_freeIn : ByteArray := method_18_code
def yL_freeIn : MethodName := ⟨RL, "freeIn", "(LBreakerTrials;I[J)I"⟩
abbrev cL_law : ByteArray := code
def yL_law : MethodName := ⟨RL, "law", "([I)Z"⟩
abbrev vwCl : List vw_C := [(RX0, TX0, 2), (RX1, TX1, 7), (RX2, TX2, 14), (RX3, TX3, 6), (RX4, TX4, 12)]
end
section
/-! THE FRAME OF THE WHOLE: methods over a memory of numbered cells. Cell o lies at the address ad o; K o says what it is, R, J, I what its slots hold (references, longs, ints). -/
/-- the words that every method is given: the table's good ones -/
def gT : List Cond := lw_tbl.filter goodWord
theorem gT_good {w : Cond} (h : w ∈ gT) : goodWord w = true := (List.mem_filter.mp h).2
theorem gT_in {w : Cond} (h : w ∈ lw_tbl) (g : goodWord w = true) : w ∈ gT := List.mem_filter.mpr ⟨h, g⟩
theorem gT_ix {w : Cond} (i : Nat) (h : lw_tbl[i]? = some w) (g : goodWord w = true) : w ∈ gT := gT_in (List.mem_of_getElem? h) g
theorem gT_goodIn {ws : List Cond} (h : ∀ w ∈ ws, w ∈ gT) : GoodIn gT ws := fun w hw => ⟨h w hw, good_of_word (gT_good (h w hw))⟩
/-- K, R, I, J, how many cells are made -/
abbrev Sg : Type := (Nat → Option (Nat × Nat)) × (Nat → Nat → Value) × (Nat → Nat → Int32) × (Nat → Nat → Int64) × Nat
/-- addresses, classes and slots, the base, the launch -/
abbrev GG : Type := (Nat → Nat) × va_G × Nat × Launch
/-- name, code, locals, answer, room, table -/
abbrev YY : Type := MethodName × ByteArray × Nat × Option FieldType × Room × List (Nat × Nat × Nat × Nat)
abbrev RT : Type := Option Value ⊕ String
/-- what a slot holds: 0 an int, 1 a long, 2 a reference -/
def fk : Nat → Nat → Nat
  | 0, 0 => 2
  | 1, 0 => 2
  | 1, 1 => 2
  | 1, 2 => 2
  | 2, 0 => 2
  | 3, 3 => 0
  | 3, 4 => 0
  | 3, _ => 2
  | 4, 1 => 2
  | 4, 2 => 2
  | 4, 3 => 2
  | 4, 5 => 2
  | 4, 9 => 2
  | 4, 11 => 1
  | 11, _ => 1
  | 12, _ => 2
  | 13, _ => 2
  | 14, _ => 2
  | _, _ => 0
def sv (k : Nat) (i : Int32) (j : Int64) (r : Value) : Value := match k with
  | 0 => .int i
  | 1 => .long j
  | _ => r
/-- what an array holds -/
def aty : Nat → FieldType
  | 10 => .int
  | 11 => .long
  | 12 => .object RX1
  | 13 => .object RX2
  | _ => .array .int
def vce (D : va_G) (s : State) (kd : Nat × Nat) (a : Nat) (V : Nat → Value) (H : Heap) : Prop :=
  (kd.1 < 10 ∧ ∃ r : vw_C, vwCl[kd.1]? = some r ∧ kd.2 = r.2.2 ∧ t_OB a (D.1 kd.1) r.2.2 (D.2 kd.1) H V) ∨
  (10 ≤ kd.1 ∧ ∃ cA : ClassId, H[a]? = some (arrV cA kd.2 V) ∧ ArrOfT s cA (aty kd.1) ∧ va_RA s cA (aty kd.1))
def cV (σ : Sg) (o : Nat) (kd : Nat × Nat) : Nat → Value := fun j => sv (fk kd.1 j) (σ.2.2.1 o j) (σ.2.2.2.1 o j) (σ.2.1 o j)
/-- the heap holds the memory -/
def WD (G : GG) (σ : Sg) (s : State) (H : Heap) : Prop :=
  (∀ (o : Nat) (kd : Nat × Nat), σ.1 o = some kd → vce G.2.1 s kd (G.1 o) (cV σ o kd) H) ∧ H.size = G.2.2.1 + σ.2.2.2.2
def Aof (G : GG) : Nat → Prop := fun q => G.2.2.1 ≤ q
def GOk (G : GG) : Prop := (∀ o, o < 1000 → G.1 o = G.2.2.1 + o) ∧ (∀ o, 1000 ≤ o → G.1 o < G.2.2.1)
/-- the texts of the class's own exceptions -/
def strs : List (Nat × String) := [(220, "there is no such store"), (40, "16 calls are on their way"), (225, "out of range"), (223, "there is no such setting"), (88, "the buffer has 60 characters"), (104, "the buffer is not complete delays as a text"), (121, "there is no saved state"), (227, "place is below 0")]
/-- what stays of the start: tables, statics, texts, the launch's flag -/
def EN (G : GG) (s : State) (H : Heap) : Prop :=
  GOk G ∧ va_K G.2.1 vwCl [] s ∧ vx_Zq Bundle.tN "UNASSIGNED_STACK" Bundle.steD (Aof G) s H ∧ vx_Zq Bundle.tN "SUPPRESSED_SENTINEL" Bundle.listD (Aof G) s H ∧
  (∀ q ∈ strs, ∃ a, vk_R RX3 q.1 q.2 a s) ∧ va_Z RX3 "AT_FIRST" "[I" (.ref (G.1 1001)) (Aof G) s H ∧ va_Z RX3 "LEAST" "[I" (.ref (G.1 1002)) (Aof G) s H ∧ va_Z RX3 "MOST" "[I" (.ref (G.1 1003)) (Aof G) s H ∧
  va_Nw (.methodLinkNest RX3 25 yX0_init RX3) s ∧ va_Nw (.fieldLinkNest RX1 27 RX3 "AT_FIRST" "[I" RX3) s ∧ G.2.2.2.stackTraces = false
/-! moving and keeping -/
theorem vce_kept {D : va_G} {s : State} {kd : Nat × Nat} {a : Nat} {V : Nat → Value} {H H1 : Heap} (h : vce D s kd a V H) (hq : H1[a]? = H[a]?) : vce D s kd a V H1 := by
  rcases h with ⟨h0, r, h1, h2, h3⟩ | ⟨h0, cA, h1, h2⟩
  · exact Or.inl ⟨h0, r, h1, h2, h3.kept hq⟩
  · exact Or.inr ⟨h0, cA, hq.trans h1, h2⟩
theorem vce_moved {D : va_G} {s u : State} {kd : Nat × Nat} {a : Nat} {V : Nat → Value} {H : Heap} (hvm : s.vm.Alike u.vm) (h : vce D s kd a V H) : vce D u kd a V H := by
  rcases h with h | ⟨h0, cA, h1, h2, h3⟩
  · exact Or.inl h
  · exact Or.inr ⟨h0, cA, h1, arrOfT_moved hvm h2, h3.moved hvm⟩
theorem vce_lt {D : va_G} {s : State} {kd : Nat × Nat} {a : Nat} {V : Nat → Value} {H : Heap} (h : vce D s kd a V H) : a < H.size := by
  rcases h with ⟨-, r, -, -, cell, h3, -⟩ | ⟨-, cA, h1, -⟩
  · exact (Array.getElem?_eq_some_iff.mp h3).1
  · exact (Array.getElem?_eq_some_iff.mp h1).1
theorem WD_moved {G : GG} {σ : Sg} {s u : State} {H : Heap} (hvm : s.vm.Alike u.vm) (h : WD G σ s H) : WD G σ u H := ⟨fun o kd hk => vce_moved hvm (h.1 o kd hk), h.2⟩
theorem EN_moved {G : GG} {s u : State} {H : Heap} (hW : s.WarmedH u.vm) (h : EN G s H) : EN G u H := by
  obtain ⟨h1, h2, h3, h4, h5, h6, h7, h8, h9, h10, h11⟩ := h
  have hvm := hW.alike
  exact ⟨h1, h2.moved hvm, h3.moved hvm, h4.moved hvm, fun q hq => (h5 q hq).elim fun a ha => ⟨a, vk_R.warm hW ha⟩, h6.moved hvm, h7.moved hvm, h8.moved hvm, va_Nw.warmM hW h9, va_Nw.warmF hW h10, h11⟩
theorem EN_kept {G : GG} {s : State} {H H1 : Heap} (h : EN G s H) (hq : ∀ a : Nat, a < H.size → ¬ Aof G a → H1[a]? = H[a]?) : EN G s H1 := by
  obtain ⟨h1, h2, h3, h4, h5, h6, h7, h8, h9⟩ := h
  exact ⟨h1, h2, h3.kept hq, h4.kept hq, h5, h6.kept hq, h7.kept hq, h8.kept hq, h9⟩
theorem EN_vm {G : GG} {s u : State} {H : Heap} (hv : u.vm = s.vm) (h : EN G s H) : EN G u H := by
  refine EN_moved (s := s) (u := u) ?_ h
  rw [hv]; exact State.WarmedH.refl s
theorem Aof_new {G : GG} (hG : GOk G) {o : Nat} (ho : o < 1000) : Aof G (G.1 o) := by
  show G.2.2.1 ≤ G.1 o
  rw [hG.1 o ho]; omega
theorem ad_ne {G : GG} (hG : GOk G) {o q : Nat} (ho : o < 1000) (h : q ≠ o) : G.1 q ≠ G.1 o := by
  rw [hG.1 o ho]
  rcases Nat.lt_or_ge q 1000 with hq | hq
  · rw [hG.1 q hq]; omega
  · have := hG.2 q hq; omega
/-- one cell is written -/
theorem WD_upd {G : GG} {σ σ' : Sg} {s : State} {H H1 : Heap} {o : Nat} {kd : Nat × Nat} (hG : GOk G) (ho : o < 1000) (h : WD G σ s H) (hK : σ'.1 = σ.1) (hz : σ'.2.2.2.2 = σ.2.2.2.2) (hk : σ.1 o = some kd)
    (hne : ∀ (q : Nat) (kq : Nat × Nat), q ≠ o → cV σ' q kq = cV σ q kq) (hc : vce G.2.1 s kd (G.1 o) (cV σ' o kd) H1) (z : H1.size = H.size) (oq : ∀ q : Nat, q ≠ G.1 o → H1[q]? = H[q]?) : WD G σ' s H1 := by
  refine ⟨fun q kq hq => ?_, by rw [z, hz]; exact h.2⟩
  rw [hK] at hq
  by_cases e : q = o
  · subst e
    cases Option.some.inj (hk.symm.trans hq)
    exact hc
  · rw [hne q kq e]
    exact vce_kept (h.1 q kq hq) (oq _ (ad_ne hG ho e))
/-! the classes' own facts -/
theorem cl_in : ∀ (c : Nat) (r : vw_C), vwCl[c]? = some r → ∀ w ∈ u_ws r.1 r.2.1 r.2.2, w ∈ gT := by
  have h : ∀ r ∈ vwCl, ∀ w ∈ u_ws r.1 r.2.1 r.2.2, w ∈ lw_tbl ∧ goodWord w = true := by decide +kernel
  intro c r hr w hw
  obtain ⟨h1, h2⟩ := h r (List.mem_of_getElem? hr) w hw
  exact gT_in h1 h2
def fty : Nat → Nat → FieldType
  | 0 => tyX0
  | 1 => tyX1
  | 2 => tyX2
  | 3 => tyX3
  | _ => tyX4
theorem cl_ty {c : Nat} {r : vw_C} (hr : vwCl[c]? = some r) : ∀ k, k < r.2.2 → parseFieldDescriptor (r.2.1 k).2.2.1 = some (fty c k) := by
  match c, hr with
  | 0, hr => cases hr; exact tyX0_ok
  | 1, hr => cases hr; exact tyX1_ok
  | 2, hr => cases hr; exact tyX2_ok
  | 3, hr => cases hr; exact tyX3_ok
  | 4, hr => cases hr; exact tyX4_ok
  | c + 5, hr => simp [vwCl] at hr
theorem cl_nm {c : Nat} {r : vw_C} (hr : vwCl[c]? = some r) : ∀ a, a < r.2.2 → ∀ b, b < r.2.2 → a ≠ b → (r.2.1 a).2.1 ≠ (r.2.1 b).2.1 := by
  match c, hr with
  | 0, hr => cases hr; exact nmX0
  | 1, hr => cases hr; exact nmX1
  | 2, hr => cases hr; exact nmX2
  | 3, hr => cases hr; exact nmX3
  | 4, hr => cases hr; exact nmX4
  | c + 5, hr => simp [vwCl] at hr
/-- entry idx of own's pool names field j of class c -/
def FL (own : String) (idx c j : Nat) : Prop := ∃ r : vw_C, vwCl[c]? = some r ∧ j < r.2.2 ∧ Cond.fieldLink own idx (r.2.1 j).1 (r.2.1 j).2.1 (r.2.1 j).2.2.1 ∈ gT
/-! the walk: from here the method comes to its end -/
/-- what a walk may use: the machine, the code, the words, the start's facts -/
def CX (G : GG) (y : YY) (p : Program) (s : State) (m : MethodId) (args : Array Value) (meth : Method) (c : Code) : Prop :=
  p.tables.exec = Jvm.exec ∧ c.code = y.2.1 ∧ c.maxLocals = y.2.2.1 ∧ meth.sig.returnType = y.2.2.2.1 ∧ meth.locks = false ∧ (∀ w ∈ gT, w.before args s = true) ∧ s.vm.findClass y.1.cls = some m.cls ∧ EN G s s.heap ∧ meth.name = y.1.name ∧ c.exceptionTable.toList = tableOf y.2.2.2.2.2
abbrev ZT : Type := List Frame → Array Value → State → State → Prop
def AW (G : GG) (y : YY) (Z : ZT) (pc : Nat) (ls : List (Nat × Value)) (st : List Value) (σ : Sg) (cu su : Nat) : Prop :=
  ∀ (p : Program) (e : Env) (s : State) (m : MethodId) (args : Array Value) (below : List Frame) (meth : Method) (c : Code) (H : Heap) (locs : List Loc) (lsa : Array Slot),
    CX G y p s m args meth c → WD G σ s H → va_S (Aof G) s.heap H locs → lv_has lsa y.2.2.1 ls → W p G.2.2.2 e y.2.2.2.2.1 s m args below meth c H locs cu su (Z below args s) (F0 m pc lsa st)
def Qn (G : GG) (Q : RT → Sg → Prop) : Array Value → State → Outcome → State → Prop := fun _ st oc t => (∃ v σ', oc = .returned v ∧ Q (.inl v) σ' ∧ WD G σ' t t.heap) ∧ va_F (Aof G) st t
def Qx (G : GG) (Q : RT → Sg → Prop) : String → State → State → Prop := fun E st t => ∃ σ', Q (.inr E) σ' ∧ WD G σ' t t.heap ∧ va_F (Aof G) st t
def MZ (G : GG) (y : YY) (Q : RT → Sg → Prop) : ZT := fun below args s => vx_MQ below (Qn G Q) (Qx G Q) args s y.2.2.2.2.1.cells y.2.2.2.2.1.slots (Aof G)
def PcW (G : GG) (av : List Value) (σ : Sg) : Array Value → State → Prop := va_Pc av (fun U => EN G U U.heap ∧ WD G σ U U.heap)
/-- called with av over the memory σ, y ends with Q -/
def Run (G : GG) (y : YY) (av : List Value) (σ : Sg) (Q : RT → Sg → Prop) : Prop :=
  vx_Met G.2.2.2 y.1 (.code y.1 y.2.1 y.2.2.1 y.2.2.2.1 :: gT) y.2.2.2.2.1 (PcW G av σ) (Qn G Q) (Qx G Q) y.2.2.2.2.1.cells y.2.2.2.2.1.slots (Aof G)
theorem PcW_blind (G : GG) (av : List Value) (σ : Sg) : FrameBlind (PcW G av σ) := by
  intro a U g mk h
  obtain ⟨h1, h2, h3⟩ := h
  exact ⟨h1, EN_vm (s := U) (u := U.calling g mk a) rfl h2, WD_moved (s := U) (u := U.calling g mk a) (Vm.Alike.refl U.vm) h3⟩
/-- a method's contract out of its walk -/
theorem run_of {G : GG} {y : YY} {av : List Value} {σ : Sg} {Q : RT → Sg → Prop} (hy : plainName y.1.cls = true) (htb : y.2.2.2.2.2 = []) {ls : List (Nat × Value)} (hls : lv_args 0 av = ls) (hn : (lg_sl av).length ≤ y.2.2.1) (h : AW G y (MZ G y Q) 0 ls [] σ 0 0) : Run G y av σ Q := by
  refine vx_ofW (cc := y.2.1) (maxL := y.2.2.1) (ret := y.2.2.2.1) hy rfl ?_
  intro p e s m args below meth c s₁ B hml htab hv
  obtain ⟨rfl, hE, hW⟩ := hv
  have hts := atoms_spec (ws := .code y.1 y.2.1 y.2.2.1 y.2.2.2.1 :: gT) B.pre
  have hl := lv_entry av (n := y.2.2.1) hn
  rw [lg_entry_eq]
  rw [hls] at hl
  refine h p e s m av.toArray below meth c s.heap [] _ ⟨B.exec, B.bytes, hml, B.returns, B.notSynchronized, fun w hw => hts w (List.mem_cons_of_mem _ hw), findClass_of_methodNamed B.named, hE, (name_of_methodNamed B.named B.method).1, ?_⟩ hW va_S.rf hl
  rw [htb]
  cases hx : c.exceptionTable.toList with
  | nil => rfl
  | cons x l => exact (htab x (by rw [hx]; exact List.mem_cons_self)).elim
end
section
/-! THE ROWS: one instruction, over the memory -/
def lget : List (Nat × Value) → Nat → Option Value
  | [], _ => none
  | (i, v) :: r, k => if i = k then some v else lget r k
theorem lget_mem : ∀ {ls : List (Nat × Value)} {k : Nat} {v : Value}, lget ls k = some v → (k, v) ∈ ls
  | [], k, v, h => by simp [lget] at h
  | (i, w) :: r, k, v, h => by
    unfold lget at h
    by_cases e : i = k
    · rw [if_pos e] at h
      cases h; subst e
      exact List.mem_cons_self
    · rw [if_neg e] at h
      exact List.mem_cons_of_mem _ (lget_mem h)
theorem lget_at {lsa : Array Slot} {n : Nat} {ls : List (Nat × Value)} {k : Nat} {v : Value} (L : lv_has lsa n ls) (h : lget ls k = some v) : lsa[k]? = some (.val v) := L.2.2 (k, v) (lget_mem h)
def lset (ls : List (Nat × Value)) (i : Nat) (v : Value) : List (Nat × Value) := (i, v) :: ls.filter (fun q => !(q.1 == i) && !(q.1 + 1 == i && q.2.category == 2))
def lset2 (ls : List (Nat × Value)) (i : Nat) (v : Value) : List (Nat × Value) := (i, v) :: ls.filter (fun q => !(q.1 == i) && (!(q.1 == i + 1) && !(q.1 + 1 == i && q.2.category == 2)))
/-- ints written: at cell o, slot j -/
def up2 (I : Nat → Nat → Int32) (o j : Nat) (x : Int32) : Nat → Nat → Int32 := fun q k => if q = o ∧ k = j then x else I q k
def upJ (J : Nat → Nat → Int64) (o j : Nat) (x : Int64) : Nat → Nat → Int64 := fun q k => if q = o ∧ k = j then x else J q k
def upR (R : Nat → Nat → Value) (o j : Nat) (x : Value) : Nat → Nat → Value := fun q k => if q = o ∧ k = j then x else R q k
def upK (K : Nat → Option (Nat × Nat)) (o : Nat) (x : Nat × Nat) : Nat → Option (Nat × Nat) := fun q => if q = o then some x else K q
section ROWS
variable {G : GG} {y : YY} {Z : ZT} {pc : Nat} {ls ls' : List (Nat × Value)} {st : List Value} {σ : Sg} {K : Nat → Option (Nat × Nat)} {R : Nat → Nat → Value} {I : Nat → Nat → Int32} {J : Nat → Nat → Int64} {z cu su : Nat}
theorem aw_iconst {n : Int} {v : Int32} (hd : decode y.2.1 pc = .ok (.iconst n, 1)) (hv : Int32.ofInt n = v) (kk : AW G y Z (pc + 1) ls (.int v :: st) σ cu su) : AW G y Z pc ls (st) σ cu su := by
  intro p e s m args below meth c H locs lsa C V S L
  exact lv_iconst C.1 C.2.1 hd hv (kk p e s m args below meth c H locs lsa C V S L)
theorem aw_bipush {n : Int} {v : Int32} (hd : decode y.2.1 pc = .ok (.bipush n, 2)) (hv : (Int8.ofInt n).toInt32 = v) (kk : AW G y Z (pc + 2) ls (.int v :: st) σ cu su) : AW G y Z pc ls (st) σ cu su := by
  intro p e s m args below meth c H locs lsa C V S L
  exact lv_bipush C.1 C.2.1 hd hv (kk p e s m args below meth c H locs lsa C V S L)
theorem aw_sipush {n : Int} {v : Int32} (hd : decode y.2.1 pc = .ok (.sipush n, 3)) (hv : (Int16.ofInt n).toInt32 = v) (kk : AW G y Z (pc + 3) ls (.int v :: st) σ cu su) : AW G y Z pc ls (st) σ cu su := by
  intro p e s m args below meth c H locs lsa C V S L
  exact lv_sipush C.1 C.2.1 hd hv (kk p e s m args below meth c H locs lsa C V S L)
theorem aw_lconst {n : Fin 2} {v : Int64} (hd : decode y.2.1 pc = .ok (.lconst n, 1)) (hv : Int64.ofNat (n : Nat) = v) (kk : AW G y Z (pc + 1) ls (.long v :: st) σ cu su) : AW G y Z pc ls (st) σ cu su := by
  intro p e s m args below meth c H locs lsa C V S L
  exact lv_lconst C.1 C.2.1 hd hv (kk p e s m args below meth c H locs lsa C V S L)
theorem aw_dconst0  (hd : decode y.2.1 pc = .ok (.dconst 0, 1))  (kk : AW G y Z (pc + 1) ls (.double FP.dconst0 :: st) σ cu su) : AW G y Z pc ls (st) σ cu su := by
  intro p e s m args below meth c H locs lsa C V S L
  exact lv_dconst0 C.1 C.2.1 hd  (kk p e s m args below meth c H locs lsa C V S L)
theorem aw_dconst1  (hd : decode y.2.1 pc = .ok (.dconst 1, 1))  (kk : AW G y Z (pc + 1) ls (.double FP.dconst1 :: st) σ cu su) : AW G y Z pc ls (st) σ cu su := by
  intro p e s m args below meth c H locs lsa C V S L
  exact lv_dconst1 C.1 C.2.1 hd  (kk p e s m args below meth c H locs lsa C V S L)
theorem aw_iload_n {k : Fin 4} {x : Int32} (hd : decode y.2.1 pc = .ok (.iload_n k, 1)) (h : lget ls k = some (.int x)) (kk : AW G y Z (pc + 1) ls (.int x :: st) σ cu su) : AW G y Z pc ls (st) σ cu su := by
  intro p e s m args below meth c H locs lsa C V S L
  exact lv_iload_n C.1 C.2.1 hd rfl (lget_at L h) (kk p e s m args below meth c H locs lsa C V S L)
theorem aw_iload {k : Nat} {x : Int32} (hd : decode y.2.1 pc = .ok (.iload k, 2)) (h : lget ls k = some (.int x)) (kk : AW G y Z (pc + 2) ls (.int x :: st) σ cu su) : AW G y Z pc ls (st) σ cu su := by
  intro p e s m args below meth c H locs lsa C V S L
  exact lv_iload C.1 C.2.1 hd (lget_at L h) (kk p e s m args below meth c H locs lsa C V S L)
theorem aw_lload_n {k : Fin 4} {x : Int64} (hd : decode y.2.1 pc = .ok (.lload_n k, 1)) (h : lget ls k = some (.long x)) (kk : AW G y Z (pc + 1) ls (.long x :: st) σ cu su) : AW G y Z pc ls (st) σ cu su := by
  intro p e s m args below meth c H locs lsa C V S L
  exact lv_lload_n C.1 C.2.1 hd rfl (lget_at L h) (kk p e s m args below meth c H locs lsa C V S L)
theorem aw_lload {k : Nat} {x : Int64} (hd : decode y.2.1 pc = .ok (.lload k, 2)) (h : lget ls k = some (.long x)) (kk : AW G y Z (pc + 2) ls (.long x :: st) σ cu su) : AW G y Z pc ls (st) σ cu su := by
  intro p e s m args below meth c H locs lsa C V S L
  exact lv_lload C.1 C.2.1 hd (lget_at L h) (kk p e s m args below meth c H locs lsa C V S L)
theorem aw_dload_n {k : Fin 4} {x : UInt64} (hd : decode y.2.1 pc = .ok (.dload_n k, 1)) (h : lget ls k = some (.double x)) (kk : AW G y Z (pc + 1) ls (.double x :: st) σ cu su) : AW G y Z pc ls (st) σ cu su := by
  intro p e s m args below meth c H locs lsa C V S L
  exact lv_dload_n C.1 C.2.1 hd rfl (lget_at L h) (kk p e s m args below meth c H locs lsa C V S L)
theorem aw_dload {k : Nat} {x : UInt64} (hd : decode y.2.1 pc = .ok (.dload k, 2)) (h : lget ls k = some (.double x)) (kk : AW G y Z (pc + 2) ls (.double x :: st) σ cu su) : AW G y Z pc ls (st) σ cu su := by
  intro p e s m args below meth c H locs lsa C V S L
  exact lv_dload C.1 C.2.1 hd (lget_at L h) (kk p e s m args below meth c H locs lsa C V S L)
theorem aw_aload_n {k : Fin 4} {x : Nat} (hd : decode y.2.1 pc = .ok (.aload_n k, 1)) (h : lget ls k = some (.ref x)) (kk : AW G y Z (pc + 1) ls (.ref x :: st) σ cu su) : AW G y Z pc ls (st) σ cu su := by
  intro p e s m args below meth c H locs lsa C V S L
  exact lv_aload_n C.1 C.2.1 hd rfl (lget_at L h) (kk p e s m args below meth c H locs lsa C V S L)
theorem aw_aload {k : Nat} {x : Nat} (hd : decode y.2.1 pc = .ok (.aload k, 2)) (h : lget ls k = some (.ref x)) (kk : AW G y Z (pc + 2) ls (.ref x :: st) σ cu su) : AW G y Z pc ls (st) σ cu su := by
  intro p e s m args below meth c H locs lsa C V S L
  exact lv_aload C.1 C.2.1 hd (lget_at L h) (kk p e s m args below meth c H locs lsa C V S L)
theorem aw_istore_n {k : Fin 4} {x : Int32} (hd : decode y.2.1 pc = .ok (.istore_n k, 1)) (hn : (k : Nat) < y.2.2.1) (hl : lset ls (k : Nat) (.int x) = ls') (kk : AW G y Z (pc + 1) ls' st σ cu su) : AW G y Z pc ls (.int x :: st) σ cu su := by
  intro p e s m args below meth c H locs lsa C V S L
  exact lv_istore_n C.1 C.2.1 hd rfl L hn hl (fun lsb L' => kk p e s m args below meth c H locs lsb C V S L')
theorem aw_istore {k : Nat} {x : Int32} (hd : decode y.2.1 pc = .ok (.istore k, 2)) (hn : k < y.2.2.1) (hl : lset ls k (.int x) = ls') (kk : AW G y Z (pc + 2) ls' st σ cu su) : AW G y Z pc ls (.int x :: st) σ cu su := by
  intro p e s m args below meth c H locs lsa C V S L
  exact lv_istore C.1 C.2.1 hd L hn hl (fun lsb L' => kk p e s m args below meth c H locs lsb C V S L')
theorem aw_lstore_n {k : Fin 4} {x : Int64} (hd : decode y.2.1 pc = .ok (.lstore_n k, 1)) (hn : (k : Nat) + 1 < y.2.2.1) (hl : lset2 ls (k : Nat) (.long x) = ls') (kk : AW G y Z (pc + 1) ls' st σ cu su) : AW G y Z pc ls (.long x :: st) σ cu su := by
  intro p e s m args below meth c H locs lsa C V S L
  exact lv_lstore_n C.1 C.2.1 hd rfl L hn hl (fun lsb L' => kk p e s m args below meth c H locs lsb C V S L')
theorem aw_lstore {k : Nat} {x : Int64} (hd : decode y.2.1 pc = .ok (.lstore k, 2)) (hn : k + 1 < y.2.2.1) (hl : lset2 ls k (.long x) = ls') (kk : AW G y Z (pc + 2) ls' st σ cu su) : AW G y Z pc ls (.long x :: st) σ cu su := by
  intro p e s m args below meth c H locs lsa C V S L
  exact lv_lstore C.1 C.2.1 hd L hn hl (fun lsb L' => kk p e s m args below meth c H locs lsb C V S L')
theorem aw_dstore_n {k : Fin 4} {x : UInt64} (hd : decode y.2.1 pc = .ok (.dstore_n k, 1)) (hn : (k : Nat) + 1 < y.2.2.1) (hl : lset2 ls (k : Nat) (.double x) = ls') (kk : AW G y Z (pc + 1) ls' st σ cu su) : AW G y Z pc ls (.double x :: st) σ cu su := by
  intro p e s m args below meth c H locs lsa C V S L
  exact lv_dstore_n C.1 C.2.1 hd rfl L hn hl (fun lsb L' => kk p e s m args below meth c H locs lsb C V S L')
theorem aw_dstore {k : Nat} {x : UInt64} (hd : decode y.2.1 pc = .ok (.dstore k, 2)) (hn : k + 1 < y.2.2.1) (hl : lset2 ls k (.double x) = ls') (kk : AW G y Z (pc + 2) ls' st σ cu su) : AW G y Z pc ls (.double x :: st) σ cu su := by
  intro p e s m args below meth c H locs lsa C V S L
  exact lv_dstore C.1 C.2.1 hd L hn hl (fun lsb L' => kk p e s m args below meth c H locs lsb C V S L')
theorem aw_astore_n {k : Fin 4} {x : Nat} (hd : decode y.2.1 pc = .ok (.astore_n k, 1)) (hn : (k : Nat) < y.2.2.1) (hl : lset ls (k : Nat) (.ref x) = ls') (kk : AW G y Z (pc + 1) ls' st σ cu su) : AW G y Z pc ls (.ref x :: st) σ cu su := by
  intro p e s m args below meth c H locs lsa C V S L
  exact lv_astore_n C.1 C.2.1 hd rfl L hn hl (fun lsb L' => kk p e s m args below meth c H locs lsb C V S L')
theorem aw_astore {k : Nat} {x : Nat} (hd : decode y.2.1 pc = .ok (.astore k, 2)) (hn : k < y.2.2.1) (hl : lset ls k (.ref x) = ls') (kk : AW G y Z (pc + 2) ls' st σ cu su) : AW G y Z pc ls (.ref x :: st) σ cu su := by
  intro p e s m args below meth c H locs lsa C V S L
  exact lv_astore C.1 C.2.1 hd L hn hl (fun lsb L' => kk p e s m args below meth c H locs lsb C V S L')
theorem aw_iinc {i : Nat} {n : Int} {x v : Int32} (hd : decode y.2.1 pc = .ok (.iinc i n, 3)) (h : lget ls i = some (.int x)) (hv : x + Int32.ofInt n = v) (hn : i < y.2.2.1) (hl : lset ls i (.int v) = ls') (kk : AW G y Z (pc + 3) ls' st σ cu su) : AW G y Z pc ls st σ cu su := by
  intro p e s m args below meth c H locs lsa C V S L
  obtain ⟨k, hk⟩ := List.getElem?_of_mem (lget_mem h)
  exact lv_iinc (k := k) (v := v) C.1 C.2.1 hd L hk hv hn hl (fun lsb L' => kk p e s m args below meth c H locs lsb C V S L')
theorem aw_iadd {x y1 : Int32} (hd : decode y.2.1 pc = .ok (.iadd, 1))  (kk : AW G y Z (pc + 1) ls (.int (x + y1) :: st) σ cu su) : AW G y Z pc ls (.int y1 :: .int x :: st) σ cu su := by
  intro p e s m args below meth c H locs lsa C V S L
  exact lv_iadd C.1 C.2.1 hd  (kk p e s m args below meth c H locs lsa C V S L)
theorem aw_isub {x y1 : Int32} (hd : decode y.2.1 pc = .ok (.isub, 1))  (kk : AW G y Z (pc + 1) ls (.int (x - y1) :: st) σ cu su) : AW G y Z pc ls (.int y1 :: .int x :: st) σ cu su := by
  intro p e s m args below meth c H locs lsa C V S L
  exact lv_isub C.1 C.2.1 hd  (kk p e s m args below meth c H locs lsa C V S L)
theorem aw_imul {x y1 : Int32} (hd : decode y.2.1 pc = .ok (.imul, 1))  (kk : AW G y Z (pc + 1) ls (.int (x * y1) :: st) σ cu su) : AW G y Z pc ls (.int y1 :: .int x :: st) σ cu su := by
  intro p e s m args below meth c H locs lsa C V S L
  exact lv_imul C.1 C.2.1 hd  (kk p e s m args below meth c H locs lsa C V S L)
theorem aw_iand {x y1 : Int32} (hd : decode y.2.1 pc = .ok (.iand, 1))  (kk : AW G y Z (pc + 1) ls (.int (x &&& y1) :: st) σ cu su) : AW G y Z pc ls (.int y1 :: .int x :: st) σ cu su := by
  intro p e s m args below meth c H locs lsa C V S L
  exact lv_iand C.1 C.2.1 hd  (kk p e s m args below meth c H locs lsa C V S L)
theorem aw_ior {x y1 : Int32} (hd : decode y.2.1 pc = .ok (.ior, 1))  (kk : AW G y Z (pc + 1) ls (.int (x ||| y1) :: st) σ cu su) : AW G y Z pc ls (.int y1 :: .int x :: st) σ cu su := by
  intro p e s m args below meth c H locs lsa C V S L
  exact lv_ior C.1 C.2.1 hd  (kk p e s m args below meth c H locs lsa C V S L)
theorem aw_ishl {x y1 : Int32} (hd : decode y.2.1 pc = .ok (.ishl, 1))  (kk : AW G y Z (pc + 1) ls (.int (x <<< (y1 &&& 31)) :: st) σ cu su) : AW G y Z pc ls (.int y1 :: .int x :: st) σ cu su := by
  intro p e s m args below meth c H locs lsa C V S L
  exact lv_ishl C.1 C.2.1 hd  (kk p e s m args below meth c H locs lsa C V S L)
theorem aw_ishr {x y1 : Int32} (hd : decode y.2.1 pc = .ok (.ishr, 1))  (kk : AW G y Z (pc + 1) ls (.int (x >>> (y1 &&& 31)) :: st) σ cu su) : AW G y Z pc ls (.int y1 :: .int x :: st) σ cu su := by
  intro p e s m args below meth c H locs lsa C V S L
  exact lv_ishr C.1 C.2.1 hd  (kk p e s m args below meth c H locs lsa C V S L)
theorem aw_iushr {x y1 : Int32} (hd : decode y.2.1 pc = .ok (.iushr, 1))  (kk : AW G y Z (pc + 1) ls (.int ((x.toUInt32 >>> (y1.toUInt32 &&& Int32.toUInt32 31)).toInt32) :: st) σ cu su) : AW G y Z pc ls (.int y1 :: .int x :: st) σ cu su := by
  intro p e s m args below meth c H locs lsa C V S L
  exact lv_iushr C.1 C.2.1 hd rfl (kk p e s m args below meth c H locs lsa C V S L)
theorem aw_idiv {x y1 : Int32} (hd : decode y.2.1 pc = .ok (.idiv, 1)) (hne : ¬ y1 = 0) (kk : AW G y Z (pc + 1) ls (.int (x / y1) :: st) σ cu su) : AW G y Z pc ls (.int y1 :: .int x :: st) σ cu su := by
  intro p e s m args below meth c H locs lsa C V S L
  exact lv_idiv C.1 C.2.1 hd hne (kk p e s m args below meth c H locs lsa C V S L)
theorem aw_irem {x y1 : Int32} (hd : decode y.2.1 pc = .ok (.irem, 1)) (hne : ¬ y1 = 0) (kk : AW G y Z (pc + 1) ls (.int (x - x / y1 * y1) :: st) σ cu su) : AW G y Z pc ls (.int y1 :: .int x :: st) σ cu su := by
  intro p e s m args below meth c H locs lsa C V S L
  exact lv_irem C.1 C.2.1 hd hne (kk p e s m args below meth c H locs lsa C V S L)
theorem aw_ladd {x y1 : Int64} (hd : decode y.2.1 pc = .ok (.ladd, 1))  (kk : AW G y Z (pc + 1) ls (.long (x + y1) :: st) σ cu su) : AW G y Z pc ls (.long y1 :: .long x :: st) σ cu su := by
  intro p e s m args below meth c H locs lsa C V S L
  exact lv_ladd C.1 C.2.1 hd  (kk p e s m args below meth c H locs lsa C V S L)
theorem aw_lsub {x y1 : Int64} (hd : decode y.2.1 pc = .ok (.lsub, 1))  (kk : AW G y Z (pc + 1) ls (.long (x - y1) :: st) σ cu su) : AW G y Z pc ls (.long y1 :: .long x :: st) σ cu su := by
  intro p e s m args below meth c H locs lsa C V S L
  exact lv_lsub C.1 C.2.1 hd  (kk p e s m args below meth c H locs lsa C V S L)
theorem aw_lmul {x y1 : Int64} (hd : decode y.2.1 pc = .ok (.lmul, 1))  (kk : AW G y Z (pc + 1) ls (.long (x * y1) :: st) σ cu su) : AW G y Z pc ls (.long y1 :: .long x :: st) σ cu su := by
  intro p e s m args below meth c H locs lsa C V S L
  exact lv_lmul C.1 C.2.1 hd  (kk p e s m args below meth c H locs lsa C V S L)
theorem aw_lshl {x : Int64} {y1 : Int32} (hd : decode y.2.1 pc = .ok (.lshl, 1))  (kk : AW G y Z (pc + 1) ls (.long (x <<< (y1.toInt64 &&& 63)) :: st) σ cu su) : AW G y Z pc ls (.int y1 :: .long x :: st) σ cu su := by
  intro p e s m args below meth c H locs lsa C V S L
  exact lv_lshl C.1 C.2.1 hd rfl (kk p e s m args below meth c H locs lsa C V S L)
theorem aw_i2l {x : Int32} (hd : decode y.2.1 pc = .ok (.i2l, 1))  (kk : AW G y Z (pc + 1) ls (.long x.toInt64 :: st) σ cu su) : AW G y Z pc ls (.int x :: st) σ cu su := by
  intro p e s m args below meth c H locs lsa C V S L
  exact lv_i2l C.1 C.2.1 hd rfl (kk p e s m args below meth c H locs lsa C V S L)
theorem aw_i2d {x : Int32} (hd : decode y.2.1 pc = .ok (.i2d, 1))  (kk : AW G y Z (pc + 1) ls (.double (FP.i2d x) :: st) σ cu su) : AW G y Z pc ls (.int x :: st) σ cu su := by
  intro p e s m args below meth c H locs lsa C V S L
  exact lv_i2d C.1 C.2.1 hd  (kk p e s m args below meth c H locs lsa C V S L)
theorem aw_d2l {x : UInt64} (hd : decode y.2.1 pc = .ok (.d2l, 1))  (kk : AW G y Z (pc + 1) ls (.long (FP.d2l x) :: st) σ cu su) : AW G y Z pc ls (.double x :: st) σ cu su := by
  intro p e s m args below meth c H locs lsa C V S L
  exact lv_d2l C.1 C.2.1 hd  (kk p e s m args below meth c H locs lsa C V S L)
theorem aw_lcmp {x y1 : Int64} (hd : decode y.2.1 pc = .ok (.lcmp, 1))  (kk : AW G y Z (pc + 1) ls (.int (lg_cmp x y1) :: st) σ cu su) : AW G y Z pc ls (.long y1 :: .long x :: st) σ cu su := by
  intro p e s m args below meth c H locs lsa C V S L
  exact W.lcmp C.1 C.2.1 hd  (kk p e s m args below meth c H locs lsa C V S L)
theorem aw_dcmp {x y1 : UInt64} {op : CmpOp} (hd : decode y.2.1 pc = .ok (.dcmp op, 1))  (kk : AW G y Z (pc + 1) ls (.int (Op.cmpValue (FP.dcmp x y1) op) :: st) σ cu su) : AW G y Z pc ls (.double y1 :: .double x :: st) σ cu su := by
  intro p e s m args below meth c H locs lsa C V S L
  exact lv_dcmp C.1 C.2.1 hd  (kk p e s m args below meth c H locs lsa C V S L)
theorem aw_ddiv {x y1 : UInt64} (hd : decode y.2.1 pc = .ok (.ddiv, 1)) (hne : vf_n64 (FP.ddiv x y1)) (kk : AW G y Z (pc + 1) ls (.double (FP.ddiv x y1) :: st) σ cu su) : AW G y Z pc ls (.double y1 :: .double x :: st) σ cu su := by
  intro p e s m args below meth c H locs lsa C V S L
  exact lv_ddiv C.1 C.2.1 hd hne (kk p e s m args below meth c H locs lsa C V S L)
theorem aw_dmul {x y1 : UInt64} (hd : decode y.2.1 pc = .ok (.dmul, 1)) (hne : vf_n64 (FP.dmul x y1)) (kk : AW G y Z (pc + 1) ls (.double (FP.dmul x y1) :: st) σ cu su) : AW G y Z pc ls (.double y1 :: .double x :: st) σ cu su := by
  intro p e s m args below meth c H locs lsa C V S L
  exact lv_dmul C.1 C.2.1 hd hne (kk p e s m args below meth c H locs lsa C V S L)
theorem aw_dsub {x y1 : UInt64} (hd : decode y.2.1 pc = .ok (.dsub, 1)) (hne : vf_n64 (FP.dsub x y1)) (kk : AW G y Z (pc + 1) ls (.double (FP.dsub x y1) :: st) σ cu su) : AW G y Z pc ls (.double y1 :: .double x :: st) σ cu su := by
  intro p e s m args below meth c H locs lsa C V S L
  exact lv_dsub C.1 C.2.1 hd hne (kk p e s m args below meth c H locs lsa C V S L)
theorem aw_dup {va : Value} (hd : decode y.2.1 pc = .ok (.dup, 1)) (hva : va.category = 1) (kk : AW G y Z (pc + 1) ls (va :: va :: st) σ cu su) : AW G y Z pc ls (va :: st) σ cu su := by
  intro p e s m args below meth c H locs lsa C V S L
  exact lv_dup C.1 C.2.1 hd hva (kk p e s m args below meth c H locs lsa C V S L)
theorem aw_pop {va : Value} (hd : decode y.2.1 pc = .ok (.pop, 1)) (hva : va.category = 1) (kk : AW G y Z (pc + 1) ls (st) σ cu su) : AW G y Z pc ls (va :: st) σ cu su := by
  intro p e s m args below meth c H locs lsa C V S L
  exact lv_pop C.1 C.2.1 hd hva (kk p e s m args below meth c H locs lsa C V S L)
theorem aw_dup2 {va vb : Value} (hd : decode y.2.1 pc = .ok (.dup2, 1)) (hva : va.category = 1) (hvb : vb.category = 1) (kk : AW G y Z (pc + 1) ls (va :: vb :: va :: vb :: st) σ cu su) : AW G y Z pc ls (va :: vb :: st) σ cu su := by
  intro p e s m args below meth c H locs lsa C V S L
  exact lv_dup2_11 C.1 C.2.1 hd hva hvb (kk p e s m args below meth c H locs lsa C V S L)
theorem aw_ldc {i : Nat} {v : Int32} (hd : decode y.2.1 pc = .ok (.ldc i, 2)) (hc : Cond.constant y.1.cls i v ∈ gT) (kk : AW G y Z (pc + 2) ls (.int v :: st) σ cu su) : AW G y Z pc ls st σ cu su := by
  intro p e s m args below meth c H locs lsa C V S L
  exact lv_ldc C.1 C.2.1 C.2.2.2.2.2.2.1 (C.2.2.2.2.2.1 _ hc) hd (kk p e s m args below meth c H locs lsa C V S L)
theorem aw_ldcw {i : Nat} {v : Int32} (hd : decode y.2.1 pc = .ok (.ldc_w i, 3)) (hc : Cond.constant y.1.cls i v ∈ gT) (kk : AW G y Z (pc + 3) ls (.int v :: st) σ cu su) : AW G y Z pc ls st σ cu su := by
  intro p e s m args below meth c H locs lsa C V S L
  exact lv_ldcw C.1 C.2.1 C.2.2.2.2.2.2.1 (C.2.2.2.2.2.1 _ hc) hd (kk p e s m args below meth c H locs lsa C V S L)
theorem aw_ldc2 {i : Nat} {v : Int64} (hd : decode y.2.1 pc = .ok (.ldc2_w i, 3)) (hc : Cond.constantLong y.1.cls i v ∈ gT) (kk : AW G y Z (pc + 3) ls (.long v :: st) σ cu su) : AW G y Z pc ls st σ cu su := by
  intro p e s m args below meth c H locs lsa C V S L
  exact lv_ldc2 C.1 C.2.1 C.2.2.2.2.2.2.1 (C.2.2.2.2.2.1 _ hc) hd (kk p e s m args below meth c H locs lsa C V S L)
theorem aw_ldc2d {i : Nat} {v : UInt64} (hd : decode y.2.1 pc = .ok (.ldc2_w i, 3)) (hc : Cond.constantDouble y.1.cls i v ∈ gT) (kk : AW G y Z (pc + 3) ls (.double v :: st) σ cu su) : AW G y Z pc ls st σ cu su := by
  intro p e s m args below meth c H locs lsa C V S L
  exact lv_ldc2d C.1 C.2.1 C.2.2.2.2.2.2.1 (C.2.2.2.2.2.1 _ hc) hd (kk p e s m args below meth c H locs lsa C V S L)
theorem aw_if_eq {x : Int32} {off : Int} {tgt : Nat} (hd : decode y.2.1 pc = .ok (.ifCond .eq off, 3)) (ht : (pc : Int) + off = (tgt : Int)) (kt : x = 0 → AW G y Z tgt ls st σ cu su) (kf : ¬ x = 0 → AW G y Z (pc + 3) ls st σ cu su) : AW G y Z pc ls (.int x :: st) σ cu su := by
  intro p e s m args below meth c H locs lsa C V S L
  exact lv_if_eq C.1 C.2.1 hd ht (fun q => kt q p e s m args below meth c H locs lsa C V S L) (fun q => kf q p e s m args below meth c H locs lsa C V S L)
theorem aw_if_ne {x : Int32} {off : Int} {tgt : Nat} (hd : decode y.2.1 pc = .ok (.ifCond .ne off, 3)) (ht : (pc : Int) + off = (tgt : Int)) (kt : ¬ x = 0 → AW G y Z tgt ls st σ cu su) (kf : x = 0 → AW G y Z (pc + 3) ls st σ cu su) : AW G y Z pc ls (.int x :: st) σ cu su := by
  intro p e s m args below meth c H locs lsa C V S L
  exact lv_if_ne C.1 C.2.1 hd ht (fun q => kt q p e s m args below meth c H locs lsa C V S L) (fun q => kf q p e s m args below meth c H locs lsa C V S L)
theorem aw_if_lt {x : Int32} {off : Int} {tgt : Nat} (hd : decode y.2.1 pc = .ok (.ifCond .lt off, 3)) (ht : (pc : Int) + off = (tgt : Int)) (kt : x < 0 → AW G y Z tgt ls st σ cu su) (kf : ¬ x < 0 → AW G y Z (pc + 3) ls st σ cu su) : AW G y Z pc ls (.int x :: st) σ cu su := by
  intro p e s m args below meth c H locs lsa C V S L
  exact lv_if_lt C.1 C.2.1 hd ht (fun q => kt q p e s m args below meth c H locs lsa C V S L) (fun q => kf q p e s m args below meth c H locs lsa C V S L)
theorem aw_if_ge {x : Int32} {off : Int} {tgt : Nat} (hd : decode y.2.1 pc = .ok (.ifCond .ge off, 3)) (ht : (pc : Int) + off = (tgt : Int)) (kt : 0 ≤ x → AW G y Z tgt ls st σ cu su) (kf : ¬ 0 ≤ x → AW G y Z (pc + 3) ls st σ cu su) : AW G y Z pc ls (.int x :: st) σ cu su := by
  intro p e s m args below meth c H locs lsa C V S L
  exact lv_if_ge C.1 C.2.1 hd ht (fun q => kt q p e s m args below meth c H locs lsa C V S L) (fun q => kf q p e s m args below meth c H locs lsa C V S L)
theorem aw_if_gt {x : Int32} {off : Int} {tgt : Nat} (hd : decode y.2.1 pc = .ok (.ifCond .gt off, 3)) (ht : (pc : Int) + off = (tgt : Int)) (kt : 0 < x → AW G y Z tgt ls st σ cu su) (kf : ¬ 0 < x → AW G y Z (pc + 3) ls st σ cu su) : AW G y Z pc ls (.int x :: st) σ cu su := by
  intro p e s m args below meth c H locs lsa C V S L
  exact lv_if_gt C.1 C.2.1 hd ht (fun q => kt q p e s m args below meth c H locs lsa C V S L) (fun q => kf q p e s m args below meth c H locs lsa C V S L)
theorem aw_if_le {x : Int32} {off : Int} {tgt : Nat} (hd : decode y.2.1 pc = .ok (.ifCond .le off, 3)) (ht : (pc : Int) + off = (tgt : Int)) (kt : x ≤ 0 → AW G y Z tgt ls st σ cu su) (kf : ¬ x ≤ 0 → AW G y Z (pc + 3) ls st σ cu su) : AW G y Z pc ls (.int x :: st) σ cu su := by
  intro p e s m args below meth c H locs lsa C V S L
  exact lv_if_le C.1 C.2.1 hd ht (fun q => kt q p e s m args below meth c H locs lsa C V S L) (fun q => kf q p e s m args below meth c H locs lsa C V S L)
theorem aw_icmp_eq {x y1 : Int32} {off : Int} {tgt : Nat} (hd : decode y.2.1 pc = .ok (.if_icmp .eq off, 3)) (ht : (pc : Int) + off = (tgt : Int)) (kt : x = y1 → AW G y Z tgt ls st σ cu su) (kf : ¬ x = y1 → AW G y Z (pc + 3) ls st σ cu su) : AW G y Z pc ls (.int y1 :: .int x :: st) σ cu su := by
  intro p e s m args below meth c H locs lsa C V S L
  exact lv_icmp_eq C.1 C.2.1 hd ht (fun q => kt q p e s m args below meth c H locs lsa C V S L) (fun q => kf q p e s m args below meth c H locs lsa C V S L)
theorem aw_icmp_ne {x y1 : Int32} {off : Int} {tgt : Nat} (hd : decode y.2.1 pc = .ok (.if_icmp .ne off, 3)) (ht : (pc : Int) + off = (tgt : Int)) (kt : ¬ x = y1 → AW G y Z tgt ls st σ cu su) (kf : x = y1 → AW G y Z (pc + 3) ls st σ cu su) : AW G y Z pc ls (.int y1 :: .int x :: st) σ cu su := by
  intro p e s m args below meth c H locs lsa C V S L
  exact lv_icmp_ne C.1 C.2.1 hd ht (fun q => kt q p e s m args below meth c H locs lsa C V S L) (fun q => kf q p e s m args below meth c H locs lsa C V S L)
theorem aw_icmp_lt {x y1 : Int32} {off : Int} {tgt : Nat} (hd : decode y.2.1 pc = .ok (.if_icmp .lt off, 3)) (ht : (pc : Int) + off = (tgt : Int)) (kt : x < y1 → AW G y Z tgt ls st σ cu su) (kf : ¬ x < y1 → AW G y Z (pc + 3) ls st σ cu su) : AW G y Z pc ls (.int y1 :: .int x :: st) σ cu su := by
  intro p e s m args below meth c H locs lsa C V S L
  exact lv_icmp_lt C.1 C.2.1 hd ht (fun q => kt q p e s m args below meth c H locs lsa C V S L) (fun q => kf q p e s m args below meth c H locs lsa C V S L)
theorem aw_icmp_ge {x y1 : Int32} {off : Int} {tgt : Nat} (hd : decode y.2.1 pc = .ok (.if_icmp .ge off, 3)) (ht : (pc : Int) + off = (tgt : Int)) (kt : y1 ≤ x → AW G y Z tgt ls st σ cu su) (kf : ¬ y1 ≤ x → AW G y Z (pc + 3) ls st σ cu su) : AW G y Z pc ls (.int y1 :: .int x :: st) σ cu su := by
  intro p e s m args below meth c H locs lsa C V S L
  exact lv_icmp_ge C.1 C.2.1 hd ht (fun q => kt q p e s m args below meth c H locs lsa C V S L) (fun q => kf q p e s m args below meth c H locs lsa C V S L)
theorem aw_icmp_gt {x y1 : Int32} {off : Int} {tgt : Nat} (hd : decode y.2.1 pc = .ok (.if_icmp .gt off, 3)) (ht : (pc : Int) + off = (tgt : Int)) (kt : y1 < x → AW G y Z tgt ls st σ cu su) (kf : ¬ y1 < x → AW G y Z (pc + 3) ls st σ cu su) : AW G y Z pc ls (.int y1 :: .int x :: st) σ cu su := by
  intro p e s m args below meth c H locs lsa C V S L
  exact lv_icmp_gt C.1 C.2.1 hd ht (fun q => kt q p e s m args below meth c H locs lsa C V S L) (fun q => kf q p e s m args below meth c H locs lsa C V S L)
theorem aw_icmp_le {x y1 : Int32} {off : Int} {tgt : Nat} (hd : decode y.2.1 pc = .ok (.if_icmp .le off, 3)) (ht : (pc : Int) + off = (tgt : Int)) (kt : x ≤ y1 → AW G y Z tgt ls st σ cu su) (kf : ¬ x ≤ y1 → AW G y Z (pc + 3) ls st σ cu su) : AW G y Z pc ls (.int y1 :: .int x :: st) σ cu su := by
  intro p e s m args below meth c H locs lsa C V S L
  exact lv_icmp_le C.1 C.2.1 hd ht (fun q => kt q p e s m args below meth c H locs lsa C V S L) (fun q => kf q p e s m args below meth c H locs lsa C V S L)
theorem aw_goto {off : Int} {tgt : Nat} (hd : decode y.2.1 pc = .ok (.goto off, 3)) (ht : (pc : Int) + off = (tgt : Int)) (kk : AW G y Z tgt ls st σ cu su) : AW G y Z pc ls st σ cu su := by
  intro p e s m args below meth c H locs lsa C V S L
  exact lv_goto C.1 C.2.1 hd ht (kk p e s m args below meth c H locs lsa C V S L)
theorem aw_tableIn {dflt lo hi : Int} {offs : Array Int} {len : Nat} {x : Int32} {off : Int} {tgt : Nat} (hd : decode y.2.1 pc = .ok (.tableswitch dflt lo hi offs, len)) (h1 : ¬ x.toInt < lo) (h2 : ¬ hi < x.toInt) (ho : offs[(x.toInt - lo).toNat]? = some off) (ht : (pc : Int) + off = (tgt : Int)) (kk : AW G y Z tgt ls st σ cu su) : AW G y Z pc ls (.int x :: st) σ cu su := by
  intro p e s m args below meth c H locs lsa C V S L
  exact lv_tableIn C.1 C.2.1 hd h1 h2 ho ht (kk p e s m args below meth c H locs lsa C V S L)
theorem aw_tableOut {dflt lo hi : Int} {offs : Array Int} {len : Nat} {x : Int32} {tgt : Nat} (hd : decode y.2.1 pc = .ok (.tableswitch dflt lo hi offs, len)) (h : x.toInt < lo ∨ hi < x.toInt) (ht : (pc : Int) + dflt = (tgt : Int)) (kk : AW G y Z tgt ls st σ cu su) : AW G y Z pc ls (.int x :: st) σ cu su := by
  intro p e s m args below meth c H locs lsa C V S L
  exact lv_tableOut C.1 C.2.1 hd h ht (kk p e s m args below meth c H locs lsa C V S L)
theorem aw_top {x x' : Int32} (h : x = x') (kk : AW G y Z pc ls (.int x' :: st) σ cu su) : AW G y Z pc ls (.int x :: st) σ cu su := by subst h; exact kk
theorem aw_topl {x x' : Int64} (h : x = x') (kk : AW G y Z pc ls (.long x' :: st) σ cu su) : AW G y Z pc ls (.long x :: st) σ cu su := by subst h; exact kk
theorem aw_mem {σ' : Sg} (h : σ = σ') (kk : AW G y Z pc ls st σ' cu su) : AW G y Z pc ls st σ cu su := by subst h; exact kk
/-- fewer locals known -/
theorem aw_sub (h : ∀ q ∈ ls', q ∈ ls) (kk : AW G y Z pc ls' st σ cu su) : AW G y Z pc ls st σ cu su := by
  intro p e s m args below meth c H locs lsa C V S L
  exact kk p e s m args below meth c H locs lsa C V S ⟨L.1, L.2.1, fun q hq => L.2.2 q (h q hq)⟩
/-- more room taken -/
theorem aw_widen {cu' su' : Nat} (h1 : cu ≤ cu') (h2 : su ≤ su') (kk : AW G y Z pc ls st σ cu' su') : AW G y Z pc ls st σ cu su := by
  intro p e s m args below meth c H locs lsa C V S L
  exact W.widen h1 h2 (kk p e s m args below meth c H locs lsa C V S L)
end ROWS
end
section
/-! THE ROWS ON THE MEMORY -/
section MEM
variable {G : GG} {y : YY} {Z : ZT} {pc : Nat} {ls ls' : List (Nat × Value)} {st : List Value} {σ : Sg} {K : Nat → Option (Nat × Nat)} {R : Nat → Nat → Value} {I : Nat → Nat → Int32} {J : Nat → Nat → Int64} {z cu su : Nat}
theorem vce_obj {D : va_G} {s : State} {c n a : Nat} {V : Nat → Value} {H : Heap} (h : vce D s (c, n) a V H) (hc : c < 10) : ∃ r : vw_C, vwCl[c]? = some r ∧ n = r.2.2 ∧ t_OB a (D.1 c) r.2.2 (D.2 c) H V := by
  rcases h with ⟨-, h⟩ | ⟨h0, -⟩
  · exact h
  · exact absurd h0 (by show ¬ 10 ≤ c; omega)
theorem vce_arr {D : va_G} {s : State} {t n a : Nat} {V : Nat → Value} {H : Heap} (h : vce D s (t, n) a V H) (ht : 10 ≤ t) : ∃ cA : ClassId, H[a]? = some (arrV cA n V) ∧ ArrOfT s cA (aty t) ∧ va_RA s cA (aty t) := by
  rcases h with ⟨h0, -⟩ | ⟨-, h⟩
  · exact absurd h0 (by show ¬ t < 10; omega)
  · exact h
theorem FL_lt {own : String} {idx c j : Nat} (h : FL own idx c j) : c < 10 := by
  obtain ⟨r, h1, -⟩ := h
  have := (List.getElem?_eq_some_iff.mp h1).1
  simp [vwCl] at this
  omega
/-- getfield -/
theorem aw_get {idx c n o j : Nat} {v : Value} (hd : decode y.2.1 pc = .ok (.getfield idx, 3)) (hf : FL y.1.cls idx c j) (hk : σ.1 o = some (c, n)) (hv : cV σ o (c, n) j = v) (kk : AW G y Z (pc + 3) ls (v :: st) σ cu su) : AW G y Z pc ls (.ref (G.1 o) :: st) σ cu su := by
  intro p e s m args below meth c0 H locs lsa C V S L
  obtain ⟨r, hr, hj, hl⟩ := hf
  obtain ⟨r', hr', hn, hob⟩ := vce_obj (V.1 o _ hk) (FL_lt ⟨r, hr, hj, hl⟩)
  cases Option.some.inj (hr.symm.trans hr')
  subst hv
  obtain ⟨hx, hb, hml, hret, hlk, hts, hown, hE, hnm, htb⟩ := id C
  have hP : va_P G.2.1 vwCl [(G.1 o, .inr (c, (List.range r.2.2).map (cV σ o (c, n))))] H := by
    intro k q hq
    match k, hq with
    | 0, hq =>
      cases hq
      exact ⟨r, hr, hob.to fun k hk => by simp [vp_V, hk]⟩
    | k + 1, hq => simp at hq
  exact va_get hx hb hts (cl_in c r hr) hown hE.2.1 hP 0 rfl hr j hj (hts _ hl) (fun _ h => h) (v := cV σ o (c, n) j) (by simp [hj]) hd (kk p e s m args below meth c0 H locs lsa C V S L)
/-- the ints' fields -/
theorem aw_getI {idx c n o j : Nat} {x : Int32} (hd : decode y.2.1 pc = .ok (.getfield idx, 3)) (hf : FL y.1.cls idx c j) (hfk : fk c j = 0) (hk : K o = some (c, n)) (hv : I o j = x) (kk : AW G y Z (pc + 3) ls (.int x :: st) (K, R, I, J, z) cu su) : AW G y Z pc ls (.ref (G.1 o) :: st) (K, R, I, J, z) cu su :=
  aw_get hd hf hk (by show sv (fk c j) _ _ _ = _; rw [hfk]; exact congrArg Value.int hv) kk
theorem aw_getJ {idx c n o j : Nat} {x : Int64} (hd : decode y.2.1 pc = .ok (.getfield idx, 3)) (hf : FL y.1.cls idx c j) (hfk : fk c j = 1) (hk : K o = some (c, n)) (hv : J o j = x) (kk : AW G y Z (pc + 3) ls (.long x :: st) (K, R, I, J, z) cu su) : AW G y Z pc ls (.ref (G.1 o) :: st) (K, R, I, J, z) cu su :=
  aw_get hd hf hk (by show sv (fk c j) _ _ _ = _; rw [hfk]; exact congrArg Value.long hv) kk
theorem aw_getR {idx c n o j : Nat} {v : Value} (hd : decode y.2.1 pc = .ok (.getfield idx, 3)) (hf : FL y.1.cls idx c j) (hfk : fk c j = 2) (hk : K o = some (c, n)) (hv : R o j = v) (kk : AW G y Z (pc + 3) ls (v :: st) (K, R, I, J, z) cu su) : AW G y Z pc ls (.ref (G.1 o) :: st) (K, R, I, J, z) cu su :=
  aw_get hd hf hk (by show sv (fk c j) _ _ _ = _; rw [hfk]; exact hv) kk
/-- putfield, the field not final -/
theorem aw_put {idx c n o j : Nat} {v : Value} {σ' : Sg} (hd : decode y.2.1 pc = .ok (.putfield idx, 3)) (hf : FL y.1.cls idx c j) (hfin : ∀ r, vwCl[c]? = some r → (r.2.1 j).2.2.2 = false) (hk : σ.1 o = some (c, n)) (ho : o < 1000) (hn : narrow (fty c j) v = v) (hfit : fits (fty c j) v = true)
    (hK : σ'.1 = σ.1) (hz : σ'.2.2.2.2 = σ.2.2.2.2) (hne : ∀ (q : Nat) (kq : Nat × Nat), q ≠ o → cV σ' q kq = cV σ q kq) (hu : ∀ k, cV σ' o (c, n) k = updV (cV σ o (c, n)) j v k) (kk : AW G y Z (pc + 3) ls st σ' cu su) : AW G y Z pc ls (v :: .ref (G.1 o) :: st) σ cu su := by
  intro p e s m args below meth c0 H locs lsa C V S L
  obtain ⟨r, hr, hj, hl⟩ := hf
  have hc10 := FL_lt ⟨r, hr, hj, hl⟩
  obtain ⟨r', hr', hnn, hob⟩ := vce_obj (V.1 o _ hk) hc10
  cases Option.some.inj (hr.symm.trans hr')
  obtain ⟨hx, hb, hml, hret, hlk, hts, hown, hE, hnm, htb⟩ := id C
  have hin := cl_in c r hr
  have hap := va_apart (own := y.1.cls) hts hin (fty c) (cl_ty hr) (cl_nm hr) hE.2.1 hr
  obtain ⟨cell, q1, q2, q3, q4⟩ := hob
  obtain ⟨hS, hfc, kC, hkC, hkind⟩ := hE.2.1.1 c _ hr
  obtain ⟨cf, kf, fi, f, hi, hsl⟩ := hS j hj
  have hlay := hts _ (hin _ (u_in_lay hj))
  unfold u_lay at hlay
  rw [if_neg (by rw [hfin r hr]; decide)] at hlay
  have hst := (u_facts hfc hkC (u_lays hts hin hj) hi).1
  have h6 := u_store hfc hkC hkind hlay hi (cl_ty hr j hj) hn hfit
  refine W.putK hx hb (f := f) ⟨hown, hts _ hl, ⟨_, _, _, hi⟩, hst⟩ (by rw [q2]; exact h6) q1 q3 (by rw [hsl]; exact k2_hasslot (q4 j hj)) rfl rfl hd fun H' e1 e2 e3 => ?_
  rw [hsl] at e1 ⊢
  refine kk p e s m args below meth c0 H' _ lsa C ?_ (S.put e2 e3 (Aof_new hE.1 ho)) L
  refine WD_upd hE.1 ho V hK hz hk hne (Or.inl ⟨hc10, r, hr, hnn, ?_⟩) e2 e3
  exact t_OB.to (V := updV (cV σ o (c, n)) j v) ⟨_, e1, q2, q3, t_set q4 hap hj v⟩ (fun k _ => (hu k).symm)
/-- putfield, the field final, in its constructor -/
theorem aw_putFin {idx c n o j : Nat} {v : Value} {σ' : Sg} (hd : decode y.2.1 pc = .ok (.putfield idx, 3)) (hf : FL y.1.cls idx c j) (hfin : ∀ r, vwCl[c]? = some r → (r.2.1 j).2.2.2 = true ∧ (r.2.1 j).1 = y.1.cls) (hinit : y.1.name = "<init>") (hk : σ.1 o = some (c, n)) (ho : o < 1000) (hn : narrow (fty c j) v = v) (hfit : fits (fty c j) v = true)
    (hK : σ'.1 = σ.1) (hz : σ'.2.2.2.2 = σ.2.2.2.2) (hne : ∀ (q : Nat) (kq : Nat × Nat), q ≠ o → cV σ' q kq = cV σ q kq) (hu : ∀ k, cV σ' o (c, n) k = updV (cV σ o (c, n)) j v k) (kk : AW G y Z (pc + 3) ls st σ' cu su) : AW G y Z pc ls (v :: .ref (G.1 o) :: st) σ cu su := by
  intro p e s m args below meth c0 H locs lsa C V S L
  obtain ⟨r, hr, hj, hl⟩ := hf
  have hc10 := FL_lt ⟨r, hr, hj, hl⟩
  obtain ⟨r', hr', hnn, hob⟩ := vce_obj (V.1 o _ hk) hc10
  cases Option.some.inj (hr.symm.trans hr')
  obtain ⟨hx, hb, hml, hret, hlk, hts, hown, hE, hnm, htb⟩ := id C
  have hin := cl_in c r hr
  have hap := va_apart (own := y.1.cls) hts hin (fty c) (cl_ty hr) (cl_nm hr) hE.2.1 hr
  obtain ⟨cell, q1, q2, q3, q4⟩ := hob
  obtain ⟨hS, hfc, kC, hkC, hkind⟩ := hE.2.1.1 c _ hr
  obtain ⟨cf, kf, fi, f, hi, hsl⟩ := hS j hj
  have hlay := hts _ (hin _ (u_in_lay hj))
  unfold u_lay at hlay
  rw [if_pos (hfin r hr).1] at hlay
  have hst := (u_facts hfc hkC (u_lays hts hin hj) hi).1
  have hcf : m.cls = cf := by
    obtain ⟨_, _, c', _, _, _, -, -, hf', -, -, -, hown2, -⟩ := Cond.laysFinal_spec hlay
    have e1 : c' = cf := by have := hi.symm.trans hf'; simp at this; exact this.1.symm
    rw [(hfin r hr).2] at hown2
    rw [← e1]; exact Option.some.inj (hown.symm.trans hown2)
  have h6 := u_fits hfc hkC hkind (Or.inr hlay) hi (cl_ty hr j hj) hn hfit
  refine W.putFinK hx hb hown (hts _ hl) hi hst hcf (hnm.trans hinit) (by rw [q2]; exact h6) q1 q3 (by rw [hsl]; exact k2_hasslot (q4 j hj)) rfl rfl hd fun H' e1 e2 e3 => ?_
  rw [hsl] at e1 ⊢
  refine kk p e s m args below meth c0 H' _ lsa C ?_ (S.put e2 e3 (Aof_new hE.1 ho)) L
  refine WD_upd hE.1 ho V hK hz hk hne (Or.inl ⟨hc10, r, hr, hnn, ?_⟩) e2 e3
  exact t_OB.to (V := updV (cV σ o (c, n)) j v) ⟨_, e1, q2, q3, t_set q4 hap hj v⟩ (fun k _ => (hu k).symm)
theorem cV_up2_ne {q o j : Nat} {x : Int32} (h : q ≠ o) (kq : Nat × Nat) : cV (K, R, up2 I o j x, J, z) q kq = cV (K, R, I, J, z) q kq := by
  funext k; simp [cV, up2, h]
theorem cV_upJ_ne {q o j : Nat} {x : Int64} (h : q ≠ o) (kq : Nat × Nat) : cV (K, R, I, upJ J o j x, z) q kq = cV (K, R, I, J, z) q kq := by
  funext k; simp [cV, upJ, h]
theorem cV_upR_ne {q o j : Nat} {x : Value} (h : q ≠ o) (kq : Nat × Nat) : cV (K, upR R o j x, I, J, z) q kq = cV (K, R, I, J, z) q kq := by
  funext k; simp [cV, upR, h]
theorem cV_up2 {o j : Nat} {x : Int32} {kd : Nat × Nat} (h : fk kd.1 j = 0) (k : Nat) : cV (K, R, up2 I o j x, J, z) o kd k = updV (cV (K, R, I, J, z) o kd) j (.int x) k := by
  by_cases e : k = j
  · subst e; simp [cV, up2, updV, h, sv]
  · simp [cV, up2, updV, e]
theorem cV_upJ {o j : Nat} {x : Int64} {kd : Nat × Nat} (h : fk kd.1 j = 1) (k : Nat) : cV (K, R, I, upJ J o j x, z) o kd k = updV (cV (K, R, I, J, z) o kd) j (.long x) k := by
  by_cases e : k = j
  · subst e; simp [cV, upJ, updV, h, sv]
  · simp [cV, upJ, updV, e]
theorem cV_upR {o j : Nat} {x : Value} {kd : Nat × Nat} (h : fk kd.1 j = 2) (k : Nat) : cV (K, upR R o j x, I, J, z) o kd k = updV (cV (K, R, I, J, z) o kd) j x k := by
  by_cases e : k = j
  · subst e; simp [cV, upR, updV, h, sv]
  · simp [cV, upR, updV, e]
theorem aw_putI {idx c n o j : Nat} {x : Int32} (hd : decode y.2.1 pc = .ok (.putfield idx, 3)) (hf : FL y.1.cls idx c j) (hfk : fk c j = 0) (hfin : ∀ r, vwCl[c]? = some r → (r.2.1 j).2.2.2 = false) (hk : K o = some (c, n)) (ho : o < 1000) (hn : narrow (fty c j) (.int x) = .int x) (hfit : fits (fty c j) (.int x) = true)
    (kk : AW G y Z (pc + 3) ls st (K, R, up2 I o j x, J, z) cu su) : AW G y Z pc ls (.int x :: .ref (G.1 o) :: st) (K, R, I, J, z) cu su :=
  aw_put (σ := (K, R, I, J, z)) (σ' := (K, R, up2 I o j x, J, z)) hd hf hfin hk ho hn hfit rfl rfl (fun q kq h => cV_up2_ne h kq) (cV_up2 (kd := (c, n)) hfk) kk
theorem aw_putJ {idx c n o j : Nat} {x : Int64} (hd : decode y.2.1 pc = .ok (.putfield idx, 3)) (hf : FL y.1.cls idx c j) (hfk : fk c j = 1) (hfin : ∀ r, vwCl[c]? = some r → (r.2.1 j).2.2.2 = false) (hk : K o = some (c, n)) (ho : o < 1000) (hn : narrow (fty c j) (.long x) = .long x) (hfit : fits (fty c j) (.long x) = true)
    (kk : AW G y Z (pc + 3) ls st (K, R, I, upJ J o j x, z) cu su) : AW G y Z pc ls (.long x :: .ref (G.1 o) :: st) (K, R, I, J, z) cu su :=
  aw_put (σ := (K, R, I, J, z)) (σ' := (K, R, I, upJ J o j x, z)) hd hf hfin hk ho hn hfit rfl rfl (fun q kq h => cV_upJ_ne h kq) (cV_upJ (kd := (c, n)) hfk) kk
theorem aw_putR {idx c n o j : Nat} {v : Value} (hd : decode y.2.1 pc = .ok (.putfield idx, 3)) (hf : FL y.1.cls idx c j) (hfk : fk c j = 2) (hfin : ∀ r, vwCl[c]? = some r → (r.2.1 j).2.2.2 = true ∧ (r.2.1 j).1 = y.1.cls) (hinit : y.1.name = "<init>") (hk : K o = some (c, n)) (ho : o < 1000) (hn : narrow (fty c j) v = v) (hfit : fits (fty c j) v = true)
    (kk : AW G y Z (pc + 3) ls st (K, upR R o j v, I, J, z) cu su) : AW G y Z pc ls (v :: .ref (G.1 o) :: st) (K, R, I, J, z) cu su :=
  aw_putFin (σ := (K, R, I, J, z)) (σ' := (K, upR R o j v, I, J, z)) hd hf hfin hinit hk ho hn hfit rfl rfl (fun q kq h => cV_upR_ne h kq) (cV_upR (kd := (c, n)) hfk) kk
/-! arrays -/
theorem ix_in {x : Int32} {i n : Nat} (hi : x = nI i) (h : i < n) (hn : n < 2 ^ 31) : ¬ (x < 0 ∨ n ≤ x.toNatClampNeg) := by
  subst hi; exact nI_in h hn
theorem ix_cl {x : Int32} {i n : Nat} (hi : x = nI i) (h : i < n) (hn : n < 2 ^ 31) : x.toNatClampNeg = i := by
  subst hi; exact nI_clamp (Nat.lt_trans h hn)
theorem aw_iald {o n i : Nat} {x v : Int32} (hd : decode y.2.1 pc = .ok (.iaload, 1)) (hk : K o = some (10, n)) (hn : n < 2 ^ 31) (hi : x = nI i) (hlt : i < n) (hv : I o i = v) (kk : AW G y Z (pc + 1) ls (.int v :: st) (K, R, I, J, z) cu su) : AW G y Z pc ls (.int x :: .ref (G.1 o) :: st) (K, R, I, J, z) cu su := by
  intro p e s m args below meth c H locs lsa C V S L
  obtain ⟨cA, h1, h2, h3⟩ := vce_arr (V.1 o _ hk) (Nat.le_refl 10)
  exact W.iald (v := .int v) C.1 C.2.1 h1 (h2 _ _) (fun q => by cases q) (by rw [arrV_size]; exact ix_in hi hlt hn) (by rw [ix_cl hi hlt hn, arrV_read _ _ hlt]; exact congrArg some (congrArg Value.int hv)) rfl rfl hd (kk p e s m args below meth c H locs lsa C V S L)
theorem aw_lald {o n i : Nat} {x : Int32} {v : Int64} (hd : decode y.2.1 pc = .ok (.laload, 1)) (hk : K o = some (11, n)) (hn : n < 2 ^ 31) (hi : x = nI i) (hlt : i < n) (hv : J o i = v) (kk : AW G y Z (pc + 1) ls (.long v :: st) (K, R, I, J, z) cu su) : AW G y Z pc ls (.int x :: .ref (G.1 o) :: st) (K, R, I, J, z) cu su := by
  intro p e s m args below meth c H locs lsa C V S L
  obtain ⟨cA, h1, h2, h3⟩ := vce_arr (V.1 o _ hk) (by decide)
  exact W.lald (v := .long v) C.1 C.2.1 h1 (h2 _ _) (fun q => by cases q) (by rw [arrV_size]; exact ix_in hi hlt hn) (by rw [ix_cl hi hlt hn, arrV_read _ _ hlt]; exact congrArg some (congrArg Value.long hv)) rfl rfl hd (kk p e s m args below meth c H locs lsa C V S L)
theorem aty_ref {t : Nat} (ht : 12 ≤ t) : (aty t).isReference = true ∧ ∀ j, fk t j = 2 ∨ 15 ≤ t := by
  refine ⟨?_, fun j => ?_⟩
  · match t, ht with
    | 12, _ => rfl
    | 13, _ => rfl
    | t + 14, _ => rfl
  · by_cases h : 15 ≤ t
    · exact Or.inr h
    · rcases (show t = 12 ∨ t = 13 ∨ t = 14 by omega) with rfl | rfl | rfl <;> exact Or.inl rfl
theorem aw_aald {o t n i : Nat} {x : Int32} {v : Value} (hd : decode y.2.1 pc = .ok (.aaload, 1)) (hk : K o = some (t, n)) (ht : 12 ≤ t ∧ t < 15) (hn : n < 2 ^ 31) (hi : x = nI i) (hlt : i < n) (hv : R o i = v) (kk : AW G y Z (pc + 1) ls (v :: st) (K, R, I, J, z) cu su) : AW G y Z pc ls (.int x :: .ref (G.1 o) :: st) (K, R, I, J, z) cu su := by
  intro p e s m args below meth c H locs lsa C V S L
  obtain ⟨cA, h1, h2, h3⟩ := vce_arr (V.1 o _ hk) (by omega)
  have hfk : fk t i = 2 := by rcases (aty_ref ht.1).2 i with h | h <;> first | exact h | omega
  exact W.aald (v := v) C.1 C.2.1 h1 (h2 _ _) (aty_ref ht.1).1 (fun q => by cases q) (by rw [arrV_size]; exact ix_in hi hlt hn) (by rw [ix_cl hi hlt hn, arrV_read _ _ hlt]; show some (sv (fk t i) _ _ _) = _; rw [hfk]; exact congrArg some hv) rfl rfl hd (kk p e s m args below meth c H locs lsa C V S L)
theorem aw_alen {o t n : Nat} (hd : decode y.2.1 pc = .ok (.arraylength, 1)) (hk : σ.1 o = some (t, n)) (ht : 10 ≤ t) (kk : AW G y Z (pc + 1) ls (.int (nI n) :: st) σ cu su) : AW G y Z pc ls (.ref (G.1 o) :: st) σ cu su := by
  intro p e s m args below meth c H locs lsa C V S L
  obtain ⟨cA, h1, h2, h3⟩ := vce_arr (V.1 o _ hk) ht
  exact W.alen (n := nI n) C.1 C.2.1 h1 (h2 _ _) (by rw [arrV_size]; rfl) rfl rfl hd (kk p e s m args below meth c H locs lsa C V S L)
theorem aw_iast {o n i : Nat} {x v : Int32} (hd : decode y.2.1 pc = .ok (.iastore, 1)) (hk : K o = some (10, n)) (ho : o < 1000) (hn : n < 2 ^ 31) (hi : x = nI i) (hlt : i < n) (kk : AW G y Z (pc + 1) ls st (K, R, up2 I o i v, J, z) cu su) : AW G y Z pc ls (.int v :: .int x :: .ref (G.1 o) :: st) (K, R, I, J, z) cu su := by
  intro p e s m args below meth c H locs lsa C V S L
  obtain ⟨cA, h1, h2, h3⟩ := vce_arr (V.1 o _ hk) (Nat.le_refl 10)
  have hE := C.2.2.2.2.2.2.2.1
  refine W.iast C.1 C.2.1 h1 (h2 _ _) (fun q => by cases q) (by rw [arrV_size]; exact ix_in hi hlt hn) rfl rfl hd fun H' e1 e2 e3 => ?_
  refine kk p e s m args below meth c H' _ lsa C ?_ (S.put e2 e3 (Aof_new hE.1 ho)) L
  refine WD_upd hE.1 ho V rfl rfl hk (fun q kq h => cV_up2_ne h kq) (Or.inr ⟨Nat.le_refl 10, cA, ?_, h2, h3⟩) e2 e3
  rw [e1, ix_cl hi hlt hn, arrV_store]
  exact congrArg some (congrArg (arrV cA n) (funext fun k => (cV_up2 (kd := (10, n)) rfl k).symm))
theorem aw_last {o n i : Nat} {x : Int32} {v : Int64} (hd : decode y.2.1 pc = .ok (.lastore, 1)) (hk : K o = some (11, n)) (ho : o < 1000) (hn : n < 2 ^ 31) (hi : x = nI i) (hlt : i < n) (kk : AW G y Z (pc + 1) ls st (K, R, I, upJ J o i v, z) cu su) : AW G y Z pc ls (.long v :: .int x :: .ref (G.1 o) :: st) (K, R, I, J, z) cu su := by
  intro p e s m args below meth c H locs lsa C V S L
  obtain ⟨cA, h1, h2, h3⟩ := vce_arr (V.1 o _ hk) (by decide)
  have hE := C.2.2.2.2.2.2.2.1
  refine W.last C.1 C.2.1 h1 (h2 _ _) (fun q => by cases q) (by rw [arrV_size]; exact ix_in hi hlt hn) rfl rfl hd fun H' e1 e2 e3 => ?_
  refine kk p e s m args below meth c H' _ lsa C ?_ (S.put e2 e3 (Aof_new hE.1 ho)) L
  refine WD_upd hE.1 ho V rfl rfl hk (fun q kq h => cV_upJ_ne h kq) (Or.inr ⟨show 10 ≤ 11 by decide, cA, ?_, h2, h3⟩) e2 e3
  rw [e1, ix_cl hi hlt hn, arrV_store]
  exact congrArg some (congrArg (arrV cA n) (funext fun k => (cV_upJ (kd := (11, n)) rfl k).symm))
/-- a static array, by its number -/
def stF : Nat → String
  | 1001 => "AT_FIRST"
  | 1002 => "LEAST"
  | _ => "MOST"
theorem EN_stat {s : State} {H : Heap} (h : EN G s H) {a : Nat} (ha : a = 1001 ∨ a = 1002 ∨ a = 1003) : va_Z RX3 (stF a) "[I" (.ref (G.1 a)) (Aof G) s H := by
  rcases ha with rfl | rfl | rfl
  · exact h.2.2.2.2.2.1
  · exact h.2.2.2.2.2.2.1
  · exact h.2.2.2.2.2.2.2.1
theorem aw_gets {idx a : Nat} (hd : decode y.2.1 pc = .ok (.getstatic idx, 3)) (ha : a = 1001 ∨ a = 1002 ∨ a = 1003) (hl : Cond.fieldLink y.1.cls idx RX3 (stF a) "[I" ∈ gT) (kk : AW G y Z (pc + 3) ls (.ref (G.1 a) :: st) σ cu su) : AW G y Z pc ls st σ cu su := by
  intro p e s m args below meth c H locs lsa C V S L
  obtain ⟨hx, hb, hml, hret, hlk, hts, hown, hE, hnm, htb⟩ := id C
  exact va_gets hx hb (EN_stat hE ha) S hown (hts _ hl) (fun _ h => h) hd (kk p e s m args below meth c H locs lsa C V S L)
/-- another class's static array (State reads BreakerTrials' AT_FIRST) -/
theorem aw_getsN (hd : decode y.2.1 pc = .ok (.getstatic 27, 3)) (hy : y.1.cls = RX1) (kk : AW G y Z (pc + 3) ls (.ref (G.1 1001) :: st) σ cu su) : AW G y Z pc ls st σ cu su := by
  intro p e s m args below meth c H locs lsa C V S L
  obtain ⟨hx, hb, hml, hret, hlk, hts, hown, hE, hnm, htb⟩ := id C
  rw [hy] at hown
  exact va_getsN hx hb (EN_stat hE (a := 1001) (Or.inl rfl)) S hown (va_Nw.use rfl hE.2.2.2.2.2.2.2.2.2.1) (fun _ h => h) hd (kk p e s m args below meth c H locs lsa C V S L)
end MEM
end
section
/-! CALLS, ENDS, THROWS -/
section CALLS
variable {G : GG} {y : YY} {Z : ZT} {Q : RT → Sg → Prop} {pc : Nat} {ls ls' : List (Nat × Value)} {st rest : List Value} {σ : Sg} {K : Nat → Option (Nat × Nat)} {R : Nat → Nat → Value} {I : Nat → Nat → Int32} {J : Nat → Nat → Int64} {z cu su : Nat}
theorem aw_iret {x : Int32} (hd : decode y.2.1 pc = .ok (.ireturn, 1)) (hr : y.2.2.2.1 = some .int) (h1 : cu ≤ y.2.2.2.2.1.cells) (h2 : su ≤ y.2.2.2.2.1.slots) (hq : Q (.inl (some (.int x))) σ) : AW G y (MZ G y Q) pc ls [.int x] σ cu su := by
  intro p e s m args below meth c H locs lsa C V S L
  have hlocks := C.2.2.2.2.1
  refine W.widen h1 h2 (vx_ret ?_)
  exact W.iret C.1 C.2.1 (C.2.2.2.1.trans hr) (fun t ht hW => ⟨⟨_, σ, rfl, hq, by rw [ht]; exact WD_moved hW.alike V⟩, S.F ht⟩) S.2.2 hd
theorem aw_zret {x : Int32} (hd : decode y.2.1 pc = .ok (.ireturn, 1)) (hr : y.2.2.2.1 = some .boolean) (hn : narrow .boolean (.int x) = .int x) (h1 : cu ≤ y.2.2.2.2.1.cells) (h2 : su ≤ y.2.2.2.2.1.slots) (hq : Q (.inl (some (.int x))) σ) : AW G y (MZ G y Q) pc ls [.int x] σ cu su := by
  intro p e s m args below meth c H locs lsa C V S L
  have hlocks := C.2.2.2.2.1
  refine W.widen h1 h2 (vx_ret ?_)
  exact W.zret C.1 C.2.1 (C.2.2.2.1.trans hr) hn (fun t ht hW => ⟨⟨_, σ, rfl, hq, by rw [ht]; exact WD_moved hW.alike V⟩, S.F ht⟩) S.2.2 hd
theorem aw_lret {x : Int64} (hd : decode y.2.1 pc = .ok (.lreturn, 1)) (hr : y.2.2.2.1 = some .long) (h1 : cu ≤ y.2.2.2.2.1.cells) (h2 : su ≤ y.2.2.2.2.1.slots) (hq : Q (.inl (some (.long x))) σ) : AW G y (MZ G y Q) pc ls [.long x] σ cu su := by
  intro p e s m args below meth c H locs lsa C V S L
  have hlocks := C.2.2.2.2.1
  refine W.widen h1 h2 (vx_ret ?_)
  exact W.lret C.1 C.2.1 (C.2.2.2.1.trans hr) (fun t ht hW => ⟨⟨_, σ, rfl, hq, by rw [ht]; exact WD_moved hW.alike V⟩, S.F ht⟩) S.2.2 hd
theorem aw_dret {x : UInt64} (hd : decode y.2.1 pc = .ok (.dreturn, 1)) (hr : y.2.2.2.1 = some .double) (h1 : cu ≤ y.2.2.2.2.1.cells) (h2 : su ≤ y.2.2.2.2.1.slots) (hq : Q (.inl (some (.double x))) σ) : AW G y (MZ G y Q) pc ls [.double x] σ cu su := by
  intro p e s m args below meth c H locs lsa C V S L
  have hlocks := C.2.2.2.2.1
  refine W.widen h1 h2 (vx_ret ?_)
  exact W.dret C.1 C.2.1 (C.2.2.2.1.trans hr) (fun t ht hW => ⟨⟨_, σ, rfl, hq, by rw [ht]; exact WD_moved hW.alike V⟩, S.F ht⟩) S.2.2 hd
theorem aw_vret (hd : decode y.2.1 pc = .ok (.return_, 1)) (hr : y.2.2.2.1 = none) (h1 : cu ≤ y.2.2.2.2.1.cells) (h2 : su ≤ y.2.2.2.2.1.slots) (hq : Q (.inl none) σ) : AW G y (MZ G y Q) pc ls [] σ cu su := by
  intro p e s m args below meth c H locs lsa C V S L
  have hlocks := C.2.2.2.2.1
  refine W.widen h1 h2 (vx_ret ?_)
  exact W.vret C.1 C.2.1 (C.2.2.2.1.trans hr) (fun t ht hW => ⟨⟨_, σ, rfl, hq, by rw [ht]; exact WD_moved hW.alike V⟩, S.F ht⟩) S.2.2 hd
/-- an exception of class E flies here -/
def AX (G : GG) (y : YY) (Z : ZT) (pc : Nat) (ls : List (Nat × Value)) (rest : List Value) (σ : Sg) (E : String) (cu su : Nat) : Prop :=
  ∀ (p : Program) (e : Env) (s : State) (m : MethodId) (args : Array Value) (below : List Frame) (meth : Method) (c : Code) (H : Heap) (locs : List Loc) (lsa : Array Slot) (q : Addr) (ce : Cell),
    CX G y p s m args meth c → WD G σ s H → va_S (Aof G) s.heap H locs → lv_has lsa y.2.2.1 ls → H[q]? = some ce → ce.vm = .none → s.vm.findClass E = some ce.cls → vx_W p G.2.2.2 e y.2.2.2.2.1 s m args below meth c H locs cu su (Z below args s) (F0 m pc lsa rest) q
theorem ax_out {E : String} (htb : y.2.2.2.2.2 = []) (h1 : cu ≤ y.2.2.2.2.1.cells) (h2 : su ≤ y.2.2.2.2.1.slots) (hq : Q (.inr E) σ) : AX G y (MZ G y Q) pc ls rest σ E cu su := by
  intro p e s m args below meth c H locs lsa q ce C V S L hc hv hcl
  refine vx_out (fun x hx => ?_) C.2.2.2.2.1 hc hv hcl (fun t ht hA => ⟨σ, hq, by rw [ht]; exact WD_moved hA V, S.F ht⟩) S.2.2 h1 h2
  rw [C.2.2.2.2.2.2.2.2.2, htb] at hx
  cases hx
abbrev notMH (x : MethodName) (n : Nat) : Prop := x.cls ≠ "java/lang/invoke/MethodHandle" ∧ x.cls ≠ "java/lang/invoke/VarHandle" ∧ (parseMethodDescriptor x.desc).map (fun d => d.parameters.length) = some n
def CV (own : String) (idx : Nat) (yc : YY) (n : Nat) : Prop := Cond.methodLink own idx yc.1 ∈ gT ∧ Cond.instanceMethod yc.1 ∈ gT ∧ Cond.selects yc.1.cls yc.1 yc.1 ∈ gT ∧ Cond.initialized yc.1.cls ∈ gT ∧ Cond.code yc.1 yc.2.1 yc.2.2.1 yc.2.2.2.1 ∈ gT ∧ notMH yc.1 n
def CS (own : String) (idx : Nat) (yc : YY) (n : Nat) : Prop := Cond.methodLink own idx yc.1 ∈ gT ∧ Cond.static yc.1 ∈ gT ∧ Cond.initialized yc.1.cls ∈ gT ∧ Cond.code yc.1 yc.2.1 yc.2.2.1 yc.2.2.2.1 ∈ gT ∧ notMH yc.1 n
def CI (own : String) (idx : Nat) (yc : YY) (n : Nat) : Prop := Cond.methodLink own idx yc.1 ∈ gT ∧ Cond.instanceMethod yc.1 ∈ gT ∧ Cond.initialized yc.1.cls ∈ gT ∧ Cond.code yc.1 yc.2.1 yc.2.2.1 yc.2.2.2.1 ∈ gT ∧ notMH yc.1 n ∧ yc.1.name = "<init>" ∧ yc.2.2.2.1 = none
abbrev CR (yc y : YY) : Prop := yc.2.2.2.2.1.frames + 1 ≤ y.2.2.2.2.1.frames ∧ 8 + (yc.2.2.1 + 11) + yc.2.2.2.2.1.locals ≤ y.2.2.2.2.1.locals
theorem pcw_at {av : List Value} {s : State} {H : Heap} {locs : List Loc} {ar : Array Value} (har : ar = av.toArray) (hE : EN G s s.heap) (V : WD G σ s H) (S : va_S (Aof G) s.heap H locs) : ∀ U : State, U.heap = H → s.WarmedH U.vm → PcW G av σ ar U := by
  intro U hU hW
  refine ⟨har, ?_, ?_⟩
  · rw [hU]; exact EN_moved hW (EN_kept hE (fun a h1 h2 => S.2.1 a h1 h2))
  · rw [hU]; exact WD_moved hW.alike V
/-- behind a call that may throw -/
theorem aw_behind {p : Program} {e : Env} {s : State} {m : MethodId} {args : Array Value} {below : List Frame} {meth : Method} {c : Code} {H : Heap} {locs : List Loc} {lsa : Array Slot} {mc ms : Nat} {ar : Array Value} {Qc : RT → Sg → Prop}
    (C : CX G y p s m args meth c) (S : va_S (Aof G) s.heap H locs) (L : lv_has lsa y.2.2.1 ls)
    (hrun : vx_Run p G.2.2.2 e y.2.2.2.2.1 s m args below meth c H locs cu su mc ms (F0 m pc lsa st) rest (Qn G Qc ar) (Qx G Qc) (Aof G))
    (kx : ∀ E σ', Qc (.inr E) σ' → AX G y Z pc ls rest σ' E (cu + mc) (su + ms))
    (kk : ∀ v σ', Qc (.inl v) σ' → AW G y Z (pc + 3) ls (v.toList ++ rest) σ' (cu + mc) (su + ms)) : W p G.2.2.2 e y.2.2.2.2.1 s m args below meth c H locs cu su (Z below args s) (F0 m pc lsa st) := by
  intro T hT X
  rcases hrun T hT X with ⟨v, st₀, t, T', L', h0, X', hL, e1, e2, ⟨⟨v', σ', ho, hQ, hW⟩, hF⟩, st'⟩ | ⟨q, st₀, t, T', L', E, ce, h0, X', hL, e1, e2, ⟨σ', hQ, hW, hF⟩, hce, hcv, hcl, st'⟩
  · cases ho
    obtain ⟨k1, k2, k3⟩ := vx_keep h0 e1 S (fun _ _ h => h) (fun _ h => h) hL hF
    have hal : t.vm.Alike s.vm := by rw [← e2]; exact X'.warmed.alike.symm
    obtain ⟨t2, a1, b1⟩ := kk v σ' hQ p e s m args below meth c T'.heap (locs ++ L') lsa C (by rw [e1]; exact WD_moved hal hW) k3 L T' rfl X'
    exact ⟨t2, st' t2 a1, b1⟩
  · obtain ⟨k1, k2, k3⟩ := vx_keep h0 e1 S (fun _ _ h => h) (fun _ h => h) hL hF
    have hal : t.vm.Alike s.vm := by rw [← e2]; exact X'.warmed.alike.symm
    obtain ⟨t2, a1, b1⟩ := kx E σ' hQ p e s m args below meth c T'.heap (locs ++ L') lsa q ce C (by rw [e1]; exact WD_moved hal hW) k3 L (by rw [e1]; exact hce) hcv hcl T' rfl X'
    exact ⟨t2, st'.trans a1, b1⟩
theorem callB_g {s : State} {args : Array Value} {own : String} {idx n : Nat} {yc : YY} (hts : ∀ w ∈ gT, w.before args s = true) (h1 : Cond.methodLink own idx yc.1 ∈ gT) (h4 : Cond.initialized yc.1.cls ∈ gT) (h5 : Cond.code yc.1 yc.2.1 yc.2.2.1 yc.2.2.2.1 ∈ gT) (h6 : notMH yc.1 n) (cr : CR yc y) :
    CallB y.2.2.2.2.1 s args own idx yc.1 yc.2.1 yc.2.2.1 yc.2.2.2.1 (.code yc.1 yc.2.1 yc.2.2.1 yc.2.2.2.1 :: gT) yc.2.2.2.2.1 yc.2.2.2.2.1.cells yc.2.2.2.2.1.slots n :=
  callB_of n hts (gT_goodIn fun w hw => by rcases List.mem_cons.mp hw with rfl | hw; exact h5; exact hw) rfl rfl rfl (hts _ h4) (hts _ h1) h6 cr
/-- the receiver -/
theorem recv_g {s : State} {H : Heap} {o c n : Nat} {C : String} (hE : EN G s s.heap) (V : WD G σ s H) (hk : σ.1 o = some (c, n)) (hcl : ∃ r : vw_C, vwCl[c]? = some r ∧ r.1 = C) : ∃ cellB : Cell, H[G.1 o]? = some cellB ∧ cellB.vm.isStatics = false ∧ s.vm.findClass C = some cellB.cls := by
  obtain ⟨r, hr, rfl⟩ := hcl
  have hc : c < 10 := by have := (List.getElem?_eq_some_iff.mp hr).1; simp [vwCl] at this; omega
  obtain ⟨r', hr', -, cell, h1, h2, h3, -⟩ := vce_obj (V.1 o _ hk) hc
  cases Option.some.inj (hr.symm.trans hr')
  exact ⟨cell, h1, by rw [h3]; rfl, by rw [h2]; exact (hE.2.1.1 c _ hr).2.1⟩
/-- invokevirtual -/
theorem aw_invV {yc : YY} {idx n o c nn : Nat} {As : List Value} {Qc : RT → Sg → Prop} (hd : decode y.2.1 pc = .ok (.invokevirtual idx, 3)) (cv : CV y.1.cls idx yc n) (cr : CR yc y) (hk : σ.1 o = some (c, nn)) (hcl : ∃ r : vw_C, vwCl[c]? = some r ∧ r.1 = yc.1.cls) (hst : st = As.reverse ++ .ref (G.1 o) :: rest) (hn : As.length = n) (hrest : (rest.map fun v => v.category).sum ≤ 8)
    (hroom : cu + yc.2.2.2.2.1.cells ≤ y.2.2.2.2.1.cells ∧ su + yc.2.2.2.2.1.slots ≤ y.2.2.2.2.1.slots) (hr : Run G yc (.ref (G.1 o) :: As) σ Qc)
    (kx : ∀ E σ', Qc (.inr E) σ' → AX G y Z pc ls rest σ' E (cu + yc.2.2.2.2.1.cells) (su + yc.2.2.2.2.1.slots))
    (kk : ∀ v σ', Qc (.inl v) σ' → AW G y Z (pc + 3) ls (v.toList ++ rest) σ' (cu + yc.2.2.2.2.1.cells) (su + yc.2.2.2.2.1.slots)) : AW G y Z pc ls st σ cu su := by
  intro p e s m args below meth c0 H locs lsa C V S L
  obtain ⟨hx, hb, hml, hret, hlk, hts, hown, hE, hnm, htb⟩ := id C
  obtain ⟨v1, v2, v3, v4, v5, v6⟩ := cv
  exact aw_behind C S L (vx_runV ⟨hx, hb, hml, hown, hts⟩ hr ⟨callB_g hts v1 v4 v5 v6 cr, hts _ v2, hts _ v3⟩ ⟨PcW_blind _ _ _, recv_g hE V hk hcl, pcw_at rfl hE V S⟩ (g := F0 m pc lsa st) rfl hn L.1 hst (lv_room hrest) hd hroom) kx kk
/-- invokestatic -/
theorem aw_invS {yc : YY} {idx n : Nat} {As : List Value} {Qc : RT → Sg → Prop} (hd : decode y.2.1 pc = .ok (.invokestatic idx, 3)) (cv : CS y.1.cls idx yc n) (cr : CR yc y) (hst : st = As.reverse ++ rest) (hn : As.length = n) (hrest : (rest.map fun v => v.category).sum ≤ 8)
    (hroom : cu + yc.2.2.2.2.1.cells ≤ y.2.2.2.2.1.cells ∧ su + yc.2.2.2.2.1.slots ≤ y.2.2.2.2.1.slots) (hr : Run G yc As σ Qc)
    (kx : ∀ E σ', Qc (.inr E) σ' → AX G y Z pc ls rest σ' E (cu + yc.2.2.2.2.1.cells) (su + yc.2.2.2.2.1.slots))
    (kk : ∀ v σ', Qc (.inl v) σ' → AW G y Z (pc + 3) ls (v.toList ++ rest) σ' (cu + yc.2.2.2.2.1.cells) (su + yc.2.2.2.2.1.slots)) : AW G y Z pc ls st σ cu su := by
  intro p e s m args below meth c0 H locs lsa C V S L
  obtain ⟨hx, hb, hml, hret, hlk, hts, hown, hE, hnm, htb⟩ := id C
  obtain ⟨v1, v2, v4, v5, v6⟩ := cv
  exact aw_behind C S L (vx_runS ⟨hx, hb, hml, hown, hts⟩ hr ⟨callB_g hts v1 v4 v5 v6 cr, hts _ v2⟩ ⟨PcW_blind _ _ _, pcw_at rfl hE V S⟩ (g := F0 m pc lsa st) rfl hn L.1 hst (lv_room hrest) hd hroom) kx kk
/-- a method that never throws, as a plain contract -/
theorem run_met {yc : YY} {av : List Value} {Qc : RT → Sg → Prop} (h : Run G yc av σ Qc) (hn : ∀ E σ', ¬ Qc (.inr E) σ') : Met G.2.2.2 yc.1 (.code yc.1 yc.2.1 yc.2.2.1 yc.2.2.2.1 :: gT) yc.2.2.2.2.1 (PcW G av σ) (Qn G Qc) yc.2.2.2.2.1.cells yc.2.2.2.2.1.slots (Aof G) := by
  intro p e ha hc hk s m args below hf hp hP hK
  obtain ⟨k, o, h1, h2, h3, h4⟩ := h p e ha hc hk s m args below hf hp hP hK
  refine ⟨k, o, h1, h2, h3, ?_⟩
  rcases h4 with h4 | ⟨q, rfl, E, ce, L, ⟨σ', hq, -⟩, -⟩
  · exact h4
  · exact absurd hq (hn E σ')
theorem run_of_va {p : Program} {e : Env} {s : State} {m : MethodId} {args : Array Value} {below : List Frame} {meth : Method} {c : Code} {H : Heap} {locs : List Loc} {mc ms : Nat} {g : JFrame} {Qa : State → Outcome → State → Prop} {XC : String → State → State → Prop} {free : Addr → Prop} {Rm : Room} {l : Launch}
    (h : va_Run p l e Rm s m args below meth c H locs cu su mc ms g rest Qa free) : vx_Run p l e Rm s m args below meth c H locs cu su mc ms g rest Qa XC free := fun T hT X => Or.inl (h T hT X)
/-- a constructor -/
theorem aw_invI {yc : YY} {idx n o : Nat} {As : List Value} {Qc : RT → Sg → Prop} (hd : decode y.2.1 pc = .ok (.invokespecial idx, 3)) (cv : CI y.1.cls idx yc n) (cr : CR yc y) (hst : st = As.reverse ++ .ref (G.1 o) :: rest) (hn : As.length = n) (hrest : (rest.map fun v => v.category).sum ≤ 8)
    (hroom : cu + yc.2.2.2.2.1.cells ≤ y.2.2.2.2.1.cells ∧ su + yc.2.2.2.2.1.slots ≤ y.2.2.2.2.1.slots) (hr : Run G yc (.ref (G.1 o) :: As) σ Qc) (hnx : ∀ E σ', ¬ Qc (.inr E) σ')
    (kk : ∀ v σ', Qc (.inl v) σ' → AW G y Z (pc + 3) ls (v.toList ++ rest) σ' (cu + yc.2.2.2.2.1.cells) (su + yc.2.2.2.2.1.slots)) : AW G y Z pc ls st σ cu su := by
  intro p e s m args below meth c0 H locs lsa C V S L
  obtain ⟨hx, hb, hml, hret, hlk, hts, hown, hE, hnm, htb⟩ := id C
  obtain ⟨v1, v2, v4, v5, v6, v7, v8⟩ := cv
  have cb := callB_g (y := y) hts v1 v4 v5 v6 cr
  have hm := run_met hr hnx
  rw [v8] at cb hm
  exact aw_behind C S L (run_of_va (va_runI ⟨hx, hb, hml, hown, hts⟩ hm ⟨cb, v7, hts _ v2⟩ ⟨PcW_blind _ _ _, pcw_at rfl hE V S⟩ (g := F0 m pc lsa st) rfl hn L.1 hst (lv_room hrest) hd hroom)) (fun E σ' h => absurd h (hnx E σ')) kk
/-- the buffer's constructor, a nest mate's -/
theorem aw_invIN {yc : YY} {n o : Nat} {As : List Value} {Qc : RT → Sg → Prop} (hd : decode y.2.1 pc = .ok (.invokespecial 25, 3)) (hy : y.1.cls = RX3) (hyc : yc.1 = yX0_init) (v2 : Cond.instanceMethod yc.1 ∈ gT) (v4 : Cond.initialized yc.1.cls ∈ gT) (v5 : Cond.code yc.1 yc.2.1 yc.2.2.1 yc.2.2.2.1 ∈ gT) (v6 : notMH yc.1 n) (v8 : yc.2.2.2.1 = none) (cr : CR yc y) (hst : st = As.reverse ++ .ref (G.1 o) :: rest) (hn : As.length = n) (hrest : (rest.map fun v => v.category).sum ≤ 8)
    (hroom : cu + yc.2.2.2.2.1.cells ≤ y.2.2.2.2.1.cells ∧ su + yc.2.2.2.2.1.slots ≤ y.2.2.2.2.1.slots) (hr : Run G yc (.ref (G.1 o) :: As) σ Qc) (hnx : ∀ E σ', ¬ Qc (.inr E) σ')
    (kk : ∀ v σ', Qc (.inl v) σ' → AW G y Z (pc + 3) ls (v.toList ++ rest) σ' (cu + yc.2.2.2.2.1.cells) (su + yc.2.2.2.2.1.slots)) : AW G y Z pc ls st σ cu su := by
  intro p e s m args below meth c0 H locs lsa C V S L
  obtain ⟨hx, hb, hml, hret, hlk, hts, hown, hE, hnm, htb⟩ := id C
  have hm := run_met hr hnx
  have hcn : va_CN y.2.2.2.2.1 s args RX3 25 yc.1 RX3 yc.2.1 yc.2.2.1 yc.2.2.2.1 (.code yc.1 yc.2.1 yc.2.2.1 yc.2.2.2.1 :: gT) yc.2.2.2.2.1 yc.2.2.2.2.1.cells yc.2.2.2.2.1.slots n :=
    va_cnB n hts (gT_goodIn fun w hw => by rcases List.mem_cons.mp hw with rfl | hw; exact v5; exact hw) rfl rfl rfl (by rw [hyc]; exact hE.2.2.2.2.2.2.2.2.1) (hts _ v4) v6 cr
  rw [v8] at hcn hm
  rw [hy] at hown
  exact aw_behind C S L (run_of_va (va_runIN ⟨hx, hb, hml, hown, hts⟩ hm ⟨hcn, by rw [hyc]; rfl, hts _ v2⟩ ⟨PcW_blind _ _ _, pcw_at rfl hE V S⟩ (g := F0 m pc lsa st) rfl hn L.1 hst (lv_room hrest) hd hroom)) (fun E σ' h => absurd h (hnx E σ')) kk
/-- Object's constructor -/
theorem aw_objInit {idx a : Nat} (hd : decode y.2.1 pc = .ok (.invokespecial idx, 3)) (h1 : Cond.methodLink y.1.cls idx Lib.objectInit ∈ gT) (h2 : Cond.instanceMethod Lib.objectInit ∈ gT) (h3 : Cond.code Lib.objectInit ⟨#[0xb1]⟩ 1 none ∈ gT) (hf : 1 ≤ y.2.2.2.2.1.frames) (hl : (st.map fun v => v.category).sum + 12 ≤ y.2.2.2.2.1.locals) (kk : AW G y Z (pc + 3) ls st σ cu su) : AW G y Z pc ls (.ref a :: st) σ cu su := by
  intro p e s m args below meth c H locs lsa C V S L
  obtain ⟨hx, hb, hml, hret, hlk, hts, hown, hE, hnm, htb⟩ := id C
  refine W.objInit hx hb hown (hts _ h1) (hts _ h2) (hts _ h3) rfl (by rw [hml]; exact L.1) rfl hd hf ?_ ?_
  · show 2 * 0 + _ + 12 ≤ _
    omega
  · exact kk p e s m args below meth c H locs lsa C V S L
/-- throw new E("text") -/
theorem aw_throw {cls text : String} {ik is ic : Nat} (d0 : decode y.2.1 pc = .ok (.new ik, 3)) (d3 : decode y.2.1 (pc + 3) = .ok (.dup, 1)) (d4 : decode y.2.1 (pc + 4) = .ok (.ldc is, 2)) (d6 : decode y.2.1 (pc + 6) = .ok (.invokespecial ic, 3)) (d9 : decode y.2.1 (pc + 9) = .ok (.athrow, 1))
    (hy : y.1.cls = RX3) (htb : y.2.2.2.2.2 = []) (hcls : Bundle.fit cls = true) (hk : Cond.classLink RX3 ik cls ∈ gT) (hini : Cond.initialized cls ∈ gT) (hs : (is, text) ∈ strs) (hat : ∀ w ∈ vx_atS RX3 ic cls ["java/lang/RuntimeException", "java/lang/Exception"], w ∈ lw_tbl) (hgood : (vx_atS RX3 ic cls ["java/lang/RuntimeException", "java/lang/Exception"]).all vx_ot = true)
    (hfr : 5 < y.2.2.2.2.1.frames) (hlo : (st.map fun v => v.category).sum + 82 ≤ y.2.2.2.2.1.locals) (hc : cu + 1 ≤ y.2.2.2.2.1.cells) (hsl : su + 6 ≤ y.2.2.2.2.1.slots) (hats : ∀ (args : Array Value) (s : State), (∀ w ∈ gT, w.before args s = true) → ∀ w ∈ vx_atS RX3 ic cls ["java/lang/RuntimeException", "java/lang/Exception"], w.before args s = true)
    (hq : ∀ z', z ≤ z' → Q (.inr cls) (K, R, I, J, z')) : AW G y (MZ G y Q) pc ls st (K, R, I, J, z) cu su := by
  intro p e s m args below meth c H locs lsa C V S L
  obtain ⟨hx, hb, hml, hret, hlk, hts, hown, hE, hnm, htb2⟩ := id C
  rw [hy] at hown
  obtain ⟨sa, hsa⟩ := hE.2.2.2.2.1 _ hs
  refine vx_throwS (names := ["java/lang/RuntimeException", "java/lang/Exception"]) hx hb hE.2.2.2.2.2.2.2.2.2.2 hown hcls (by decide +kernel) (hts _ hk) (hts _ hini) hsa (hats args s hts) ?_ hE.2.2.1 hE.2.2.2.1 S (by rw [hml]; exact L.1) d0 d3 d4 d6 d9 (fun x hx => by rw [htb2, htb] at hx; cases hx) hfr hlo hc hsl hlk ?_ S.2.2 hc hsl
  · intro w hw
    rcases List.mem_cons.mp hw with rfl | hw
    · exact Bool.or_eq_true_iff.mpr (Or.inr (gT_good hk))
    · rcases List.mem_cons.mp hw with rfl | hw
      · exact Bool.or_eq_true_iff.mpr (Or.inr (gT_good hini))
      · exact List.all_eq_true.mp hgood w hw
  · intro t hA hz hk'
    have hg : t.heap.size = G.2.2.1 + (t.heap.size - G.2.2.1) := by have := V.2; omega
    refine ⟨(K, R, I, J, t.heap.size - G.2.2.1), hq _ (by have := V.2; simp only at this; omega), ⟨fun o kd ho => ?_, hg⟩, ?_⟩
    · exact vce_kept (vce_moved hA (V.1 o kd ho)) (hk' _ (vce_lt (V.1 o kd ho)))
    · exact ⟨Nat.le_trans S.1 hz, fun q h1 h2 => (hk' q (Nat.lt_of_lt_of_le h1 S.1)).trans (S.2.1 q h1 h2)⟩
end CALLS
end
section
/-! MAKING CELLS -/
/-- a cell's slots, all of one value -/
def zr {α : Type} (f : Nat → Nat → α) (z : Nat) (d : α) : Nat → Nat → α := fun q k => if q = z then d else f q k
theorem dfl0 : ∀ k, k < 2 → defaultValue (fty 0 k) = sv (fk 0 k) 0 0 .null
  | 0, _ => rfl
  | 1, _ => rfl
  | k + 2, h => absurd h (by omega)
theorem dfl1 : ∀ k, k < 7 → defaultValue (fty 1 k) = sv (fk 1 k) 0 0 .null
  | 0, _ => rfl
  | 1, _ => rfl
  | 2, _ => rfl
  | 3, _ => rfl
  | 4, _ => rfl
  | 5, _ => rfl
  | 6, _ => rfl
  | k + 7, h => absurd h (by omega)
theorem dfl2 : ∀ k, k < 14 → defaultValue (fty 2 k) = sv (fk 2 k) 0 0 .null
  | 0, _ => rfl
  | 1, _ => rfl
  | 2, _ => rfl
  | 3, _ => rfl
  | 4, _ => rfl
  | 5, _ => rfl
  | 6, _ => rfl
  | 7, _ => rfl
  | 8, _ => rfl
  | 9, _ => rfl
  | 10, _ => rfl
  | 11, _ => rfl
  | 12, _ => rfl
  | 13, _ => rfl
  | k + 14, h => absurd h (by omega)
theorem dfl3 : ∀ k, k < 6 → defaultValue (fty 3 k) = sv (fk 3 k) 0 0 .null
  | 0, _ => rfl
  | 1, _ => rfl
  | 2, _ => rfl
  | 3, _ => rfl
  | 4, _ => rfl
  | 5, _ => rfl
  | k + 6, h => absurd h (by omega)
theorem dfl4 : ∀ k, k < 12 → defaultValue (fty 4 k) = sv (fk 4 k) 0 0 .null
  | 0, _ => rfl
  | 1, _ => rfl
  | 2, _ => rfl
  | 3, _ => rfl
  | 4, _ => rfl
  | 5, _ => rfl
  | 6, _ => rfl
  | 7, _ => rfl
  | 8, _ => rfl
  | 9, _ => rfl
  | 10, _ => rfl
  | 11, _ => rfl
  | k + 12, h => absurd h (by omega)
theorem dfl_all {c : Nat} {r : vw_C} (hr : vwCl[c]? = some r) : ∀ k, k < r.2.2 → defaultValue (fty c k) = sv (fk c k) 0 0 .null := by
  match c, hr with
  | 0, hr => cases hr; exact dfl0
  | 1, hr => cases hr; exact dfl1
  | 2, hr => cases hr; exact dfl2
  | 3, hr => cases hr; exact dfl3
  | 4, hr => cases hr; exact dfl4
  | c + 5, hr => simp [vwCl] at hr
section ALLOC
variable {G : GG} {y : YY} {Z : ZT} {Q : RT → Sg → Prop} {pc : Nat} {ls ls' : List (Nat × Value)} {st rest : List Value} {σ : Sg} {K : Nat → Option (Nat × Nat)} {R : Nat → Nat → Value} {I : Nat → Nat → Int32} {J : Nat → Nat → Int64} {z cu su : Nat}
/-- one more cell -/
theorem WD_new {s : State} {H H1 : Heap} {kd : Nat × Nat} (hG : GOk G) (hz : z < 1000) (V : WD G (K, R, I, J, z) s H) (hc : vce G.2.1 s kd (G.1 z) (fun k => sv (fk kd.1 k) 0 0 .null) H1) (z1 : H1.size = H.size + 1) (o1 : ∀ q, q < H.size → H1[q]? = H[q]?) :
    WD G (upK K z kd, zr R z .null, zr I z 0, zr J z 0, z + 1) s H1 := by
  refine ⟨fun o kq ho => ?_, by rw [z1, V.2]; exact Nat.add_assoc _ _ _⟩
  by_cases e : o = z
  · subst e
    have : kq = kd := by simp [upK] at ho; exact ho.symm
    subst this
    have h2 : cV (upK K o kq, zr R o .null, zr I o 0, zr J o 0, o + 1) o kq = fun k => sv (fk kq.1 k) 0 0 .null := by funext k; simp [cV, zr]
    rw [h2]; exact hc
  · have h1 : K o = some kq := by simpa [upK, e] using ho
    have h2 : cV (upK K z kd, zr R z .null, zr I z 0, zr J z 0, z + 1) o kq = cV (K, R, I, J, z) o kq := by funext k; simp [cV, zr, e]
    rw [h2]
    have h3 := V.1 o kq h1
    exact vce_kept h3 (o1 _ (vce_lt h3))
theorem va_S_new {s : State} {H H1 : Heap} {locs : List Loc} (S : va_S (Aof G) s.heap H locs) (z1 : H.size ≤ H1.size) (o1 : ∀ q, q < H.size → H1[q]? = H[q]?) : va_S (Aof G) s.heap H1 locs :=
  ⟨Nat.le_trans S.1 z1, fun x h1 h2 => (o1 x (Nat.lt_of_lt_of_le h1 S.1)).trans (S.2.1 x h1 h2), S.2.2⟩
theorem ad_z {s : State} {H : Heap} (hG : GOk G) (hz : z < 1000) (V : WD G (K, R, I, J, z) s H) : H.size = G.1 z := by rw [V.2, hG.1 z hz]
theorem aw_new {idx c : Nat} {r : vw_C} (hd : decode y.2.1 pc = .ok (.new idx, 3)) (hr : vwCl[c]? = some r) (h1 : Cond.classLink y.1.cls idx r.1 ∈ gT) (h2 : Cond.instantiable r.1 r.2.2 ∈ gT) (h3 : Cond.initialized r.1 ∈ gT) (hz : z < 1000) (hc : cu + 1 ≤ y.2.2.2.2.1.cells) (hs : su + r.2.2 ≤ y.2.2.2.2.1.slots)
    (kk : AW G y Z (pc + 3) ls (.ref (G.1 z) :: st) (upK K z (c, r.2.2), zr R z .null, zr I z 0, zr J z 0, z + 1) (cu + 1) (su + r.2.2)) : AW G y Z pc ls st (K, R, I, J, z) cu su := by
  intro p e s m args below meth c0 H locs lsa C V S L
  obtain ⟨hx, hb, hml, hret, hlk, hts, hown, hE, hnm, htb⟩ := id C
  have hc10 : c < 10 := by have := (List.getElem?_eq_some_iff.mp hr).1; simp [vwCl] at this; omega
  have hKn := hE.2.1.1 c _ hr
  refine W.newcK hx hb hown (hts _ h1) (hts _ h2) (hts _ h3) rfl hd hc hs hKn.2.1 (ad_z hE.1 hz V) fun H1 kC hkC e1 z1 o1 => ?_
  have o1' : ∀ q, q < H.size → H1[q]? = H[q]? := fun q hq => o1 q (by rw [← ad_z hE.1 hz V]; exact hq)
  have z1' : H1.size = H.size + 1 := by rw [z1, ad_z hE.1 hz V]
  exact kk p e s m args below meth c0 H1 locs lsa C (WD_new hE.1 hz V (Or.inl ⟨hc10, r, hr, rfl, (u_born (fty c) hts (cl_in c r hr) hKn hkC e1 (cl_ty hr)).to (dfl_all hr)⟩) z1' o1') (va_S_new S (by omega) o1') L
theorem aw_newa {atype : ArrayType} {t N : Nat} (hd : decode y.2.1 pc = .ok (.newarray atype, 2)) (ht : 10 ≤ t) (hty : newarray.typeOf atype = aty t) (h1 : Cond.arrayClass (newarray.typeOf atype) ∈ gT) (hN : N ≤ 5000) (hdv : ∀ k, defaultValue (aty t) = sv (fk t k) 0 0 .null) (hcb : componentBytes (newarray.typeOf atype) ≤ 8) (hra : ∀ (s : State) (cA : ClassId), s.vm.findClass ("[" ++ (newarray.typeOf atype).toString) = some cA → va_RA s cA (aty t)) (hz : z < 1000) (hc : cu + 1 ≤ y.2.2.2.2.1.cells) (hs : su + N ≤ y.2.2.2.2.1.slots)
    (kk : AW G y Z (pc + 2) ls (.ref (G.1 z) :: st) (upK K z (t, N), zr R z .null, zr I z 0, zr J z 0, z + 1) (cu + 1) (su + N)) : AW G y Z pc ls (.int (nI N) :: st) (K, R, I, J, z) cu su := by
  intro p e s m args below meth c0 H locs lsa C V S L
  obtain ⟨hx, hb, hml, hret, hlk, hts, hown, hE, hnm, htb⟩ := id C
  have hNl : N < 2 ^ 31 := by omega
  refine va_newaK hx hb (hts _ h1) rfl hd rfl (nI_pos hNl) (nI_clamp hNl) (by have := Nat.mul_le_mul hN hcb; omega) hc hs (ad_z hE.1 hz V) fun H1 cA e1 z1 o1 hAr hfc => ?_
  have o1' : ∀ q, q < H.size → H1[q]? = H[q]? := fun q hq => o1 q (by rw [← ad_z hE.1 hz V]; exact hq)
  have z1' : H1.size = H.size + 1 := by rw [z1, ad_z hE.1 hz V]
  refine kk p e s m args below meth c0 H1 locs lsa C (WD_new hE.1 hz V (Or.inr ⟨ht, cA, ?_, by rw [← hty]; exact hAr, hra s cA hfc⟩) z1' o1') (va_S_new S (by omega) o1') L
  rw [e1, hty]
  exact congrArg some (congrArg (arrV cA N) (funext fun k => hdv k))
theorem aw_newaI {N : Nat} (hd : decode y.2.1 pc = .ok (.newarray .int, 2)) (h1 : Cond.arrayClass .int ∈ gT) (hN : N ≤ 5000) (hz : z < 1000) (hc : cu + 1 ≤ y.2.2.2.2.1.cells) (hs : su + N ≤ y.2.2.2.2.1.slots)
    (kk : AW G y Z (pc + 2) ls (.ref (G.1 z) :: st) (upK K z (10, N), zr R z .null, zr I z 0, zr J z 0, z + 1) (cu + 1) (su + N)) : AW G y Z pc ls (.int (nI N) :: st) (K, R, I, J, z) cu su :=
  aw_newa (t := 10) hd (Nat.le_refl 10) rfl h1 hN (fun _ => rfl) (by decide) (fun s cA h => h) hz hc hs kk
theorem aw_newaL {N : Nat} (hd : decode y.2.1 pc = .ok (.newarray .long, 2)) (h1 : Cond.arrayClass .long ∈ gT) (hN : N ≤ 5000) (hz : z < 1000) (hc : cu + 1 ≤ y.2.2.2.2.1.cells) (hs : su + N ≤ y.2.2.2.2.1.slots)
    (kk : AW G y Z (pc + 2) ls (.ref (G.1 z) :: st) (upK K z (11, N), zr R z .null, zr I z 0, zr J z 0, z + 1) (cu + 1) (su + N)) : AW G y Z pc ls (.int (nI N) :: st) (K, R, I, J, z) cu su :=
  aw_newa (t := 11) hd (by decide) rfl h1 hN (fun _ => rfl) (by decide) (fun s cA h => h) hz hc hs kk
theorem aw_anew {idx t N : Nat} {C : String} (hd : decode y.2.1 pc = .ok (.anewarray idx, 3)) (ht : t = 12 ∧ C = RX1 ∨ t = 13 ∧ C = RX2) (h1 : Cond.classLink y.1.cls idx C ∈ gT) (h2 : Cond.arrayOver (.object C) ∈ gT) (hN : N ≤ 5000) (hz : z < 1000) (hc : cu + 1 ≤ y.2.2.2.2.1.cells) (hs : su + N ≤ y.2.2.2.2.1.slots)
    (kk : AW G y Z (pc + 3) ls (.ref (G.1 z) :: st) (upK K z (t, N), zr R z .null, zr I z 0, zr J z 0, z + 1) (cu + 1) (su + N)) : AW G y Z pc ls (.int (nI N) :: st) (K, R, I, J, z) cu su := by
  intro p e s m args below meth c0 H locs lsa C0 V S L
  obtain ⟨hx, hb, hml, hret, hlk, hts, hown, hE, hnm, htb⟩ := id C0
  have hNl : N < 2 ^ 31 := by omega
  have hcl := nI_clamp hNl
  have haty : aty t = .object C := by rcases ht with ⟨rfl, rfl⟩ | ⟨rfl, rfl⟩ <;> rfl
  refine W.anew hx hb hown (hts _ h1) (hts _ h2) rfl hd rfl (nI_pos hNl) (by rw [hcl]; omega) hc (by rw [hcl]; exact hs) fun cA kA comp f1 f2 f3 f4 => ?_
  rw [hcl]
  have e1 : (H.push ({ cls := cA, slots := Array.replicate N .null, vm := .none } : Cell))[G.1 z]? = some (arrV cA N (fun _ => .null)) := by rw [← ad_z hE.1 hz V, Array.getElem?_push_size, ← arrV_new]
  have o1 : ∀ q : Nat, q < H.size → (H.push ({ cls := cA, slots := Array.replicate N .null, vm := .none } : Cell))[q]? = H[q]? := fun q hq => by rw [Array.getElem?_push, if_neg (Nat.ne_of_lt hq)]
  have z1 : (H.push ({ cls := cA, slots := Array.replicate N .null, vm := .none } : Cell)).size = H.size + 1 := Array.size_push _
  rw [ad_z hE.1 hz V]
  refine kk p e s m args below meth c0 _ locs lsa C0 (WD_new hE.1 hz V (Or.inr ⟨by show 10 ≤ t; omega, cA, ?_, by rw [haty]; exact fun N z => ⟨(fun k h => by cases h), kA, f2, comp, f3⟩, by rw [haty]; exact ⟨kA, comp, f2, f3, f4, f1⟩⟩) z1 o1) (va_S_new S (by omega) o1) L
  rw [e1]
  refine congrArg some (congrArg (arrV cA N) (funext fun k => ?_))
  rcases ht with ⟨rfl, -⟩ | ⟨rfl, -⟩ <;> rfl
/-- new int[5][16] -/
theorem aw_multi {idx : Nat} (hd : decode y.2.1 pc = .ok (.multianewarray idx 2, 4)) (h1 : Cond.classLink y.1.cls idx ("[" ++ (FieldType.array .int).toString) ∈ gT) (h2 : Cond.arrayOver (.array .int) ∈ gT) (h3 : Cond.arrayClass .int ∈ gT) (hz : z + 6 ≤ 1000) (hc : cu + 6 ≤ y.2.2.2.2.1.cells) (hs : su + 85 ≤ y.2.2.2.2.1.slots)
    (kk : AW G y Z (pc + 4) ls (.ref (G.1 z) :: st) (fun q => if q = z then some (14, 5) else if z < q ∧ q ≤ z + 5 then some (10, 16) else K q, fun q k => if q = z then (if k < 5 then .ref (G.1 (z + 1 + k)) else .null) else if z < q ∧ q ≤ z + 5 then .null else R q k, fun q k => if z ≤ q ∧ q ≤ z + 5 then 0 else I q k, fun q k => if z ≤ q ∧ q ≤ z + 5 then 0 else J q k, z + 6) (cu + 6) (su + 85)) : AW G y Z pc ls (.int (nI 16) :: .int (nI 5) :: st) (K, R, I, J, z) cu su := by
  intro p e s m args below meth c0 H locs lsa C0 V S L T hT X
  obtain ⟨hx, hb, hml, hret, hlk, hts, hown, hE, hnm, htb⟩ := id C0
  obtain ⟨vm₁, cA, comp, -, fA, fC, hO, hI, X', step⟩ := X.multianewarray2F hx hown (hts _ h1) (hts _ h2) (hts _ h3) (g := F0 m pc lsa (.int (nI 16) :: .int (nI 5) :: st)) rfl (by rw [hb]; exact hd) rfl (by decide) (by decide) (by decide) (by decide) (by decide) rfl rfl hc hs
  rw [show (nI 5).toNatClampNeg = 5 from rfl, show (nI 16).toNatClampNeg = 16 from rfl] at X' step
  generalize hF : Jvm.Free.Multi.fill (T.setVm vm₁) cA comp 5 16 (defaultValue .int) 5 = F at X' step
  have hTh : (T.setVm vm₁).heap = H := hT
  obtain ⟨f1, f2, -, -⟩ := Jvm.Free.Multi.fill_facts (T.setVm vm₁) cA comp 5 16 (defaultValue .int) 5
  rw [hF, hTh] at f1 f2
  have hold : ∀ x : Nat, x < H.size → F.heap[x]? = H[x]? := fun x hx => by
    have := Jvm.Free.Multi.fill_old (T.setVm vm₁) cA comp 5 16 (defaultValue .int) (a := x) (by rw [hTh]; exact hx) 5
    rw [hF, hTh] at this
    exact this
  have hrow : ∀ j : Nat, j < 5 → F.heap[H.size + 1 + j]? = some (arrV comp 16 (fun _ => .int 0)) := fun j hj => by
    have := Jvm.Free.Multi.fill_inner (T.setVm vm₁) cA comp 5 16 (defaultValue .int) 5 j hj
    rw [hF, hTh] at this
    rw [this]
    exact congrArg some (arrV_new comp 16 (.int 0))
  rw [vr_outer] at f2
  have hzs := ad_z hE.1 (by omega : z < 1000) V
  have hG := hE.1
  have hAr : ArrOfT s cA (.array .int) := fun N9 z9 => by
    obtain ⟨-, k9, hk9, cm9, hkk9⟩ := (hO 0 0 0).1
    exact ⟨(fun q hq => by cases hq), k9, hk9, cm9, hkk9⟩
  have hAi : ArrOfT s comp .int := fun N9 z9 => by
    obtain ⟨-, k9, hk9, cm9, hkk9⟩ := (hI 0 (.int 0)).1
    exact ⟨(fun q hq => by cases hq), k9, hk9, cm9, hkk9⟩
  obtain ⟨t, a1, b1⟩ := kk p e s m args below meth c0 F.heap locs lsa C0 (by
    have hV : H.size = G.2.2.1 + z := V.2
    refine ⟨fun o kq ho => ?_, by show F.heap.size = G.2.2.1 + (z + 6); rw [f1, hV]; omega⟩
    by_cases e0 : o = z
    · subst e0
      simp only [if_true] at ho
      cases ho
      refine Or.inr ⟨show 10 ≤ 14 by decide, cA, ?_, hAr, fA⟩
      rw [← hzs, f2]
      refine congrArg some (congrArg (arrV cA 5) (funext fun k => ?_))
      simp only [cV, if_true]
      show va_rf _ = (if k < 5 then Value.ref (G.1 (o + 1 + k)) else .null)
      by_cases hk : k < 5
      · rw [if_pos hk, if_pos hk, hzs, hG.1 o (by omega), hG.1 (o + 1 + k) (by omega)]
        exact congrArg Value.ref (show G.2.2.1 + o + 1 + k = G.2.2.1 + (o + 1 + k) by omega)
      · rw [if_neg hk, if_neg hk]; rfl
    · simp only [if_neg e0] at ho
      by_cases e1 : z < o ∧ o ≤ z + 5
      · rw [if_pos e1] at ho
        cases ho
        refine Or.inr ⟨Nat.le_refl 10, comp, ?_, hAi, ?_⟩
        · have h5 : G.1 o = H.size + 1 + (o - z - 1) := by rw [hzs, hG.1 o (by omega), hG.1 z (by omega)]; omega
          rw [h5, hrow _ (by omega)]
          refine congrArg some (congrArg (arrV comp 16) (funext fun k => ?_))
          simp only [cV]
          rw [if_pos (show z ≤ o ∧ o ≤ z + 5 by omega)]
          rfl
        · exact fC
      · rw [if_neg e1] at ho
        have h2 : cV (fun q => if q = z then some (14, 5) else if z < q ∧ q ≤ z + 5 then some (10, 16) else K q, fun q k => if q = z then (if k < 5 then .ref (G.1 (z + 1 + k)) else .null) else if z < q ∧ q ≤ z + 5 then .null else R q k, fun q k => if z ≤ q ∧ q ≤ z + 5 then 0 else I q k, fun q k => if z ≤ q ∧ q ≤ z + 5 then 0 else J q k, z + 6) o kq = cV (K, R, I, J, z) o kq := by
          funext k
          have e2 : ¬ (z ≤ o ∧ o ≤ z + 5) := by omega
          simp only [cV, if_neg e0, if_neg e1, if_neg e2]
        rw [h2]
        have h3 := V.1 o kq ho
        exact vce_kept h3 (hold _ (vce_lt h3)))
    (va_S_new S (by omega) hold) L F rfl X'
  refine ⟨t, step t ?_, b1⟩
  rw [show T.heap.size = G.1 z by rw [hT]; exact hzs]
  exact a1
/-- a reference into an array of its class -/
theorem aw_aast {o t n i c nn q : Nat} {x : Int32} (hd : decode y.2.1 pc = .ok (.aastore, 1)) (hk : K o = some (t, n)) (ht : t = 12 ∧ c = 1 ∨ t = 13 ∧ c = 2) (ho : o < 1000) (hn : n < 2 ^ 31) (hi : x = nI i) (hlt : i < n) (hq : K q = some (c, nn)) (kk : AW G y Z (pc + 1) ls st (K, upR R o i (.ref (G.1 q)), I, J, z) cu su) : AW G y Z pc ls (.ref (G.1 q) :: .int x :: .ref (G.1 o) :: st) (K, R, I, J, z) cu su := by
  intro p e s m args below meth c0 H locs lsa C V S L
  have hE := C.2.2.2.2.2.2.2.1
  have ht10 : 10 ≤ t := by omega
  obtain ⟨cA, h1, h2, h3⟩ := vce_arr (V.1 o _ hk) ht10
  obtain ⟨r, hr, haty⟩ : ∃ r : vw_C, vwCl[c]? = some r ∧ aty t = .object r.1 := by
    rcases ht with ⟨rfl, rfl⟩ | ⟨rfl, rfl⟩
    · exact ⟨_, rfl, rfl⟩
    · exact ⟨_, rfl, rfl⟩
  obtain ⟨r', hr', -, cellV, g1, g2, g3, -⟩ := vce_obj (V.1 q _ hq) (by omega)
  cases Option.some.inj (hr.symm.trans hr')
  have hcls := (hE.2.1.1 c r hr).2
  rw [haty] at h3
  obtain ⟨kA, comp, k1, k2, k3, -⟩ := id h3
  have hcomp : comp = G.2.1.1 c := Option.some.inj (k3.symm.trans hcls.1)
  subst hcomp
  obtain ⟨kC, hkC, -⟩ := hcls.2
  have hfk : fk t i = 2 := by rcases ht with ⟨rfl, -⟩ | ⟨rfl, -⟩ <;> rfl
  refine W.aast C.1 C.2.1 h1 (fun q h => by cases h) (fun h => by cases h) k1 k2 rfl hkC ⟨by rw [hi]; exact nI_pos (Nat.lt_trans hlt hn), by rw [arrV_size, ix_cl hi hlt hn]; exact hlt⟩ g1 (fun q h => by rw [g3] at h; cases h) (by rw [g2]; exact hkC) (by rw [g2]; exact va_assign hcls) rfl rfl hd fun H1 e1 e2 e3 => ?_
  refine kk p e s m args below meth c0 H1 _ lsa C ?_ (S.put e2 e3 (Aof_new hE.1 ho)) L
  refine WD_upd hE.1 ho V rfl rfl hk (fun q kq h => cV_upR_ne h kq) (Or.inr ⟨ht10, cA, ?_, h2, by rw [haty]; exact h3⟩) e2 e3
  rw [e1, ix_cl hi hlt hn, arrV_store]
  exact congrArg some (congrArg (arrV cA n) (funext fun k => (cV_upR (kd := (t, n)) hfk k).symm))
/-- System.arraycopy from place 0 to place 0 of int arrays -/
def cpyI (I : Nat → Nat → Int32) (o1 o2 m : Nat) : Nat → Nat → Int32 := fun q k => if q = o2 ∧ k < m then I o1 k else I q k
theorem aw_copy {idx o1 o2 n1 n2 mm : Nat} (hd : decode y.2.1 pc = .ok (.invokestatic idx, 3)) (h1 : Cond.methodLink y.1.cls idx arraycopyName ∈ gT) (h2 : Cond.native arraycopyName ∈ gT) (h3 : Cond.static arraycopyName ∈ gT) (h4 : Cond.initialized "java/lang/System" ∈ gT) (hk1 : K o1 = some (10, n1)) (hk2 : K o2 = some (10, n2)) (ho : o2 < 1000) (hm : mm < 2 ^ 31) (hm1 : mm ≤ n1) (hm2 : mm ≤ n2)
    (hf : 1 ≤ y.2.2.2.2.1.frames) (hl : (st.map fun v => v.category).sum + (nativeFrameWords "java/lang/System" "arraycopy" 5 + 11) ≤ y.2.2.2.2.1.locals) (kk : AW G y Z (pc + 3) ls st (K, R, cpyI I o1 o2 mm, J, z) cu su) :
    AW G y Z pc ls (.int (nI mm) :: .int (nI 0) :: .ref (G.1 o2) :: .int (nI 0) :: .ref (G.1 o1) :: st) (K, R, I, J, z) cu su := by
  intro p e s m args below meth c0 H locs lsa C V S L T hT X
  obtain ⟨hx, hb, hml, hret, hlk, hts, hown, hE, hnm, htb⟩ := id C
  obtain ⟨c1, a1, a2, a3⟩ := vce_arr (V.1 o1 _ hk1) (Nat.le_refl 10)
  obtain ⟨c2, b1, b2, b3⟩ := vce_arr (V.1 o2 _ hk2) (Nat.le_refl 10)
  obtain ⟨-, k0, hk0, cm0, hkk0⟩ := a2 n1 (cV (K, R, I, J, z) o1 (10, n1))
  obtain ⟨-, k1, hk1', cm1, hkk1⟩ := b2 n2 (cV (K, R, I, J, z) o2 (10, n2))
  have hcm := nI_clamp hm
  have hc0 : (nI 0).toNatClampNeg = 0 := rfl
  have hti := nI_toInt hm
  have ht0 : (nI 0).toInt = 0 := rfl
  obtain ⟨vm', X', step⟩ := X.arraycopy hx hown (hts _ h1) (hts _ h2) (hts _ h3) (hts _ h4) (src := G.1 o1) (dst := G.1 o2) (cs := arrV c1 n1 (cV (K, R, I, J, z) o1 (10, n1))) (cd := arrV c2 n2 (cV (K, R, I, J, z) o2 (10, n2))) (srcPos := nI 0) (destPos := nI 0) (n := nI mm) (by rw [hT]; exact a1) (by rw [hT]; exact b1)
    (fun _ h => by cases h) (fun _ h => by cases h) (fun h => by cases h) (fun h => by cases h) hk0 hk1' hkk0 hkk1 (by simp [aty, refKind]) (by decide) (by decide) (nI_pos hm)
    (by rw [arrV_size, ht0, hti]; omega)
    (by rw [arrV_size, ht0, hti]; omega)
    (fun vm₁ _ i hi => by
      rw [hcm] at hi
      have e : (arrV c1 n1 (cV (K, R, I, J, z) o1 (10, n1))).slots.getD ((nI 0).toNatClampNeg + i) .null = .int (I o1 i) := by
        rw [hc0, Nat.zero_add, Array.getD_eq_getD_getElem?, arrV_read _ _ (by omega)]
        rfl
      refine ⟨?_, ?_⟩
      · rw [e]; rfl
      · rw [e]; exact trivial)
    (g := F0 m pc lsa (.int (nI mm) :: .int (nI 0) :: .ref (G.1 o2) :: .int (nI 0) :: .ref (G.1 o1) :: st)) rfl (by rw [hml]; exact L.1) (rest := st) rfl (by rw [hb]; exact hd) hf (by show 2 * 0 + _ + _ ≤ _; omega)
  have e1 : copied (arrV c1 n1 (cV (K, R, I, J, z) o1 (10, n1))) (arrV c2 n2 (cV (K, R, I, J, z) o2 (10, n2))) (nI 0) (nI 0) (nI mm) = arrV c2 n2 (cV (K, R, cpyI I o1 o2 mm, J, z) o2 (10, n2)) := by
    have h := va_copied (fun v : Value => v) c1 c2 (n0 := n1) (n1 := n2) (sp := 0) (dp := 0) (n := mm) (cV (K, R, I, J, z) o1 (10, n1)) (cV (K, R, I, J, z) o2 (10, n2)) (by omega)
    have h9 : copied (arrV c1 n1 (cV (K, R, I, J, z) o1 (10, n1))) (arrV c2 n2 (cV (K, R, I, J, z) o2 (10, n2))) (nI 0) (nI 0) (nI mm) = (arrV c2 n2 (cV (K, R, I, J, z) o2 (10, n2))).storeRun (nI 0).toNatClampNeg ((arrV c1 n1 (cV (K, R, I, J, z) o1 (10, n1))).stretch (nI 0).toNatClampNeg (nI mm).toNatClampNeg) := rfl
    rw [h9, hc0, hcm]
    refine h.trans (congrArg (arrV c2 n2) (funext fun k => ?_))
    simp only [va_cpy, cV, cpyI]
    by_cases hkm : k < mm
    · simp [hkm, fk, sv]
    · simp [hkm]
  rw [e1] at X' step
  have hlt : G.1 o2 < H.size := (Array.getElem?_eq_some_iff.mp b1).1
  generalize hcell : arrV c2 n2 (cV (K, R, cpyI I o1 o2 mm, J, z) o2 (10, n2)) = cell at X' step
  have hheap : ((T.setVm vm').setCell (G.1 o2) cell).heap = H.setIfInBounds (G.1 o2) cell := by rw [← hT]; rfl
  have oq : ∀ q : Nat, q ≠ G.1 o2 → (H.setIfInBounds (G.1 o2) cell)[q]? = H[q]? := fun q hq => by simp [Array.getElem?_setIfInBounds, Ne.symm hq]
  have hA := Aof_new hE.1 ho
  obtain ⟨t, a1', b1'⟩ := kk p e s m args below meth c0 _ _ lsa C
    (WD_upd (σ' := (K, R, cpyI I o1 o2 mm, J, z)) hE.1 ho V rfl rfl hk2 (fun q kq h => by funext k; simp [cV, cpyI, h]) (Or.inr ⟨Nat.le_refl 10, c2, by rw [hcell]; simp [Array.getElem?_setIfInBounds, hlt], b2, b3⟩) (by simp) oq)
    ⟨by simp; exact S.1, fun q g1 g2 => by
      rw [oq q (fun e => g2 (by rw [e]; exact hA))]
      exact S.2.1 q g1 g2, fun q hq => by
      rcases List.mem_append.mp hq with h | h
      · exact S.2.2 q h
      · obtain ⟨z9, -, hz9⟩ := List.mem_map.mp h
        rw [← hz9]
        exact hA⟩ L _ hheap X'
  exact ⟨t, step t a1', b1'⟩
end ALLOC
end
section
/-! THE METHODS: their records, and the links of their pools (by program) -/
abbrev YX0_init : YY := (yX0_init, cX0_init, 1, none, { frames := 1, cells := 1, slots := 60, locals := 20 }, [])
abbrev YX0_isFull : YY := (yX0_isFull, cX0_isFull, 1, (some .boolean), { frames := 0, cells := 0, slots := 0, locals := 0 }, [])
abbrev YX0_add : YY := (yX0_add, cX0_add, 2, (some .int), { frames := 1, cells := 0, slots := 0, locals := 20 }, [])
abbrev YX0_empty : YY := (yX0_empty, cX0_empty, 2, (some .int), { frames := 0, cells := 0, slots := 0, locals := 0 }, [])
abbrev YX0_firstWrong : YY := (yX0_firstWrong, cX0_firstWrong, 4, (some .int), { frames := 1, cells := 0, slots := 0, locals := 20 }, [])
abbrev YX0_isComplete : YY := (yX0_isComplete, cX0_isComplete, 1, (some .boolean), { frames := 2, cells := 0, slots := 0, locals := 43 }, [])
abbrev YX0_readInto : YY := (yX0_readInto, cX0_readInto, 4, (some .int), { frames := 1, cells := 0, slots := 0, locals := 23 }, [])
abbrev YX0_isDigit : YY := (yX0_isDigit, cX0_isDigit, 1, (some .boolean), { frames := 0, cells := 0, slots := 0, locals := 0 }, [])
abbrev YX1_init : YY := (yX1_init, cX1_init, 2, none, { frames := 2, cells := 16, slots := 230, locals := 40 }, [])
abbrev YX1_copyFrom : YY := (yX1_copyFrom, cX1_copyFrom, 3, none, { frames := 2, cells := 0, slots := 0, locals := 47 }, [])
abbrev YX1_isFull : YY := (yX1_isFull, cX1_isFull, 1, (some .boolean), { frames := 0, cells := 0, slots := 0, locals := 0 }, [])
abbrev YX1_blocks : YY := (yX1_blocks, cX1_blocks, 2, (some .boolean), { frames := 2, cells := 0, slots := 0, locals := 44 }, [])
abbrev YX1_answerFor : YY := (yX1_answerFor, cX1_answerFor, 3, (some .int), { frames := 1, cells := 0, slots := 0, locals := 22 }, [])
abbrev YX1_trialOf : YY := (yX1_trialOf, cX1_trialOf, 3, (some .int), { frames := 0, cells := 0, slots := 0, locals := 0 }, [])
abbrev YX1_ring : YY := (yX1_ring, cX1_ring, 6, (some .int), { frames := 4, cells := 0, slots := 0, locals := 90 }, [])
abbrev YX1_sendOff : YY := (yX1_sendOff, cX1_sendOff, 4, none, { frames := 1, cells := 0, slots := 0, locals := 20 }, [])
abbrev YX1_ringOften : YY := (yX1_ringOften, cX1_ringOften, 7, (some .int), { frames := 5, cells := 0, slots := 0, locals := 115 }, [])
abbrev YX1_letPass : YY := (yX1_letPass, cX1_letPass, 4, (some .int), { frames := 5, cells := 0, slots := 0, locals := 114 }, [])
abbrev YX1_tick : YY := (yX1_tick, cX1_tick, 5, (some .int), { frames := 4, cells := 0, slots := 0, locals := 90 }, [])
abbrev YX1_moveCall : YY := (yX1_moveCall, cX1_moveCall, 4, none, { frames := 0, cells := 0, slots := 0, locals := 0 }, [])
abbrev YX1_settle : YY := (yX1_settle, cX1_settle, 6, none, { frames := 3, cells := 0, slots := 0, locals := 65 }, [])
abbrev YX1_isBad : YY := (yX1_isBad, cX1_isBad, 2, (some .boolean), { frames := 0, cells := 0, slots := 0, locals := 0 }, [])
abbrev YX1_settleTrial : YY := (yX1_settleTrial, cX1_settleTrial, 3, none, { frames := 2, cells := 0, slots := 0, locals := 42 }, [])
abbrev YX1_nextCut : YY := (yX1_nextCut, cX1_nextCut, 2, (some .int), { frames := 1, cells := 0, slots := 0, locals := 21 }, [])
abbrev YX1_settleInWindow : YY := (yX1_settleInWindow, cX1_settleInWindow, 4, none, { frames := 2, cells := 0, slots := 0, locals := 42 }, [])
abbrev YX1_closeByHand : YY := (yX1_closeByHand, cX1_closeByHand, 4, (some .int), { frames := 1, cells := 0, slots := 0, locals := 22 }, [])
abbrev YX1_ticksTillFree : YY := (yX1_ticksTillFree, cX1_ticksTillFree, 5, (some .int), { frames := 2, cells := 0, slots := 0, locals := 42 }, [])
abbrev YX1_healthiestStore : YY := (yX1_healthiestStore, cX1_healthiestStore, 3, (some .int), { frames := 3, cells := 0, slots := 0, locals := 65 }, [])
abbrev YX1_isHealthier : YY := (yX1_isHealthier, cX1_isHealthier, 5, (some .boolean), { frames := 2, cells := 0, slots := 0, locals := 41 }, [])
abbrev YX1_closedBreakers : YY := (yX1_closedBreakers, cX1_closedBreakers, 3, (some .int), { frames := 0, cells := 0, slots := 0, locals := 0 }, [])
abbrev YX1_numberOf : YY := (yX1_numberOf, cX1_numberOf, 4, (some .int), { frames := 2, cells := 0, slots := 0, locals := 42 }, [])
abbrev YX1_sumOf : YY := (yX1_sumOf, cX1_sumOf, 4, (some .int), { frames := 3, cells := 0, slots := 0, locals := 65 }, [])
abbrev YX1_goodShare : YY := (yX1_goodShare, cX1_goodShare, 2, (some .double), { frames := 4, cells := 0, slots := 0, locals := 88 }, [])
abbrev YX2_init : YY := (yX2_init, cX2_init, 1, none, { frames := 1, cells := 1, slots := 20, locals := 20 }, [])
abbrev YX2_copyFrom : YY := (yX2_copyFrom, cX2_copyFrom, 2, none, { frames := 1, cells := 0, slots := 0, locals := 26 }, [])
abbrev YX2_takeRow : YY := (yX2_takeRow, cX2_takeRow, 3, (some .int), { frames := 2, cells := 0, slots := 0, locals := 46 }, [])
abbrev YX2_takeDelay : YY := (yX2_takeDelay, cX2_takeDelay, 2, (some .int), { frames := 1, cells := 0, slots := 0, locals := 20 }, [])
abbrev YX2_nextPlace : YY := (yX2_nextPlace, cX2_nextPlace, 1, (some .int), { frames := 0, cells := 0, slots := 0, locals := 0 }, [])
abbrev YX2_windowSize : YY := (yX2_windowSize, cX2_windowSize, 2, (some .int), { frames := 1, cells := 0, slots := 0, locals := 21 }, [])
abbrev YX2_badInWindow : YY := (yX2_badInWindow, cX2_badInWindow, 2, (some .int), { frames := 1, cells := 0, slots := 0, locals := 20 }, [])
abbrev YX2_noteOutcome : YY := (yX2_noteOutcome, cX2_noteOutcome, 2, none, { frames := 1, cells := 0, slots := 0, locals := 21 }, [])
abbrev YX2_shut : YY := (yX2_shut, cX2_shut, 1, none, { frames := 0, cells := 0, slots := 0, locals := 0 }, [])
abbrev YX2_cutOff : YY := (yX2_cutOff, cX2_cutOff, 2, none, { frames := 0, cells := 0, slots := 0, locals := 0 }, [])
abbrev YX2_waitATick : YY := (yX2_waitATick, cX2_waitATick, 1, none, { frames := 0, cells := 0, slots := 0, locals := 0 }, [])
abbrev YX3_init : YY := (yX3_init, cX3_init, 2, none, { frames := 3, cells := 138, slots := 1964, locals := 61 }, [])
abbrev YX3_call : YY := (yX3_call, cX3_call, 2, (some .int), { frames := 7, cells := 2, slots := 12, locals := 115 }, [])
abbrev YX3_callOften : YY := (yX3_callOften, cX3_callOften, 4, (some .int), { frames := 7, cells := 3, slots := 18, locals := 141 }, [])
abbrev YX3_callHealthiest : YY := (yX3_callHealthiest, cX3_callHealthiest, 2, (some .int), { frames := 6, cells := 1, slots := 6, locals := 115 }, [])
abbrev YX3_close : YY := (yX3_close, cX3_close, 2, (some .int), { frames := 7, cells := 1, slots := 6, locals := 110 }, [])
abbrev YX3_set : YY := (yX3_set, cX3_set, 4, (some .int), { frames := 7, cells := 2, slots := 12, locals := 112 }, [])
abbrev YX3_pass : YY := (yX3_pass, cX3_pass, 2, (some .int), { frames := 7, cells := 1, slots := 6, locals := 137 }, [])
abbrev YX3_append : YY := (yX3_append, cX3_append, 2, (some .int), { frames := 7, cells := 2, slots := 12, locals := 112 }, [])
abbrev YX3_clearBuffer : YY := (yX3_clearBuffer, cX3_clearBuffer, 1, (some .int), { frames := 1, cells := 0, slots := 0, locals := 21 }, [])
abbrev YX3_firstError : YY := (yX3_firstError, cX3_firstError, 1, (some .int), { frames := 2, cells := 0, slots := 0, locals := 43 }, [])
abbrev YX3_delays : YY := (yX3_delays, cX3_delays, 3, (some .int), { frames := 7, cells := 2, slots := 12, locals := 110 }, [])
abbrev YX3_undo : YY := (yX3_undo, cX3_undo, 1, (some .int), { frames := 6, cells := 1, slots := 6, locals := 90 }, [])
abbrev YX3_store : YY := (yX3_store, cX3_store, 3, (some .int), { frames := 7, cells := 2, slots := 12, locals := 112 }, [])
abbrev YX3_delay : YY := (yX3_delay, cX3_delay, 4, (some .int), { frames := 7, cells := 2, slots := 12, locals := 110 }, [])
abbrev YX3_onWay : YY := (yX3_onWay, cX3_onWay, 3, (some .int), { frames := 7, cells := 2, slots := 12, locals := 112 }, [])
abbrev YX3_count : YY := (yX3_count, cX3_count, 2, (some .int), { frames := 7, cells := 1, slots := 6, locals := 112 }, [])
abbrev YX3_setting : YY := (yX3_setting, cX3_setting, 2, (some .int), { frames := 7, cells := 1, slots := 6, locals := 110 }, [])
abbrev YX3_ifCalled : YY := (yX3_ifCalled, cX3_ifCalled, 5, (some .int), { frames := 7, cells := 4, slots := 24, locals := 164 }, [])
abbrev YX3_freeIn : YY := (yX3_freeIn, cX3_freeIn, 2, (some .int), { frames := 7, cells := 1, slots := 6, locals := 110 }, [])
abbrev YX3_healthiest : YY := (yX3_healthiest, cX3_healthiest, 1, (some .int), { frames := 4, cells := 0, slots := 0, locals := 87 }, [])
abbrev YX3_health : YY := (yX3_health, cX3_health, 1, (some .double), { frames := 5, cells := 0, slots := 0, locals := 109 }, [])
abbrev YX3_digest : YY := (yX3_digest, cX3_digest, 5, (some .long), { frames := 7, cells := 0, slots := 0, locals := 164 }, [])
abbrev YX3_mixStore : YY := (yX3_mixStore, cX3_mixStore, 8, (some .long), { frames := 5, cells := 0, slots := 0, locals := 112 }, [])
abbrev YX3_mix : YY := (yX3_mix, cX3_mix, 4, (some .long), { frames := 0, cells := 0, slots := 0, locals := 0 }, [])
abbrev YX3_bitsOfShare : YY := (yX3_bitsOfShare, cX3_bitsOfShare, 8, (some .long), { frames := 0, cells := 0, slots := 0, locals := 0 }, [])
abbrev YX3_counted : YY := (yX3_counted, cX3_counted, 2, (some .int), { frames := 4, cells := 0, slots := 0, locals := 88 }, [])
abbrev YX3_foresee : YY := (yX3_foresee, cX3_foresee, 4, none, { frames := 6, cells := 0, slots := 0, locals := 141 }, [])
abbrev YX3_foreseen : YY := (yX3_foreseen, cX3_foreseen, 5, (some .int), { frames := 4, cells := 0, slots := 0, locals := 88 }, [])
abbrev YX3_save : YY := (yX3_save, cX3_save, 1, none, { frames := 3, cells := 0, slots := 0, locals := 69 }, [])
abbrev YX3_requireStore : YY := (yX3_requireStore, cX3_requireStore, 1, none, { frames := 6, cells := 1, slots := 6, locals := 90 }, [])
abbrev YX3_requireSetting : YY := (yX3_requireSetting, cX3_requireSetting, 1, none, { frames := 6, cells := 1, slots := 6, locals := 90 }, [])
abbrev YX3_requireRange : YY := (yX3_requireRange, cX3_requireRange, 3, none, { frames := 6, cells := 1, slots := 6, locals := 90 }, [])
abbrev YX3_requireNotNegative : YY := (yX3_requireNotNegative, cX3_requireNotNegative, 1, none, { frames := 6, cells := 1, slots := 6, locals := 90 }, [])
abbrev YX4_init : YY := (yX4_init, cX4_init, 2, none, { frames := 1, cells := 5, slots := 1824, locals := 23 }, [])
abbrev YX4_thrown : YY := (yX4_thrown, cX4_thrown, 1, (some .int), { frames := 0, cells := 0, slots := 0, locals := 0 }, [])
abbrev YX4_in : YY := (yX4_in, cX4_in, 3, (some .boolean), { frames := 0, cells := 0, slots := 0, locals := 0 }, [])
abbrev YX4_fails : YY := (yX4_fails, cX4_fails, 2, (some .int), { frames := 0, cells := 0, slots := 0, locals := 0 }, [])
abbrev YX4_isStore : YY := (yX4_isStore, cX4_isStore, 1, (some .boolean), { frames := 1, cells := 0, slots := 0, locals := 22 }, [])
abbrev YX4_of : YY := (yX4_of, cX4_of, 3, (some .int), { frames := 0, cells := 0, slots := 0, locals := 0 }, [])
abbrev YX4_lay : YY := (yX4_lay, cX4_lay, 4, none, { frames := 0, cells := 0, slots := 0, locals := 0 }, [])
abbrev YX4_adds : YY := (yX4_adds, cX4_adds, 3, none, { frames := 0, cells := 0, slots := 0, locals := 0 }, [])
abbrev YX4_callOf : YY := (yX4_callOf, cX4_callOf, 3, (some .int), { frames := 0, cells := 0, slots := 0, locals := 0 }, [])
abbrev YX4_saves : YY := (yX4_saves, cX4_saves, 2, none, { frames := 0, cells := 0, slots := 0, locals := 0 }, [])
abbrev YX4_putAside : YY := (yX4_putAside, cX4_putAside, 2, none, { frames := 0, cells := 0, slots := 0, locals := 0 }, [])
abbrev YX4_takeBack : YY := (yX4_takeBack, cX4_takeBack, 2, none, { frames := 0, cells := 0, slots := 0, locals := 0 }, [])
abbrev YX4_inWindow : YY := (yX4_inWindow, cX4_inWindow, 3, (some .int), { frames := 1, cells := 0, slots := 0, locals := 22 }, [])
abbrev YX4_badInWindow : YY := (yX4_badInWindow, cX4_badInWindow, 4, (some .int), { frames := 2, cells := 0, slots := 0, locals := 44 }, [])
abbrev YX4_cutsOff : YY := (yX4_cutsOff, cX4_cutsOff, 3, none, { frames := 1, cells := 0, slots := 0, locals := 23 }, [])
abbrev YX4_closes : YY := (yX4_closes, cX4_closes, 2, none, { frames := 1, cells := 0, slots := 0, locals := 23 }, [])
abbrev YX4_comesOut : YY := (yX4_comesOut, cX4_comesOut, 7, none, { frames := 3, cells := 0, slots := 0, locals := 67 }, [])
abbrev YX4_hasTrial : YY := (yX4_hasTrial, cX4_hasTrial, 4, (some .boolean), { frames := 1, cells := 0, slots := 0, locals := 22 }, [])
abbrev YX4_isRefused : YY := (yX4_isRefused, cX4_isRefused, 2, (some .boolean), { frames := 2, cells := 0, slots := 0, locals := 45 }, [])
abbrev YX4_calls : YY := (yX4_calls, cX4_calls, 5, (some .int), { frames := 4, cells := 0, slots := 0, locals := 93 }, [])
abbrev YX4_drops : YY := (yX4_drops, cX4_drops, 3, none, { frames := 0, cells := 0, slots := 0, locals := 0 }, [])
abbrev YX4_tick : YY := (yX4_tick, cX4_tick, 7, (some .int), { frames := 4, cells := 0, slots := 0, locals := 93 }, [])
abbrev YX4_ticks : YY := (yX4_ticks, cX4_ticks, 4, (some .int), { frames := 5, cells := 0, slots := 0, locals := 119 }, [])
abbrev YX4_callsOften : YY := (yX4_callsOften, cX4_callsOften, 6, (some .int), { frames := 6, cells := 0, slots := 0, locals := 142 }, [])
abbrev YX4_call : YY := (yX4_call, cX4_call, 2, (some .int), { frames := 5, cells := 0, slots := 0, locals := 117 }, [])
abbrev YX4_callOften : YY := (yX4_callOften, cX4_callOften, 4, (some .int), { frames := 7, cells := 0, slots := 0, locals := 167 }, [])
abbrev YX4_onWayOf : YY := (yX4_onWayOf, cX4_onWayOf, 4, (some .int), { frames := 1, cells := 0, slots := 0, locals := 22 }, [])
abbrev YX4_bestStore : YY := (yX4_bestStore, cX4_bestStore, 5, (some .int), { frames := 3, cells := 0, slots := 0, locals := 67 }, [])
abbrev YX4_callHealthiest : YY := (yX4_callHealthiest, cX4_callHealthiest, 2, (some .int), { frames := 5, cells := 0, slots := 0, locals := 117 }, [])
abbrev YX4_close : YY := (yX4_close, cX4_close, 4, (some .int), { frames := 2, cells := 0, slots := 0, locals := 44 }, [])
abbrev YX4_isSetting : YY := (yX4_isSetting, cX4_isSetting, 2, (some .boolean), { frames := 1, cells := 0, slots := 0, locals := 22 }, [])
abbrev YX4_set : YY := (yX4_set, cX4_set, 4, (some .int), { frames := 2, cells := 0, slots := 0, locals := 43 }, [])
abbrev YX4_pass : YY := (yX4_pass, cX4_pass, 2, (some .int), { frames := 6, cells := 0, slots := 0, locals := 142 }, [])
abbrev YX4_append : YY := (yX4_append, cX4_append, 2, (some .int), { frames := 1, cells := 0, slots := 0, locals := 22 }, [])
abbrev YX4_clearBuffer : YY := (yX4_clearBuffer, cX4_clearBuffer, 2, (some .int), { frames := 0, cells := 0, slots := 0, locals := 0 }, [])
abbrev YX4_sign : YY := (yX4_sign, cX4_sign, 1, (some .int), { frames := 0, cells := 0, slots := 0, locals := 0 }, [])
abbrev YX4_readsNumber : YY := (yX4_readsNumber, cX4_readsNumber, 2, none, { frames := 1, cells := 0, slots := 0, locals := 22 }, [])
abbrev YX4_readsAll : YY := (yX4_readsAll, cX4_readsAll, 1, none, { frames := 2, cells := 0, slots := 0, locals := 43 }, [])
abbrev YX4_firstError : YY := (yX4_firstError, cX4_firstError, 1, (some .int), { frames := 3, cells := 0, slots := 0, locals := 63 }, [])
abbrev YX4_delays : YY := (yX4_delays, cX4_delays, 4, (some .int), { frames := 3, cells := 0, slots := 0, locals := 63 }, [])
abbrev YX4_undo : YY := (yX4_undo, cX4_undo, 2, (some .int), { frames := 1, cells := 0, slots := 0, locals := 21 }, [])
abbrev YX4_tellsStore : YY := (yX4_tellsStore, cX4_tellsStore, 3, (some .int), { frames := 3, cells := 0, slots := 0, locals := 67 }, [])
abbrev YX4_store : YY := (yX4_store, cX4_store, 3, (some .int), { frames := 4, cells := 0, slots := 0, locals := 89 }, [])
abbrev YX4_delay : YY := (yX4_delay, cX4_delay, 3, (some .int), { frames := 2, cells := 0, slots := 0, locals := 42 }, [])
abbrev YX4_onWay : YY := (yX4_onWay, cX4_onWay, 3, (some .int), { frames := 1, cells := 0, slots := 0, locals := 22 }, [])
abbrev YX4_overStores : YY := (yX4_overStores, cX4_overStores, 4, (some .int), { frames := 1, cells := 0, slots := 0, locals := 22 }, [])
abbrev YX4_counts : YY := (yX4_counts, cX4_counts, 2, (some .int), { frames := 2, cells := 0, slots := 0, locals := 45 }, [])
abbrev YX4_count : YY := (yX4_count, cX4_count, 2, (some .int), { frames := 3, cells := 0, slots := 0, locals := 66 }, [])
abbrev YX4_setting : YY := (yX4_setting, cX4_setting, 2, (some .int), { frames := 1, cells := 0, slots := 0, locals := 22 }, [])
abbrev YX4_would : YY := (yX4_would, cX4_would, 9, (some .int), { frames := 7, cells := 0, slots := 0, locals := 167 }, [])
abbrev YX4_ifCalled : YY := (yX4_ifCalled, cX4_ifCalled, 5, (some .int), { frames := 8, cells := 0, slots := 0, locals := 195 }, [])
abbrev YX4_untilFree : YY := (yX4_untilFree, cX4_untilFree, 3, (some .int), { frames := 5, cells := 0, slots := 0, locals := 119 }, [])
abbrev YX4_freeIn : YY := (yX4_freeIn, cX4_freeIn, 2, (some .int), { frames := 6, cells := 0, slots := 0, locals := 141 }, [])
abbrev YX4_healthiest : YY := (yX4_healthiest, cX4_healthiest, 1, (some .int), { frames := 4, cells := 0, slots := 0, locals := 91 }, [])
abbrev YX4_share : YY := (yX4_share, cX4_share, 2, (some .double), { frames := 0, cells := 0, slots := 0, locals := 0 }, [])
abbrev YX4_health : YY := (yX4_health, cX4_health, 1, (some .double), { frames := 1, cells := 0, slots := 0, locals := 21 }, [])
abbrev YX4_hashes : YY := (yX4_hashes, cX4_hashes, 3, none, { frames := 0, cells := 0, slots := 0, locals := 0 }, [])
abbrev YX4_digest : YY := (yX4_digest, cX4_digest, 3, (some .long), { frames := 8, cells := 0, slots := 0, locals := 195 }, [])
abbrev YJxe99ae_isNaN_b9ae7 : YY := (yJxe99ae_isNaN_b9ae7, cJxe99ae_isNaN_b9ae7, 2, (some .boolean), { frames := 0, cells := 0, slots := 0, locals := 0 }, [])
abbrev YJxe99ae_doubleToLongBits_ccdee : YY := (yJxe99ae_doubleToLongBits_ccdee, cJxe99ae_doubleToLongBits_ccdee, 2, (some .long), { frames := 1, cells := 0, slots := 0, locals := 26 }, [])
abbrev YJ6_bitCount_0f7a4 : YY := (yJ6_bitCount_0f7a4, cJ6_bitCount_0f7a4, 1, (some .int), { frames := 0, cells := 0, slots := 0, locals := 0 }, [])
abbrev YJ9_min_7cf53 : YY := (yJ9_min_7cf53, cJ9_min_7cf53, 2, (some .int), { frames := 0, cells := 0, slots := 0, locals := 0 }, [])
abbrev YJ7_fill_53178 : YY := (yJ7_fill_53178, cJ7_fill_53178, 4, none, { frames := 0, cells := 0, slots := 0, locals := 0 }, [])
abbrev YL_call : YY := (yL_call, cL_call, 4, (some .int), { frames := 8, cells := 2, slots := 12, locals := 136 }, [(0, 9, 12, 13), (0, 9, 15, 15)])
abbrev YL_callOften : YY := (yL_callOften, cL_callOften, 6, (some .int), { frames := 8, cells := 3, slots := 18, locals := 164 }, [(0, 12, 15, 13), (0, 12, 19, 21)])
abbrev YL_callHealthiest : YY := (yL_callHealthiest, cL_callHealthiest, 3, (some .int), { frames := 7, cells := 1, slots := 6, locals := 136 }, [(0, 8, 11, 15)])
abbrev YL_close : YY := (yL_close, cL_close, 4, (some .int), { frames := 8, cells := 1, slots := 6, locals := 131 }, [(0, 9, 12, 13)])
abbrev YL_set : YY := (yL_set, cL_set, 5, (some .int), { frames := 8, cells := 2, slots := 12, locals := 135 }, [(0, 10, 13, 13), (0, 10, 17, 21)])
abbrev YL_pass : YY := (yL_pass, cL_pass, 4, (some .int), { frames := 8, cells := 1, slots := 6, locals := 158 }, [(0, 9, 12, 21)])
abbrev YL_append : YY := (yL_append, cL_append, 4, (some .int), { frames := 8, cells := 2, slots := 12, locals := 133 }, [(0, 9, 12, 21), (0, 9, 15, 15)])
abbrev YL_delays : YY := (yL_delays, cL_delays, 4, (some .int), { frames := 8, cells := 2, slots := 12, locals := 132 }, [(0, 9, 12, 13), (0, 9, 15, 21)])
abbrev YL_undo : YY := (yL_undo, cL_undo, 3, (some .int), { frames := 7, cells := 1, slots := 6, locals := 110 }, [(0, 8, 11, 15)])
abbrev YL_store : YY := (yL_store, cL_store, 5, (some .int), { frames := 8, cells := 2, slots := 12, locals := 134 }, [(0, 10, 13, 13), (0, 10, 17, 21)])
abbrev YL_delay : YY := (yL_delay, cL_delay, 5, (some .int), { frames := 8, cells := 2, slots := 12, locals := 133 }, [(0, 10, 13, 13), (0, 10, 17, 21)])
abbrev YL_onWay : YY := (yL_onWay, cL_onWay, 5, (some .int), { frames := 8, cells := 2, slots := 12, locals := 134 }, [(0, 10, 13, 21)])
abbrev YL_count : YY := (yL_count, cL_count, 4, (some .int), { frames := 8, cells := 1, slots := 6, locals := 133 }, [(0, 9, 12, 21)])
abbrev YL_setting : YY := (yL_setting, cL_setting, 4, (some .int), { frames := 8, cells := 1, slots := 6, locals := 131 }, [(0, 9, 12, 13)])
abbrev YL_ifCalled : YY := (yL_ifCalled, cL_ifCalled, 7, (some .int), { frames := 8, cells := 4, slots := 24, locals := 188 }, [(0, 14, 17, 13), (0, 14, 21, 21)])
abbrev YL_freeIn : YY := (yL_freeIn, cL_freeIn, 4, (some .int), { frames := 8, cells := 1, slots := 6, locals := 131 }, [(0, 9, 12, 13)])
theorem flX3_10 : FL RX3 10 3 0 := ⟨_, rfl, by decide, gT_ix 189 (by decide +kernel) rfl⟩
theorem flX3_16 : FL RX3 16 3 1 := ⟨_, rfl, by decide, gT_ix 190 (by decide +kernel) rfl⟩
theorem flX3_19 : FL RX3 19 3 2 := ⟨_, rfl, by decide, gT_ix 191 (by decide +kernel) rfl⟩
theorem flX3_26 : FL RX3 26 3 5 := ⟨_, rfl, by decide, gT_ix 194 (by decide +kernel) rfl⟩
theorem flX3_81 : FL RX3 81 1 1 := ⟨_, rfl, by decide, gT_ix 147 (by decide +kernel) rfl⟩
theorem flX3_107 : FL RX3 107 1 0 := ⟨_, rfl, by decide, gT_ix 145 (by decide +kernel) rfl⟩
theorem flX3_117 : FL RX3 117 3 4 := ⟨_, rfl, by decide, gT_ix 193 (by decide +kernel) rfl⟩
theorem flX3_123 : FL RX3 123 3 3 := ⟨_, rfl, by decide, gT_ix 192 (by decide +kernel) rfl⟩
theorem flX3_137 : FL RX3 137 2 1 := ⟨_, rfl, by decide, gT_ix 83 (by decide +kernel) rfl⟩
theorem flX3_140 : FL RX3 140 2 0 := ⟨_, rfl, by decide, gT_ix 80 (by decide +kernel) rfl⟩
theorem flX3_143 : FL RX3 143 1 3 := ⟨_, rfl, by decide, gT_ix 151 (by decide +kernel) rfl⟩
theorem flX3_146 : FL RX3 146 1 2 := ⟨_, rfl, by decide, gT_ix 149 (by decide +kernel) rfl⟩
theorem flX3_180 : FL RX3 180 0 1 := ⟨_, rfl, by decide, gT_ix 183 (by decide +kernel) rfl⟩
theorem flX3_183 : FL RX3 183 0 0 := ⟨_, rfl, by decide, gT_ix 181 (by decide +kernel) rfl⟩
theorem flX3_194 : FL RX3 194 1 4 := ⟨_, rfl, by decide, gT_ix 153 (by decide +kernel) rfl⟩
theorem flX3_200 : FL RX3 200 1 5 := ⟨_, rfl, by decide, gT_ix 155 (by decide +kernel) rfl⟩
theorem flX3_206 : FL RX3 206 1 6 := ⟨_, rfl, by decide, gT_ix 157 (by decide +kernel) rfl⟩
theorem flX3_209 : FL RX3 209 2 9 := ⟨_, rfl, by decide, gT_ix 99 (by decide +kernel) rfl⟩
theorem flX3_212 : FL RX3 212 2 10 := ⟨_, rfl, by decide, gT_ix 102 (by decide +kernel) rfl⟩
theorem flX3_215 : FL RX3 215 2 3 := ⟨_, rfl, by decide, gT_ix 87 (by decide +kernel) rfl⟩
theorem flX0_11 : FL RX0 11 0 0 := ⟨_, rfl, by decide, gT_ix 180 (by decide +kernel) rfl⟩
theorem flX0_15 : FL RX0 15 0 1 := ⟨_, rfl, by decide, gT_ix 182 (by decide +kernel) rfl⟩
theorem flX1_11 : FL RX1 11 1 0 := ⟨_, rfl, by decide, gT_ix 144 (by decide +kernel) rfl⟩
theorem flX1_17 : FL RX1 17 1 1 := ⟨_, rfl, by decide, gT_ix 146 (by decide +kernel) rfl⟩
theorem flX1_23 : FL RX1 23 1 2 := ⟨_, rfl, by decide, gT_ix 148 (by decide +kernel) rfl⟩
theorem flX1_40 : FL RX1 40 1 3 := ⟨_, rfl, by decide, gT_ix 150 (by decide +kernel) rfl⟩
theorem flX1_44 : FL RX1 44 1 4 := ⟨_, rfl, by decide, gT_ix 152 (by decide +kernel) rfl⟩
theorem flX1_47 : FL RX1 47 1 5 := ⟨_, rfl, by decide, gT_ix 154 (by decide +kernel) rfl⟩
theorem flX1_50 : FL RX1 50 1 6 := ⟨_, rfl, by decide, gT_ix 156 (by decide +kernel) rfl⟩
theorem flX1_61 : FL RX1 61 2 3 := ⟨_, rfl, by decide, gT_ix 86 (by decide +kernel) rfl⟩
theorem flX1_67 : FL RX1 67 2 10 := ⟨_, rfl, by decide, gT_ix 101 (by decide +kernel) rfl⟩
theorem flX1_70 : FL RX1 70 2 9 := ⟨_, rfl, by decide, gT_ix 98 (by decide +kernel) rfl⟩
theorem flX1_77 : FL RX1 77 2 6 := ⟨_, rfl, by decide, gT_ix 93 (by decide +kernel) rfl⟩
theorem flX1_88 : FL RX1 88 2 12 := ⟨_, rfl, by decide, gT_ix 106 (by decide +kernel) rfl⟩
theorem flX1_111 : FL RX1 111 2 11 := ⟨_, rfl, by decide, gT_ix 104 (by decide +kernel) rfl⟩
theorem flX1_132 : FL RX1 132 2 5 := ⟨_, rfl, by decide, gT_ix 91 (by decide +kernel) rfl⟩
theorem flX1_145 : FL RX1 145 2 8 := ⟨_, rfl, by decide, gT_ix 96 (by decide +kernel) rfl⟩
theorem flX1_151 : FL RX1 151 2 4 := ⟨_, rfl, by decide, gT_ix 89 (by decide +kernel) rfl⟩
theorem flX1_161 : FL RX1 161 2 13 := ⟨_, rfl, by decide, gT_ix 108 (by decide +kernel) rfl⟩
theorem flX1_164 : FL RX1 164 2 0 := ⟨_, rfl, by decide, gT_ix 81 (by decide +kernel) rfl⟩
theorem flX2_9 : FL RX2 9 2 0 := ⟨_, rfl, by decide, gT_ix 79 (by decide +kernel) rfl⟩
theorem flX2_15 : FL RX2 15 2 1 := ⟨_, rfl, by decide, gT_ix 82 (by decide +kernel) rfl⟩
theorem flX2_19 : FL RX2 19 2 3 := ⟨_, rfl, by decide, gT_ix 85 (by decide +kernel) rfl⟩
theorem flX2_28 : FL RX2 28 2 2 := ⟨_, rfl, by decide, gT_ix 84 (by decide +kernel) rfl⟩
theorem flX2_31 : FL RX2 31 2 4 := ⟨_, rfl, by decide, gT_ix 88 (by decide +kernel) rfl⟩
theorem flX2_34 : FL RX2 34 2 5 := ⟨_, rfl, by decide, gT_ix 90 (by decide +kernel) rfl⟩
theorem flX2_37 : FL RX2 37 2 6 := ⟨_, rfl, by decide, gT_ix 92 (by decide +kernel) rfl⟩
theorem flX2_40 : FL RX2 40 2 7 := ⟨_, rfl, by decide, gT_ix 94 (by decide +kernel) rfl⟩
theorem flX2_43 : FL RX2 43 2 8 := ⟨_, rfl, by decide, gT_ix 95 (by decide +kernel) rfl⟩
theorem flX2_46 : FL RX2 46 2 9 := ⟨_, rfl, by decide, gT_ix 97 (by decide +kernel) rfl⟩
theorem flX2_49 : FL RX2 49 2 10 := ⟨_, rfl, by decide, gT_ix 100 (by decide +kernel) rfl⟩
theorem flX2_52 : FL RX2 52 2 11 := ⟨_, rfl, by decide, gT_ix 103 (by decide +kernel) rfl⟩
theorem flX2_55 : FL RX2 55 2 12 := ⟨_, rfl, by decide, gT_ix 105 (by decide +kernel) rfl⟩
theorem flX2_58 : FL RX2 58 2 13 := ⟨_, rfl, by decide, gT_ix 107 (by decide +kernel) rfl⟩
theorem flX4_7 : FL RX4 7 4 1 := ⟨_, rfl, by decide, gT_ix 693 (by decide +kernel) rfl⟩
theorem flX4_13 : FL RX4 13 4 2 := ⟨_, rfl, by decide, gT_ix 694 (by decide +kernel) rfl⟩
theorem flX4_16 : FL RX4 16 4 3 := ⟨_, rfl, by decide, gT_ix 695 (by decide +kernel) rfl⟩
theorem flX4_19 : FL RX4 19 4 5 := ⟨_, rfl, by decide, gT_ix 697 (by decide +kernel) rfl⟩
theorem flX4_22 : FL RX4 22 4 9 := ⟨_, rfl, by decide, gT_ix 701 (by decide +kernel) rfl⟩
theorem flX4_25 : FL RX4 25 4 0 := ⟨_, rfl, by decide, gT_ix 692 (by decide +kernel) rfl⟩
theorem flX4_37 : FL RX4 37 4 4 := ⟨_, rfl, by decide, gT_ix 696 (by decide +kernel) rfl⟩
theorem flX4_113 : FL RX4 113 4 6 := ⟨_, rfl, by decide, gT_ix 698 (by decide +kernel) rfl⟩
theorem flX4_116 : FL RX4 116 4 7 := ⟨_, rfl, by decide, gT_ix 699 (by decide +kernel) rfl⟩
theorem flX4_122 : FL RX4 122 4 8 := ⟨_, rfl, by decide, gT_ix 700 (by decide +kernel) rfl⟩
theorem flX4_126 : FL RX4 126 4 10 := ⟨_, rfl, by decide, gT_ix 702 (by decide +kernel) rfl⟩
theorem flX4_163 : FL RX4 163 4 11 := ⟨_, rfl, by decide, gT_ix 703 (by decide +kernel) rfl⟩
theorem cvX0_19 : CV RX0 19 YX0_isFull 0 := ⟨gT_ix 595 (by decide +kernel) rfl, gT_ix 587 (by decide +kernel) rfl, gT_ix 588 (by decide +kernel) rfl, gT_ix 43 (by decide +kernel) rfl, gT_ix 589 (by decide +kernel) rfl, by decide +kernel, by decide +kernel, by decide +kernel⟩
theorem cvX0_23 : CS RX0 23 YX0_isDigit 1 := ⟨gT_ix 224 (by decide +kernel) rfl, gT_ix 225 (by decide +kernel) rfl, gT_ix 43 (by decide +kernel) rfl, gT_ix 226 (by decide +kernel) rfl, by decide +kernel, by decide +kernel, by decide +kernel⟩
theorem cvX0_27 : CV RX0 27 YX0_firstWrong 0 := ⟨gT_ix 607 (by decide +kernel) rfl, gT_ix 221 (by decide +kernel) rfl, gT_ix 222 (by decide +kernel) rfl, gT_ix 43 (by decide +kernel) rfl, gT_ix 223 (by decide +kernel) rfl, by decide +kernel, by decide +kernel, by decide +kernel⟩
theorem cvX0_31 : CS RX0 31 YJ7_fill_53178 2 := ⟨gT_ix 617 (by decide +kernel) rfl, gT_ix 618 (by decide +kernel) rfl, gT_ix 54 (by decide +kernel) rfl, gT_ix 619 (by decide +kernel) rfl, by decide +kernel, by decide +kernel, by decide +kernel⟩
theorem cvX0_37 : CS RX0 37 YJ9_min_7cf53 2 := ⟨gT_ix 620 (by decide +kernel) rfl, gT_ix 270 (by decide +kernel) rfl, gT_ix 50 (by decide +kernel) rfl, gT_ix 271 (by decide +kernel) rfl, by decide +kernel, by decide +kernel, by decide +kernel⟩
theorem cvX1_26 : CI RX1 26 YX2_init 0 := ⟨gT_ix 75 (by decide +kernel) rfl, gT_ix 76 (by decide +kernel) rfl, gT_ix 41 (by decide +kernel) rfl, gT_ix 77 (by decide +kernel) rfl, ⟨by decide +kernel, by decide +kernel, by decide +kernel⟩, rfl, rfl⟩
theorem cvX1_36 : CV RX1 36 YX2_copyFrom 1 := ⟨gT_ix 302 (by decide +kernel) rfl, gT_ix 303 (by decide +kernel) rfl, gT_ix 304 (by decide +kernel) rfl, gT_ix 41 (by decide +kernel) rfl, gT_ix 305 (by decide +kernel) rfl, by decide +kernel, by decide +kernel, by decide +kernel⟩
theorem cvX1_53 : CV RX1 53 YX1_isFull 0 := ⟨gT_ix 315 (by decide +kernel) rfl, gT_ix 316 (by decide +kernel) rfl, gT_ix 317 (by decide +kernel) rfl, gT_ix 40 (by decide +kernel) rfl, gT_ix 318 (by decide +kernel) rfl, by decide +kernel, by decide +kernel, by decide +kernel⟩
theorem cvX1_57 : CV RX1 57 YX1_answerFor 1 := ⟨gT_ix 319 (by decide +kernel) rfl, gT_ix 320 (by decide +kernel) rfl, gT_ix 321 (by decide +kernel) rfl, gT_ix 40 (by decide +kernel) rfl, gT_ix 322 (by decide +kernel) rfl, by decide +kernel, by decide +kernel, by decide +kernel⟩
theorem cvX1_64 : CV RX1 64 YX1_trialOf 1 := ⟨gT_ix 323 (by decide +kernel) rfl, gT_ix 324 (by decide +kernel) rfl, gT_ix 325 (by decide +kernel) rfl, gT_ix 40 (by decide +kernel) rfl, gT_ix 326 (by decide +kernel) rfl, by decide +kernel, by decide +kernel, by decide +kernel⟩
theorem cvX1_73 : CV RX1 73 YX2_takeDelay 0 := ⟨gT_ix 331 (by decide +kernel) rfl, gT_ix 332 (by decide +kernel) rfl, gT_ix 333 (by decide +kernel) rfl, gT_ix 41 (by decide +kernel) rfl, gT_ix 334 (by decide +kernel) rfl, by decide +kernel, by decide +kernel, by decide +kernel⟩
theorem cvX1_80 : CV RX1 80 YX1_settle 4 := ⟨gT_ix 336 (by decide +kernel) rfl, gT_ix 337 (by decide +kernel) rfl, gT_ix 338 (by decide +kernel) rfl, gT_ix 40 (by decide +kernel) rfl, gT_ix 339 (by decide +kernel) rfl, by decide +kernel, by decide +kernel, by decide +kernel⟩
theorem cvX1_84 : CV RX1 84 YX1_sendOff 3 := ⟨gT_ix 370 (by decide +kernel) rfl, gT_ix 371 (by decide +kernel) rfl, gT_ix 372 (by decide +kernel) rfl, gT_ix 40 (by decide +kernel) rfl, gT_ix 373 (by decide +kernel) rfl, by decide +kernel, by decide +kernel, by decide +kernel⟩
theorem cvX1_91 : CV RX1 91 YX1_blocks 1 := ⟨gT_ix 311 (by decide +kernel) rfl, gT_ix 312 (by decide +kernel) rfl, gT_ix 313 (by decide +kernel) rfl, gT_ix 40 (by decide +kernel) rfl, gT_ix 314 (by decide +kernel) rfl, by decide +kernel, by decide +kernel, by decide +kernel⟩
theorem cvX1_95 : CV RX1 95 YX1_ring 1 := ⟨gT_ix 327 (by decide +kernel) rfl, gT_ix 328 (by decide +kernel) rfl, gT_ix 329 (by decide +kernel) rfl, gT_ix 40 (by decide +kernel) rfl, gT_ix 330 (by decide +kernel) rfl, by decide +kernel, by decide +kernel, by decide +kernel⟩
theorem cvX1_98 : CV RX1 98 YX1_tick 0 := ⟨gT_ix 374 (by decide +kernel) rfl, gT_ix 375 (by decide +kernel) rfl, gT_ix 376 (by decide +kernel) rfl, gT_ix 40 (by decide +kernel) rfl, gT_ix 377 (by decide +kernel) rfl, by decide +kernel, by decide +kernel, by decide +kernel⟩
theorem cvX1_101 : CV RX1 101 YX1_moveCall 2 := ⟨gT_ix 378 (by decide +kernel) rfl, gT_ix 379 (by decide +kernel) rfl, gT_ix 380 (by decide +kernel) rfl, gT_ix 40 (by decide +kernel) rfl, gT_ix 381 (by decide +kernel) rfl, by decide +kernel, by decide +kernel, by decide +kernel⟩
theorem cvX1_105 : CV RX1 105 YX2_waitATick 0 := ⟨gT_ix 382 (by decide +kernel) rfl, gT_ix 383 (by decide +kernel) rfl, gT_ix 384 (by decide +kernel) rfl, gT_ix 41 (by decide +kernel) rfl, gT_ix 385 (by decide +kernel) rfl, by decide +kernel, by decide +kernel, by decide +kernel⟩
theorem cvX1_108 : CV RX1 108 YX1_isBad 1 := ⟨gT_ix 340 (by decide +kernel) rfl, gT_ix 341 (by decide +kernel) rfl, gT_ix 342 (by decide +kernel) rfl, gT_ix 40 (by decide +kernel) rfl, gT_ix 343 (by decide +kernel) rfl, by decide +kernel, by decide +kernel, by decide +kernel⟩
theorem cvX1_114 : CV RX1 114 YX1_settleTrial 2 := ⟨gT_ix 344 (by decide +kernel) rfl, gT_ix 345 (by decide +kernel) rfl, gT_ix 346 (by decide +kernel) rfl, gT_ix 40 (by decide +kernel) rfl, gT_ix 347 (by decide +kernel) rfl, by decide +kernel, by decide +kernel, by decide +kernel⟩
theorem cvX1_118 : CV RX1 118 YX1_settleInWindow 2 := ⟨gT_ix 361 (by decide +kernel) rfl, gT_ix 362 (by decide +kernel) rfl, gT_ix 363 (by decide +kernel) rfl, gT_ix 40 (by decide +kernel) rfl, gT_ix 364 (by decide +kernel) rfl, by decide +kernel, by decide +kernel, by decide +kernel⟩
theorem cvX1_121 : CV RX1 121 YX1_nextCut 1 := ⟨gT_ix 348 (by decide +kernel) rfl, gT_ix 349 (by decide +kernel) rfl, gT_ix 350 (by decide +kernel) rfl, gT_ix 40 (by decide +kernel) rfl, gT_ix 351 (by decide +kernel) rfl, by decide +kernel, by decide +kernel, by decide +kernel⟩
theorem cvX1_125 : CV RX1 125 YX2_cutOff 1 := ⟨gT_ix 353 (by decide +kernel) rfl, gT_ix 354 (by decide +kernel) rfl, gT_ix 355 (by decide +kernel) rfl, gT_ix 41 (by decide +kernel) rfl, gT_ix 356 (by decide +kernel) rfl, by decide +kernel, by decide +kernel, by decide +kernel⟩
theorem cvX1_129 : CV RX1 129 YX2_shut 0 := ⟨gT_ix 357 (by decide +kernel) rfl, gT_ix 358 (by decide +kernel) rfl, gT_ix 359 (by decide +kernel) rfl, gT_ix 41 (by decide +kernel) rfl, gT_ix 360 (by decide +kernel) rfl, by decide +kernel, by decide +kernel, by decide +kernel⟩
theorem cvX1_135 : CS RX1 135 YJ9_min_7cf53 2 := ⟨gT_ix 352 (by decide +kernel) rfl, gT_ix 270 (by decide +kernel) rfl, gT_ix 50 (by decide +kernel) rfl, gT_ix 271 (by decide +kernel) rfl, by decide +kernel, by decide +kernel, by decide +kernel⟩
theorem cvX1_141 : CV RX1 141 YX2_noteOutcome 1 := ⟨gT_ix 365 (by decide +kernel) rfl, gT_ix 366 (by decide +kernel) rfl, gT_ix 367 (by decide +kernel) rfl, gT_ix 41 (by decide +kernel) rfl, gT_ix 368 (by decide +kernel) rfl, by decide +kernel, by decide +kernel, by decide +kernel⟩
theorem cvX1_148 : CV RX1 148 YX2_badInWindow 1 := ⟨gT_ix 239 (by decide +kernel) rfl, gT_ix 240 (by decide +kernel) rfl, gT_ix 241 (by decide +kernel) rfl, gT_ix 41 (by decide +kernel) rfl, gT_ix 242 (by decide +kernel) rfl, by decide +kernel, by decide +kernel, by decide +kernel⟩
theorem cvX1_154 : CV RX1 154 YX1_isHealthier 2 := ⟨gT_ix 235 (by decide +kernel) rfl, gT_ix 236 (by decide +kernel) rfl, gT_ix 237 (by decide +kernel) rfl, gT_ix 40 (by decide +kernel) rfl, gT_ix 238 (by decide +kernel) rfl, by decide +kernel, by decide +kernel, by decide +kernel⟩
theorem cvX1_158 : CV RX1 158 YX2_windowSize 1 := ⟨gT_ix 265 (by decide +kernel) rfl, gT_ix 266 (by decide +kernel) rfl, gT_ix 267 (by decide +kernel) rfl, gT_ix 41 (by decide +kernel) rfl, gT_ix 268 (by decide +kernel) rfl, by decide +kernel, by decide +kernel, by decide +kernel⟩
theorem cvX1_167 : CV RX1 167 YX2_nextPlace 0 := ⟨gT_ix 272 (by decide +kernel) rfl, gT_ix 273 (by decide +kernel) rfl, gT_ix 274 (by decide +kernel) rfl, gT_ix 41 (by decide +kernel) rfl, gT_ix 275 (by decide +kernel) rfl, by decide +kernel, by decide +kernel, by decide +kernel⟩
theorem cvX1_170 : CV RX1 170 YX1_numberOf 2 := ⟨gT_ix 261 (by decide +kernel) rfl, gT_ix 262 (by decide +kernel) rfl, gT_ix 263 (by decide +kernel) rfl, gT_ix 40 (by decide +kernel) rfl, gT_ix 264 (by decide +kernel) rfl, by decide +kernel, by decide +kernel, by decide +kernel⟩
theorem cvX1_173 : CV RX1 173 YX1_sumOf 1 := ⟨gT_ix 257 (by decide +kernel) rfl, gT_ix 258 (by decide +kernel) rfl, gT_ix 259 (by decide +kernel) rfl, gT_ix 40 (by decide +kernel) rfl, gT_ix 260 (by decide +kernel) rfl, by decide +kernel, by decide +kernel, by decide +kernel⟩
theorem cvX2_61 : CV RX2 61 YX0_readInto 1 := ⟨gT_ix 613 (by decide +kernel) rfl, gT_ix 614 (by decide +kernel) rfl, gT_ix 615 (by decide +kernel) rfl, gT_ix 43 (by decide +kernel) rfl, gT_ix 616 (by decide +kernel) rfl, by decide +kernel, by decide +kernel, by decide +kernel⟩
theorem cvX2_67 : CV RX2 67 YX2_nextPlace 0 := ⟨gT_ix 335 (by decide +kernel) rfl, gT_ix 273 (by decide +kernel) rfl, gT_ix 274 (by decide +kernel) rfl, gT_ix 41 (by decide +kernel) rfl, gT_ix 275 (by decide +kernel) rfl, by decide +kernel, by decide +kernel, by decide +kernel⟩
theorem cvX2_71 : CS RX2 71 YJ9_min_7cf53 2 := ⟨gT_ix 269 (by decide +kernel) rfl, gT_ix 270 (by decide +kernel) rfl, gT_ix 50 (by decide +kernel) rfl, gT_ix 271 (by decide +kernel) rfl, by decide +kernel, by decide +kernel, by decide +kernel⟩
theorem cvX2_77 : CS RX2 77 YJ6_bitCount_0f7a4 1 := ⟨gT_ix 243 (by decide +kernel) rfl, gT_ix 244 (by decide +kernel) rfl, gT_ix 52 (by decide +kernel) rfl, gT_ix 245 (by decide +kernel) rfl, by decide +kernel, by decide +kernel, by decide +kernel⟩
theorem cvX3_9 : CI RX3 9 YX1_init 0 := ⟨gT_ix 66 (by decide +kernel) rfl, gT_ix 67 (by decide +kernel) rfl, gT_ix 40 (by decide +kernel) rfl, gT_ix 68 (by decide +kernel) rfl, ⟨by decide +kernel, by decide +kernel, by decide +kernel⟩, rfl, rfl⟩
theorem cvX3_30 : CS RX3 30 YX3_requireStore 1 := ⟨gT_ix 414 (by decide +kernel) rfl, gT_ix 415 (by decide +kernel) rfl, gT_ix 39 (by decide +kernel) rfl, gT_ix 416 (by decide +kernel) rfl, by decide +kernel, by decide +kernel, by decide +kernel⟩
theorem cvX3_34 : CV RX3 34 YX1_blocks 1 := ⟨gT_ix 485 (by decide +kernel) rfl, gT_ix 312 (by decide +kernel) rfl, gT_ix 313 (by decide +kernel) rfl, gT_ix 40 (by decide +kernel) rfl, gT_ix 314 (by decide +kernel) rfl, by decide +kernel, by decide +kernel, by decide +kernel⟩
theorem cvX3_45 : CV RX3 45 YX3_save 0 := ⟨gT_ix 502 (by decide +kernel) rfl, gT_ix 504 (by decide +kernel) rfl, gT_ix 5 (by decide +kernel) rfl, gT_ix 39 (by decide +kernel) rfl, gT_ix 505 (by decide +kernel) rfl, by decide +kernel, by decide +kernel, by decide +kernel⟩
theorem cvX3_48 : CV RX3 48 YX1_ring 1 := ⟨gT_ix 506 (by decide +kernel) rfl, gT_ix 328 (by decide +kernel) rfl, gT_ix 329 (by decide +kernel) rfl, gT_ix 40 (by decide +kernel) rfl, gT_ix 330 (by decide +kernel) rfl, by decide +kernel, by decide +kernel, by decide +kernel⟩
theorem cvX3_52 : CS RX3 52 YX3_requireRange 3 := ⟨gT_ix 515 (by decide +kernel) rfl, gT_ix 516 (by decide +kernel) rfl, gT_ix 39 (by decide +kernel) rfl, gT_ix 517 (by decide +kernel) rfl, by decide +kernel, by decide +kernel, by decide +kernel⟩
theorem cvX3_56 : CV RX3 56 YX1_ringOften 3 := ⟨gT_ix 307 (by decide +kernel) rfl, gT_ix 308 (by decide +kernel) rfl, gT_ix 309 (by decide +kernel) rfl, gT_ix 40 (by decide +kernel) rfl, gT_ix 310 (by decide +kernel) rfl, by decide +kernel, by decide +kernel, by decide +kernel⟩
theorem cvX3_60 : CV RX3 60 YX1_isFull 0 := ⟨gT_ix 541 (by decide +kernel) rfl, gT_ix 316 (by decide +kernel) rfl, gT_ix 317 (by decide +kernel) rfl, gT_ix 40 (by decide +kernel) rfl, gT_ix 318 (by decide +kernel) rfl, by decide +kernel, by decide +kernel, by decide +kernel⟩
theorem cvX3_64 : CV RX3 64 YX1_healthiestStore 0 := ⟨gT_ix 231 (by decide +kernel) rfl, gT_ix 232 (by decide +kernel) rfl, gT_ix 233 (by decide +kernel) rfl, gT_ix 40 (by decide +kernel) rfl, gT_ix 234 (by decide +kernel) rfl, by decide +kernel, by decide +kernel, by decide +kernel⟩
theorem cvX3_68 : CV RX3 68 YX1_closeByHand 1 := ⟨gT_ix 549 (by decide +kernel) rfl, gT_ix 550 (by decide +kernel) rfl, gT_ix 551 (by decide +kernel) rfl, gT_ix 40 (by decide +kernel) rfl, gT_ix 552 (by decide +kernel) rfl, by decide +kernel, by decide +kernel, by decide +kernel⟩
theorem cvX3_71 : CS RX3 71 YX3_requireSetting 1 := ⟨gT_ix 560 (by decide +kernel) rfl, gT_ix 561 (by decide +kernel) rfl, gT_ix 39 (by decide +kernel) rfl, gT_ix 562 (by decide +kernel) rfl, by decide +kernel, by decide +kernel, by decide +kernel⟩
theorem cvX3_84 : CV RX3 84 YX1_letPass 1 := ⟨gT_ix 575 (by decide +kernel) rfl, gT_ix 576 (by decide +kernel) rfl, gT_ix 577 (by decide +kernel) rfl, gT_ix 40 (by decide +kernel) rfl, gT_ix 578 (by decide +kernel) rfl, by decide +kernel, by decide +kernel, by decide +kernel⟩
theorem cvX3_87 : CV RX3 87 YX0_isFull 0 := ⟨gT_ix 586 (by decide +kernel) rfl, gT_ix 587 (by decide +kernel) rfl, gT_ix 588 (by decide +kernel) rfl, gT_ix 43 (by decide +kernel) rfl, gT_ix 589 (by decide +kernel) rfl, by decide +kernel, by decide +kernel, by decide +kernel⟩
theorem cvX3_90 : CV RX3 90 YX0_add 1 := ⟨gT_ix 591 (by decide +kernel) rfl, gT_ix 592 (by decide +kernel) rfl, gT_ix 593 (by decide +kernel) rfl, gT_ix 43 (by decide +kernel) rfl, gT_ix 594 (by decide +kernel) rfl, by decide +kernel, by decide +kernel, by decide +kernel⟩
theorem cvX3_93 : CV RX3 93 YX0_empty 0 := ⟨gT_ix 212 (by decide +kernel) rfl, gT_ix 213 (by decide +kernel) rfl, gT_ix 214 (by decide +kernel) rfl, gT_ix 43 (by decide +kernel) rfl, gT_ix 215 (by decide +kernel) rfl, by decide +kernel, by decide +kernel, by decide +kernel⟩
theorem cvX3_96 : CV RX3 96 YX0_firstWrong 0 := ⟨gT_ix 220 (by decide +kernel) rfl, gT_ix 221 (by decide +kernel) rfl, gT_ix 222 (by decide +kernel) rfl, gT_ix 43 (by decide +kernel) rfl, gT_ix 223 (by decide +kernel) rfl, by decide +kernel, by decide +kernel, by decide +kernel⟩
theorem cvX3_99 : CV RX3 99 YX0_isComplete 0 := ⟨gT_ix 603 (by decide +kernel) rfl, gT_ix 604 (by decide +kernel) rfl, gT_ix 605 (by decide +kernel) rfl, gT_ix 43 (by decide +kernel) rfl, gT_ix 606 (by decide +kernel) rfl, by decide +kernel, by decide +kernel, by decide +kernel⟩
theorem cvX3_111 : CV RX3 111 YX2_takeRow 1 := ⟨gT_ix 609 (by decide +kernel) rfl, gT_ix 610 (by decide +kernel) rfl, gT_ix 611 (by decide +kernel) rfl, gT_ix 41 (by decide +kernel) rfl, gT_ix 612 (by decide +kernel) rfl, by decide +kernel, by decide +kernel, by decide +kernel⟩
theorem cvX3_126 : CV RX3 126 YX1_copyFrom 1 := ⟨gT_ix 298 (by decide +kernel) rfl, gT_ix 299 (by decide +kernel) rfl, gT_ix 300 (by decide +kernel) rfl, gT_ix 40 (by decide +kernel) rfl, gT_ix 301 (by decide +kernel) rfl, by decide +kernel, by decide +kernel, by decide +kernel⟩
theorem cvX3_130 : CV RX3 130 YX1_numberOf 2 := ⟨gT_ix 390 (by decide +kernel) rfl, gT_ix 262 (by decide +kernel) rfl, gT_ix 263 (by decide +kernel) rfl, gT_ix 40 (by decide +kernel) rfl, gT_ix 264 (by decide +kernel) rfl, by decide +kernel, by decide +kernel, by decide +kernel⟩
theorem cvX3_134 : CS RX3 134 YX3_requireNotNegative 1 := ⟨gT_ix 643 (by decide +kernel) rfl, gT_ix 644 (by decide +kernel) rfl, gT_ix 39 (by decide +kernel) rfl, gT_ix 645 (by decide +kernel) rfl, by decide +kernel, by decide +kernel, by decide +kernel⟩
theorem cvX3_150 : CV RX3 150 YX3_counted 1 := ⟨gT_ix 281 (by decide +kernel) rfl, gT_ix 283 (by decide +kernel) rfl, gT_ix 0 (by decide +kernel) rfl, gT_ix 39 (by decide +kernel) rfl, gT_ix 284 (by decide +kernel) rfl, by decide +kernel, by decide +kernel, by decide +kernel⟩
theorem cvX3_153 : CV RX3 153 YX3_foresee 3 := ⟨gT_ix 294 (by decide +kernel) rfl, gT_ix 296 (by decide +kernel) rfl, gT_ix 1 (by decide +kernel) rfl, gT_ix 39 (by decide +kernel) rfl, gT_ix 297 (by decide +kernel) rfl, by decide +kernel, by decide +kernel, by decide +kernel⟩
theorem cvX3_156 : CV RX3 156 YX3_foreseen 2 := ⟨gT_ix 395 (by decide +kernel) rfl, gT_ix 397 (by decide +kernel) rfl, gT_ix 3 (by decide +kernel) rfl, gT_ix 39 (by decide +kernel) rfl, gT_ix 398 (by decide +kernel) rfl, by decide +kernel, by decide +kernel, by decide +kernel⟩
theorem cvX3_159 : CV RX3 159 YX1_ticksTillFree 1 := ⟨gT_ix 391 (by decide +kernel) rfl, gT_ix 392 (by decide +kernel) rfl, gT_ix 393 (by decide +kernel) rfl, gT_ix 40 (by decide +kernel) rfl, gT_ix 394 (by decide +kernel) rfl, by decide +kernel, by decide +kernel, by decide +kernel⟩
theorem cvX3_162 : CV RX3 162 YX1_goodShare 0 := ⟨gT_ix 253 (by decide +kernel) rfl, gT_ix 254 (by decide +kernel) rfl, gT_ix 255 (by decide +kernel) rfl, gT_ix 40 (by decide +kernel) rfl, gT_ix 256 (by decide +kernel) rfl, by decide +kernel, by decide +kernel, by decide +kernel⟩
theorem cvX3_168 : CS RX3 168 YX3_mix 2 := ⟨gT_ix 290 (by decide +kernel) rfl, gT_ix 291 (by decide +kernel) rfl, gT_ix 39 (by decide +kernel) rfl, gT_ix 292 (by decide +kernel) rfl, by decide +kernel, by decide +kernel, by decide +kernel⟩
theorem cvX3_172 : CV RX3 172 YX3_mixStore 2 := ⟨gT_ix 386 (by decide +kernel) rfl, gT_ix 388 (by decide +kernel) rfl, gT_ix 2 (by decide +kernel) rfl, gT_ix 39 (by decide +kernel) rfl, gT_ix 389 (by decide +kernel) rfl, by decide +kernel, by decide +kernel, by decide +kernel⟩
theorem cvX3_176 : CS RX3 176 YX3_bitsOfShare 1 := ⟨gT_ix 399 (by decide +kernel) rfl, gT_ix 400 (by decide +kernel) rfl, gT_ix 39 (by decide +kernel) rfl, gT_ix 401 (by decide +kernel) rfl, by decide +kernel, by decide +kernel, by decide +kernel⟩
theorem cvX3_197 : CV RX3 197 YX1_sumOf 1 := ⟨gT_ix 285 (by decide +kernel) rfl, gT_ix 258 (by decide +kernel) rfl, gT_ix 259 (by decide +kernel) rfl, gT_ix 40 (by decide +kernel) rfl, gT_ix 260 (by decide +kernel) rfl, by decide +kernel, by decide +kernel, by decide +kernel⟩
theorem cvX3_203 : CV RX3 203 YX1_closedBreakers 0 := ⟨gT_ix 286 (by decide +kernel) rfl, gT_ix 287 (by decide +kernel) rfl, gT_ix 288 (by decide +kernel) rfl, gT_ix 40 (by decide +kernel) rfl, gT_ix 289 (by decide +kernel) rfl, by decide +kernel, by decide +kernel, by decide +kernel⟩
theorem cvX4_29 : CV RX4 29 YX4_lay 3 := ⟨gT_ix 688 (by decide +kernel) rfl, gT_ix 690 (by decide +kernel) rfl, gT_ix 6 (by decide +kernel) rfl, gT_ix 44 (by decide +kernel) rfl, gT_ix 691 (by decide +kernel) rfl, by decide +kernel, by decide +kernel, by decide +kernel⟩
theorem cvX4_33 : CS RX4 33 YX4_in 3 := ⟨gT_ix 740 (by decide +kernel) rfl, gT_ix 741 (by decide +kernel) rfl, gT_ix 44 (by decide +kernel) rfl, gT_ix 742 (by decide +kernel) rfl, by decide +kernel, by decide +kernel, by decide +kernel⟩
theorem cvX4_40 : CV RX4 40 YX4_of 2 := ⟨gT_ix 751 (by decide +kernel) rfl, gT_ix 753 (by decide +kernel) rfl, gT_ix 9 (by decide +kernel) rfl, gT_ix 44 (by decide +kernel) rfl, gT_ix 754 (by decide +kernel) rfl, by decide +kernel, by decide +kernel, by decide +kernel⟩
theorem cvX4_44 : CV RX4 44 YX4_inWindow 1 := ⟨gT_ix 788 (by decide +kernel) rfl, gT_ix 790 (by decide +kernel) rfl, gT_ix 18 (by decide +kernel) rfl, gT_ix 44 (by decide +kernel) rfl, gT_ix 791 (by decide +kernel) rfl, by decide +kernel, by decide +kernel, by decide +kernel⟩
theorem cvX4_48 : CV RX4 48 YX4_adds 2 := ⟨gT_ix 771 (by decide +kernel) rfl, gT_ix 773 (by decide +kernel) rfl, gT_ix 14 (by decide +kernel) rfl, gT_ix 44 (by decide +kernel) rfl, gT_ix 774 (by decide +kernel) rfl, by decide +kernel, by decide +kernel, by decide +kernel⟩
theorem cvX4_52 : CV RX4 52 YX4_cutsOff 2 := ⟨gT_ix 779 (by decide +kernel) rfl, gT_ix 781 (by decide +kernel) rfl, gT_ix 16 (by decide +kernel) rfl, gT_ix 44 (by decide +kernel) rfl, gT_ix 782 (by decide +kernel) rfl, by decide +kernel, by decide +kernel, by decide +kernel⟩
theorem cvX4_55 : CV RX4 55 YX4_closes 1 := ⟨gT_ix 783 (by decide +kernel) rfl, gT_ix 785 (by decide +kernel) rfl, gT_ix 17 (by decide +kernel) rfl, gT_ix 44 (by decide +kernel) rfl, gT_ix 786 (by decide +kernel) rfl, by decide +kernel, by decide +kernel, by decide +kernel⟩
theorem cvX4_60 : CV RX4 60 YX4_badInWindow 1 := ⟨gT_ix 792 (by decide +kernel) rfl, gT_ix 794 (by decide +kernel) rfl, gT_ix 19 (by decide +kernel) rfl, gT_ix 44 (by decide +kernel) rfl, gT_ix 795 (by decide +kernel) rfl, by decide +kernel, by decide +kernel, by decide +kernel⟩
theorem cvX4_63 : CV RX4 63 YX4_callOf 2 := ⟨gT_ix 759 (by decide +kernel) rfl, gT_ix 761 (by decide +kernel) rfl, gT_ix 11 (by decide +kernel) rfl, gT_ix 44 (by decide +kernel) rfl, gT_ix 762 (by decide +kernel) rfl, by decide +kernel, by decide +kernel, by decide +kernel⟩
theorem cvX4_66 : CV RX4 66 YX4_hasTrial 1 := ⟨gT_ix 755 (by decide +kernel) rfl, gT_ix 757 (by decide +kernel) rfl, gT_ix 10 (by decide +kernel) rfl, gT_ix 44 (by decide +kernel) rfl, gT_ix 758 (by decide +kernel) rfl, by decide +kernel, by decide +kernel, by decide +kernel⟩
theorem cvX4_70 : CV RX4 70 YX4_isRefused 1 := ⟨gT_ix 747 (by decide +kernel) rfl, gT_ix 749 (by decide +kernel) rfl, gT_ix 8 (by decide +kernel) rfl, gT_ix 44 (by decide +kernel) rfl, gT_ix 750 (by decide +kernel) rfl, by decide +kernel, by decide +kernel, by decide +kernel⟩
theorem cvX4_73 : CV RX4 73 YX4_comesOut 4 := ⟨gT_ix 775 (by decide +kernel) rfl, gT_ix 777 (by decide +kernel) rfl, gT_ix 15 (by decide +kernel) rfl, gT_ix 44 (by decide +kernel) rfl, gT_ix 778 (by decide +kernel) rfl, by decide +kernel, by decide +kernel, by decide +kernel⟩
theorem cvX4_77 : CV RX4 77 YX4_drops 1 := ⟨gT_ix 812 (by decide +kernel) rfl, gT_ix 814 (by decide +kernel) rfl, gT_ix 23 (by decide +kernel) rfl, gT_ix 44 (by decide +kernel) rfl, gT_ix 815 (by decide +kernel) rfl, by decide +kernel, by decide +kernel, by decide +kernel⟩
theorem cvX4_80 : CV RX4 80 YX4_tick 0 := ⟨gT_ix 808 (by decide +kernel) rfl, gT_ix 810 (by decide +kernel) rfl, gT_ix 22 (by decide +kernel) rfl, gT_ix 44 (by decide +kernel) rfl, gT_ix 811 (by decide +kernel) rfl, by decide +kernel, by decide +kernel, by decide +kernel⟩
theorem cvX4_84 : CV RX4 84 YX4_calls 1 := ⟨gT_ix 767 (by decide +kernel) rfl, gT_ix 769 (by decide +kernel) rfl, gT_ix 13 (by decide +kernel) rfl, gT_ix 44 (by decide +kernel) rfl, gT_ix 770 (by decide +kernel) rfl, by decide +kernel, by decide +kernel, by decide +kernel⟩
theorem cvX4_87 : CV RX4 87 YX4_ticks 1 := ⟨gT_ix 804 (by decide +kernel) rfl, gT_ix 806 (by decide +kernel) rfl, gT_ix 21 (by decide +kernel) rfl, gT_ix 44 (by decide +kernel) rfl, gT_ix 807 (by decide +kernel) rfl, by decide +kernel, by decide +kernel, by decide +kernel⟩
theorem cvX4_90 : CS RX4 90 YX4_isStore 1 := ⟨gT_ix 737 (by decide +kernel) rfl, gT_ix 738 (by decide +kernel) rfl, gT_ix 44 (by decide +kernel) rfl, gT_ix 739 (by decide +kernel) rfl, by decide +kernel, by decide +kernel, by decide +kernel⟩
theorem cvX4_93 : CV RX4 93 YX4_fails 1 := ⟨gT_ix 743 (by decide +kernel) rfl, gT_ix 745 (by decide +kernel) rfl, gT_ix 7 (by decide +kernel) rfl, gT_ix 44 (by decide +kernel) rfl, gT_ix 746 (by decide +kernel) rfl, by decide +kernel, by decide +kernel, by decide +kernel⟩
theorem cvX4_96 : CV RX4 96 YX4_saves 0 := ⟨gT_ix 763 (by decide +kernel) rfl, gT_ix 765 (by decide +kernel) rfl, gT_ix 12 (by decide +kernel) rfl, gT_ix 44 (by decide +kernel) rfl, gT_ix 766 (by decide +kernel) rfl, by decide +kernel, by decide +kernel, by decide +kernel⟩
theorem cvX4_99 : CV RX4 99 YX4_callsOften 3 := ⟨gT_ix 800 (by decide +kernel) rfl, gT_ix 802 (by decide +kernel) rfl, gT_ix 20 (by decide +kernel) rfl, gT_ix 44 (by decide +kernel) rfl, gT_ix 803 (by decide +kernel) rfl, by decide +kernel, by decide +kernel, by decide +kernel⟩
theorem cvX4_103 : CV RX4 103 YX4_onWayOf 1 := ⟨gT_ix 824 (by decide +kernel) rfl, gT_ix 826 (by decide +kernel) rfl, gT_ix 25 (by decide +kernel) rfl, gT_ix 44 (by decide +kernel) rfl, gT_ix 827 (by decide +kernel) rfl, by decide +kernel, by decide +kernel, by decide +kernel⟩
theorem cvX4_106 : CV RX4 106 YX4_bestStore 0 := ⟨gT_ix 820 (by decide +kernel) rfl, gT_ix 822 (by decide +kernel) rfl, gT_ix 24 (by decide +kernel) rfl, gT_ix 44 (by decide +kernel) rfl, gT_ix 823 (by decide +kernel) rfl, by decide +kernel, by decide +kernel, by decide +kernel⟩
theorem cvX4_109 : CS RX4 109 YX4_isSetting 2 := ⟨gT_ix 836 (by decide +kernel) rfl, gT_ix 837 (by decide +kernel) rfl, gT_ix 44 (by decide +kernel) rfl, gT_ix 838 (by decide +kernel) rfl, by decide +kernel, by decide +kernel, by decide +kernel⟩
theorem cvX4_119 : CV RX4 119 YX4_sign 0 := ⟨gT_ix 863 (by decide +kernel) rfl, gT_ix 865 (by decide +kernel) rfl, gT_ix 28 (by decide +kernel) rfl, gT_ix 44 (by decide +kernel) rfl, gT_ix 866 (by decide +kernel) rfl, by decide +kernel, by decide +kernel, by decide +kernel⟩
theorem cvX4_129 : CV RX4 129 YX4_readsNumber 0 := ⟨gT_ix 859 (by decide +kernel) rfl, gT_ix 861 (by decide +kernel) rfl, gT_ix 27 (by decide +kernel) rfl, gT_ix 44 (by decide +kernel) rfl, gT_ix 862 (by decide +kernel) rfl, by decide +kernel, by decide +kernel, by decide +kernel⟩
theorem cvX4_132 : CV RX4 132 YX4_readsAll 0 := ⟨gT_ix 855 (by decide +kernel) rfl, gT_ix 857 (by decide +kernel) rfl, gT_ix 26 (by decide +kernel) rfl, gT_ix 44 (by decide +kernel) rfl, gT_ix 858 (by decide +kernel) rfl, by decide +kernel, by decide +kernel, by decide +kernel⟩
theorem cvX4_135 : CV RX4 135 YX4_tellsStore 2 := ⟨gT_ix 879 (by decide +kernel) rfl, gT_ix 881 (by decide +kernel) rfl, gT_ix 29 (by decide +kernel) rfl, gT_ix 44 (by decide +kernel) rfl, gT_ix 882 (by decide +kernel) rfl, by decide +kernel, by decide +kernel, by decide +kernel⟩
theorem cvX4_138 : CV RX4 138 YX4_overStores 1 := ⟨gT_ix 899 (by decide +kernel) rfl, gT_ix 901 (by decide +kernel) rfl, gT_ix 31 (by decide +kernel) rfl, gT_ix 44 (by decide +kernel) rfl, gT_ix 902 (by decide +kernel) rfl, by decide +kernel, by decide +kernel, by decide +kernel⟩
theorem cvX4_141 : CV RX4 141 YX4_counts 1 := ⟨gT_ix 895 (by decide +kernel) rfl, gT_ix 897 (by decide +kernel) rfl, gT_ix 30 (by decide +kernel) rfl, gT_ix 44 (by decide +kernel) rfl, gT_ix 898 (by decide +kernel) rfl, by decide +kernel, by decide +kernel, by decide +kernel⟩
theorem cvX4_144 : CV RX4 144 YX4_putAside 0 := ⟨gT_ix 915 (by decide +kernel) rfl, gT_ix 917 (by decide +kernel) rfl, gT_ix 33 (by decide +kernel) rfl, gT_ix 44 (by decide +kernel) rfl, gT_ix 918 (by decide +kernel) rfl, by decide +kernel, by decide +kernel, by decide +kernel⟩
theorem cvX4_147 : CV RX4 147 YX4_takeBack 0 := ⟨gT_ix 919 (by decide +kernel) rfl, gT_ix 921 (by decide +kernel) rfl, gT_ix 34 (by decide +kernel) rfl, gT_ix 44 (by decide +kernel) rfl, gT_ix 922 (by decide +kernel) rfl, by decide +kernel, by decide +kernel, by decide +kernel⟩
theorem cvX4_150 : CV RX4 150 YX4_would 4 := ⟨gT_ix 911 (by decide +kernel) rfl, gT_ix 913 (by decide +kernel) rfl, gT_ix 32 (by decide +kernel) rfl, gT_ix 44 (by decide +kernel) rfl, gT_ix 914 (by decide +kernel) rfl, by decide +kernel, by decide +kernel, by decide +kernel⟩
theorem cvX4_154 : CV RX4 154 YX4_untilFree 1 := ⟨gT_ix 927 (by decide +kernel) rfl, gT_ix 929 (by decide +kernel) rfl, gT_ix 35 (by decide +kernel) rfl, gT_ix 44 (by decide +kernel) rfl, gT_ix 930 (by decide +kernel) rfl, by decide +kernel, by decide +kernel, by decide +kernel⟩
theorem cvX4_157 : CV RX4 157 YX4_share 0 := ⟨gT_ix 939 (by decide +kernel) rfl, gT_ix 941 (by decide +kernel) rfl, gT_ix 36 (by decide +kernel) rfl, gT_ix 44 (by decide +kernel) rfl, gT_ix 942 (by decide +kernel) rfl, by decide +kernel, by decide +kernel, by decide +kernel⟩
theorem cvX4_169 : CV RX4 169 YX4_hashes 1 := ⟨gT_ix 948 (by decide +kernel) rfl, gT_ix 950 (by decide +kernel) rfl, gT_ix 37 (by decide +kernel) rfl, gT_ix 44 (by decide +kernel) rfl, gT_ix 951 (by decide +kernel) rfl, by decide +kernel, by decide +kernel, by decide +kernel⟩
theorem cvX4_173 : CS RX4 173 YJxe99ae_doubleToLongBits_ccdee 1 := ⟨gT_ix 953 (by decide +kernel) rfl, gT_ix 954 (by decide +kernel) rfl, gT_ix 55 (by decide +kernel) rfl, gT_ix 955 (by decide +kernel) rfl, by decide +kernel, by decide +kernel, by decide +kernel⟩
theorem cvJxe99ae_122 : CS RJxe99ae 122 YJxe99ae_isNaN_b9ae7 1 := ⟨gT_ix 956 (by decide +kernel) rfl, gT_ix 957 (by decide +kernel) rfl, gT_ix 55 (by decide +kernel) rfl, gT_ix 958 (by decide +kernel) rfl, by decide +kernel, by decide +kernel, by decide +kernel⟩
theorem cvL_7 : CV RL 7 YX3_call 1 := ⟨gT_ix 410 (by decide +kernel) rfl, gT_ix 411 (by decide +kernel) rfl, gT_ix 412 (by decide +kernel) rfl, gT_ix 39 (by decide +kernel) rfl, gT_ix 413 (by decide +kernel) rfl, by decide +kernel, by decide +kernel, by decide +kernel⟩
theorem cvL_17 : CV RL 17 YX3_callOften 3 := ⟨gT_ix 511 (by decide +kernel) rfl, gT_ix 512 (by decide +kernel) rfl, gT_ix 513 (by decide +kernel) rfl, gT_ix 39 (by decide +kernel) rfl, gT_ix 514 (by decide +kernel) rfl, by decide +kernel, by decide +kernel, by decide +kernel⟩
theorem cvL_23 : CV RL 23 YX3_callHealthiest 0 := ⟨gT_ix 537 (by decide +kernel) rfl, gT_ix 538 (by decide +kernel) rfl, gT_ix 539 (by decide +kernel) rfl, gT_ix 39 (by decide +kernel) rfl, gT_ix 540 (by decide +kernel) rfl, by decide +kernel, by decide +kernel, by decide +kernel⟩
theorem cvL_27 : CV RL 27 YX3_close 1 := ⟨gT_ix 545 (by decide +kernel) rfl, gT_ix 546 (by decide +kernel) rfl, gT_ix 547 (by decide +kernel) rfl, gT_ix 39 (by decide +kernel) rfl, gT_ix 548 (by decide +kernel) rfl, by decide +kernel, by decide +kernel, by decide +kernel⟩
theorem cvL_30 : CV RL 30 YX3_set 2 := ⟨gT_ix 556 (by decide +kernel) rfl, gT_ix 557 (by decide +kernel) rfl, gT_ix 558 (by decide +kernel) rfl, gT_ix 39 (by decide +kernel) rfl, gT_ix 559 (by decide +kernel) rfl, by decide +kernel, by decide +kernel, by decide +kernel⟩
theorem cvL_34 : CV RL 34 YX3_pass 1 := ⟨gT_ix 571 (by decide +kernel) rfl, gT_ix 572 (by decide +kernel) rfl, gT_ix 573 (by decide +kernel) rfl, gT_ix 39 (by decide +kernel) rfl, gT_ix 574 (by decide +kernel) rfl, by decide +kernel, by decide +kernel, by decide +kernel⟩
theorem cvL_37 : CV RL 37 YX3_append 1 := ⟨gT_ix 582 (by decide +kernel) rfl, gT_ix 583 (by decide +kernel) rfl, gT_ix 584 (by decide +kernel) rfl, gT_ix 39 (by decide +kernel) rfl, gT_ix 585 (by decide +kernel) rfl, by decide +kernel, by decide +kernel, by decide +kernel⟩
theorem cvL_40 : CV RL 40 YX3_delays 1 := ⟨gT_ix 599 (by decide +kernel) rfl, gT_ix 600 (by decide +kernel) rfl, gT_ix 601 (by decide +kernel) rfl, gT_ix 39 (by decide +kernel) rfl, gT_ix 602 (by decide +kernel) rfl, by decide +kernel, by decide +kernel, by decide +kernel⟩
theorem cvL_43 : CV RL 43 YX3_undo 0 := ⟨gT_ix 624 (by decide +kernel) rfl, gT_ix 625 (by decide +kernel) rfl, gT_ix 626 (by decide +kernel) rfl, gT_ix 39 (by decide +kernel) rfl, gT_ix 627 (by decide +kernel) rfl, by decide +kernel, by decide +kernel, by decide +kernel⟩
theorem cvL_46 : CV RL 46 YX3_store 2 := ⟨gT_ix 632 (by decide +kernel) rfl, gT_ix 633 (by decide +kernel) rfl, gT_ix 634 (by decide +kernel) rfl, gT_ix 39 (by decide +kernel) rfl, gT_ix 635 (by decide +kernel) rfl, by decide +kernel, by decide +kernel, by decide +kernel⟩
theorem cvL_49 : CV RL 49 YX3_delay 2 := ⟨gT_ix 639 (by decide +kernel) rfl, gT_ix 640 (by decide +kernel) rfl, gT_ix 641 (by decide +kernel) rfl, gT_ix 39 (by decide +kernel) rfl, gT_ix 642 (by decide +kernel) rfl, by decide +kernel, by decide +kernel, by decide +kernel⟩
theorem cvL_52 : CV RL 52 YX3_onWay 2 := ⟨gT_ix 650 (by decide +kernel) rfl, gT_ix 651 (by decide +kernel) rfl, gT_ix 652 (by decide +kernel) rfl, gT_ix 39 (by decide +kernel) rfl, gT_ix 653 (by decide +kernel) rfl, by decide +kernel, by decide +kernel, by decide +kernel⟩
theorem cvL_55 : CV RL 55 YX3_count 1 := ⟨gT_ix 657 (by decide +kernel) rfl, gT_ix 658 (by decide +kernel) rfl, gT_ix 659 (by decide +kernel) rfl, gT_ix 39 (by decide +kernel) rfl, gT_ix 660 (by decide +kernel) rfl, by decide +kernel, by decide +kernel, by decide +kernel⟩
theorem cvL_58 : CV RL 58 YX3_setting 1 := ⟨gT_ix 664 (by decide +kernel) rfl, gT_ix 665 (by decide +kernel) rfl, gT_ix 666 (by decide +kernel) rfl, gT_ix 39 (by decide +kernel) rfl, gT_ix 667 (by decide +kernel) rfl, by decide +kernel, by decide +kernel, by decide +kernel⟩
theorem cvL_61 : CV RL 61 YX3_ifCalled 4 := ⟨gT_ix 671 (by decide +kernel) rfl, gT_ix 672 (by decide +kernel) rfl, gT_ix 673 (by decide +kernel) rfl, gT_ix 39 (by decide +kernel) rfl, gT_ix 674 (by decide +kernel) rfl, by decide +kernel, by decide +kernel, by decide +kernel⟩
theorem cvL_65 : CV RL 65 YX3_freeIn 1 := ⟨gT_ix 678 (by decide +kernel) rfl, gT_ix 679 (by decide +kernel) rfl, gT_ix 680 (by decide +kernel) rfl, gT_ix 39 (by decide +kernel) rfl, gT_ix 681 (by decide +kernel) rfl, by decide +kernel, by decide +kernel, by decide +kernel⟩
theorem cvL_68 : CI RL 68 YX3_init 0 := ⟨gT_ix 58 (by decide +kernel) rfl, gT_ix 59 (by decide +kernel) rfl, gT_ix 39 (by decide +kernel) rfl, gT_ix 60 (by decide +kernel) rfl, ⟨by decide +kernel, by decide +kernel, by decide +kernel⟩, rfl, rfl⟩
theorem cvL_71 : CI RL 71 YX4_init 0 := ⟨gT_ix 684 (by decide +kernel) rfl, gT_ix 685 (by decide +kernel) rfl, gT_ix 44 (by decide +kernel) rfl, gT_ix 686 (by decide +kernel) rfl, ⟨by decide +kernel, by decide +kernel, by decide +kernel⟩, rfl, rfl⟩
theorem cvL_77 : CV RL 77 YX4_call 1 := ⟨gT_ix 733 (by decide +kernel) rfl, gT_ix 734 (by decide +kernel) rfl, gT_ix 735 (by decide +kernel) rfl, gT_ix 44 (by decide +kernel) rfl, gT_ix 736 (by decide +kernel) rfl, by decide +kernel, by decide +kernel, by decide +kernel⟩
theorem cvL_78 : CV RL 78 YX4_thrown 0 := ⟨gT_ix 729 (by decide +kernel) rfl, gT_ix 730 (by decide +kernel) rfl, gT_ix 731 (by decide +kernel) rfl, gT_ix 44 (by decide +kernel) rfl, gT_ix 732 (by decide +kernel) rfl, by decide +kernel, by decide +kernel, by decide +kernel⟩
theorem cvL_84 : CV RL 84 YX4_callOften 3 := ⟨gT_ix 796 (by decide +kernel) rfl, gT_ix 797 (by decide +kernel) rfl, gT_ix 798 (by decide +kernel) rfl, gT_ix 44 (by decide +kernel) rfl, gT_ix 799 (by decide +kernel) rfl, by decide +kernel, by decide +kernel, by decide +kernel⟩
theorem cvL_88 : CV RL 88 YX4_callHealthiest 0 := ⟨gT_ix 816 (by decide +kernel) rfl, gT_ix 817 (by decide +kernel) rfl, gT_ix 818 (by decide +kernel) rfl, gT_ix 44 (by decide +kernel) rfl, gT_ix 819 (by decide +kernel) rfl, by decide +kernel, by decide +kernel, by decide +kernel⟩
theorem cvL_91 : CV RL 91 YX4_close 1 := ⟨gT_ix 828 (by decide +kernel) rfl, gT_ix 829 (by decide +kernel) rfl, gT_ix 830 (by decide +kernel) rfl, gT_ix 44 (by decide +kernel) rfl, gT_ix 831 (by decide +kernel) rfl, by decide +kernel, by decide +kernel, by decide +kernel⟩
theorem cvL_95 : CV RL 95 YX4_set 2 := ⟨gT_ix 832 (by decide +kernel) rfl, gT_ix 833 (by decide +kernel) rfl, gT_ix 834 (by decide +kernel) rfl, gT_ix 44 (by decide +kernel) rfl, gT_ix 835 (by decide +kernel) rfl, by decide +kernel, by decide +kernel, by decide +kernel⟩
theorem cvL_98 : CV RL 98 YX4_pass 1 := ⟨gT_ix 839 (by decide +kernel) rfl, gT_ix 840 (by decide +kernel) rfl, gT_ix 841 (by decide +kernel) rfl, gT_ix 44 (by decide +kernel) rfl, gT_ix 842 (by decide +kernel) rfl, by decide +kernel, by decide +kernel, by decide +kernel⟩
theorem cvL_101 : CV RL 101 YX4_append 1 := ⟨gT_ix 843 (by decide +kernel) rfl, gT_ix 844 (by decide +kernel) rfl, gT_ix 845 (by decide +kernel) rfl, gT_ix 44 (by decide +kernel) rfl, gT_ix 846 (by decide +kernel) rfl, by decide +kernel, by decide +kernel, by decide +kernel⟩
theorem cvL_102 : CV RL 102 YX3_clearBuffer 0 := ⟨gT_ix 208 (by decide +kernel) rfl, gT_ix 209 (by decide +kernel) rfl, gT_ix 210 (by decide +kernel) rfl, gT_ix 39 (by decide +kernel) rfl, gT_ix 211 (by decide +kernel) rfl, by decide +kernel, by decide +kernel, by decide +kernel⟩
theorem cvL_105 : CV RL 105 YX4_clearBuffer 0 := ⟨gT_ix 847 (by decide +kernel) rfl, gT_ix 848 (by decide +kernel) rfl, gT_ix 849 (by decide +kernel) rfl, gT_ix 44 (by decide +kernel) rfl, gT_ix 850 (by decide +kernel) rfl, by decide +kernel, by decide +kernel, by decide +kernel⟩
theorem cvL_106 : CV RL 106 YX3_firstError 0 := ⟨gT_ix 216 (by decide +kernel) rfl, gT_ix 217 (by decide +kernel) rfl, gT_ix 218 (by decide +kernel) rfl, gT_ix 39 (by decide +kernel) rfl, gT_ix 219 (by decide +kernel) rfl, by decide +kernel, by decide +kernel, by decide +kernel⟩
theorem cvL_109 : CV RL 109 YX4_firstError 0 := ⟨gT_ix 851 (by decide +kernel) rfl, gT_ix 852 (by decide +kernel) rfl, gT_ix 853 (by decide +kernel) rfl, gT_ix 44 (by decide +kernel) rfl, gT_ix 854 (by decide +kernel) rfl, by decide +kernel, by decide +kernel, by decide +kernel⟩
theorem cvL_112 : CV RL 112 YX4_delays 1 := ⟨gT_ix 867 (by decide +kernel) rfl, gT_ix 868 (by decide +kernel) rfl, gT_ix 869 (by decide +kernel) rfl, gT_ix 44 (by decide +kernel) rfl, gT_ix 870 (by decide +kernel) rfl, by decide +kernel, by decide +kernel, by decide +kernel⟩
theorem cvL_115 : CV RL 115 YX4_undo 0 := ⟨gT_ix 871 (by decide +kernel) rfl, gT_ix 872 (by decide +kernel) rfl, gT_ix 873 (by decide +kernel) rfl, gT_ix 44 (by decide +kernel) rfl, gT_ix 874 (by decide +kernel) rfl, by decide +kernel, by decide +kernel, by decide +kernel⟩
theorem cvL_118 : CV RL 118 YX4_store 2 := ⟨gT_ix 875 (by decide +kernel) rfl, gT_ix 876 (by decide +kernel) rfl, gT_ix 877 (by decide +kernel) rfl, gT_ix 44 (by decide +kernel) rfl, gT_ix 878 (by decide +kernel) rfl, by decide +kernel, by decide +kernel, by decide +kernel⟩
theorem cvL_121 : CV RL 121 YX4_delay 2 := ⟨gT_ix 883 (by decide +kernel) rfl, gT_ix 884 (by decide +kernel) rfl, gT_ix 885 (by decide +kernel) rfl, gT_ix 44 (by decide +kernel) rfl, gT_ix 886 (by decide +kernel) rfl, by decide +kernel, by decide +kernel, by decide +kernel⟩
theorem cvL_124 : CV RL 124 YX4_onWay 2 := ⟨gT_ix 887 (by decide +kernel) rfl, gT_ix 888 (by decide +kernel) rfl, gT_ix 889 (by decide +kernel) rfl, gT_ix 44 (by decide +kernel) rfl, gT_ix 890 (by decide +kernel) rfl, by decide +kernel, by decide +kernel, by decide +kernel⟩
theorem cvL_127 : CV RL 127 YX4_count 1 := ⟨gT_ix 891 (by decide +kernel) rfl, gT_ix 892 (by decide +kernel) rfl, gT_ix 893 (by decide +kernel) rfl, gT_ix 44 (by decide +kernel) rfl, gT_ix 894 (by decide +kernel) rfl, by decide +kernel, by decide +kernel, by decide +kernel⟩
theorem cvL_130 : CV RL 130 YX4_setting 1 := ⟨gT_ix 903 (by decide +kernel) rfl, gT_ix 904 (by decide +kernel) rfl, gT_ix 905 (by decide +kernel) rfl, gT_ix 44 (by decide +kernel) rfl, gT_ix 906 (by decide +kernel) rfl, by decide +kernel, by decide +kernel, by decide +kernel⟩
theorem cvL_134 : CV RL 134 YX4_ifCalled 4 := ⟨gT_ix 907 (by decide +kernel) rfl, gT_ix 908 (by decide +kernel) rfl, gT_ix 909 (by decide +kernel) rfl, gT_ix 44 (by decide +kernel) rfl, gT_ix 910 (by decide +kernel) rfl, by decide +kernel, by decide +kernel, by decide +kernel⟩
theorem cvL_137 : CV RL 137 YX4_freeIn 1 := ⟨gT_ix 923 (by decide +kernel) rfl, gT_ix 924 (by decide +kernel) rfl, gT_ix 925 (by decide +kernel) rfl, gT_ix 44 (by decide +kernel) rfl, gT_ix 926 (by decide +kernel) rfl, by decide +kernel, by decide +kernel, by decide +kernel⟩
theorem cvL_138 : CV RL 138 YX3_healthiest 0 := ⟨gT_ix 227 (by decide +kernel) rfl, gT_ix 228 (by decide +kernel) rfl, gT_ix 229 (by decide +kernel) rfl, gT_ix 39 (by decide +kernel) rfl, gT_ix 230 (by decide +kernel) rfl, by decide +kernel, by decide +kernel, by decide +kernel⟩
theorem cvL_141 : CV RL 141 YX4_healthiest 0 := ⟨gT_ix 931 (by decide +kernel) rfl, gT_ix 932 (by decide +kernel) rfl, gT_ix 933 (by decide +kernel) rfl, gT_ix 44 (by decide +kernel) rfl, gT_ix 934 (by decide +kernel) rfl, by decide +kernel, by decide +kernel, by decide +kernel⟩
theorem cvL_142 : CV RL 142 YX3_health 0 := ⟨gT_ix 249 (by decide +kernel) rfl, gT_ix 250 (by decide +kernel) rfl, gT_ix 251 (by decide +kernel) rfl, gT_ix 39 (by decide +kernel) rfl, gT_ix 252 (by decide +kernel) rfl, by decide +kernel, by decide +kernel, by decide +kernel⟩
theorem cvL_146 : CV RL 146 YX4_health 0 := ⟨gT_ix 935 (by decide +kernel) rfl, gT_ix 936 (by decide +kernel) rfl, gT_ix 937 (by decide +kernel) rfl, gT_ix 44 (by decide +kernel) rfl, gT_ix 938 (by decide +kernel) rfl, by decide +kernel, by decide +kernel, by decide +kernel⟩
theorem cvL_147 : CV RL 147 YX3_digest 0 := ⟨gT_ix 276 (by decide +kernel) rfl, gT_ix 277 (by decide +kernel) rfl, gT_ix 278 (by decide +kernel) rfl, gT_ix 39 (by decide +kernel) rfl, gT_ix 279 (by decide +kernel) rfl, by decide +kernel, by decide +kernel, by decide +kernel⟩
theorem cvL_151 : CV RL 151 YX4_digest 0 := ⟨gT_ix 943 (by decide +kernel) rfl, gT_ix 944 (by decide +kernel) rfl, gT_ix 945 (by decide +kernel) rfl, gT_ix 44 (by decide +kernel) rfl, gT_ix 946 (by decide +kernel) rfl, by decide +kernel, by decide +kernel, by decide +kernel⟩
end
section
/-! decode rows, by program -/
theorem dX0_init_0 : decode cX0_init 0 = .ok (.aload_n 0, 1) := by decide +kernel
theorem dX0_init_1 : decode cX0_init 1 = .ok (.invokespecial 3, 3) := by decide +kernel
theorem dX0_init_4 : decode cX0_init 4 = .ok (.aload_n 0, 1) := by decide +kernel
theorem dX0_init_5 : decode cX0_init 5 = .ok (.bipush 60, 2) := by decide +kernel
theorem dX0_init_7 : decode cX0_init 7 = .ok (.newarray .int, 2) := by decide +kernel
theorem dX0_init_9 : decode cX0_init 9 = .ok (.putfield 11, 3) := by decide +kernel
theorem dX0_init_12 : decode cX0_init 12 = .ok (.return_, 1) := by decide +kernel
theorem dX0_isFull_0 : decode cX0_isFull 0 = .ok (.aload_n 0, 1) := by decide +kernel
theorem dX0_isFull_1 : decode cX0_isFull 1 = .ok (.getfield 15, 3) := by decide +kernel
theorem dX0_isFull_4 : decode cX0_isFull 4 = .ok (.bipush 60, 2) := by decide +kernel
theorem dX0_isFull_6 : decode cX0_isFull 6 = .ok (.if_icmp .lt 7, 3) := by decide +kernel
theorem dX0_isFull_9 : decode cX0_isFull 9 = .ok (.iconst 1, 1) := by decide +kernel
theorem dX0_isFull_10 : decode cX0_isFull 10 = .ok (.goto 4, 3) := by decide +kernel
theorem dX0_isFull_13 : decode cX0_isFull 13 = .ok (.iconst 0, 1) := by decide +kernel
theorem dX0_isFull_14 : decode cX0_isFull 14 = .ok (.ireturn, 1) := by decide +kernel
theorem dX0_add_0 : decode cX0_add 0 = .ok (.aload_n 0, 1) := by decide +kernel
theorem dX0_add_1 : decode cX0_add 1 = .ok (.invokevirtual 19, 3) := by decide +kernel
theorem dX0_add_4 : decode cX0_add 4 = .ok (.ifCond .ne 23, 3) := by decide +kernel
theorem dX0_add_7 : decode cX0_add 7 = .ok (.aload_n 0, 1) := by decide +kernel
theorem dX0_add_8 : decode cX0_add 8 = .ok (.getfield 11, 3) := by decide +kernel
theorem dX0_add_11 : decode cX0_add 11 = .ok (.aload_n 0, 1) := by decide +kernel
theorem dX0_add_12 : decode cX0_add 12 = .ok (.getfield 15, 3) := by decide +kernel
theorem dX0_add_15 : decode cX0_add 15 = .ok (.iload_n 1, 1) := by decide +kernel
theorem dX0_add_16 : decode cX0_add 16 = .ok (.iastore, 1) := by decide +kernel
theorem dX0_add_17 : decode cX0_add 17 = .ok (.aload_n 0, 1) := by decide +kernel
theorem dX0_add_18 : decode cX0_add 18 = .ok (.dup, 1) := by decide +kernel
theorem dX0_add_19 : decode cX0_add 19 = .ok (.getfield 15, 3) := by decide +kernel
theorem dX0_add_22 : decode cX0_add 22 = .ok (.iconst 1, 1) := by decide +kernel
theorem dX0_add_23 : decode cX0_add 23 = .ok (.iadd, 1) := by decide +kernel
theorem dX0_add_24 : decode cX0_add 24 = .ok (.putfield 15, 3) := by decide +kernel
theorem dX0_add_27 : decode cX0_add 27 = .ok (.aload_n 0, 1) := by decide +kernel
theorem dX0_add_28 : decode cX0_add 28 = .ok (.getfield 15, 3) := by decide +kernel
theorem dX0_add_31 : decode cX0_add 31 = .ok (.ireturn, 1) := by decide +kernel
theorem dX0_empty_0 : decode cX0_empty 0 = .ok (.aload_n 0, 1) := by decide +kernel
theorem dX0_empty_1 : decode cX0_empty 1 = .ok (.getfield 15, 3) := by decide +kernel
theorem dX0_empty_4 : decode cX0_empty 4 = .ok (.istore_n 1, 1) := by decide +kernel
theorem dX0_empty_5 : decode cX0_empty 5 = .ok (.aload_n 0, 1) := by decide +kernel
theorem dX0_empty_6 : decode cX0_empty 6 = .ok (.iconst 0, 1) := by decide +kernel
theorem dX0_empty_7 : decode cX0_empty 7 = .ok (.putfield 15, 3) := by decide +kernel
theorem dX0_empty_10 : decode cX0_empty 10 = .ok (.iload_n 1, 1) := by decide +kernel
theorem dX0_empty_11 : decode cX0_empty 11 = .ok (.ireturn, 1) := by decide +kernel
theorem dX0_firstWrong_0 : decode cX0_firstWrong 0 = .ok (.iconst 1, 1) := by decide +kernel
theorem dX0_firstWrong_1 : decode cX0_firstWrong 1 = .ok (.istore_n 1, 1) := by decide +kernel
theorem dX0_firstWrong_2 : decode cX0_firstWrong 2 = .ok (.iconst (-1), 1) := by decide +kernel
theorem dX0_firstWrong_3 : decode cX0_firstWrong 3 = .ok (.istore_n 2, 1) := by decide +kernel
theorem dX0_firstWrong_4 : decode cX0_firstWrong 4 = .ok (.iconst 0, 1) := by decide +kernel
theorem dX0_firstWrong_5 : decode cX0_firstWrong 5 = .ok (.istore_n 3, 1) := by decide +kernel
theorem dX0_firstWrong_6 : decode cX0_firstWrong 6 = .ok (.iload_n 3, 1) := by decide +kernel
theorem dX0_firstWrong_7 : decode cX0_firstWrong 7 = .ok (.aload_n 0, 1) := by decide +kernel
theorem dX0_firstWrong_8 : decode cX0_firstWrong 8 = .ok (.getfield 15, 3) := by decide +kernel
theorem dX0_firstWrong_11 : decode cX0_firstWrong 11 = .ok (.if_icmp .ge 92, 3) := by decide +kernel
theorem dX0_firstWrong_14 : decode cX0_firstWrong 14 = .ok (.aload_n 0, 1) := by decide +kernel
theorem dX0_firstWrong_15 : decode cX0_firstWrong 15 = .ok (.getfield 11, 3) := by decide +kernel
theorem dX0_firstWrong_18 : decode cX0_firstWrong 18 = .ok (.iload_n 3, 1) := by decide +kernel
theorem dX0_firstWrong_19 : decode cX0_firstWrong 19 = .ok (.iaload, 1) := by decide +kernel
theorem dX0_firstWrong_20 : decode cX0_firstWrong 20 = .ok (.invokestatic 23, 3) := by decide +kernel
theorem dX0_firstWrong_23 : decode cX0_firstWrong 23 = .ok (.ifCond .eq 42, 3) := by decide +kernel
theorem dX0_firstWrong_26 : decode cX0_firstWrong 26 = .ok (.iload_n 2, 1) := by decide +kernel
theorem dX0_firstWrong_27 : decode cX0_firstWrong 27 = .ok (.ifCond .eq 9, 3) := by decide +kernel
theorem dX0_firstWrong_30 : decode cX0_firstWrong 30 = .ok (.iload_n 2, 1) := by decide +kernel
theorem dX0_firstWrong_31 : decode cX0_firstWrong 31 = .ok (.bipush 9, 2) := by decide +kernel
theorem dX0_firstWrong_33 : decode cX0_firstWrong 33 = .ok (.if_icmp .le 5, 3) := by decide +kernel
theorem dX0_firstWrong_36 : decode cX0_firstWrong 36 = .ok (.iload_n 3, 1) := by decide +kernel
theorem dX0_firstWrong_37 : decode cX0_firstWrong 37 = .ok (.ireturn, 1) := by decide +kernel
theorem dX0_firstWrong_38 : decode cX0_firstWrong 38 = .ok (.aload_n 0, 1) := by decide +kernel
theorem dX0_firstWrong_39 : decode cX0_firstWrong 39 = .ok (.getfield 11, 3) := by decide +kernel
theorem dX0_firstWrong_42 : decode cX0_firstWrong 42 = .ok (.iload_n 3, 1) := by decide +kernel
theorem dX0_firstWrong_43 : decode cX0_firstWrong 43 = .ok (.iaload, 1) := by decide +kernel
theorem dX0_firstWrong_44 : decode cX0_firstWrong 44 = .ok (.bipush 48, 2) := by decide +kernel
theorem dX0_firstWrong_46 : decode cX0_firstWrong 46 = .ok (.isub, 1) := by decide +kernel
theorem dX0_firstWrong_47 : decode cX0_firstWrong 47 = .ok (.iload_n 2, 1) := by decide +kernel
theorem dX0_firstWrong_48 : decode cX0_firstWrong 48 = .ok (.iconst (-1), 1) := by decide +kernel
theorem dX0_firstWrong_49 : decode cX0_firstWrong 49 = .ok (.if_icmp .ne 7, 3) := by decide +kernel
theorem dX0_firstWrong_52 : decode cX0_firstWrong 52 = .ok (.iconst 0, 1) := by decide +kernel
theorem dX0_firstWrong_53 : decode cX0_firstWrong 53 = .ok (.goto 7, 3) := by decide +kernel
theorem dX0_firstWrong_56 : decode cX0_firstWrong 56 = .ok (.bipush 10, 2) := by decide +kernel
theorem dX0_firstWrong_58 : decode cX0_firstWrong 58 = .ok (.iload_n 2, 1) := by decide +kernel
theorem dX0_firstWrong_59 : decode cX0_firstWrong 59 = .ok (.imul, 1) := by decide +kernel
theorem dX0_firstWrong_60 : decode cX0_firstWrong 60 = .ok (.iadd, 1) := by decide +kernel
theorem dX0_firstWrong_61 : decode cX0_firstWrong 61 = .ok (.istore_n 2, 1) := by decide +kernel
theorem dX0_firstWrong_62 : decode cX0_firstWrong 62 = .ok (.goto 35, 3) := by decide +kernel
theorem dX0_firstWrong_65 : decode cX0_firstWrong 65 = .ok (.aload_n 0, 1) := by decide +kernel
theorem dX0_firstWrong_66 : decode cX0_firstWrong 66 = .ok (.getfield 11, 3) := by decide +kernel
theorem dX0_firstWrong_69 : decode cX0_firstWrong 69 = .ok (.iload_n 3, 1) := by decide +kernel
theorem dX0_firstWrong_70 : decode cX0_firstWrong 70 = .ok (.iaload, 1) := by decide +kernel
theorem dX0_firstWrong_71 : decode cX0_firstWrong 71 = .ok (.bipush 44, 2) := by decide +kernel
theorem dX0_firstWrong_73 : decode cX0_firstWrong 73 = .ok (.if_icmp .ne 22, 3) := by decide +kernel
theorem dX0_firstWrong_76 : decode cX0_firstWrong 76 = .ok (.iload_n 2, 1) := by decide +kernel
theorem dX0_firstWrong_77 : decode cX0_firstWrong 77 = .ok (.iconst (-1), 1) := by decide +kernel
theorem dX0_firstWrong_78 : decode cX0_firstWrong 78 = .ok (.if_icmp .eq 17, 3) := by decide +kernel
theorem dX0_firstWrong_81 : decode cX0_firstWrong 81 = .ok (.iload_n 1, 1) := by decide +kernel
theorem dX0_firstWrong_82 : decode cX0_firstWrong 82 = .ok (.bipush 20, 2) := by decide +kernel
theorem dX0_firstWrong_84 : decode cX0_firstWrong 84 = .ok (.if_icmp .ge 11, 3) := by decide +kernel
theorem dX0_firstWrong_87 : decode cX0_firstWrong 87 = .ok (.iinc 1 1, 3) := by decide +kernel
theorem dX0_firstWrong_90 : decode cX0_firstWrong 90 = .ok (.iconst (-1), 1) := by decide +kernel
theorem dX0_firstWrong_91 : decode cX0_firstWrong 91 = .ok (.istore_n 2, 1) := by decide +kernel
theorem dX0_firstWrong_92 : decode cX0_firstWrong 92 = .ok (.goto 5, 3) := by decide +kernel
theorem dX0_firstWrong_95 : decode cX0_firstWrong 95 = .ok (.iload_n 3, 1) := by decide +kernel
theorem dX0_firstWrong_96 : decode cX0_firstWrong 96 = .ok (.ireturn, 1) := by decide +kernel
theorem dX0_firstWrong_97 : decode cX0_firstWrong 97 = .ok (.iinc 3 1, 3) := by decide +kernel
theorem dX0_firstWrong_100 : decode cX0_firstWrong 100 = .ok (.goto (-94), 3) := by decide +kernel
theorem dX0_firstWrong_103 : decode cX0_firstWrong 103 = .ok (.aload_n 0, 1) := by decide +kernel
theorem dX0_firstWrong_104 : decode cX0_firstWrong 104 = .ok (.getfield 15, 3) := by decide +kernel
theorem dX0_firstWrong_107 : decode cX0_firstWrong 107 = .ok (.ireturn, 1) := by decide +kernel
theorem dX0_isComplete_0 : decode cX0_isComplete 0 = .ok (.aload_n 0, 1) := by decide +kernel
theorem dX0_isComplete_1 : decode cX0_isComplete 1 = .ok (.getfield 15, 3) := by decide +kernel
theorem dX0_isComplete_4 : decode cX0_isComplete 4 = .ok (.ifCond .le 34, 3) := by decide +kernel
theorem dX0_isComplete_7 : decode cX0_isComplete 7 = .ok (.aload_n 0, 1) := by decide +kernel
theorem dX0_isComplete_8 : decode cX0_isComplete 8 = .ok (.getfield 11, 3) := by decide +kernel
theorem dX0_isComplete_11 : decode cX0_isComplete 11 = .ok (.aload_n 0, 1) := by decide +kernel
theorem dX0_isComplete_12 : decode cX0_isComplete 12 = .ok (.getfield 15, 3) := by decide +kernel
theorem dX0_isComplete_15 : decode cX0_isComplete 15 = .ok (.iconst 1, 1) := by decide +kernel
theorem dX0_isComplete_16 : decode cX0_isComplete 16 = .ok (.isub, 1) := by decide +kernel
theorem dX0_isComplete_17 : decode cX0_isComplete 17 = .ok (.iaload, 1) := by decide +kernel
theorem dX0_isComplete_18 : decode cX0_isComplete 18 = .ok (.bipush 44, 2) := by decide +kernel
theorem dX0_isComplete_20 : decode cX0_isComplete 20 = .ok (.if_icmp .eq 18, 3) := by decide +kernel
theorem dX0_isComplete_23 : decode cX0_isComplete 23 = .ok (.aload_n 0, 1) := by decide +kernel
theorem dX0_isComplete_24 : decode cX0_isComplete 24 = .ok (.invokevirtual 27, 3) := by decide +kernel
theorem dX0_isComplete_27 : decode cX0_isComplete 27 = .ok (.aload_n 0, 1) := by decide +kernel
theorem dX0_isComplete_28 : decode cX0_isComplete 28 = .ok (.getfield 15, 3) := by decide +kernel
theorem dX0_isComplete_31 : decode cX0_isComplete 31 = .ok (.if_icmp .ne 7, 3) := by decide +kernel
theorem dX0_isComplete_34 : decode cX0_isComplete 34 = .ok (.iconst 1, 1) := by decide +kernel
theorem dX0_isComplete_35 : decode cX0_isComplete 35 = .ok (.goto 4, 3) := by decide +kernel
theorem dX0_isComplete_38 : decode cX0_isComplete 38 = .ok (.iconst 0, 1) := by decide +kernel
theorem dX0_isComplete_39 : decode cX0_isComplete 39 = .ok (.ireturn, 1) := by decide +kernel
theorem dX0_readInto_0 : decode cX0_readInto 0 = .ok (.aload_n 1, 1) := by decide +kernel
theorem dX0_readInto_1 : decode cX0_readInto 1 = .ok (.iconst 0, 1) := by decide +kernel
theorem dX0_readInto_2 : decode cX0_readInto 2 = .ok (.invokestatic 31, 3) := by decide +kernel
theorem dX0_readInto_5 : decode cX0_readInto 5 = .ok (.iconst 0, 1) := by decide +kernel
theorem dX0_readInto_6 : decode cX0_readInto 6 = .ok (.istore_n 2, 1) := by decide +kernel
theorem dX0_readInto_7 : decode cX0_readInto 7 = .ok (.iconst 0, 1) := by decide +kernel
theorem dX0_readInto_8 : decode cX0_readInto 8 = .ok (.istore_n 3, 1) := by decide +kernel
theorem dX0_readInto_9 : decode cX0_readInto 9 = .ok (.iload_n 3, 1) := by decide +kernel
theorem dX0_readInto_10 : decode cX0_readInto 10 = .ok (.aload_n 0, 1) := by decide +kernel
theorem dX0_readInto_11 : decode cX0_readInto 11 = .ok (.getfield 15, 3) := by decide +kernel
theorem dX0_readInto_14 : decode cX0_readInto 14 = .ok (.if_icmp .ge 51, 3) := by decide +kernel
theorem dX0_readInto_17 : decode cX0_readInto 17 = .ok (.iload_n 2, 1) := by decide +kernel
theorem dX0_readInto_18 : decode cX0_readInto 18 = .ok (.aload_n 1, 1) := by decide +kernel
theorem dX0_readInto_19 : decode cX0_readInto 19 = .ok (.arraylength, 1) := by decide +kernel
theorem dX0_readInto_20 : decode cX0_readInto 20 = .ok (.if_icmp .ge 45, 3) := by decide +kernel
theorem dX0_readInto_23 : decode cX0_readInto 23 = .ok (.aload_n 0, 1) := by decide +kernel
theorem dX0_readInto_24 : decode cX0_readInto 24 = .ok (.getfield 11, 3) := by decide +kernel
theorem dX0_readInto_27 : decode cX0_readInto 27 = .ok (.iload_n 3, 1) := by decide +kernel
theorem dX0_readInto_28 : decode cX0_readInto 28 = .ok (.iaload, 1) := by decide +kernel
theorem dX0_readInto_29 : decode cX0_readInto 29 = .ok (.bipush 44, 2) := by decide +kernel
theorem dX0_readInto_31 : decode cX0_readInto 31 = .ok (.if_icmp .ne 9, 3) := by decide +kernel
theorem dX0_readInto_34 : decode cX0_readInto 34 = .ok (.iinc 2 1, 3) := by decide +kernel
theorem dX0_readInto_37 : decode cX0_readInto 37 = .ok (.goto 22, 3) := by decide +kernel
theorem dX0_readInto_40 : decode cX0_readInto 40 = .ok (.aload_n 1, 1) := by decide +kernel
theorem dX0_readInto_41 : decode cX0_readInto 41 = .ok (.iload_n 2, 1) := by decide +kernel
theorem dX0_readInto_42 : decode cX0_readInto 42 = .ok (.bipush 10, 2) := by decide +kernel
theorem dX0_readInto_44 : decode cX0_readInto 44 = .ok (.aload_n 1, 1) := by decide +kernel
theorem dX0_readInto_45 : decode cX0_readInto 45 = .ok (.iload_n 2, 1) := by decide +kernel
theorem dX0_readInto_46 : decode cX0_readInto 46 = .ok (.iaload, 1) := by decide +kernel
theorem dX0_readInto_47 : decode cX0_readInto 47 = .ok (.imul, 1) := by decide +kernel
theorem dX0_readInto_48 : decode cX0_readInto 48 = .ok (.aload_n 0, 1) := by decide +kernel
theorem dX0_readInto_49 : decode cX0_readInto 49 = .ok (.getfield 11, 3) := by decide +kernel
theorem dX0_readInto_52 : decode cX0_readInto 52 = .ok (.iload_n 3, 1) := by decide +kernel
theorem dX0_readInto_53 : decode cX0_readInto 53 = .ok (.iaload, 1) := by decide +kernel
theorem dX0_readInto_54 : decode cX0_readInto 54 = .ok (.bipush 48, 2) := by decide +kernel
theorem dX0_readInto_56 : decode cX0_readInto 56 = .ok (.isub, 1) := by decide +kernel
theorem dX0_readInto_57 : decode cX0_readInto 57 = .ok (.iadd, 1) := by decide +kernel
theorem dX0_readInto_58 : decode cX0_readInto 58 = .ok (.iastore, 1) := by decide +kernel
theorem dX0_readInto_59 : decode cX0_readInto 59 = .ok (.iinc 3 1, 3) := by decide +kernel
theorem dX0_readInto_62 : decode cX0_readInto 62 = .ok (.goto (-53), 3) := by decide +kernel
theorem dX0_readInto_65 : decode cX0_readInto 65 = .ok (.iload_n 2, 1) := by decide +kernel
theorem dX0_readInto_66 : decode cX0_readInto 66 = .ok (.iconst 1, 1) := by decide +kernel
theorem dX0_readInto_67 : decode cX0_readInto 67 = .ok (.iadd, 1) := by decide +kernel
theorem dX0_readInto_68 : decode cX0_readInto 68 = .ok (.aload_n 1, 1) := by decide +kernel
theorem dX0_readInto_69 : decode cX0_readInto 69 = .ok (.arraylength, 1) := by decide +kernel
theorem dX0_readInto_70 : decode cX0_readInto 70 = .ok (.invokestatic 37, 3) := by decide +kernel
theorem dX0_readInto_73 : decode cX0_readInto 73 = .ok (.ireturn, 1) := by decide +kernel
theorem dX0_isDigit_0 : decode cX0_isDigit 0 = .ok (.iload_n 0, 1) := by decide +kernel
theorem dX0_isDigit_1 : decode cX0_isDigit 1 = .ok (.bipush 48, 2) := by decide +kernel
theorem dX0_isDigit_3 : decode cX0_isDigit 3 = .ok (.if_icmp .lt 13, 3) := by decide +kernel
theorem dX0_isDigit_6 : decode cX0_isDigit 6 = .ok (.iload_n 0, 1) := by decide +kernel
theorem dX0_isDigit_7 : decode cX0_isDigit 7 = .ok (.bipush 57, 2) := by decide +kernel
theorem dX0_isDigit_9 : decode cX0_isDigit 9 = .ok (.if_icmp .gt 7, 3) := by decide +kernel
theorem dX0_isDigit_12 : decode cX0_isDigit 12 = .ok (.iconst 1, 1) := by decide +kernel
theorem dX0_isDigit_13 : decode cX0_isDigit 13 = .ok (.goto 4, 3) := by decide +kernel
theorem dX0_isDigit_16 : decode cX0_isDigit 16 = .ok (.iconst 0, 1) := by decide +kernel
theorem dX0_isDigit_17 : decode cX0_isDigit 17 = .ok (.ireturn, 1) := by decide +kernel
theorem dX2_init_0 : decode cX2_init 0 = .ok (.aload_n 0, 1) := by decide +kernel
theorem dX2_init_1 : decode cX2_init 1 = .ok (.invokespecial 3, 3) := by decide +kernel
theorem dX2_init_4 : decode cX2_init 4 = .ok (.aload_n 0, 1) := by decide +kernel
theorem dX2_init_5 : decode cX2_init 5 = .ok (.bipush 20, 2) := by decide +kernel
theorem dX2_init_7 : decode cX2_init 7 = .ok (.newarray .int, 2) := by decide +kernel
theorem dX2_init_9 : decode cX2_init 9 = .ok (.putfield 9, 3) := by decide +kernel
theorem dX2_init_12 : decode cX2_init 12 = .ok (.aload_n 0, 1) := by decide +kernel
theorem dX2_init_13 : decode cX2_init 13 = .ok (.iconst 1, 1) := by decide +kernel
theorem dX2_init_14 : decode cX2_init 14 = .ok (.putfield 15, 3) := by decide +kernel
theorem dX2_init_17 : decode cX2_init 17 = .ok (.aload_n 0, 1) := by decide +kernel
theorem dX2_init_18 : decode cX2_init 18 = .ok (.iconst 0, 1) := by decide +kernel
theorem dX2_init_19 : decode cX2_init 19 = .ok (.putfield 19, 3) := by decide +kernel
theorem dX2_init_22 : decode cX2_init 22 = .ok (.aload_n 0, 1) := by decide +kernel
theorem dX2_init_23 : decode cX2_init 23 = .ok (.getfield 9, 3) := by decide +kernel
theorem dX2_init_26 : decode cX2_init 26 = .ok (.iconst 0, 1) := by decide +kernel
theorem dX2_init_27 : decode cX2_init 27 = .ok (.iconst 5, 1) := by decide +kernel
theorem dX2_init_28 : decode cX2_init 28 = .ok (.iastore, 1) := by decide +kernel
theorem dX2_init_29 : decode cX2_init 29 = .ok (.return_, 1) := by decide +kernel
theorem dX2_copyFrom_0 : decode cX2_copyFrom 0 = .ok (.aload_n 1, 1) := by decide +kernel
theorem dX2_copyFrom_1 : decode cX2_copyFrom 1 = .ok (.getfield 9, 3) := by decide +kernel
theorem dX2_copyFrom_4 : decode cX2_copyFrom 4 = .ok (.iconst 0, 1) := by decide +kernel
theorem dX2_copyFrom_5 : decode cX2_copyFrom 5 = .ok (.aload_n 0, 1) := by decide +kernel
theorem dX2_copyFrom_6 : decode cX2_copyFrom 6 = .ok (.getfield 9, 3) := by decide +kernel
theorem dX2_copyFrom_9 : decode cX2_copyFrom 9 = .ok (.iconst 0, 1) := by decide +kernel
theorem dX2_copyFrom_10 : decode cX2_copyFrom 10 = .ok (.bipush 20, 2) := by decide +kernel
theorem dX2_copyFrom_12 : decode cX2_copyFrom 12 = .ok (.invokestatic 22, 3) := by decide +kernel
theorem dX2_copyFrom_15 : decode cX2_copyFrom 15 = .ok (.aload_n 0, 1) := by decide +kernel
theorem dX2_copyFrom_16 : decode cX2_copyFrom 16 = .ok (.aload_n 1, 1) := by decide +kernel
theorem dX2_copyFrom_17 : decode cX2_copyFrom 17 = .ok (.getfield 15, 3) := by decide +kernel
theorem dX2_copyFrom_20 : decode cX2_copyFrom 20 = .ok (.putfield 15, 3) := by decide +kernel
theorem dX2_copyFrom_23 : decode cX2_copyFrom 23 = .ok (.aload_n 0, 1) := by decide +kernel
theorem dX2_copyFrom_24 : decode cX2_copyFrom 24 = .ok (.aload_n 1, 1) := by decide +kernel
theorem dX2_copyFrom_25 : decode cX2_copyFrom 25 = .ok (.getfield 28, 3) := by decide +kernel
theorem dX2_copyFrom_28 : decode cX2_copyFrom 28 = .ok (.putfield 28, 3) := by decide +kernel
theorem dX2_copyFrom_31 : decode cX2_copyFrom 31 = .ok (.aload_n 0, 1) := by decide +kernel
theorem dX2_copyFrom_32 : decode cX2_copyFrom 32 = .ok (.aload_n 1, 1) := by decide +kernel
theorem dX2_copyFrom_33 : decode cX2_copyFrom 33 = .ok (.getfield 19, 3) := by decide +kernel
theorem dX2_copyFrom_36 : decode cX2_copyFrom 36 = .ok (.putfield 19, 3) := by decide +kernel
theorem dX2_copyFrom_39 : decode cX2_copyFrom 39 = .ok (.aload_n 0, 1) := by decide +kernel
theorem dX2_copyFrom_40 : decode cX2_copyFrom 40 = .ok (.aload_n 1, 1) := by decide +kernel
theorem dX2_copyFrom_41 : decode cX2_copyFrom 41 = .ok (.getfield 31, 3) := by decide +kernel
theorem dX2_copyFrom_44 : decode cX2_copyFrom 44 = .ok (.putfield 31, 3) := by decide +kernel
theorem dX2_copyFrom_47 : decode cX2_copyFrom 47 = .ok (.aload_n 0, 1) := by decide +kernel
theorem dX2_copyFrom_48 : decode cX2_copyFrom 48 = .ok (.aload_n 1, 1) := by decide +kernel
theorem dX2_copyFrom_49 : decode cX2_copyFrom 49 = .ok (.getfield 34, 3) := by decide +kernel
theorem dX2_copyFrom_52 : decode cX2_copyFrom 52 = .ok (.putfield 34, 3) := by decide +kernel
theorem dX2_copyFrom_55 : decode cX2_copyFrom 55 = .ok (.aload_n 0, 1) := by decide +kernel
theorem dX2_copyFrom_56 : decode cX2_copyFrom 56 = .ok (.aload_n 1, 1) := by decide +kernel
theorem dX2_copyFrom_57 : decode cX2_copyFrom 57 = .ok (.getfield 37, 3) := by decide +kernel
theorem dX2_copyFrom_60 : decode cX2_copyFrom 60 = .ok (.putfield 37, 3) := by decide +kernel
theorem dX2_copyFrom_63 : decode cX2_copyFrom 63 = .ok (.aload_n 0, 1) := by decide +kernel
theorem dX2_copyFrom_64 : decode cX2_copyFrom 64 = .ok (.aload_n 1, 1) := by decide +kernel
theorem dX2_copyFrom_65 : decode cX2_copyFrom 65 = .ok (.getfield 40, 3) := by decide +kernel
theorem dX2_copyFrom_68 : decode cX2_copyFrom 68 = .ok (.putfield 40, 3) := by decide +kernel
theorem dX2_copyFrom_71 : decode cX2_copyFrom 71 = .ok (.aload_n 0, 1) := by decide +kernel
theorem dX2_copyFrom_72 : decode cX2_copyFrom 72 = .ok (.aload_n 1, 1) := by decide +kernel
theorem dX2_copyFrom_73 : decode cX2_copyFrom 73 = .ok (.getfield 43, 3) := by decide +kernel
theorem dX2_copyFrom_76 : decode cX2_copyFrom 76 = .ok (.putfield 43, 3) := by decide +kernel
theorem dX2_copyFrom_79 : decode cX2_copyFrom 79 = .ok (.aload_n 0, 1) := by decide +kernel
theorem dX2_copyFrom_80 : decode cX2_copyFrom 80 = .ok (.aload_n 1, 1) := by decide +kernel
theorem dX2_copyFrom_81 : decode cX2_copyFrom 81 = .ok (.getfield 46, 3) := by decide +kernel
theorem dX2_copyFrom_84 : decode cX2_copyFrom 84 = .ok (.putfield 46, 3) := by decide +kernel
theorem dX2_copyFrom_87 : decode cX2_copyFrom 87 = .ok (.aload_n 0, 1) := by decide +kernel
theorem dX2_copyFrom_88 : decode cX2_copyFrom 88 = .ok (.aload_n 1, 1) := by decide +kernel
theorem dX2_copyFrom_89 : decode cX2_copyFrom 89 = .ok (.getfield 49, 3) := by decide +kernel
theorem dX2_copyFrom_92 : decode cX2_copyFrom 92 = .ok (.putfield 49, 3) := by decide +kernel
theorem dX2_copyFrom_95 : decode cX2_copyFrom 95 = .ok (.aload_n 0, 1) := by decide +kernel
theorem dX2_copyFrom_96 : decode cX2_copyFrom 96 = .ok (.aload_n 1, 1) := by decide +kernel
theorem dX2_copyFrom_97 : decode cX2_copyFrom 97 = .ok (.getfield 52, 3) := by decide +kernel
theorem dX2_copyFrom_100 : decode cX2_copyFrom 100 = .ok (.putfield 52, 3) := by decide +kernel
theorem dX2_copyFrom_103 : decode cX2_copyFrom 103 = .ok (.aload_n 0, 1) := by decide +kernel
theorem dX2_copyFrom_104 : decode cX2_copyFrom 104 = .ok (.aload_n 1, 1) := by decide +kernel
theorem dX2_copyFrom_105 : decode cX2_copyFrom 105 = .ok (.getfield 55, 3) := by decide +kernel
theorem dX2_copyFrom_108 : decode cX2_copyFrom 108 = .ok (.putfield 55, 3) := by decide +kernel
theorem dX2_copyFrom_111 : decode cX2_copyFrom 111 = .ok (.aload_n 0, 1) := by decide +kernel
theorem dX2_copyFrom_112 : decode cX2_copyFrom 112 = .ok (.aload_n 1, 1) := by decide +kernel
theorem dX2_copyFrom_113 : decode cX2_copyFrom 113 = .ok (.getfield 58, 3) := by decide +kernel
theorem dX2_copyFrom_116 : decode cX2_copyFrom 116 = .ok (.putfield 58, 3) := by decide +kernel
theorem dX2_copyFrom_119 : decode cX2_copyFrom 119 = .ok (.return_, 1) := by decide +kernel
theorem dX2_takeRow_0 : decode cX2_takeRow 0 = .ok (.aload_n 0, 1) := by decide +kernel
theorem dX2_takeRow_1 : decode cX2_takeRow 1 = .ok (.getfield 15, 3) := by decide +kernel
theorem dX2_takeRow_4 : decode cX2_takeRow 4 = .ok (.istore_n 2, 1) := by decide +kernel
theorem dX2_takeRow_5 : decode cX2_takeRow 5 = .ok (.aload_n 0, 1) := by decide +kernel
theorem dX2_takeRow_6 : decode cX2_takeRow 6 = .ok (.aload_n 1, 1) := by decide +kernel
theorem dX2_takeRow_7 : decode cX2_takeRow 7 = .ok (.aload_n 0, 1) := by decide +kernel
theorem dX2_takeRow_8 : decode cX2_takeRow 8 = .ok (.getfield 9, 3) := by decide +kernel
theorem dX2_takeRow_11 : decode cX2_takeRow 11 = .ok (.invokevirtual 61, 3) := by decide +kernel
theorem dX2_takeRow_14 : decode cX2_takeRow 14 = .ok (.putfield 15, 3) := by decide +kernel
theorem dX2_takeRow_17 : decode cX2_takeRow 17 = .ok (.aload_n 0, 1) := by decide +kernel
theorem dX2_takeRow_18 : decode cX2_takeRow 18 = .ok (.iconst 0, 1) := by decide +kernel
theorem dX2_takeRow_19 : decode cX2_takeRow 19 = .ok (.putfield 28, 3) := by decide +kernel
theorem dX2_takeRow_22 : decode cX2_takeRow 22 = .ok (.iload_n 2, 1) := by decide +kernel
theorem dX2_takeRow_23 : decode cX2_takeRow 23 = .ok (.ireturn, 1) := by decide +kernel
theorem dX2_takeDelay_0 : decode cX2_takeDelay 0 = .ok (.aload_n 0, 1) := by decide +kernel
theorem dX2_takeDelay_1 : decode cX2_takeDelay 1 = .ok (.invokevirtual 67, 3) := by decide +kernel
theorem dX2_takeDelay_4 : decode cX2_takeDelay 4 = .ok (.istore_n 1, 1) := by decide +kernel
theorem dX2_takeDelay_5 : decode cX2_takeDelay 5 = .ok (.aload_n 0, 1) := by decide +kernel
theorem dX2_takeDelay_6 : decode cX2_takeDelay 6 = .ok (.iload_n 1, 1) := by decide +kernel
theorem dX2_takeDelay_7 : decode cX2_takeDelay 7 = .ok (.iconst 1, 1) := by decide +kernel
theorem dX2_takeDelay_8 : decode cX2_takeDelay 8 = .ok (.iadd, 1) := by decide +kernel
theorem dX2_takeDelay_9 : decode cX2_takeDelay 9 = .ok (.putfield 28, 3) := by decide +kernel
theorem dX2_takeDelay_12 : decode cX2_takeDelay 12 = .ok (.aload_n 0, 1) := by decide +kernel
theorem dX2_takeDelay_13 : decode cX2_takeDelay 13 = .ok (.getfield 9, 3) := by decide +kernel
theorem dX2_takeDelay_16 : decode cX2_takeDelay 16 = .ok (.iload_n 1, 1) := by decide +kernel
theorem dX2_takeDelay_17 : decode cX2_takeDelay 17 = .ok (.iaload, 1) := by decide +kernel
theorem dX2_takeDelay_18 : decode cX2_takeDelay 18 = .ok (.ireturn, 1) := by decide +kernel
theorem dX2_nextPlace_0 : decode cX2_nextPlace 0 = .ok (.aload_n 0, 1) := by decide +kernel
theorem dX2_nextPlace_1 : decode cX2_nextPlace 1 = .ok (.getfield 28, 3) := by decide +kernel
theorem dX2_nextPlace_4 : decode cX2_nextPlace 4 = .ok (.aload_n 0, 1) := by decide +kernel
theorem dX2_nextPlace_5 : decode cX2_nextPlace 5 = .ok (.getfield 15, 3) := by decide +kernel
theorem dX2_nextPlace_8 : decode cX2_nextPlace 8 = .ok (.if_icmp .ge 10, 3) := by decide +kernel
theorem dX2_nextPlace_11 : decode cX2_nextPlace 11 = .ok (.aload_n 0, 1) := by decide +kernel
theorem dX2_nextPlace_12 : decode cX2_nextPlace 12 = .ok (.getfield 28, 3) := by decide +kernel
theorem dX2_nextPlace_15 : decode cX2_nextPlace 15 = .ok (.goto 4, 3) := by decide +kernel
theorem dX2_nextPlace_18 : decode cX2_nextPlace 18 = .ok (.iconst 0, 1) := by decide +kernel
theorem dX2_nextPlace_19 : decode cX2_nextPlace 19 = .ok (.ireturn, 1) := by decide +kernel
theorem dX2_windowSize_0 : decode cX2_windowSize 0 = .ok (.aload_n 0, 1) := by decide +kernel
theorem dX2_windowSize_1 : decode cX2_windowSize 1 = .ok (.getfield 19, 3) := by decide +kernel
theorem dX2_windowSize_4 : decode cX2_windowSize 4 = .ok (.ifCond .ne 14, 3) := by decide +kernel
theorem dX2_windowSize_7 : decode cX2_windowSize 7 = .ok (.aload_n 0, 1) := by decide +kernel
theorem dX2_windowSize_8 : decode cX2_windowSize 8 = .ok (.getfield 43, 3) := by decide +kernel
theorem dX2_windowSize_11 : decode cX2_windowSize 11 = .ok (.iload_n 1, 1) := by decide +kernel
theorem dX2_windowSize_12 : decode cX2_windowSize 12 = .ok (.invokestatic 71, 3) := by decide +kernel
theorem dX2_windowSize_15 : decode cX2_windowSize 15 = .ok (.goto 4, 3) := by decide +kernel
theorem dX2_windowSize_18 : decode cX2_windowSize 18 = .ok (.iconst 0, 1) := by decide +kernel
theorem dX2_windowSize_19 : decode cX2_windowSize 19 = .ok (.ireturn, 1) := by decide +kernel
theorem dX2_badInWindow_0 : decode cX2_badInWindow 0 = .ok (.aload_n 0, 1) := by decide +kernel
theorem dX2_badInWindow_1 : decode cX2_badInWindow 1 = .ok (.getfield 19, 3) := by decide +kernel
theorem dX2_badInWindow_4 : decode cX2_badInWindow 4 = .ok (.ifCond .ne 19, 3) := by decide +kernel
theorem dX2_badInWindow_7 : decode cX2_badInWindow 7 = .ok (.aload_n 0, 1) := by decide +kernel
theorem dX2_badInWindow_8 : decode cX2_badInWindow 8 = .ok (.getfield 40, 3) := by decide +kernel
theorem dX2_badInWindow_11 : decode cX2_badInWindow 11 = .ok (.iconst 1, 1) := by decide +kernel
theorem dX2_badInWindow_12 : decode cX2_badInWindow 12 = .ok (.iload_n 1, 1) := by decide +kernel
theorem dX2_badInWindow_13 : decode cX2_badInWindow 13 = .ok (.ishl, 1) := by decide +kernel
theorem dX2_badInWindow_14 : decode cX2_badInWindow 14 = .ok (.iconst 1, 1) := by decide +kernel
theorem dX2_badInWindow_15 : decode cX2_badInWindow 15 = .ok (.isub, 1) := by decide +kernel
theorem dX2_badInWindow_16 : decode cX2_badInWindow 16 = .ok (.iand, 1) := by decide +kernel
theorem dX2_badInWindow_17 : decode cX2_badInWindow 17 = .ok (.invokestatic 77, 3) := by decide +kernel
theorem dX2_badInWindow_20 : decode cX2_badInWindow 20 = .ok (.goto 4, 3) := by decide +kernel
theorem dX2_badInWindow_23 : decode cX2_badInWindow 23 = .ok (.iconst 0, 1) := by decide +kernel
theorem dX2_badInWindow_24 : decode cX2_badInWindow 24 = .ok (.ireturn, 1) := by decide +kernel
theorem dX2_noteOutcome_0 : decode cX2_noteOutcome 0 = .ok (.aload_n 0, 1) := by decide +kernel
theorem dX2_noteOutcome_1 : decode cX2_noteOutcome 1 = .ok (.aload_n 0, 1) := by decide +kernel
theorem dX2_noteOutcome_2 : decode cX2_noteOutcome 2 = .ok (.getfield 40, 3) := by decide +kernel
theorem dX2_noteOutcome_5 : decode cX2_noteOutcome 5 = .ok (.iconst 1, 1) := by decide +kernel
theorem dX2_noteOutcome_6 : decode cX2_noteOutcome 6 = .ok (.ishl, 1) := by decide +kernel
theorem dX2_noteOutcome_7 : decode cX2_noteOutcome 7 = .ok (.iload_n 1, 1) := by decide +kernel
theorem dX2_noteOutcome_8 : decode cX2_noteOutcome 8 = .ok (.ifCond .eq 7, 3) := by decide +kernel
theorem dX2_noteOutcome_11 : decode cX2_noteOutcome 11 = .ok (.iconst 1, 1) := by decide +kernel
theorem dX2_noteOutcome_12 : decode cX2_noteOutcome 12 = .ok (.goto 4, 3) := by decide +kernel
theorem dX2_noteOutcome_15 : decode cX2_noteOutcome 15 = .ok (.iconst 0, 1) := by decide +kernel
theorem dX2_noteOutcome_16 : decode cX2_noteOutcome 16 = .ok (.ior, 1) := by decide +kernel
theorem dX2_noteOutcome_17 : decode cX2_noteOutcome 17 = .ok (.ldc 83, 2) := by decide +kernel
theorem dX2_noteOutcome_19 : decode cX2_noteOutcome 19 = .ok (.iand, 1) := by decide +kernel
theorem dX2_noteOutcome_20 : decode cX2_noteOutcome 20 = .ok (.putfield 40, 3) := by decide +kernel
theorem dX2_noteOutcome_23 : decode cX2_noteOutcome 23 = .ok (.aload_n 0, 1) := by decide +kernel
theorem dX2_noteOutcome_24 : decode cX2_noteOutcome 24 = .ok (.aload_n 0, 1) := by decide +kernel
theorem dX2_noteOutcome_25 : decode cX2_noteOutcome 25 = .ok (.getfield 43, 3) := by decide +kernel
theorem dX2_noteOutcome_28 : decode cX2_noteOutcome 28 = .ok (.iconst 1, 1) := by decide +kernel
theorem dX2_noteOutcome_29 : decode cX2_noteOutcome 29 = .ok (.iadd, 1) := by decide +kernel
theorem dX2_noteOutcome_30 : decode cX2_noteOutcome 30 = .ok (.bipush 16, 2) := by decide +kernel
theorem dX2_noteOutcome_32 : decode cX2_noteOutcome 32 = .ok (.invokestatic 71, 3) := by decide +kernel
theorem dX2_noteOutcome_35 : decode cX2_noteOutcome 35 = .ok (.putfield 43, 3) := by decide +kernel
theorem dX2_noteOutcome_38 : decode cX2_noteOutcome 38 = .ok (.return_, 1) := by decide +kernel
theorem dX2_shut_0 : decode cX2_shut 0 = .ok (.aload_n 0, 1) := by decide +kernel
theorem dX2_shut_1 : decode cX2_shut 1 = .ok (.iconst 0, 1) := by decide +kernel
theorem dX2_shut_2 : decode cX2_shut 2 = .ok (.putfield 19, 3) := by decide +kernel
theorem dX2_shut_5 : decode cX2_shut 5 = .ok (.aload_n 0, 1) := by decide +kernel
theorem dX2_shut_6 : decode cX2_shut 6 = .ok (.iconst 0, 1) := by decide +kernel
theorem dX2_shut_7 : decode cX2_shut 7 = .ok (.putfield 31, 3) := by decide +kernel
theorem dX2_shut_10 : decode cX2_shut 10 = .ok (.aload_n 0, 1) := by decide +kernel
theorem dX2_shut_11 : decode cX2_shut 11 = .ok (.iconst 0, 1) := by decide +kernel
theorem dX2_shut_12 : decode cX2_shut 12 = .ok (.putfield 34, 3) := by decide +kernel
theorem dX2_shut_15 : decode cX2_shut 15 = .ok (.aload_n 0, 1) := by decide +kernel
theorem dX2_shut_16 : decode cX2_shut 16 = .ok (.dup, 1) := by decide +kernel
theorem dX2_shut_17 : decode cX2_shut 17 = .ok (.getfield 37, 3) := by decide +kernel
theorem dX2_shut_20 : decode cX2_shut 20 = .ok (.iconst 1, 1) := by decide +kernel
theorem dX2_shut_21 : decode cX2_shut 21 = .ok (.iadd, 1) := by decide +kernel
theorem dX2_shut_22 : decode cX2_shut 22 = .ok (.putfield 37, 3) := by decide +kernel
theorem dX2_shut_25 : decode cX2_shut 25 = .ok (.aload_n 0, 1) := by decide +kernel
theorem dX2_shut_26 : decode cX2_shut 26 = .ok (.iconst 0, 1) := by decide +kernel
theorem dX2_shut_27 : decode cX2_shut 27 = .ok (.putfield 40, 3) := by decide +kernel
theorem dX2_shut_30 : decode cX2_shut 30 = .ok (.aload_n 0, 1) := by decide +kernel
theorem dX2_shut_31 : decode cX2_shut 31 = .ok (.iconst 0, 1) := by decide +kernel
theorem dX2_shut_32 : decode cX2_shut 32 = .ok (.putfield 43, 3) := by decide +kernel
theorem dX2_shut_35 : decode cX2_shut 35 = .ok (.return_, 1) := by decide +kernel
theorem dX2_cutOff_0 : decode cX2_cutOff 0 = .ok (.aload_n 0, 1) := by decide +kernel
theorem dX2_cutOff_1 : decode cX2_cutOff 1 = .ok (.iconst 1, 1) := by decide +kernel
theorem dX2_cutOff_2 : decode cX2_cutOff 2 = .ok (.putfield 19, 3) := by decide +kernel
theorem dX2_cutOff_5 : decode cX2_cutOff 5 = .ok (.aload_n 0, 1) := by decide +kernel
theorem dX2_cutOff_6 : decode cX2_cutOff 6 = .ok (.iload_n 1, 1) := by decide +kernel
theorem dX2_cutOff_7 : decode cX2_cutOff 7 = .ok (.putfield 31, 3) := by decide +kernel
theorem dX2_cutOff_10 : decode cX2_cutOff 10 = .ok (.aload_n 0, 1) := by decide +kernel
theorem dX2_cutOff_11 : decode cX2_cutOff 11 = .ok (.iload_n 1, 1) := by decide +kernel
theorem dX2_cutOff_12 : decode cX2_cutOff 12 = .ok (.putfield 34, 3) := by decide +kernel
theorem dX2_cutOff_15 : decode cX2_cutOff 15 = .ok (.aload_n 0, 1) := by decide +kernel
theorem dX2_cutOff_16 : decode cX2_cutOff 16 = .ok (.dup, 1) := by decide +kernel
theorem dX2_cutOff_17 : decode cX2_cutOff 17 = .ok (.getfield 58, 3) := by decide +kernel
theorem dX2_cutOff_20 : decode cX2_cutOff 20 = .ok (.iconst 1, 1) := by decide +kernel
theorem dX2_cutOff_21 : decode cX2_cutOff 21 = .ok (.iadd, 1) := by decide +kernel
theorem dX2_cutOff_22 : decode cX2_cutOff 22 = .ok (.putfield 58, 3) := by decide +kernel
theorem dX2_cutOff_25 : decode cX2_cutOff 25 = .ok (.return_, 1) := by decide +kernel
theorem dX2_waitATick_0 : decode cX2_waitATick 0 = .ok (.aload_n 0, 1) := by decide +kernel
theorem dX2_waitATick_1 : decode cX2_waitATick 1 = .ok (.getfield 19, 3) := by decide +kernel
theorem dX2_waitATick_4 : decode cX2_waitATick 4 = .ok (.iconst 1, 1) := by decide +kernel
theorem dX2_waitATick_5 : decode cX2_waitATick 5 = .ok (.if_icmp .eq 4, 3) := by decide +kernel
theorem dX2_waitATick_8 : decode cX2_waitATick 8 = .ok (.return_, 1) := by decide +kernel
theorem dX2_waitATick_9 : decode cX2_waitATick 9 = .ok (.aload_n 0, 1) := by decide +kernel
theorem dX2_waitATick_10 : decode cX2_waitATick 10 = .ok (.dup, 1) := by decide +kernel
theorem dX2_waitATick_11 : decode cX2_waitATick 11 = .ok (.getfield 31, 3) := by decide +kernel
theorem dX2_waitATick_14 : decode cX2_waitATick 14 = .ok (.iconst 1, 1) := by decide +kernel
theorem dX2_waitATick_15 : decode cX2_waitATick 15 = .ok (.isub, 1) := by decide +kernel
theorem dX2_waitATick_16 : decode cX2_waitATick 16 = .ok (.putfield 31, 3) := by decide +kernel
theorem dX2_waitATick_19 : decode cX2_waitATick 19 = .ok (.aload_n 0, 1) := by decide +kernel
theorem dX2_waitATick_20 : decode cX2_waitATick 20 = .ok (.getfield 31, 3) := by decide +kernel
theorem dX2_waitATick_23 : decode cX2_waitATick 23 = .ok (.ifCond .gt 8, 3) := by decide +kernel
theorem dX2_waitATick_26 : decode cX2_waitATick 26 = .ok (.aload_n 0, 1) := by decide +kernel
theorem dX2_waitATick_27 : decode cX2_waitATick 27 = .ok (.iconst 2, 1) := by decide +kernel
theorem dX2_waitATick_28 : decode cX2_waitATick 28 = .ok (.putfield 19, 3) := by decide +kernel
theorem dX2_waitATick_31 : decode cX2_waitATick 31 = .ok (.return_, 1) := by decide +kernel
theorem dJxe99ae_isNaN_b9ae7_0 : decode cJxe99ae_isNaN_b9ae7 0 = .ok (.dload_n 0, 1) := by decide +kernel
theorem dJxe99ae_isNaN_b9ae7_1 : decode cJxe99ae_isNaN_b9ae7 1 = .ok (.dload_n 0, 1) := by decide +kernel
theorem dJxe99ae_isNaN_b9ae7_2 : decode cJxe99ae_isNaN_b9ae7 2 = .ok (.dcmp .l, 1) := by decide +kernel
theorem dJxe99ae_isNaN_b9ae7_3 : decode cJxe99ae_isNaN_b9ae7 3 = .ok (.ifCond .eq 7, 3) := by decide +kernel
theorem dJxe99ae_isNaN_b9ae7_6 : decode cJxe99ae_isNaN_b9ae7 6 = .ok (.iconst 1, 1) := by decide +kernel
theorem dJxe99ae_isNaN_b9ae7_7 : decode cJxe99ae_isNaN_b9ae7 7 = .ok (.goto 4, 3) := by decide +kernel
theorem dJxe99ae_isNaN_b9ae7_10 : decode cJxe99ae_isNaN_b9ae7 10 = .ok (.iconst 0, 1) := by decide +kernel
theorem dJxe99ae_isNaN_b9ae7_11 : decode cJxe99ae_isNaN_b9ae7 11 = .ok (.ireturn, 1) := by decide +kernel
theorem dJxe99ae_doubleToLongBits_ccdee_0 : decode cJxe99ae_doubleToLongBits_ccdee 0 = .ok (.dload_n 0, 1) := by decide +kernel
theorem dJxe99ae_doubleToLongBits_ccdee_1 : decode cJxe99ae_doubleToLongBits_ccdee 1 = .ok (.invokestatic 122, 3) := by decide +kernel
theorem dJxe99ae_doubleToLongBits_ccdee_4 : decode cJxe99ae_doubleToLongBits_ccdee 4 = .ok (.ifCond .ne 8, 3) := by decide +kernel
theorem dJxe99ae_doubleToLongBits_ccdee_7 : decode cJxe99ae_doubleToLongBits_ccdee 7 = .ok (.dload_n 0, 1) := by decide +kernel
theorem dJxe99ae_doubleToLongBits_ccdee_8 : decode cJxe99ae_doubleToLongBits_ccdee 8 = .ok (.invokestatic 134, 3) := by decide +kernel
theorem dJxe99ae_doubleToLongBits_ccdee_11 : decode cJxe99ae_doubleToLongBits_ccdee 11 = .ok (.lreturn, 1) := by decide +kernel
theorem dJxe99ae_doubleToLongBits_ccdee_12 : decode cJxe99ae_doubleToLongBits_ccdee 12 = .ok (.ldc2_w 137, 3) := by decide +kernel
theorem dJxe99ae_doubleToLongBits_ccdee_15 : decode cJxe99ae_doubleToLongBits_ccdee 15 = .ok (.lreturn, 1) := by decide +kernel
theorem dJ6_bitCount_0f7a4_0 : decode cJ6_bitCount_0f7a4 0 = .ok (.iload_n 0, 1) := by decide +kernel
theorem dJ6_bitCount_0f7a4_1 : decode cJ6_bitCount_0f7a4 1 = .ok (.iload_n 0, 1) := by decide +kernel
theorem dJ6_bitCount_0f7a4_2 : decode cJ6_bitCount_0f7a4 2 = .ok (.iconst 1, 1) := by decide +kernel
theorem dJ6_bitCount_0f7a4_3 : decode cJ6_bitCount_0f7a4 3 = .ok (.iushr, 1) := by decide +kernel
theorem dJ6_bitCount_0f7a4_4 : decode cJ6_bitCount_0f7a4 4 = .ok (.ldc_w 265, 3) := by decide +kernel
theorem dJ6_bitCount_0f7a4_7 : decode cJ6_bitCount_0f7a4 7 = .ok (.iand, 1) := by decide +kernel
theorem dJ6_bitCount_0f7a4_8 : decode cJ6_bitCount_0f7a4 8 = .ok (.isub, 1) := by decide +kernel
theorem dJ6_bitCount_0f7a4_9 : decode cJ6_bitCount_0f7a4 9 = .ok (.istore_n 0, 1) := by decide +kernel
theorem dJ6_bitCount_0f7a4_10 : decode cJ6_bitCount_0f7a4 10 = .ok (.iload_n 0, 1) := by decide +kernel
theorem dJ6_bitCount_0f7a4_11 : decode cJ6_bitCount_0f7a4 11 = .ok (.ldc_w 266, 3) := by decide +kernel
theorem dJ6_bitCount_0f7a4_14 : decode cJ6_bitCount_0f7a4 14 = .ok (.iand, 1) := by decide +kernel
theorem dJ6_bitCount_0f7a4_15 : decode cJ6_bitCount_0f7a4 15 = .ok (.iload_n 0, 1) := by decide +kernel
theorem dJ6_bitCount_0f7a4_16 : decode cJ6_bitCount_0f7a4 16 = .ok (.iconst 2, 1) := by decide +kernel
theorem dJ6_bitCount_0f7a4_17 : decode cJ6_bitCount_0f7a4 17 = .ok (.iushr, 1) := by decide +kernel
theorem dJ6_bitCount_0f7a4_18 : decode cJ6_bitCount_0f7a4 18 = .ok (.ldc_w 266, 3) := by decide +kernel
theorem dJ6_bitCount_0f7a4_21 : decode cJ6_bitCount_0f7a4 21 = .ok (.iand, 1) := by decide +kernel
theorem dJ6_bitCount_0f7a4_22 : decode cJ6_bitCount_0f7a4 22 = .ok (.iadd, 1) := by decide +kernel
theorem dJ6_bitCount_0f7a4_23 : decode cJ6_bitCount_0f7a4 23 = .ok (.istore_n 0, 1) := by decide +kernel
theorem dJ6_bitCount_0f7a4_24 : decode cJ6_bitCount_0f7a4 24 = .ok (.iload_n 0, 1) := by decide +kernel
theorem dJ6_bitCount_0f7a4_25 : decode cJ6_bitCount_0f7a4 25 = .ok (.iload_n 0, 1) := by decide +kernel
theorem dJ6_bitCount_0f7a4_26 : decode cJ6_bitCount_0f7a4 26 = .ok (.iconst 4, 1) := by decide +kernel
theorem dJ6_bitCount_0f7a4_27 : decode cJ6_bitCount_0f7a4 27 = .ok (.iushr, 1) := by decide +kernel
theorem dJ6_bitCount_0f7a4_28 : decode cJ6_bitCount_0f7a4 28 = .ok (.iadd, 1) := by decide +kernel
theorem dJ6_bitCount_0f7a4_29 : decode cJ6_bitCount_0f7a4 29 = .ok (.ldc_w 267, 3) := by decide +kernel
theorem dJ6_bitCount_0f7a4_32 : decode cJ6_bitCount_0f7a4 32 = .ok (.iand, 1) := by decide +kernel
theorem dJ6_bitCount_0f7a4_33 : decode cJ6_bitCount_0f7a4 33 = .ok (.istore_n 0, 1) := by decide +kernel
theorem dJ6_bitCount_0f7a4_34 : decode cJ6_bitCount_0f7a4 34 = .ok (.iload_n 0, 1) := by decide +kernel
theorem dJ6_bitCount_0f7a4_35 : decode cJ6_bitCount_0f7a4 35 = .ok (.iload_n 0, 1) := by decide +kernel
theorem dJ6_bitCount_0f7a4_36 : decode cJ6_bitCount_0f7a4 36 = .ok (.bipush 8, 2) := by decide +kernel
theorem dJ6_bitCount_0f7a4_38 : decode cJ6_bitCount_0f7a4 38 = .ok (.iushr, 1) := by decide +kernel
theorem dJ6_bitCount_0f7a4_39 : decode cJ6_bitCount_0f7a4 39 = .ok (.iadd, 1) := by decide +kernel
theorem dJ6_bitCount_0f7a4_40 : decode cJ6_bitCount_0f7a4 40 = .ok (.istore_n 0, 1) := by decide +kernel
theorem dJ6_bitCount_0f7a4_41 : decode cJ6_bitCount_0f7a4 41 = .ok (.iload_n 0, 1) := by decide +kernel
theorem dJ6_bitCount_0f7a4_42 : decode cJ6_bitCount_0f7a4 42 = .ok (.iload_n 0, 1) := by decide +kernel
theorem dJ6_bitCount_0f7a4_43 : decode cJ6_bitCount_0f7a4 43 = .ok (.bipush 16, 2) := by decide +kernel
theorem dJ6_bitCount_0f7a4_45 : decode cJ6_bitCount_0f7a4 45 = .ok (.iushr, 1) := by decide +kernel
theorem dJ6_bitCount_0f7a4_46 : decode cJ6_bitCount_0f7a4 46 = .ok (.iadd, 1) := by decide +kernel
theorem dJ6_bitCount_0f7a4_47 : decode cJ6_bitCount_0f7a4 47 = .ok (.istore_n 0, 1) := by decide +kernel
theorem dJ6_bitCount_0f7a4_48 : decode cJ6_bitCount_0f7a4 48 = .ok (.iload_n 0, 1) := by decide +kernel
theorem dJ6_bitCount_0f7a4_49 : decode cJ6_bitCount_0f7a4 49 = .ok (.bipush 63, 2) := by decide +kernel
theorem dJ6_bitCount_0f7a4_51 : decode cJ6_bitCount_0f7a4 51 = .ok (.iand, 1) := by decide +kernel
theorem dJ6_bitCount_0f7a4_52 : decode cJ6_bitCount_0f7a4 52 = .ok (.ireturn, 1) := by decide +kernel
theorem dJ9_min_7cf53_0 : decode cJ9_min_7cf53 0 = .ok (.iload_n 0, 1) := by decide +kernel
theorem dJ9_min_7cf53_1 : decode cJ9_min_7cf53 1 = .ok (.iload_n 1, 1) := by decide +kernel
theorem dJ9_min_7cf53_2 : decode cJ9_min_7cf53 2 = .ok (.if_icmp .gt 7, 3) := by decide +kernel
theorem dJ9_min_7cf53_5 : decode cJ9_min_7cf53 5 = .ok (.iload_n 0, 1) := by decide +kernel
theorem dJ9_min_7cf53_6 : decode cJ9_min_7cf53 6 = .ok (.goto 4, 3) := by decide +kernel
theorem dJ9_min_7cf53_9 : decode cJ9_min_7cf53 9 = .ok (.iload_n 1, 1) := by decide +kernel
theorem dJ9_min_7cf53_10 : decode cJ9_min_7cf53 10 = .ok (.ireturn, 1) := by decide +kernel
theorem dJ7_fill_53178_0 : decode cJ7_fill_53178 0 = .ok (.iconst 0, 1) := by decide +kernel
theorem dJ7_fill_53178_1 : decode cJ7_fill_53178 1 = .ok (.istore_n 2, 1) := by decide +kernel
theorem dJ7_fill_53178_2 : decode cJ7_fill_53178 2 = .ok (.aload_n 0, 1) := by decide +kernel
theorem dJ7_fill_53178_3 : decode cJ7_fill_53178 3 = .ok (.arraylength, 1) := by decide +kernel
theorem dJ7_fill_53178_4 : decode cJ7_fill_53178 4 = .ok (.istore_n 3, 1) := by decide +kernel
theorem dJ7_fill_53178_5 : decode cJ7_fill_53178 5 = .ok (.iload_n 2, 1) := by decide +kernel
theorem dJ7_fill_53178_6 : decode cJ7_fill_53178 6 = .ok (.iload_n 3, 1) := by decide +kernel
theorem dJ7_fill_53178_7 : decode cJ7_fill_53178 7 = .ok (.if_icmp .ge 13, 3) := by decide +kernel
theorem dJ7_fill_53178_10 : decode cJ7_fill_53178 10 = .ok (.aload_n 0, 1) := by decide +kernel
theorem dJ7_fill_53178_11 : decode cJ7_fill_53178 11 = .ok (.iload_n 2, 1) := by decide +kernel
theorem dJ7_fill_53178_12 : decode cJ7_fill_53178 12 = .ok (.iload_n 1, 1) := by decide +kernel
theorem dJ7_fill_53178_13 : decode cJ7_fill_53178 13 = .ok (.iastore, 1) := by decide +kernel
theorem dJ7_fill_53178_14 : decode cJ7_fill_53178 14 = .ok (.iinc 2 1, 3) := by decide +kernel
theorem dJ7_fill_53178_17 : decode cJ7_fill_53178 17 = .ok (.goto (-12), 3) := by decide +kernel
theorem dJ7_fill_53178_20 : decode cJ7_fill_53178 20 = .ok (.return_, 1) := by decide +kernel
end
section
/-! decode rows, by program -/
theorem dX1_init_0 : decode cX1_init 0 = .ok (.aload_n 0, 1) := by decide +kernel
theorem dX1_init_1 : decode cX1_init 1 = .ok (.invokespecial 3, 3) := by decide +kernel
theorem dX1_init_4 : decode cX1_init 4 = .ok (.aload_n 0, 1) := by decide +kernel
theorem dX1_init_5 : decode cX1_init 5 = .ok (.iconst 4, 1) := by decide +kernel
theorem dX1_init_6 : decode cX1_init 6 = .ok (.anewarray 9, 3) := by decide +kernel
theorem dX1_init_9 : decode cX1_init 9 = .ok (.putfield 11, 3) := by decide +kernel
theorem dX1_init_12 : decode cX1_init 12 = .ok (.aload_n 0, 1) := by decide +kernel
theorem dX1_init_13 : decode cX1_init 13 = .ok (.iconst 5, 1) := by decide +kernel
theorem dX1_init_14 : decode cX1_init 14 = .ok (.newarray .int, 2) := by decide +kernel
theorem dX1_init_16 : decode cX1_init 16 = .ok (.putfield 17, 3) := by decide +kernel
theorem dX1_init_19 : decode cX1_init 19 = .ok (.aload_n 0, 1) := by decide +kernel
theorem dX1_init_20 : decode cX1_init 20 = .ok (.iconst 5, 1) := by decide +kernel
theorem dX1_init_21 : decode cX1_init 21 = .ok (.bipush 16, 2) := by decide +kernel
theorem dX1_init_23 : decode cX1_init 23 = .ok (.multianewarray 21 2, 4) := by decide +kernel
theorem dX1_init_27 : decode cX1_init 27 = .ok (.putfield 23, 3) := by decide +kernel
theorem dX1_init_30 : decode cX1_init 30 = .ok (.iconst 0, 1) := by decide +kernel
theorem dX1_init_31 : decode cX1_init 31 = .ok (.istore_n 1, 1) := by decide +kernel
theorem dX1_init_32 : decode cX1_init 32 = .ok (.iload_n 1, 1) := by decide +kernel
theorem dX1_init_33 : decode cX1_init 33 = .ok (.iconst 4, 1) := by decide +kernel
theorem dX1_init_34 : decode cX1_init 34 = .ok (.if_icmp .ge 22, 3) := by decide +kernel
theorem dX1_init_37 : decode cX1_init 37 = .ok (.aload_n 0, 1) := by decide +kernel
theorem dX1_init_38 : decode cX1_init 38 = .ok (.getfield 11, 3) := by decide +kernel
theorem dX1_init_41 : decode cX1_init 41 = .ok (.iload_n 1, 1) := by decide +kernel
theorem dX1_init_42 : decode cX1_init 42 = .ok (.new 9, 3) := by decide +kernel
theorem dX1_init_45 : decode cX1_init 45 = .ok (.dup, 1) := by decide +kernel
theorem dX1_init_46 : decode cX1_init 46 = .ok (.invokespecial 26, 3) := by decide +kernel
theorem dX1_init_49 : decode cX1_init 49 = .ok (.aastore, 1) := by decide +kernel
theorem dX1_init_50 : decode cX1_init 50 = .ok (.iinc 1 1, 3) := by decide +kernel
theorem dX1_init_53 : decode cX1_init 53 = .ok (.goto (-21), 3) := by decide +kernel
theorem dX1_init_56 : decode cX1_init 56 = .ok (.getstatic 27, 3) := by decide +kernel
theorem dX1_init_59 : decode cX1_init 59 = .ok (.iconst 0, 1) := by decide +kernel
theorem dX1_init_60 : decode cX1_init 60 = .ok (.aload_n 0, 1) := by decide +kernel
theorem dX1_init_61 : decode cX1_init 61 = .ok (.getfield 17, 3) := by decide +kernel
theorem dX1_init_64 : decode cX1_init 64 = .ok (.iconst 0, 1) := by decide +kernel
theorem dX1_init_65 : decode cX1_init 65 = .ok (.iconst 5, 1) := by decide +kernel
theorem dX1_init_66 : decode cX1_init 66 = .ok (.invokestatic 30, 3) := by decide +kernel
theorem dX1_init_69 : decode cX1_init 69 = .ok (.return_, 1) := by decide +kernel
theorem dX1_copyFrom_0 : decode cX1_copyFrom 0 = .ok (.iconst 0, 1) := by decide +kernel
theorem dX1_copyFrom_1 : decode cX1_copyFrom 1 = .ok (.istore_n 2, 1) := by decide +kernel
theorem dX1_copyFrom_2 : decode cX1_copyFrom 2 = .ok (.iload_n 2, 1) := by decide +kernel
theorem dX1_copyFrom_3 : decode cX1_copyFrom 3 = .ok (.iconst 4, 1) := by decide +kernel
theorem dX1_copyFrom_4 : decode cX1_copyFrom 4 = .ok (.if_icmp .ge 24, 3) := by decide +kernel
theorem dX1_copyFrom_7 : decode cX1_copyFrom 7 = .ok (.aload_n 0, 1) := by decide +kernel
theorem dX1_copyFrom_8 : decode cX1_copyFrom 8 = .ok (.getfield 11, 3) := by decide +kernel
theorem dX1_copyFrom_11 : decode cX1_copyFrom 11 = .ok (.iload_n 2, 1) := by decide +kernel
theorem dX1_copyFrom_12 : decode cX1_copyFrom 12 = .ok (.aaload, 1) := by decide +kernel
theorem dX1_copyFrom_13 : decode cX1_copyFrom 13 = .ok (.aload_n 1, 1) := by decide +kernel
theorem dX1_copyFrom_14 : decode cX1_copyFrom 14 = .ok (.getfield 11, 3) := by decide +kernel
theorem dX1_copyFrom_17 : decode cX1_copyFrom 17 = .ok (.iload_n 2, 1) := by decide +kernel
theorem dX1_copyFrom_18 : decode cX1_copyFrom 18 = .ok (.aaload, 1) := by decide +kernel
theorem dX1_copyFrom_19 : decode cX1_copyFrom 19 = .ok (.invokevirtual 36, 3) := by decide +kernel
theorem dX1_copyFrom_22 : decode cX1_copyFrom 22 = .ok (.iinc 2 1, 3) := by decide +kernel
theorem dX1_copyFrom_25 : decode cX1_copyFrom 25 = .ok (.goto (-23), 3) := by decide +kernel
theorem dX1_copyFrom_28 : decode cX1_copyFrom 28 = .ok (.aload_n 1, 1) := by decide +kernel
theorem dX1_copyFrom_29 : decode cX1_copyFrom 29 = .ok (.getfield 17, 3) := by decide +kernel
theorem dX1_copyFrom_32 : decode cX1_copyFrom 32 = .ok (.iconst 0, 1) := by decide +kernel
theorem dX1_copyFrom_33 : decode cX1_copyFrom 33 = .ok (.aload_n 0, 1) := by decide +kernel
theorem dX1_copyFrom_34 : decode cX1_copyFrom 34 = .ok (.getfield 17, 3) := by decide +kernel
theorem dX1_copyFrom_37 : decode cX1_copyFrom 37 = .ok (.iconst 0, 1) := by decide +kernel
theorem dX1_copyFrom_38 : decode cX1_copyFrom 38 = .ok (.iconst 5, 1) := by decide +kernel
theorem dX1_copyFrom_39 : decode cX1_copyFrom 39 = .ok (.invokestatic 30, 3) := by decide +kernel
theorem dX1_copyFrom_42 : decode cX1_copyFrom 42 = .ok (.iconst 0, 1) := by decide +kernel
theorem dX1_copyFrom_43 : decode cX1_copyFrom 43 = .ok (.istore_n 2, 1) := by decide +kernel
theorem dX1_copyFrom_44 : decode cX1_copyFrom 44 = .ok (.iload_n 2, 1) := by decide +kernel
theorem dX1_copyFrom_45 : decode cX1_copyFrom 45 = .ok (.iconst 5, 1) := by decide +kernel
theorem dX1_copyFrom_46 : decode cX1_copyFrom 46 = .ok (.if_icmp .ge 28, 3) := by decide +kernel
theorem dX1_copyFrom_49 : decode cX1_copyFrom 49 = .ok (.aload_n 1, 1) := by decide +kernel
theorem dX1_copyFrom_50 : decode cX1_copyFrom 50 = .ok (.getfield 23, 3) := by decide +kernel
theorem dX1_copyFrom_53 : decode cX1_copyFrom 53 = .ok (.iload_n 2, 1) := by decide +kernel
theorem dX1_copyFrom_54 : decode cX1_copyFrom 54 = .ok (.aaload, 1) := by decide +kernel
theorem dX1_copyFrom_55 : decode cX1_copyFrom 55 = .ok (.iconst 0, 1) := by decide +kernel
theorem dX1_copyFrom_56 : decode cX1_copyFrom 56 = .ok (.aload_n 0, 1) := by decide +kernel
theorem dX1_copyFrom_57 : decode cX1_copyFrom 57 = .ok (.getfield 23, 3) := by decide +kernel
theorem dX1_copyFrom_60 : decode cX1_copyFrom 60 = .ok (.iload_n 2, 1) := by decide +kernel
theorem dX1_copyFrom_61 : decode cX1_copyFrom 61 = .ok (.aaload, 1) := by decide +kernel
theorem dX1_copyFrom_62 : decode cX1_copyFrom 62 = .ok (.iconst 0, 1) := by decide +kernel
theorem dX1_copyFrom_63 : decode cX1_copyFrom 63 = .ok (.bipush 16, 2) := by decide +kernel
theorem dX1_copyFrom_65 : decode cX1_copyFrom 65 = .ok (.invokestatic 30, 3) := by decide +kernel
theorem dX1_copyFrom_68 : decode cX1_copyFrom 68 = .ok (.iinc 2 1, 3) := by decide +kernel
theorem dX1_copyFrom_71 : decode cX1_copyFrom 71 = .ok (.goto (-27), 3) := by decide +kernel
theorem dX1_copyFrom_74 : decode cX1_copyFrom 74 = .ok (.aload_n 0, 1) := by decide +kernel
theorem dX1_copyFrom_75 : decode cX1_copyFrom 75 = .ok (.aload_n 1, 1) := by decide +kernel
theorem dX1_copyFrom_76 : decode cX1_copyFrom 76 = .ok (.getfield 40, 3) := by decide +kernel
theorem dX1_copyFrom_79 : decode cX1_copyFrom 79 = .ok (.putfield 40, 3) := by decide +kernel
theorem dX1_copyFrom_82 : decode cX1_copyFrom 82 = .ok (.aload_n 0, 1) := by decide +kernel
theorem dX1_copyFrom_83 : decode cX1_copyFrom 83 = .ok (.aload_n 1, 1) := by decide +kernel
theorem dX1_copyFrom_84 : decode cX1_copyFrom 84 = .ok (.getfield 44, 3) := by decide +kernel
theorem dX1_copyFrom_87 : decode cX1_copyFrom 87 = .ok (.putfield 44, 3) := by decide +kernel
theorem dX1_copyFrom_90 : decode cX1_copyFrom 90 = .ok (.aload_n 0, 1) := by decide +kernel
theorem dX1_copyFrom_91 : decode cX1_copyFrom 91 = .ok (.aload_n 1, 1) := by decide +kernel
theorem dX1_copyFrom_92 : decode cX1_copyFrom 92 = .ok (.getfield 47, 3) := by decide +kernel
theorem dX1_copyFrom_95 : decode cX1_copyFrom 95 = .ok (.putfield 47, 3) := by decide +kernel
theorem dX1_copyFrom_98 : decode cX1_copyFrom 98 = .ok (.aload_n 0, 1) := by decide +kernel
theorem dX1_copyFrom_99 : decode cX1_copyFrom 99 = .ok (.aload_n 1, 1) := by decide +kernel
theorem dX1_copyFrom_100 : decode cX1_copyFrom 100 = .ok (.getfield 50, 3) := by decide +kernel
theorem dX1_copyFrom_103 : decode cX1_copyFrom 103 = .ok (.putfield 50, 3) := by decide +kernel
theorem dX1_copyFrom_106 : decode cX1_copyFrom 106 = .ok (.return_, 1) := by decide +kernel
theorem dX1_isFull_0 : decode cX1_isFull 0 = .ok (.aload_n 0, 1) := by decide +kernel
theorem dX1_isFull_1 : decode cX1_isFull 1 = .ok (.getfield 40, 3) := by decide +kernel
theorem dX1_isFull_4 : decode cX1_isFull 4 = .ok (.bipush 16, 2) := by decide +kernel
theorem dX1_isFull_6 : decode cX1_isFull 6 = .ok (.if_icmp .lt 7, 3) := by decide +kernel
theorem dX1_isFull_9 : decode cX1_isFull 9 = .ok (.iconst 1, 1) := by decide +kernel
theorem dX1_isFull_10 : decode cX1_isFull 10 = .ok (.goto 4, 3) := by decide +kernel
theorem dX1_isFull_13 : decode cX1_isFull 13 = .ok (.iconst 0, 1) := by decide +kernel
theorem dX1_isFull_14 : decode cX1_isFull 14 = .ok (.ireturn, 1) := by decide +kernel
theorem dX1_blocks_0 : decode cX1_blocks 0 = .ok (.aload_n 0, 1) := by decide +kernel
theorem dX1_blocks_1 : decode cX1_blocks 1 = .ok (.invokevirtual 53, 3) := by decide +kernel
theorem dX1_blocks_4 : decode cX1_blocks 4 = .ok (.ifCond .eq 15, 3) := by decide +kernel
theorem dX1_blocks_7 : decode cX1_blocks 7 = .ok (.aload_n 0, 1) := by decide +kernel
theorem dX1_blocks_8 : decode cX1_blocks 8 = .ok (.iload_n 1, 1) := by decide +kernel
theorem dX1_blocks_9 : decode cX1_blocks 9 = .ok (.invokevirtual 57, 3) := by decide +kernel
theorem dX1_blocks_12 : decode cX1_blocks 12 = .ok (.ifCond .eq 7, 3) := by decide +kernel
theorem dX1_blocks_15 : decode cX1_blocks 15 = .ok (.iconst 1, 1) := by decide +kernel
theorem dX1_blocks_16 : decode cX1_blocks 16 = .ok (.goto 4, 3) := by decide +kernel
theorem dX1_blocks_19 : decode cX1_blocks 19 = .ok (.iconst 0, 1) := by decide +kernel
theorem dX1_blocks_20 : decode cX1_blocks 20 = .ok (.ireturn, 1) := by decide +kernel
theorem dX1_answerFor_0 : decode cX1_answerFor 0 = .ok (.aload_n 0, 1) := by decide +kernel
theorem dX1_answerFor_1 : decode cX1_answerFor 1 = .ok (.getfield 11, 3) := by decide +kernel
theorem dX1_answerFor_4 : decode cX1_answerFor 4 = .ok (.iload_n 1, 1) := by decide +kernel
theorem dX1_answerFor_5 : decode cX1_answerFor 5 = .ok (.aaload, 1) := by decide +kernel
theorem dX1_answerFor_6 : decode cX1_answerFor 6 = .ok (.getfield 61, 3) := by decide +kernel
theorem dX1_answerFor_9 : decode cX1_answerFor 9 = .ok (.istore_n 2, 1) := by decide +kernel
theorem dX1_answerFor_10 : decode cX1_answerFor 10 = .ok (.iload_n 2, 1) := by decide +kernel
theorem dX1_answerFor_11 : decode cX1_answerFor 11 = .ok (.ifCond .ne 5, 3) := by decide +kernel
theorem dX1_answerFor_14 : decode cX1_answerFor 14 = .ok (.iconst 1, 1) := by decide +kernel
theorem dX1_answerFor_15 : decode cX1_answerFor 15 = .ok (.ireturn, 1) := by decide +kernel
theorem dX1_answerFor_16 : decode cX1_answerFor 16 = .ok (.iload_n 2, 1) := by decide +kernel
theorem dX1_answerFor_17 : decode cX1_answerFor 17 = .ok (.iconst 2, 1) := by decide +kernel
theorem dX1_answerFor_18 : decode cX1_answerFor 18 = .ok (.if_icmp .ne 16, 3) := by decide +kernel
theorem dX1_answerFor_21 : decode cX1_answerFor 21 = .ok (.aload_n 0, 1) := by decide +kernel
theorem dX1_answerFor_22 : decode cX1_answerFor 22 = .ok (.iload_n 1, 1) := by decide +kernel
theorem dX1_answerFor_23 : decode cX1_answerFor 23 = .ok (.invokevirtual 64, 3) := by decide +kernel
theorem dX1_answerFor_26 : decode cX1_answerFor 26 = .ok (.iconst (-1), 1) := by decide +kernel
theorem dX1_answerFor_27 : decode cX1_answerFor 27 = .ok (.if_icmp .ne 7, 3) := by decide +kernel
theorem dX1_answerFor_30 : decode cX1_answerFor 30 = .ok (.iconst 2, 1) := by decide +kernel
theorem dX1_answerFor_31 : decode cX1_answerFor 31 = .ok (.goto 4, 3) := by decide +kernel
theorem dX1_answerFor_34 : decode cX1_answerFor 34 = .ok (.iconst 0, 1) := by decide +kernel
theorem dX1_answerFor_35 : decode cX1_answerFor 35 = .ok (.ireturn, 1) := by decide +kernel
theorem dX1_trialOf_0 : decode cX1_trialOf 0 = .ok (.iconst 0, 1) := by decide +kernel
theorem dX1_trialOf_1 : decode cX1_trialOf 1 = .ok (.istore_n 2, 1) := by decide +kernel
theorem dX1_trialOf_2 : decode cX1_trialOf 2 = .ok (.iload_n 2, 1) := by decide +kernel
theorem dX1_trialOf_3 : decode cX1_trialOf 3 = .ok (.aload_n 0, 1) := by decide +kernel
theorem dX1_trialOf_4 : decode cX1_trialOf 4 = .ok (.getfield 40, 3) := by decide +kernel
theorem dX1_trialOf_7 : decode cX1_trialOf 7 = .ok (.if_icmp .ge 35, 3) := by decide +kernel
theorem dX1_trialOf_10 : decode cX1_trialOf 10 = .ok (.aload_n 0, 1) := by decide +kernel
theorem dX1_trialOf_11 : decode cX1_trialOf 11 = .ok (.getfield 23, 3) := by decide +kernel
theorem dX1_trialOf_14 : decode cX1_trialOf 14 = .ok (.iconst 0, 1) := by decide +kernel
theorem dX1_trialOf_15 : decode cX1_trialOf 15 = .ok (.aaload, 1) := by decide +kernel
theorem dX1_trialOf_16 : decode cX1_trialOf 16 = .ok (.iload_n 2, 1) := by decide +kernel
theorem dX1_trialOf_17 : decode cX1_trialOf 17 = .ok (.iaload, 1) := by decide +kernel
theorem dX1_trialOf_18 : decode cX1_trialOf 18 = .ok (.iload_n 1, 1) := by decide +kernel
theorem dX1_trialOf_19 : decode cX1_trialOf 19 = .ok (.if_icmp .ne 17, 3) := by decide +kernel
theorem dX1_trialOf_22 : decode cX1_trialOf 22 = .ok (.aload_n 0, 1) := by decide +kernel
theorem dX1_trialOf_23 : decode cX1_trialOf 23 = .ok (.getfield 23, 3) := by decide +kernel
theorem dX1_trialOf_26 : decode cX1_trialOf 26 = .ok (.iconst 3, 1) := by decide +kernel
theorem dX1_trialOf_27 : decode cX1_trialOf 27 = .ok (.aaload, 1) := by decide +kernel
theorem dX1_trialOf_28 : decode cX1_trialOf 28 = .ok (.iload_n 2, 1) := by decide +kernel
theorem dX1_trialOf_29 : decode cX1_trialOf 29 = .ok (.iaload, 1) := by decide +kernel
theorem dX1_trialOf_30 : decode cX1_trialOf 30 = .ok (.iconst 1, 1) := by decide +kernel
theorem dX1_trialOf_31 : decode cX1_trialOf 31 = .ok (.if_icmp .ne 5, 3) := by decide +kernel
theorem dX1_trialOf_34 : decode cX1_trialOf 34 = .ok (.iload_n 2, 1) := by decide +kernel
theorem dX1_trialOf_35 : decode cX1_trialOf 35 = .ok (.ireturn, 1) := by decide +kernel
theorem dX1_trialOf_36 : decode cX1_trialOf 36 = .ok (.iinc 2 1, 3) := by decide +kernel
theorem dX1_trialOf_39 : decode cX1_trialOf 39 = .ok (.goto (-37), 3) := by decide +kernel
theorem dX1_trialOf_42 : decode cX1_trialOf 42 = .ok (.iconst (-1), 1) := by decide +kernel
theorem dX1_trialOf_43 : decode cX1_trialOf 43 = .ok (.ireturn, 1) := by decide +kernel
theorem dX1_ring_0 : decode cX1_ring 0 = .ok (.aload_n 0, 1) := by decide +kernel
theorem dX1_ring_1 : decode cX1_ring 1 = .ok (.getfield 11, 3) := by decide +kernel
theorem dX1_ring_4 : decode cX1_ring 4 = .ok (.iload_n 1, 1) := by decide +kernel
theorem dX1_ring_5 : decode cX1_ring 5 = .ok (.aaload, 1) := by decide +kernel
theorem dX1_ring_6 : decode cX1_ring 6 = .ok (.astore_n 2, 1) := by decide +kernel
theorem dX1_ring_7 : decode cX1_ring 7 = .ok (.aload_n 0, 1) := by decide +kernel
theorem dX1_ring_8 : decode cX1_ring 8 = .ok (.iload_n 1, 1) := by decide +kernel
theorem dX1_ring_9 : decode cX1_ring 9 = .ok (.invokevirtual 57, 3) := by decide +kernel
theorem dX1_ring_12 : decode cX1_ring 12 = .ok (.istore_n 3, 1) := by decide +kernel
theorem dX1_ring_13 : decode cX1_ring 13 = .ok (.iload_n 3, 1) := by decide +kernel
theorem dX1_ring_14 : decode cX1_ring 14 = .ok (.ifCond .ne 15, 3) := by decide +kernel
theorem dX1_ring_17 : decode cX1_ring 17 = .ok (.aload_n 2, 1) := by decide +kernel
theorem dX1_ring_18 : decode cX1_ring 18 = .ok (.dup, 1) := by decide +kernel
theorem dX1_ring_19 : decode cX1_ring 19 = .ok (.getfield 67, 3) := by decide +kernel
theorem dX1_ring_22 : decode cX1_ring 22 = .ok (.iconst 1, 1) := by decide +kernel
theorem dX1_ring_23 : decode cX1_ring 23 = .ok (.iadd, 1) := by decide +kernel
theorem dX1_ring_24 : decode cX1_ring 24 = .ok (.putfield 67, 3) := by decide +kernel
theorem dX1_ring_27 : decode cX1_ring 27 = .ok (.iload_n 3, 1) := by decide +kernel
theorem dX1_ring_28 : decode cX1_ring 28 = .ok (.ireturn, 1) := by decide +kernel
theorem dX1_ring_29 : decode cX1_ring 29 = .ok (.aload_n 2, 1) := by decide +kernel
theorem dX1_ring_30 : decode cX1_ring 30 = .ok (.dup, 1) := by decide +kernel
theorem dX1_ring_31 : decode cX1_ring 31 = .ok (.getfield 70, 3) := by decide +kernel
theorem dX1_ring_34 : decode cX1_ring 34 = .ok (.iconst 1, 1) := by decide +kernel
theorem dX1_ring_35 : decode cX1_ring 35 = .ok (.iadd, 1) := by decide +kernel
theorem dX1_ring_36 : decode cX1_ring 36 = .ok (.putfield 70, 3) := by decide +kernel
theorem dX1_ring_39 : decode cX1_ring 39 = .ok (.iload_n 3, 1) := by decide +kernel
theorem dX1_ring_40 : decode cX1_ring 40 = .ok (.iconst 2, 1) := by decide +kernel
theorem dX1_ring_41 : decode cX1_ring 41 = .ok (.if_icmp .ne 7, 3) := by decide +kernel
theorem dX1_ring_44 : decode cX1_ring 44 = .ok (.iconst 1, 1) := by decide +kernel
theorem dX1_ring_45 : decode cX1_ring 45 = .ok (.goto 4, 3) := by decide +kernel
theorem dX1_ring_48 : decode cX1_ring 48 = .ok (.iconst 0, 1) := by decide +kernel
theorem dX1_ring_49 : decode cX1_ring 49 = .ok (.istore 4, 2) := by decide +kernel
theorem dX1_ring_51 : decode cX1_ring 51 = .ok (.aload_n 0, 1) := by decide +kernel
theorem dX1_ring_52 : decode cX1_ring 52 = .ok (.dup, 1) := by decide +kernel
theorem dX1_ring_53 : decode cX1_ring 53 = .ok (.getfield 50, 3) := by decide +kernel
theorem dX1_ring_56 : decode cX1_ring 56 = .ok (.iload 4, 2) := by decide +kernel
theorem dX1_ring_58 : decode cX1_ring 58 = .ok (.iadd, 1) := by decide +kernel
theorem dX1_ring_59 : decode cX1_ring 59 = .ok (.putfield 50, 3) := by decide +kernel
theorem dX1_ring_62 : decode cX1_ring 62 = .ok (.aload_n 2, 1) := by decide +kernel
theorem dX1_ring_63 : decode cX1_ring 63 = .ok (.invokevirtual 73, 3) := by decide +kernel
theorem dX1_ring_66 : decode cX1_ring 66 = .ok (.istore 5, 2) := by decide +kernel
theorem dX1_ring_68 : decode cX1_ring 68 = .ok (.iload 5, 2) := by decide +kernel
theorem dX1_ring_70 : decode cX1_ring 70 = .ok (.ifCond .ne 19, 3) := by decide +kernel
theorem dX1_ring_73 : decode cX1_ring 73 = .ok (.aload_n 0, 1) := by decide +kernel
theorem dX1_ring_74 : decode cX1_ring 74 = .ok (.aload_n 2, 1) := by decide +kernel
theorem dX1_ring_75 : decode cX1_ring 75 = .ok (.iload 5, 2) := by decide +kernel
theorem dX1_ring_77 : decode cX1_ring 77 = .ok (.iload 4, 2) := by decide +kernel
theorem dX1_ring_79 : decode cX1_ring 79 = .ok (.aload_n 2, 1) := by decide +kernel
theorem dX1_ring_80 : decode cX1_ring 80 = .ok (.getfield 77, 3) := by decide +kernel
theorem dX1_ring_83 : decode cX1_ring 83 = .ok (.invokevirtual 80, 3) := by decide +kernel
theorem dX1_ring_86 : decode cX1_ring 86 = .ok (.goto 12, 3) := by decide +kernel
theorem dX1_ring_89 : decode cX1_ring 89 = .ok (.aload_n 0, 1) := by decide +kernel
theorem dX1_ring_90 : decode cX1_ring 90 = .ok (.iload_n 1, 1) := by decide +kernel
theorem dX1_ring_91 : decode cX1_ring 91 = .ok (.iload 5, 2) := by decide +kernel
theorem dX1_ring_93 : decode cX1_ring 93 = .ok (.iload 4, 2) := by decide +kernel
theorem dX1_ring_95 : decode cX1_ring 95 = .ok (.invokevirtual 84, 3) := by decide +kernel
theorem dX1_ring_98 : decode cX1_ring 98 = .ok (.iload_n 3, 1) := by decide +kernel
theorem dX1_ring_99 : decode cX1_ring 99 = .ok (.ireturn, 1) := by decide +kernel
theorem dX1_sendOff_0 : decode cX1_sendOff 0 = .ok (.aload_n 0, 1) := by decide +kernel
theorem dX1_sendOff_1 : decode cX1_sendOff 1 = .ok (.invokevirtual 53, 3) := by decide +kernel
theorem dX1_sendOff_4 : decode cX1_sendOff 4 = .ok (.ifCond .eq 4, 3) := by decide +kernel
theorem dX1_sendOff_7 : decode cX1_sendOff 7 = .ok (.return_, 1) := by decide +kernel
theorem dX1_sendOff_8 : decode cX1_sendOff 8 = .ok (.aload_n 0, 1) := by decide +kernel
theorem dX1_sendOff_9 : decode cX1_sendOff 9 = .ok (.getfield 23, 3) := by decide +kernel
theorem dX1_sendOff_12 : decode cX1_sendOff 12 = .ok (.iconst 0, 1) := by decide +kernel
theorem dX1_sendOff_13 : decode cX1_sendOff 13 = .ok (.aaload, 1) := by decide +kernel
theorem dX1_sendOff_14 : decode cX1_sendOff 14 = .ok (.aload_n 0, 1) := by decide +kernel
theorem dX1_sendOff_15 : decode cX1_sendOff 15 = .ok (.getfield 40, 3) := by decide +kernel
theorem dX1_sendOff_18 : decode cX1_sendOff 18 = .ok (.iload_n 1, 1) := by decide +kernel
theorem dX1_sendOff_19 : decode cX1_sendOff 19 = .ok (.iastore, 1) := by decide +kernel
theorem dX1_sendOff_20 : decode cX1_sendOff 20 = .ok (.aload_n 0, 1) := by decide +kernel
theorem dX1_sendOff_21 : decode cX1_sendOff 21 = .ok (.getfield 23, 3) := by decide +kernel
theorem dX1_sendOff_24 : decode cX1_sendOff 24 = .ok (.iconst 1, 1) := by decide +kernel
theorem dX1_sendOff_25 : decode cX1_sendOff 25 = .ok (.aaload, 1) := by decide +kernel
theorem dX1_sendOff_26 : decode cX1_sendOff 26 = .ok (.aload_n 0, 1) := by decide +kernel
theorem dX1_sendOff_27 : decode cX1_sendOff 27 = .ok (.getfield 40, 3) := by decide +kernel
theorem dX1_sendOff_30 : decode cX1_sendOff 30 = .ok (.iload_n 2, 1) := by decide +kernel
theorem dX1_sendOff_31 : decode cX1_sendOff 31 = .ok (.iastore, 1) := by decide +kernel
theorem dX1_sendOff_32 : decode cX1_sendOff 32 = .ok (.aload_n 0, 1) := by decide +kernel
theorem dX1_sendOff_33 : decode cX1_sendOff 33 = .ok (.getfield 23, 3) := by decide +kernel
theorem dX1_sendOff_36 : decode cX1_sendOff 36 = .ok (.iconst 2, 1) := by decide +kernel
theorem dX1_sendOff_37 : decode cX1_sendOff 37 = .ok (.aaload, 1) := by decide +kernel
theorem dX1_sendOff_38 : decode cX1_sendOff 38 = .ok (.aload_n 0, 1) := by decide +kernel
theorem dX1_sendOff_39 : decode cX1_sendOff 39 = .ok (.getfield 40, 3) := by decide +kernel
theorem dX1_sendOff_42 : decode cX1_sendOff 42 = .ok (.iload_n 2, 1) := by decide +kernel
theorem dX1_sendOff_43 : decode cX1_sendOff 43 = .ok (.iastore, 1) := by decide +kernel
theorem dX1_sendOff_44 : decode cX1_sendOff 44 = .ok (.aload_n 0, 1) := by decide +kernel
theorem dX1_sendOff_45 : decode cX1_sendOff 45 = .ok (.getfield 23, 3) := by decide +kernel
theorem dX1_sendOff_48 : decode cX1_sendOff 48 = .ok (.iconst 3, 1) := by decide +kernel
theorem dX1_sendOff_49 : decode cX1_sendOff 49 = .ok (.aaload, 1) := by decide +kernel
theorem dX1_sendOff_50 : decode cX1_sendOff 50 = .ok (.aload_n 0, 1) := by decide +kernel
theorem dX1_sendOff_51 : decode cX1_sendOff 51 = .ok (.getfield 40, 3) := by decide +kernel
theorem dX1_sendOff_54 : decode cX1_sendOff 54 = .ok (.iload_n 3, 1) := by decide +kernel
theorem dX1_sendOff_55 : decode cX1_sendOff 55 = .ok (.iastore, 1) := by decide +kernel
theorem dX1_sendOff_56 : decode cX1_sendOff 56 = .ok (.aload_n 0, 1) := by decide +kernel
theorem dX1_sendOff_57 : decode cX1_sendOff 57 = .ok (.getfield 23, 3) := by decide +kernel
theorem dX1_sendOff_60 : decode cX1_sendOff 60 = .ok (.iconst 4, 1) := by decide +kernel
theorem dX1_sendOff_61 : decode cX1_sendOff 61 = .ok (.aaload, 1) := by decide +kernel
theorem dX1_sendOff_62 : decode cX1_sendOff 62 = .ok (.aload_n 0, 1) := by decide +kernel
theorem dX1_sendOff_63 : decode cX1_sendOff 63 = .ok (.getfield 40, 3) := by decide +kernel
theorem dX1_sendOff_66 : decode cX1_sendOff 66 = .ok (.aload_n 0, 1) := by decide +kernel
theorem dX1_sendOff_67 : decode cX1_sendOff 67 = .ok (.getfield 11, 3) := by decide +kernel
theorem dX1_sendOff_70 : decode cX1_sendOff 70 = .ok (.iload_n 1, 1) := by decide +kernel
theorem dX1_sendOff_71 : decode cX1_sendOff 71 = .ok (.aaload, 1) := by decide +kernel
theorem dX1_sendOff_72 : decode cX1_sendOff 72 = .ok (.getfield 77, 3) := by decide +kernel
theorem dX1_sendOff_75 : decode cX1_sendOff 75 = .ok (.iastore, 1) := by decide +kernel
theorem dX1_sendOff_76 : decode cX1_sendOff 76 = .ok (.aload_n 0, 1) := by decide +kernel
theorem dX1_sendOff_77 : decode cX1_sendOff 77 = .ok (.dup, 1) := by decide +kernel
theorem dX1_sendOff_78 : decode cX1_sendOff 78 = .ok (.getfield 40, 3) := by decide +kernel
theorem dX1_sendOff_81 : decode cX1_sendOff 81 = .ok (.iconst 1, 1) := by decide +kernel
theorem dX1_sendOff_82 : decode cX1_sendOff 82 = .ok (.iadd, 1) := by decide +kernel
theorem dX1_sendOff_83 : decode cX1_sendOff 83 = .ok (.putfield 40, 3) := by decide +kernel
theorem dX1_sendOff_86 : decode cX1_sendOff 86 = .ok (.aload_n 0, 1) := by decide +kernel
theorem dX1_sendOff_87 : decode cX1_sendOff 87 = .ok (.getfield 11, 3) := by decide +kernel
theorem dX1_sendOff_90 : decode cX1_sendOff 90 = .ok (.iload_n 1, 1) := by decide +kernel
theorem dX1_sendOff_91 : decode cX1_sendOff 91 = .ok (.aaload, 1) := by decide +kernel
theorem dX1_sendOff_92 : decode cX1_sendOff 92 = .ok (.dup, 1) := by decide +kernel
theorem dX1_sendOff_93 : decode cX1_sendOff 93 = .ok (.getfield 88, 3) := by decide +kernel
theorem dX1_sendOff_96 : decode cX1_sendOff 96 = .ok (.iconst 1, 1) := by decide +kernel
theorem dX1_sendOff_97 : decode cX1_sendOff 97 = .ok (.iadd, 1) := by decide +kernel
theorem dX1_sendOff_98 : decode cX1_sendOff 98 = .ok (.putfield 88, 3) := by decide +kernel
theorem dX1_sendOff_101 : decode cX1_sendOff 101 = .ok (.return_, 1) := by decide +kernel
theorem dX1_ringOften_0 : decode cX1_ringOften 0 = .ok (.iconst 0, 1) := by decide +kernel
theorem dX1_ringOften_1 : decode cX1_ringOften 1 = .ok (.istore 4, 2) := by decide +kernel
theorem dX1_ringOften_3 : decode cX1_ringOften 3 = .ok (.iconst 0, 1) := by decide +kernel
theorem dX1_ringOften_4 : decode cX1_ringOften 4 = .ok (.istore 5, 2) := by decide +kernel
theorem dX1_ringOften_6 : decode cX1_ringOften 6 = .ok (.iload 5, 2) := by decide +kernel
theorem dX1_ringOften_8 : decode cX1_ringOften 8 = .ok (.iload_n 2, 1) := by decide +kernel
theorem dX1_ringOften_9 : decode cX1_ringOften 9 = .ok (.if_icmp .ge 48, 3) := by decide +kernel
theorem dX1_ringOften_12 : decode cX1_ringOften 12 = .ok (.aload_n 0, 1) := by decide +kernel
theorem dX1_ringOften_13 : decode cX1_ringOften 13 = .ok (.iload_n 1, 1) := by decide +kernel
theorem dX1_ringOften_14 : decode cX1_ringOften 14 = .ok (.invokevirtual 91, 3) := by decide +kernel
theorem dX1_ringOften_17 : decode cX1_ringOften 17 = .ok (.ifCond .ne 40, 3) := by decide +kernel
theorem dX1_ringOften_20 : decode cX1_ringOften 20 = .ok (.aload_n 0, 1) := by decide +kernel
theorem dX1_ringOften_21 : decode cX1_ringOften 21 = .ok (.iload_n 1, 1) := by decide +kernel
theorem dX1_ringOften_22 : decode cX1_ringOften 22 = .ok (.invokevirtual 95, 3) := by decide +kernel
theorem dX1_ringOften_25 : decode cX1_ringOften 25 = .ok (.ifCond .eq 6, 3) := by decide +kernel
theorem dX1_ringOften_28 : decode cX1_ringOften 28 = .ok (.iinc 4 1, 3) := by decide +kernel
theorem dX1_ringOften_31 : decode cX1_ringOften 31 = .ok (.iconst 0, 1) := by decide +kernel
theorem dX1_ringOften_32 : decode cX1_ringOften 32 = .ok (.istore 6, 2) := by decide +kernel
theorem dX1_ringOften_34 : decode cX1_ringOften 34 = .ok (.iload 6, 2) := by decide +kernel
theorem dX1_ringOften_36 : decode cX1_ringOften 36 = .ok (.iload_n 3, 1) := by decide +kernel
theorem dX1_ringOften_37 : decode cX1_ringOften 37 = .ok (.if_icmp .ge 14, 3) := by decide +kernel
theorem dX1_ringOften_40 : decode cX1_ringOften 40 = .ok (.aload_n 0, 1) := by decide +kernel
theorem dX1_ringOften_41 : decode cX1_ringOften 41 = .ok (.invokevirtual 98, 3) := by decide +kernel
theorem dX1_ringOften_44 : decode cX1_ringOften 44 = .ok (.pop, 1) := by decide +kernel
theorem dX1_ringOften_45 : decode cX1_ringOften 45 = .ok (.iinc 6 1, 3) := by decide +kernel
theorem dX1_ringOften_48 : decode cX1_ringOften 48 = .ok (.goto (-14), 3) := by decide +kernel
theorem dX1_ringOften_51 : decode cX1_ringOften 51 = .ok (.iinc 5 1, 3) := by decide +kernel
theorem dX1_ringOften_54 : decode cX1_ringOften 54 = .ok (.goto (-48), 3) := by decide +kernel
theorem dX1_ringOften_57 : decode cX1_ringOften 57 = .ok (.iload 4, 2) := by decide +kernel
theorem dX1_ringOften_59 : decode cX1_ringOften 59 = .ok (.ireturn, 1) := by decide +kernel
theorem dX1_letPass_0 : decode cX1_letPass 0 = .ok (.iconst 0, 1) := by decide +kernel
theorem dX1_letPass_1 : decode cX1_letPass 1 = .ok (.istore_n 2, 1) := by decide +kernel
theorem dX1_letPass_2 : decode cX1_letPass 2 = .ok (.iconst 0, 1) := by decide +kernel
theorem dX1_letPass_3 : decode cX1_letPass 3 = .ok (.istore_n 3, 1) := by decide +kernel
theorem dX1_letPass_4 : decode cX1_letPass 4 = .ok (.iload_n 3, 1) := by decide +kernel
theorem dX1_letPass_5 : decode cX1_letPass 5 = .ok (.iload_n 1, 1) := by decide +kernel
theorem dX1_letPass_6 : decode cX1_letPass 6 = .ok (.if_icmp .ge 16, 3) := by decide +kernel
theorem dX1_letPass_9 : decode cX1_letPass 9 = .ok (.iload_n 2, 1) := by decide +kernel
theorem dX1_letPass_10 : decode cX1_letPass 10 = .ok (.aload_n 0, 1) := by decide +kernel
theorem dX1_letPass_11 : decode cX1_letPass 11 = .ok (.invokevirtual 98, 3) := by decide +kernel
theorem dX1_letPass_14 : decode cX1_letPass 14 = .ok (.iadd, 1) := by decide +kernel
theorem dX1_letPass_15 : decode cX1_letPass 15 = .ok (.istore_n 2, 1) := by decide +kernel
theorem dX1_letPass_16 : decode cX1_letPass 16 = .ok (.iinc 3 1, 3) := by decide +kernel
theorem dX1_letPass_19 : decode cX1_letPass 19 = .ok (.goto (-15), 3) := by decide +kernel
theorem dX1_letPass_22 : decode cX1_letPass 22 = .ok (.iload_n 2, 1) := by decide +kernel
theorem dX1_letPass_23 : decode cX1_letPass 23 = .ok (.ireturn, 1) := by decide +kernel
theorem dX1_tick_0 : decode cX1_tick 0 = .ok (.aload_n 0, 1) := by decide +kernel
theorem dX1_tick_1 : decode cX1_tick 1 = .ok (.getfield 40, 3) := by decide +kernel
theorem dX1_tick_4 : decode cX1_tick 4 = .ok (.istore_n 1, 1) := by decide +kernel
theorem dX1_tick_5 : decode cX1_tick 5 = .ok (.iconst 0, 1) := by decide +kernel
theorem dX1_tick_6 : decode cX1_tick 6 = .ok (.istore_n 2, 1) := by decide +kernel
theorem dX1_tick_7 : decode cX1_tick 7 = .ok (.iconst 0, 1) := by decide +kernel
theorem dX1_tick_8 : decode cX1_tick 8 = .ok (.istore_n 3, 1) := by decide +kernel
theorem dX1_tick_9 : decode cX1_tick 9 = .ok (.iload_n 3, 1) := by decide +kernel
theorem dX1_tick_10 : decode cX1_tick 10 = .ok (.iload_n 1, 1) := by decide +kernel
theorem dX1_tick_11 : decode cX1_tick 11 = .ok (.if_icmp .ge 105, 3) := by decide +kernel
theorem dX1_tick_14 : decode cX1_tick 14 = .ok (.aload_n 0, 1) := by decide +kernel
theorem dX1_tick_15 : decode cX1_tick 15 = .ok (.getfield 23, 3) := by decide +kernel
theorem dX1_tick_18 : decode cX1_tick 18 = .ok (.iconst 1, 1) := by decide +kernel
theorem dX1_tick_19 : decode cX1_tick 19 = .ok (.aaload, 1) := by decide +kernel
theorem dX1_tick_20 : decode cX1_tick 20 = .ok (.iload_n 3, 1) := by decide +kernel
theorem dX1_tick_21 : decode cX1_tick 21 = .ok (.dup2, 1) := by decide +kernel
theorem dX1_tick_22 : decode cX1_tick 22 = .ok (.iaload, 1) := by decide +kernel
theorem dX1_tick_23 : decode cX1_tick 23 = .ok (.iconst 1, 1) := by decide +kernel
theorem dX1_tick_24 : decode cX1_tick 24 = .ok (.isub, 1) := by decide +kernel
theorem dX1_tick_25 : decode cX1_tick 25 = .ok (.iastore, 1) := by decide +kernel
theorem dX1_tick_26 : decode cX1_tick 26 = .ok (.aload_n 0, 1) := by decide +kernel
theorem dX1_tick_27 : decode cX1_tick 27 = .ok (.getfield 23, 3) := by decide +kernel
theorem dX1_tick_30 : decode cX1_tick 30 = .ok (.iconst 1, 1) := by decide +kernel
theorem dX1_tick_31 : decode cX1_tick 31 = .ok (.aaload, 1) := by decide +kernel
theorem dX1_tick_32 : decode cX1_tick 32 = .ok (.iload_n 3, 1) := by decide +kernel
theorem dX1_tick_33 : decode cX1_tick 33 = .ok (.iaload, 1) := by decide +kernel
theorem dX1_tick_34 : decode cX1_tick 34 = .ok (.ifCond .le 20, 3) := by decide +kernel
theorem dX1_tick_37 : decode cX1_tick 37 = .ok (.iload_n 2, 1) := by decide +kernel
theorem dX1_tick_38 : decode cX1_tick 38 = .ok (.iload_n 3, 1) := by decide +kernel
theorem dX1_tick_39 : decode cX1_tick 39 = .ok (.if_icmp .ge 9, 3) := by decide +kernel
theorem dX1_tick_42 : decode cX1_tick 42 = .ok (.aload_n 0, 1) := by decide +kernel
theorem dX1_tick_43 : decode cX1_tick 43 = .ok (.iload_n 3, 1) := by decide +kernel
theorem dX1_tick_44 : decode cX1_tick 44 = .ok (.iload_n 2, 1) := by decide +kernel
theorem dX1_tick_45 : decode cX1_tick 45 = .ok (.invokevirtual 101, 3) := by decide +kernel
theorem dX1_tick_48 : decode cX1_tick 48 = .ok (.iinc 2 1, 3) := by decide +kernel
theorem dX1_tick_51 : decode cX1_tick 51 = .ok (.goto 59, 3) := by decide +kernel
theorem dX1_tick_54 : decode cX1_tick 54 = .ok (.aload_n 0, 1) := by decide +kernel
theorem dX1_tick_55 : decode cX1_tick 55 = .ok (.getfield 11, 3) := by decide +kernel
theorem dX1_tick_58 : decode cX1_tick 58 = .ok (.aload_n 0, 1) := by decide +kernel
theorem dX1_tick_59 : decode cX1_tick 59 = .ok (.getfield 23, 3) := by decide +kernel
theorem dX1_tick_62 : decode cX1_tick 62 = .ok (.iconst 0, 1) := by decide +kernel
theorem dX1_tick_63 : decode cX1_tick 63 = .ok (.aaload, 1) := by decide +kernel
theorem dX1_tick_64 : decode cX1_tick 64 = .ok (.iload_n 3, 1) := by decide +kernel
theorem dX1_tick_65 : decode cX1_tick 65 = .ok (.iaload, 1) := by decide +kernel
theorem dX1_tick_66 : decode cX1_tick 66 = .ok (.aaload, 1) := by decide +kernel
theorem dX1_tick_67 : decode cX1_tick 67 = .ok (.astore 4, 2) := by decide +kernel
theorem dX1_tick_69 : decode cX1_tick 69 = .ok (.aload 4, 2) := by decide +kernel
theorem dX1_tick_71 : decode cX1_tick 71 = .ok (.dup, 1) := by decide +kernel
theorem dX1_tick_72 : decode cX1_tick 72 = .ok (.getfield 88, 3) := by decide +kernel
theorem dX1_tick_75 : decode cX1_tick 75 = .ok (.iconst 1, 1) := by decide +kernel
theorem dX1_tick_76 : decode cX1_tick 76 = .ok (.isub, 1) := by decide +kernel
theorem dX1_tick_77 : decode cX1_tick 77 = .ok (.putfield 88, 3) := by decide +kernel
theorem dX1_tick_80 : decode cX1_tick 80 = .ok (.aload_n 0, 1) := by decide +kernel
theorem dX1_tick_81 : decode cX1_tick 81 = .ok (.aload 4, 2) := by decide +kernel
theorem dX1_tick_83 : decode cX1_tick 83 = .ok (.aload_n 0, 1) := by decide +kernel
theorem dX1_tick_84 : decode cX1_tick 84 = .ok (.getfield 23, 3) := by decide +kernel
theorem dX1_tick_87 : decode cX1_tick 87 = .ok (.iconst 2, 1) := by decide +kernel
theorem dX1_tick_88 : decode cX1_tick 88 = .ok (.aaload, 1) := by decide +kernel
theorem dX1_tick_89 : decode cX1_tick 89 = .ok (.iload_n 3, 1) := by decide +kernel
theorem dX1_tick_90 : decode cX1_tick 90 = .ok (.iaload, 1) := by decide +kernel
theorem dX1_tick_91 : decode cX1_tick 91 = .ok (.aload_n 0, 1) := by decide +kernel
theorem dX1_tick_92 : decode cX1_tick 92 = .ok (.getfield 23, 3) := by decide +kernel
theorem dX1_tick_95 : decode cX1_tick 95 = .ok (.iconst 3, 1) := by decide +kernel
theorem dX1_tick_96 : decode cX1_tick 96 = .ok (.aaload, 1) := by decide +kernel
theorem dX1_tick_97 : decode cX1_tick 97 = .ok (.iload_n 3, 1) := by decide +kernel
theorem dX1_tick_98 : decode cX1_tick 98 = .ok (.iaload, 1) := by decide +kernel
theorem dX1_tick_99 : decode cX1_tick 99 = .ok (.aload_n 0, 1) := by decide +kernel
theorem dX1_tick_100 : decode cX1_tick 100 = .ok (.getfield 23, 3) := by decide +kernel
theorem dX1_tick_103 : decode cX1_tick 103 = .ok (.iconst 4, 1) := by decide +kernel
theorem dX1_tick_104 : decode cX1_tick 104 = .ok (.aaload, 1) := by decide +kernel
theorem dX1_tick_105 : decode cX1_tick 105 = .ok (.iload_n 3, 1) := by decide +kernel
theorem dX1_tick_106 : decode cX1_tick 106 = .ok (.iaload, 1) := by decide +kernel
theorem dX1_tick_107 : decode cX1_tick 107 = .ok (.invokevirtual 80, 3) := by decide +kernel
theorem dX1_tick_110 : decode cX1_tick 110 = .ok (.iinc 3 1, 3) := by decide +kernel
theorem dX1_tick_113 : decode cX1_tick 113 = .ok (.goto (-104), 3) := by decide +kernel
theorem dX1_tick_116 : decode cX1_tick 116 = .ok (.aload_n 0, 1) := by decide +kernel
theorem dX1_tick_117 : decode cX1_tick 117 = .ok (.iload_n 2, 1) := by decide +kernel
theorem dX1_tick_118 : decode cX1_tick 118 = .ok (.putfield 40, 3) := by decide +kernel
theorem dX1_tick_121 : decode cX1_tick 121 = .ok (.iconst 0, 1) := by decide +kernel
theorem dX1_tick_122 : decode cX1_tick 122 = .ok (.istore_n 3, 1) := by decide +kernel
theorem dX1_tick_123 : decode cX1_tick 123 = .ok (.iload_n 3, 1) := by decide +kernel
theorem dX1_tick_124 : decode cX1_tick 124 = .ok (.iconst 4, 1) := by decide +kernel
theorem dX1_tick_125 : decode cX1_tick 125 = .ok (.if_icmp .ge 18, 3) := by decide +kernel
theorem dX1_tick_128 : decode cX1_tick 128 = .ok (.aload_n 0, 1) := by decide +kernel
theorem dX1_tick_129 : decode cX1_tick 129 = .ok (.getfield 11, 3) := by decide +kernel
theorem dX1_tick_132 : decode cX1_tick 132 = .ok (.iload_n 3, 1) := by decide +kernel
theorem dX1_tick_133 : decode cX1_tick 133 = .ok (.aaload, 1) := by decide +kernel
theorem dX1_tick_134 : decode cX1_tick 134 = .ok (.invokevirtual 105, 3) := by decide +kernel
theorem dX1_tick_137 : decode cX1_tick 137 = .ok (.iinc 3 1, 3) := by decide +kernel
theorem dX1_tick_140 : decode cX1_tick 140 = .ok (.goto (-17), 3) := by decide +kernel
theorem dX1_tick_143 : decode cX1_tick 143 = .ok (.aload_n 0, 1) := by decide +kernel
theorem dX1_tick_144 : decode cX1_tick 144 = .ok (.dup, 1) := by decide +kernel
theorem dX1_tick_145 : decode cX1_tick 145 = .ok (.getfield 44, 3) := by decide +kernel
theorem dX1_tick_148 : decode cX1_tick 148 = .ok (.iconst 1, 1) := by decide +kernel
theorem dX1_tick_149 : decode cX1_tick 149 = .ok (.iadd, 1) := by decide +kernel
theorem dX1_tick_150 : decode cX1_tick 150 = .ok (.putfield 44, 3) := by decide +kernel
theorem dX1_tick_153 : decode cX1_tick 153 = .ok (.iload_n 1, 1) := by decide +kernel
theorem dX1_tick_154 : decode cX1_tick 154 = .ok (.iload_n 2, 1) := by decide +kernel
theorem dX1_tick_155 : decode cX1_tick 155 = .ok (.isub, 1) := by decide +kernel
theorem dX1_tick_156 : decode cX1_tick 156 = .ok (.ireturn, 1) := by decide +kernel
theorem dX1_moveCall_0 : decode cX1_moveCall 0 = .ok (.iconst 0, 1) := by decide +kernel
theorem dX1_moveCall_1 : decode cX1_moveCall 1 = .ok (.istore_n 3, 1) := by decide +kernel
theorem dX1_moveCall_2 : decode cX1_moveCall 2 = .ok (.iload_n 3, 1) := by decide +kernel
theorem dX1_moveCall_3 : decode cX1_moveCall 3 = .ok (.iconst 5, 1) := by decide +kernel
theorem dX1_moveCall_4 : decode cX1_moveCall 4 = .ok (.if_icmp .ge 25, 3) := by decide +kernel
theorem dX1_moveCall_7 : decode cX1_moveCall 7 = .ok (.aload_n 0, 1) := by decide +kernel
theorem dX1_moveCall_8 : decode cX1_moveCall 8 = .ok (.getfield 23, 3) := by decide +kernel
theorem dX1_moveCall_11 : decode cX1_moveCall 11 = .ok (.iload_n 3, 1) := by decide +kernel
theorem dX1_moveCall_12 : decode cX1_moveCall 12 = .ok (.aaload, 1) := by decide +kernel
theorem dX1_moveCall_13 : decode cX1_moveCall 13 = .ok (.iload_n 2, 1) := by decide +kernel
theorem dX1_moveCall_14 : decode cX1_moveCall 14 = .ok (.aload_n 0, 1) := by decide +kernel
theorem dX1_moveCall_15 : decode cX1_moveCall 15 = .ok (.getfield 23, 3) := by decide +kernel
theorem dX1_moveCall_18 : decode cX1_moveCall 18 = .ok (.iload_n 3, 1) := by decide +kernel
theorem dX1_moveCall_19 : decode cX1_moveCall 19 = .ok (.aaload, 1) := by decide +kernel
theorem dX1_moveCall_20 : decode cX1_moveCall 20 = .ok (.iload_n 1, 1) := by decide +kernel
theorem dX1_moveCall_21 : decode cX1_moveCall 21 = .ok (.iaload, 1) := by decide +kernel
theorem dX1_moveCall_22 : decode cX1_moveCall 22 = .ok (.iastore, 1) := by decide +kernel
theorem dX1_moveCall_23 : decode cX1_moveCall 23 = .ok (.iinc 3 1, 3) := by decide +kernel
theorem dX1_moveCall_26 : decode cX1_moveCall 26 = .ok (.goto (-24), 3) := by decide +kernel
theorem dX1_moveCall_29 : decode cX1_moveCall 29 = .ok (.return_, 1) := by decide +kernel
theorem dX1_settle_0 : decode cX1_settle 0 = .ok (.aload_n 0, 1) := by decide +kernel
theorem dX1_settle_1 : decode cX1_settle 1 = .ok (.iload_n 2, 1) := by decide +kernel
theorem dX1_settle_2 : decode cX1_settle 2 = .ok (.invokevirtual 108, 3) := by decide +kernel
theorem dX1_settle_5 : decode cX1_settle 5 = .ok (.istore 5, 2) := by decide +kernel
theorem dX1_settle_7 : decode cX1_settle 7 = .ok (.iload 5, 2) := by decide +kernel
theorem dX1_settle_9 : decode cX1_settle 9 = .ok (.ifCond .eq 16, 3) := by decide +kernel
theorem dX1_settle_12 : decode cX1_settle 12 = .ok (.aload_n 1, 1) := by decide +kernel
theorem dX1_settle_13 : decode cX1_settle 13 = .ok (.dup, 1) := by decide +kernel
theorem dX1_settle_14 : decode cX1_settle 14 = .ok (.getfield 111, 3) := by decide +kernel
theorem dX1_settle_17 : decode cX1_settle 17 = .ok (.iconst 1, 1) := by decide +kernel
theorem dX1_settle_18 : decode cX1_settle 18 = .ok (.iadd, 1) := by decide +kernel
theorem dX1_settle_19 : decode cX1_settle 19 = .ok (.putfield 111, 3) := by decide +kernel
theorem dX1_settle_22 : decode cX1_settle 22 = .ok (.goto 13, 3) := by decide +kernel
theorem dX1_settle_25 : decode cX1_settle 25 = .ok (.aload_n 0, 1) := by decide +kernel
theorem dX1_settle_26 : decode cX1_settle 26 = .ok (.dup, 1) := by decide +kernel
theorem dX1_settle_27 : decode cX1_settle 27 = .ok (.getfield 47, 3) := by decide +kernel
theorem dX1_settle_30 : decode cX1_settle 30 = .ok (.iconst 1, 1) := by decide +kernel
theorem dX1_settle_31 : decode cX1_settle 31 = .ok (.iadd, 1) := by decide +kernel
theorem dX1_settle_32 : decode cX1_settle 32 = .ok (.putfield 47, 3) := by decide +kernel
theorem dX1_settle_35 : decode cX1_settle 35 = .ok (.iload_n 3, 1) := by decide +kernel
theorem dX1_settle_36 : decode cX1_settle 36 = .ok (.iconst 1, 1) := by decide +kernel
theorem dX1_settle_37 : decode cX1_settle 37 = .ok (.if_icmp .ne 13, 3) := by decide +kernel
theorem dX1_settle_40 : decode cX1_settle 40 = .ok (.aload_n 0, 1) := by decide +kernel
theorem dX1_settle_41 : decode cX1_settle 41 = .ok (.aload_n 1, 1) := by decide +kernel
theorem dX1_settle_42 : decode cX1_settle 42 = .ok (.iload 5, 2) := by decide +kernel
theorem dX1_settle_44 : decode cX1_settle 44 = .ok (.invokevirtual 114, 3) := by decide +kernel
theorem dX1_settle_47 : decode cX1_settle 47 = .ok (.goto 26, 3) := by decide +kernel
theorem dX1_settle_50 : decode cX1_settle 50 = .ok (.aload_n 1, 1) := by decide +kernel
theorem dX1_settle_51 : decode cX1_settle 51 = .ok (.getfield 61, 3) := by decide +kernel
theorem dX1_settle_54 : decode cX1_settle 54 = .ok (.ifCond .ne 19, 3) := by decide +kernel
theorem dX1_settle_57 : decode cX1_settle 57 = .ok (.aload_n 1, 1) := by decide +kernel
theorem dX1_settle_58 : decode cX1_settle 58 = .ok (.getfield 77, 3) := by decide +kernel
theorem dX1_settle_61 : decode cX1_settle 61 = .ok (.iload 4, 2) := by decide +kernel
theorem dX1_settle_63 : decode cX1_settle 63 = .ok (.if_icmp .ne 10, 3) := by decide +kernel
theorem dX1_settle_66 : decode cX1_settle 66 = .ok (.aload_n 0, 1) := by decide +kernel
theorem dX1_settle_67 : decode cX1_settle 67 = .ok (.aload_n 1, 1) := by decide +kernel
theorem dX1_settle_68 : decode cX1_settle 68 = .ok (.iload 5, 2) := by decide +kernel
theorem dX1_settle_70 : decode cX1_settle 70 = .ok (.invokevirtual 118, 3) := by decide +kernel
theorem dX1_settle_73 : decode cX1_settle 73 = .ok (.return_, 1) := by decide +kernel
theorem dX1_isBad_0 : decode cX1_isBad 0 = .ok (.iload_n 1, 1) := by decide +kernel
theorem dX1_isBad_1 : decode cX1_isBad 1 = .ok (.ifCond .eq 13, 3) := by decide +kernel
theorem dX1_isBad_4 : decode cX1_isBad 4 = .ok (.iload_n 1, 1) := by decide +kernel
theorem dX1_isBad_5 : decode cX1_isBad 5 = .ok (.aload_n 0, 1) := by decide +kernel
theorem dX1_isBad_6 : decode cX1_isBad 6 = .ok (.getfield 17, 3) := by decide +kernel
theorem dX1_isBad_9 : decode cX1_isBad 9 = .ok (.iconst 0, 1) := by decide +kernel
theorem dX1_isBad_10 : decode cX1_isBad 10 = .ok (.iaload, 1) := by decide +kernel
theorem dX1_isBad_11 : decode cX1_isBad 11 = .ok (.if_icmp .le 7, 3) := by decide +kernel
theorem dX1_isBad_14 : decode cX1_isBad 14 = .ok (.iconst 1, 1) := by decide +kernel
theorem dX1_isBad_15 : decode cX1_isBad 15 = .ok (.goto 4, 3) := by decide +kernel
theorem dX1_isBad_18 : decode cX1_isBad 18 = .ok (.iconst 0, 1) := by decide +kernel
theorem dX1_isBad_19 : decode cX1_isBad 19 = .ok (.ireturn, 1) := by decide +kernel
theorem dX1_settleTrial_0 : decode cX1_settleTrial 0 = .ok (.iload_n 2, 1) := by decide +kernel
theorem dX1_settleTrial_1 : decode cX1_settleTrial 1 = .ok (.ifCond .eq 15, 3) := by decide +kernel
theorem dX1_settleTrial_4 : decode cX1_settleTrial 4 = .ok (.aload_n 1, 1) := by decide +kernel
theorem dX1_settleTrial_5 : decode cX1_settleTrial 5 = .ok (.aload_n 0, 1) := by decide +kernel
theorem dX1_settleTrial_6 : decode cX1_settleTrial 6 = .ok (.aload_n 1, 1) := by decide +kernel
theorem dX1_settleTrial_7 : decode cX1_settleTrial 7 = .ok (.invokevirtual 121, 3) := by decide +kernel
theorem dX1_settleTrial_10 : decode cX1_settleTrial 10 = .ok (.invokevirtual 125, 3) := by decide +kernel
theorem dX1_settleTrial_13 : decode cX1_settleTrial 13 = .ok (.goto 7, 3) := by decide +kernel
theorem dX1_settleTrial_16 : decode cX1_settleTrial 16 = .ok (.aload_n 1, 1) := by decide +kernel
theorem dX1_settleTrial_17 : decode cX1_settleTrial 17 = .ok (.invokevirtual 129, 3) := by decide +kernel
theorem dX1_settleTrial_20 : decode cX1_settleTrial 20 = .ok (.return_, 1) := by decide +kernel
theorem dX1_nextCut_0 : decode cX1_nextCut 0 = .ok (.iconst 2, 1) := by decide +kernel
theorem dX1_nextCut_1 : decode cX1_nextCut 1 = .ok (.aload_n 1, 1) := by decide +kernel
theorem dX1_nextCut_2 : decode cX1_nextCut 2 = .ok (.getfield 132, 3) := by decide +kernel
theorem dX1_nextCut_5 : decode cX1_nextCut 5 = .ok (.imul, 1) := by decide +kernel
theorem dX1_nextCut_6 : decode cX1_nextCut 6 = .ok (.aload_n 0, 1) := by decide +kernel
theorem dX1_nextCut_7 : decode cX1_nextCut 7 = .ok (.getfield 17, 3) := by decide +kernel
theorem dX1_nextCut_10 : decode cX1_nextCut 10 = .ok (.iconst 4, 1) := by decide +kernel
theorem dX1_nextCut_11 : decode cX1_nextCut 11 = .ok (.iaload, 1) := by decide +kernel
theorem dX1_nextCut_12 : decode cX1_nextCut 12 = .ok (.invokestatic 135, 3) := by decide +kernel
theorem dX1_nextCut_15 : decode cX1_nextCut 15 = .ok (.ireturn, 1) := by decide +kernel
theorem dX1_settleInWindow_0 : decode cX1_settleInWindow 0 = .ok (.aload_n 1, 1) := by decide +kernel
theorem dX1_settleInWindow_1 : decode cX1_settleInWindow 1 = .ok (.iload_n 2, 1) := by decide +kernel
theorem dX1_settleInWindow_2 : decode cX1_settleInWindow 2 = .ok (.invokevirtual 141, 3) := by decide +kernel
theorem dX1_settleInWindow_5 : decode cX1_settleInWindow 5 = .ok (.aload_n 0, 1) := by decide +kernel
theorem dX1_settleInWindow_6 : decode cX1_settleInWindow 6 = .ok (.getfield 17, 3) := by decide +kernel
theorem dX1_settleInWindow_9 : decode cX1_settleInWindow 9 = .ok (.iconst 1, 1) := by decide +kernel
theorem dX1_settleInWindow_10 : decode cX1_settleInWindow 10 = .ok (.iaload, 1) := by decide +kernel
theorem dX1_settleInWindow_11 : decode cX1_settleInWindow 11 = .ok (.istore_n 3, 1) := by decide +kernel
theorem dX1_settleInWindow_12 : decode cX1_settleInWindow 12 = .ok (.aload_n 1, 1) := by decide +kernel
theorem dX1_settleInWindow_13 : decode cX1_settleInWindow 13 = .ok (.getfield 145, 3) := by decide +kernel
theorem dX1_settleInWindow_16 : decode cX1_settleInWindow 16 = .ok (.iload_n 3, 1) := by decide +kernel
theorem dX1_settleInWindow_17 : decode cX1_settleInWindow 17 = .ok (.if_icmp .lt 27, 3) := by decide +kernel
theorem dX1_settleInWindow_20 : decode cX1_settleInWindow 20 = .ok (.aload_n 1, 1) := by decide +kernel
theorem dX1_settleInWindow_21 : decode cX1_settleInWindow 21 = .ok (.iload_n 3, 1) := by decide +kernel
theorem dX1_settleInWindow_22 : decode cX1_settleInWindow 22 = .ok (.invokevirtual 148, 3) := by decide +kernel
theorem dX1_settleInWindow_25 : decode cX1_settleInWindow 25 = .ok (.aload_n 0, 1) := by decide +kernel
theorem dX1_settleInWindow_26 : decode cX1_settleInWindow 26 = .ok (.getfield 17, 3) := by decide +kernel
theorem dX1_settleInWindow_29 : decode cX1_settleInWindow 29 = .ok (.iconst 2, 1) := by decide +kernel
theorem dX1_settleInWindow_30 : decode cX1_settleInWindow 30 = .ok (.iaload, 1) := by decide +kernel
theorem dX1_settleInWindow_31 : decode cX1_settleInWindow 31 = .ok (.if_icmp .lt 13, 3) := by decide +kernel
theorem dX1_settleInWindow_34 : decode cX1_settleInWindow 34 = .ok (.aload_n 1, 1) := by decide +kernel
theorem dX1_settleInWindow_35 : decode cX1_settleInWindow 35 = .ok (.aload_n 0, 1) := by decide +kernel
theorem dX1_settleInWindow_36 : decode cX1_settleInWindow 36 = .ok (.getfield 17, 3) := by decide +kernel
theorem dX1_settleInWindow_39 : decode cX1_settleInWindow 39 = .ok (.iconst 3, 1) := by decide +kernel
theorem dX1_settleInWindow_40 : decode cX1_settleInWindow 40 = .ok (.iaload, 1) := by decide +kernel
theorem dX1_settleInWindow_41 : decode cX1_settleInWindow 41 = .ok (.invokevirtual 125, 3) := by decide +kernel
theorem dX1_settleInWindow_44 : decode cX1_settleInWindow 44 = .ok (.return_, 1) := by decide +kernel
theorem dX1_closeByHand_0 : decode cX1_closeByHand 0 = .ok (.aload_n 0, 1) := by decide +kernel
theorem dX1_closeByHand_1 : decode cX1_closeByHand 1 = .ok (.getfield 11, 3) := by decide +kernel
theorem dX1_closeByHand_4 : decode cX1_closeByHand 4 = .ok (.iload_n 1, 1) := by decide +kernel
theorem dX1_closeByHand_5 : decode cX1_closeByHand 5 = .ok (.aaload, 1) := by decide +kernel
theorem dX1_closeByHand_6 : decode cX1_closeByHand 6 = .ok (.getfield 61, 3) := by decide +kernel
theorem dX1_closeByHand_9 : decode cX1_closeByHand 9 = .ok (.istore_n 2, 1) := by decide +kernel
theorem dX1_closeByHand_10 : decode cX1_closeByHand 10 = .ok (.aload_n 0, 1) := by decide +kernel
theorem dX1_closeByHand_11 : decode cX1_closeByHand 11 = .ok (.iload_n 1, 1) := by decide +kernel
theorem dX1_closeByHand_12 : decode cX1_closeByHand 12 = .ok (.invokevirtual 64, 3) := by decide +kernel
theorem dX1_closeByHand_15 : decode cX1_closeByHand 15 = .ok (.istore_n 3, 1) := by decide +kernel
theorem dX1_closeByHand_16 : decode cX1_closeByHand 16 = .ok (.iload_n 3, 1) := by decide +kernel
theorem dX1_closeByHand_17 : decode cX1_closeByHand 17 = .ok (.iconst (-1), 1) := by decide +kernel
theorem dX1_closeByHand_18 : decode cX1_closeByHand 18 = .ok (.if_icmp .eq 12, 3) := by decide +kernel
theorem dX1_closeByHand_21 : decode cX1_closeByHand 21 = .ok (.aload_n 0, 1) := by decide +kernel
theorem dX1_closeByHand_22 : decode cX1_closeByHand 22 = .ok (.getfield 23, 3) := by decide +kernel
theorem dX1_closeByHand_25 : decode cX1_closeByHand 25 = .ok (.iconst 3, 1) := by decide +kernel
theorem dX1_closeByHand_26 : decode cX1_closeByHand 26 = .ok (.aaload, 1) := by decide +kernel
theorem dX1_closeByHand_27 : decode cX1_closeByHand 27 = .ok (.iload_n 3, 1) := by decide +kernel
theorem dX1_closeByHand_28 : decode cX1_closeByHand 28 = .ok (.iconst 0, 1) := by decide +kernel
theorem dX1_closeByHand_29 : decode cX1_closeByHand 29 = .ok (.iastore, 1) := by decide +kernel
theorem dX1_closeByHand_30 : decode cX1_closeByHand 30 = .ok (.aload_n 0, 1) := by decide +kernel
theorem dX1_closeByHand_31 : decode cX1_closeByHand 31 = .ok (.getfield 11, 3) := by decide +kernel
theorem dX1_closeByHand_34 : decode cX1_closeByHand 34 = .ok (.iload_n 1, 1) := by decide +kernel
theorem dX1_closeByHand_35 : decode cX1_closeByHand 35 = .ok (.aaload, 1) := by decide +kernel
theorem dX1_closeByHand_36 : decode cX1_closeByHand 36 = .ok (.invokevirtual 129, 3) := by decide +kernel
theorem dX1_closeByHand_39 : decode cX1_closeByHand 39 = .ok (.iload_n 2, 1) := by decide +kernel
theorem dX1_closeByHand_40 : decode cX1_closeByHand 40 = .ok (.ireturn, 1) := by decide +kernel
theorem dX1_ticksTillFree_0 : decode cX1_ticksTillFree 0 = .ok (.aload_n 0, 1) := by decide +kernel
theorem dX1_ticksTillFree_1 : decode cX1_ticksTillFree 1 = .ok (.getfield 11, 3) := by decide +kernel
theorem dX1_ticksTillFree_4 : decode cX1_ticksTillFree 4 = .ok (.iload_n 1, 1) := by decide +kernel
theorem dX1_ticksTillFree_5 : decode cX1_ticksTillFree 5 = .ok (.aaload, 1) := by decide +kernel
theorem dX1_ticksTillFree_6 : decode cX1_ticksTillFree 6 = .ok (.astore_n 2, 1) := by decide +kernel
theorem dX1_ticksTillFree_7 : decode cX1_ticksTillFree 7 = .ok (.aload_n 0, 1) := by decide +kernel
theorem dX1_ticksTillFree_8 : decode cX1_ticksTillFree 8 = .ok (.iload_n 1, 1) := by decide +kernel
theorem dX1_ticksTillFree_9 : decode cX1_ticksTillFree 9 = .ok (.invokevirtual 64, 3) := by decide +kernel
theorem dX1_ticksTillFree_12 : decode cX1_ticksTillFree 12 = .ok (.istore_n 3, 1) := by decide +kernel
theorem dX1_ticksTillFree_13 : decode cX1_ticksTillFree 13 = .ok (.aload_n 2, 1) := by decide +kernel
theorem dX1_ticksTillFree_14 : decode cX1_ticksTillFree 14 = .ok (.getfield 151, 3) := by decide +kernel
theorem dX1_ticksTillFree_17 : decode cX1_ticksTillFree 17 = .ok (.istore 4, 2) := by decide +kernel
theorem dX1_ticksTillFree_19 : decode cX1_ticksTillFree 19 = .ok (.iload_n 3, 1) := by decide +kernel
theorem dX1_ticksTillFree_20 : decode cX1_ticksTillFree 20 = .ok (.iconst (-1), 1) := by decide +kernel
theorem dX1_ticksTillFree_21 : decode cX1_ticksTillFree 21 = .ok (.if_icmp .eq 40, 3) := by decide +kernel
theorem dX1_ticksTillFree_24 : decode cX1_ticksTillFree 24 = .ok (.aload_n 0, 1) := by decide +kernel
theorem dX1_ticksTillFree_25 : decode cX1_ticksTillFree 25 = .ok (.getfield 23, 3) := by decide +kernel
theorem dX1_ticksTillFree_28 : decode cX1_ticksTillFree 28 = .ok (.iconst 1, 1) := by decide +kernel
theorem dX1_ticksTillFree_29 : decode cX1_ticksTillFree 29 = .ok (.aaload, 1) := by decide +kernel
theorem dX1_ticksTillFree_30 : decode cX1_ticksTillFree 30 = .ok (.iload_n 3, 1) := by decide +kernel
theorem dX1_ticksTillFree_31 : decode cX1_ticksTillFree 31 = .ok (.iaload, 1) := by decide +kernel
theorem dX1_ticksTillFree_32 : decode cX1_ticksTillFree 32 = .ok (.istore 4, 2) := by decide +kernel
theorem dX1_ticksTillFree_34 : decode cX1_ticksTillFree 34 = .ok (.aload_n 0, 1) := by decide +kernel
theorem dX1_ticksTillFree_35 : decode cX1_ticksTillFree 35 = .ok (.aload_n 0, 1) := by decide +kernel
theorem dX1_ticksTillFree_36 : decode cX1_ticksTillFree 36 = .ok (.getfield 23, 3) := by decide +kernel
theorem dX1_ticksTillFree_39 : decode cX1_ticksTillFree 39 = .ok (.iconst 2, 1) := by decide +kernel
theorem dX1_ticksTillFree_40 : decode cX1_ticksTillFree 40 = .ok (.aaload, 1) := by decide +kernel
theorem dX1_ticksTillFree_41 : decode cX1_ticksTillFree 41 = .ok (.iload_n 3, 1) := by decide +kernel
theorem dX1_ticksTillFree_42 : decode cX1_ticksTillFree 42 = .ok (.iaload, 1) := by decide +kernel
theorem dX1_ticksTillFree_43 : decode cX1_ticksTillFree 43 = .ok (.invokevirtual 108, 3) := by decide +kernel
theorem dX1_ticksTillFree_46 : decode cX1_ticksTillFree 46 = .ok (.ifCond .eq 15, 3) := by decide +kernel
theorem dX1_ticksTillFree_49 : decode cX1_ticksTillFree 49 = .ok (.iload 4, 2) := by decide +kernel
theorem dX1_ticksTillFree_51 : decode cX1_ticksTillFree 51 = .ok (.aload_n 0, 1) := by decide +kernel
theorem dX1_ticksTillFree_52 : decode cX1_ticksTillFree 52 = .ok (.aload_n 2, 1) := by decide +kernel
theorem dX1_ticksTillFree_53 : decode cX1_ticksTillFree 53 = .ok (.invokevirtual 121, 3) := by decide +kernel
theorem dX1_ticksTillFree_56 : decode cX1_ticksTillFree 56 = .ok (.iconst 1, 1) := by decide +kernel
theorem dX1_ticksTillFree_57 : decode cX1_ticksTillFree 57 = .ok (.isub, 1) := by decide +kernel
theorem dX1_ticksTillFree_58 : decode cX1_ticksTillFree 58 = .ok (.iadd, 1) := by decide +kernel
theorem dX1_ticksTillFree_59 : decode cX1_ticksTillFree 59 = .ok (.istore 4, 2) := by decide +kernel
theorem dX1_ticksTillFree_61 : decode cX1_ticksTillFree 61 = .ok (.iload 4, 2) := by decide +kernel
theorem dX1_ticksTillFree_63 : decode cX1_ticksTillFree 63 = .ok (.sipush 999, 3) := by decide +kernel
theorem dX1_ticksTillFree_66 : decode cX1_ticksTillFree 66 = .ok (.if_icmp .gt 8, 3) := by decide +kernel
theorem dX1_ticksTillFree_69 : decode cX1_ticksTillFree 69 = .ok (.iload 4, 2) := by decide +kernel
theorem dX1_ticksTillFree_71 : decode cX1_ticksTillFree 71 = .ok (.goto 4, 3) := by decide +kernel
theorem dX1_ticksTillFree_74 : decode cX1_ticksTillFree 74 = .ok (.iconst (-1), 1) := by decide +kernel
theorem dX1_ticksTillFree_75 : decode cX1_ticksTillFree 75 = .ok (.ireturn, 1) := by decide +kernel
theorem dX1_healthiestStore_0 : decode cX1_healthiestStore 0 = .ok (.iconst (-1), 1) := by decide +kernel
theorem dX1_healthiestStore_1 : decode cX1_healthiestStore 1 = .ok (.istore_n 1, 1) := by decide +kernel
theorem dX1_healthiestStore_2 : decode cX1_healthiestStore 2 = .ok (.iconst 0, 1) := by decide +kernel
theorem dX1_healthiestStore_3 : decode cX1_healthiestStore 3 = .ok (.istore_n 2, 1) := by decide +kernel
theorem dX1_healthiestStore_4 : decode cX1_healthiestStore 4 = .ok (.iload_n 2, 1) := by decide +kernel
theorem dX1_healthiestStore_5 : decode cX1_healthiestStore 5 = .ok (.iconst 4, 1) := by decide +kernel
theorem dX1_healthiestStore_6 : decode cX1_healthiestStore 6 = .ok (.if_icmp .ge 47, 3) := by decide +kernel
theorem dX1_healthiestStore_9 : decode cX1_healthiestStore 9 = .ok (.aload_n 0, 1) := by decide +kernel
theorem dX1_healthiestStore_10 : decode cX1_healthiestStore 10 = .ok (.getfield 11, 3) := by decide +kernel
theorem dX1_healthiestStore_13 : decode cX1_healthiestStore 13 = .ok (.iload_n 2, 1) := by decide +kernel
theorem dX1_healthiestStore_14 : decode cX1_healthiestStore 14 = .ok (.aaload, 1) := by decide +kernel
theorem dX1_healthiestStore_15 : decode cX1_healthiestStore 15 = .ok (.getfield 61, 3) := by decide +kernel
theorem dX1_healthiestStore_18 : decode cX1_healthiestStore 18 = .ok (.ifCond .ne 29, 3) := by decide +kernel
theorem dX1_healthiestStore_21 : decode cX1_healthiestStore 21 = .ok (.iload_n 1, 1) := by decide +kernel
theorem dX1_healthiestStore_22 : decode cX1_healthiestStore 22 = .ok (.iconst (-1), 1) := by decide +kernel
theorem dX1_healthiestStore_23 : decode cX1_healthiestStore 23 = .ok (.if_icmp .eq 22, 3) := by decide +kernel
theorem dX1_healthiestStore_26 : decode cX1_healthiestStore 26 = .ok (.aload_n 0, 1) := by decide +kernel
theorem dX1_healthiestStore_27 : decode cX1_healthiestStore 27 = .ok (.aload_n 0, 1) := by decide +kernel
theorem dX1_healthiestStore_28 : decode cX1_healthiestStore 28 = .ok (.getfield 11, 3) := by decide +kernel
theorem dX1_healthiestStore_31 : decode cX1_healthiestStore 31 = .ok (.iload_n 2, 1) := by decide +kernel
theorem dX1_healthiestStore_32 : decode cX1_healthiestStore 32 = .ok (.aaload, 1) := by decide +kernel
theorem dX1_healthiestStore_33 : decode cX1_healthiestStore 33 = .ok (.aload_n 0, 1) := by decide +kernel
theorem dX1_healthiestStore_34 : decode cX1_healthiestStore 34 = .ok (.getfield 11, 3) := by decide +kernel
theorem dX1_healthiestStore_37 : decode cX1_healthiestStore 37 = .ok (.iload_n 1, 1) := by decide +kernel
theorem dX1_healthiestStore_38 : decode cX1_healthiestStore 38 = .ok (.aaload, 1) := by decide +kernel
theorem dX1_healthiestStore_39 : decode cX1_healthiestStore 39 = .ok (.invokevirtual 154, 3) := by decide +kernel
theorem dX1_healthiestStore_42 : decode cX1_healthiestStore 42 = .ok (.ifCond .eq 5, 3) := by decide +kernel
theorem dX1_healthiestStore_45 : decode cX1_healthiestStore 45 = .ok (.iload_n 2, 1) := by decide +kernel
theorem dX1_healthiestStore_46 : decode cX1_healthiestStore 46 = .ok (.istore_n 1, 1) := by decide +kernel
theorem dX1_healthiestStore_47 : decode cX1_healthiestStore 47 = .ok (.iinc 2 1, 3) := by decide +kernel
theorem dX1_healthiestStore_50 : decode cX1_healthiestStore 50 = .ok (.goto (-46), 3) := by decide +kernel
theorem dX1_healthiestStore_53 : decode cX1_healthiestStore 53 = .ok (.iload_n 1, 1) := by decide +kernel
theorem dX1_healthiestStore_54 : decode cX1_healthiestStore 54 = .ok (.ireturn, 1) := by decide +kernel
theorem dX1_isHealthier_0 : decode cX1_isHealthier 0 = .ok (.aload_n 1, 1) := by decide +kernel
theorem dX1_isHealthier_1 : decode cX1_isHealthier 1 = .ok (.aload_n 0, 1) := by decide +kernel
theorem dX1_isHealthier_2 : decode cX1_isHealthier 2 = .ok (.getfield 17, 3) := by decide +kernel
theorem dX1_isHealthier_5 : decode cX1_isHealthier 5 = .ok (.iconst 1, 1) := by decide +kernel
theorem dX1_isHealthier_6 : decode cX1_isHealthier 6 = .ok (.iaload, 1) := by decide +kernel
theorem dX1_isHealthier_7 : decode cX1_isHealthier 7 = .ok (.invokevirtual 148, 3) := by decide +kernel
theorem dX1_isHealthier_10 : decode cX1_isHealthier 10 = .ok (.istore_n 3, 1) := by decide +kernel
theorem dX1_isHealthier_11 : decode cX1_isHealthier 11 = .ok (.aload_n 2, 1) := by decide +kernel
theorem dX1_isHealthier_12 : decode cX1_isHealthier 12 = .ok (.aload_n 0, 1) := by decide +kernel
theorem dX1_isHealthier_13 : decode cX1_isHealthier 13 = .ok (.getfield 17, 3) := by decide +kernel
theorem dX1_isHealthier_16 : decode cX1_isHealthier 16 = .ok (.iconst 1, 1) := by decide +kernel
theorem dX1_isHealthier_17 : decode cX1_isHealthier 17 = .ok (.iaload, 1) := by decide +kernel
theorem dX1_isHealthier_18 : decode cX1_isHealthier 18 = .ok (.invokevirtual 148, 3) := by decide +kernel
theorem dX1_isHealthier_21 : decode cX1_isHealthier 21 = .ok (.istore 4, 2) := by decide +kernel
theorem dX1_isHealthier_23 : decode cX1_isHealthier 23 = .ok (.iload_n 3, 1) := by decide +kernel
theorem dX1_isHealthier_24 : decode cX1_isHealthier 24 = .ok (.iload 4, 2) := by decide +kernel
theorem dX1_isHealthier_26 : decode cX1_isHealthier 26 = .ok (.if_icmp .lt 20, 3) := by decide +kernel
theorem dX1_isHealthier_29 : decode cX1_isHealthier 29 = .ok (.iload_n 3, 1) := by decide +kernel
theorem dX1_isHealthier_30 : decode cX1_isHealthier 30 = .ok (.iload 4, 2) := by decide +kernel
theorem dX1_isHealthier_32 : decode cX1_isHealthier 32 = .ok (.if_icmp .ne 18, 3) := by decide +kernel
theorem dX1_isHealthier_35 : decode cX1_isHealthier 35 = .ok (.aload_n 1, 1) := by decide +kernel
theorem dX1_isHealthier_36 : decode cX1_isHealthier 36 = .ok (.getfield 88, 3) := by decide +kernel
theorem dX1_isHealthier_39 : decode cX1_isHealthier 39 = .ok (.aload_n 2, 1) := by decide +kernel
theorem dX1_isHealthier_40 : decode cX1_isHealthier 40 = .ok (.getfield 88, 3) := by decide +kernel
theorem dX1_isHealthier_43 : decode cX1_isHealthier 43 = .ok (.if_icmp .ge 7, 3) := by decide +kernel
theorem dX1_isHealthier_46 : decode cX1_isHealthier 46 = .ok (.iconst 1, 1) := by decide +kernel
theorem dX1_isHealthier_47 : decode cX1_isHealthier 47 = .ok (.goto 4, 3) := by decide +kernel
theorem dX1_isHealthier_50 : decode cX1_isHealthier 50 = .ok (.iconst 0, 1) := by decide +kernel
theorem dX1_isHealthier_51 : decode cX1_isHealthier 51 = .ok (.ireturn, 1) := by decide +kernel
theorem dX1_closedBreakers_0 : decode cX1_closedBreakers 0 = .ok (.iconst 0, 1) := by decide +kernel
theorem dX1_closedBreakers_1 : decode cX1_closedBreakers 1 = .ok (.istore_n 1, 1) := by decide +kernel
theorem dX1_closedBreakers_2 : decode cX1_closedBreakers 2 = .ok (.iconst 0, 1) := by decide +kernel
theorem dX1_closedBreakers_3 : decode cX1_closedBreakers 3 = .ok (.istore_n 2, 1) := by decide +kernel
theorem dX1_closedBreakers_4 : decode cX1_closedBreakers 4 = .ok (.iload_n 2, 1) := by decide +kernel
theorem dX1_closedBreakers_5 : decode cX1_closedBreakers 5 = .ok (.iconst 4, 1) := by decide +kernel
theorem dX1_closedBreakers_6 : decode cX1_closedBreakers 6 = .ok (.if_icmp .ge 24, 3) := by decide +kernel
theorem dX1_closedBreakers_9 : decode cX1_closedBreakers 9 = .ok (.aload_n 0, 1) := by decide +kernel
theorem dX1_closedBreakers_10 : decode cX1_closedBreakers 10 = .ok (.getfield 11, 3) := by decide +kernel
theorem dX1_closedBreakers_13 : decode cX1_closedBreakers 13 = .ok (.iload_n 2, 1) := by decide +kernel
theorem dX1_closedBreakers_14 : decode cX1_closedBreakers 14 = .ok (.aaload, 1) := by decide +kernel
theorem dX1_closedBreakers_15 : decode cX1_closedBreakers 15 = .ok (.getfield 61, 3) := by decide +kernel
theorem dX1_closedBreakers_18 : decode cX1_closedBreakers 18 = .ok (.ifCond .ne 6, 3) := by decide +kernel
theorem dX1_closedBreakers_21 : decode cX1_closedBreakers 21 = .ok (.iinc 1 1, 3) := by decide +kernel
theorem dX1_closedBreakers_24 : decode cX1_closedBreakers 24 = .ok (.iinc 2 1, 3) := by decide +kernel
theorem dX1_closedBreakers_27 : decode cX1_closedBreakers 27 = .ok (.goto (-23), 3) := by decide +kernel
theorem dX1_closedBreakers_30 : decode cX1_closedBreakers 30 = .ok (.iload_n 1, 1) := by decide +kernel
theorem dX1_closedBreakers_31 : decode cX1_closedBreakers 31 = .ok (.ireturn, 1) := by decide +kernel
theorem dX1_numberOf_0 : decode cX1_numberOf 0 = .ok (.aload_n 0, 1) := by decide +kernel
theorem dX1_numberOf_1 : decode cX1_numberOf 1 = .ok (.getfield 11, 3) := by decide +kernel
theorem dX1_numberOf_4 : decode cX1_numberOf 4 = .ok (.iload_n 1, 1) := by decide +kernel
theorem dX1_numberOf_5 : decode cX1_numberOf 5 = .ok (.aaload, 1) := by decide +kernel
theorem dX1_numberOf_6 : decode cX1_numberOf 6 = .ok (.astore_n 3, 1) := by decide +kernel
theorem dX1_numberOf_7 : decode cX1_numberOf 7 = .ok (.iload_n 2, 1) := by decide +kernel
theorem dX1_numberOf_8 : decode cX1_numberOf 8 = .ok (.tableswitch 118 0 9 #[56, 61, 72, 83, 88, 93, 98, 103, 108, 113], 56) := by decide +kernel
theorem dX1_numberOf_64 : decode cX1_numberOf 64 = .ok (.aload_n 3, 1) := by decide +kernel
theorem dX1_numberOf_65 : decode cX1_numberOf 65 = .ok (.getfield 61, 3) := by decide +kernel
theorem dX1_numberOf_68 : decode cX1_numberOf 68 = .ok (.ireturn, 1) := by decide +kernel
theorem dX1_numberOf_69 : decode cX1_numberOf 69 = .ok (.aload_n 3, 1) := by decide +kernel
theorem dX1_numberOf_70 : decode cX1_numberOf 70 = .ok (.aload_n 0, 1) := by decide +kernel
theorem dX1_numberOf_71 : decode cX1_numberOf 71 = .ok (.getfield 17, 3) := by decide +kernel
theorem dX1_numberOf_74 : decode cX1_numberOf 74 = .ok (.iconst 1, 1) := by decide +kernel
theorem dX1_numberOf_75 : decode cX1_numberOf 75 = .ok (.iaload, 1) := by decide +kernel
theorem dX1_numberOf_76 : decode cX1_numberOf 76 = .ok (.invokevirtual 158, 3) := by decide +kernel
theorem dX1_numberOf_79 : decode cX1_numberOf 79 = .ok (.ireturn, 1) := by decide +kernel
theorem dX1_numberOf_80 : decode cX1_numberOf 80 = .ok (.aload_n 3, 1) := by decide +kernel
theorem dX1_numberOf_81 : decode cX1_numberOf 81 = .ok (.aload_n 0, 1) := by decide +kernel
theorem dX1_numberOf_82 : decode cX1_numberOf 82 = .ok (.getfield 17, 3) := by decide +kernel
theorem dX1_numberOf_85 : decode cX1_numberOf 85 = .ok (.iconst 1, 1) := by decide +kernel
theorem dX1_numberOf_86 : decode cX1_numberOf 86 = .ok (.iaload, 1) := by decide +kernel
theorem dX1_numberOf_87 : decode cX1_numberOf 87 = .ok (.invokevirtual 148, 3) := by decide +kernel
theorem dX1_numberOf_90 : decode cX1_numberOf 90 = .ok (.ireturn, 1) := by decide +kernel
theorem dX1_numberOf_91 : decode cX1_numberOf 91 = .ok (.aload_n 3, 1) := by decide +kernel
theorem dX1_numberOf_92 : decode cX1_numberOf 92 = .ok (.getfield 151, 3) := by decide +kernel
theorem dX1_numberOf_95 : decode cX1_numberOf 95 = .ok (.ireturn, 1) := by decide +kernel
theorem dX1_numberOf_96 : decode cX1_numberOf 96 = .ok (.aload_n 3, 1) := by decide +kernel
theorem dX1_numberOf_97 : decode cX1_numberOf 97 = .ok (.getfield 132, 3) := by decide +kernel
theorem dX1_numberOf_100 : decode cX1_numberOf 100 = .ok (.ireturn, 1) := by decide +kernel
theorem dX1_numberOf_101 : decode cX1_numberOf 101 = .ok (.aload_n 3, 1) := by decide +kernel
theorem dX1_numberOf_102 : decode cX1_numberOf 102 = .ok (.getfield 70, 3) := by decide +kernel
theorem dX1_numberOf_105 : decode cX1_numberOf 105 = .ok (.ireturn, 1) := by decide +kernel
theorem dX1_numberOf_106 : decode cX1_numberOf 106 = .ok (.aload_n 3, 1) := by decide +kernel
theorem dX1_numberOf_107 : decode cX1_numberOf 107 = .ok (.getfield 67, 3) := by decide +kernel
theorem dX1_numberOf_110 : decode cX1_numberOf 110 = .ok (.ireturn, 1) := by decide +kernel
theorem dX1_numberOf_111 : decode cX1_numberOf 111 = .ok (.aload_n 3, 1) := by decide +kernel
theorem dX1_numberOf_112 : decode cX1_numberOf 112 = .ok (.getfield 111, 3) := by decide +kernel
theorem dX1_numberOf_115 : decode cX1_numberOf 115 = .ok (.ireturn, 1) := by decide +kernel
theorem dX1_numberOf_116 : decode cX1_numberOf 116 = .ok (.aload_n 3, 1) := by decide +kernel
theorem dX1_numberOf_117 : decode cX1_numberOf 117 = .ok (.getfield 88, 3) := by decide +kernel
theorem dX1_numberOf_120 : decode cX1_numberOf 120 = .ok (.ireturn, 1) := by decide +kernel
theorem dX1_numberOf_121 : decode cX1_numberOf 121 = .ok (.aload_n 3, 1) := by decide +kernel
theorem dX1_numberOf_122 : decode cX1_numberOf 122 = .ok (.getfield 161, 3) := by decide +kernel
theorem dX1_numberOf_125 : decode cX1_numberOf 125 = .ok (.ireturn, 1) := by decide +kernel
theorem dX1_numberOf_126 : decode cX1_numberOf 126 = .ok (.aload_n 3, 1) := by decide +kernel
theorem dX1_numberOf_127 : decode cX1_numberOf 127 = .ok (.getfield 164, 3) := by decide +kernel
theorem dX1_numberOf_130 : decode cX1_numberOf 130 = .ok (.aload_n 3, 1) := by decide +kernel
theorem dX1_numberOf_131 : decode cX1_numberOf 131 = .ok (.invokevirtual 167, 3) := by decide +kernel
theorem dX1_numberOf_134 : decode cX1_numberOf 134 = .ok (.iaload, 1) := by decide +kernel
theorem dX1_numberOf_135 : decode cX1_numberOf 135 = .ok (.ireturn, 1) := by decide +kernel
theorem dX1_sumOf_0 : decode cX1_sumOf 0 = .ok (.iconst 0, 1) := by decide +kernel
theorem dX1_sumOf_1 : decode cX1_sumOf 1 = .ok (.istore_n 2, 1) := by decide +kernel
theorem dX1_sumOf_2 : decode cX1_sumOf 2 = .ok (.iconst 0, 1) := by decide +kernel
theorem dX1_sumOf_3 : decode cX1_sumOf 3 = .ok (.istore_n 3, 1) := by decide +kernel
theorem dX1_sumOf_4 : decode cX1_sumOf 4 = .ok (.iload_n 3, 1) := by decide +kernel
theorem dX1_sumOf_5 : decode cX1_sumOf 5 = .ok (.iconst 4, 1) := by decide +kernel
theorem dX1_sumOf_6 : decode cX1_sumOf 6 = .ok (.if_icmp .ge 18, 3) := by decide +kernel
theorem dX1_sumOf_9 : decode cX1_sumOf 9 = .ok (.iload_n 2, 1) := by decide +kernel
theorem dX1_sumOf_10 : decode cX1_sumOf 10 = .ok (.aload_n 0, 1) := by decide +kernel
theorem dX1_sumOf_11 : decode cX1_sumOf 11 = .ok (.iload_n 3, 1) := by decide +kernel
theorem dX1_sumOf_12 : decode cX1_sumOf 12 = .ok (.iload_n 1, 1) := by decide +kernel
theorem dX1_sumOf_13 : decode cX1_sumOf 13 = .ok (.invokevirtual 170, 3) := by decide +kernel
theorem dX1_sumOf_16 : decode cX1_sumOf 16 = .ok (.iadd, 1) := by decide +kernel
theorem dX1_sumOf_17 : decode cX1_sumOf 17 = .ok (.istore_n 2, 1) := by decide +kernel
theorem dX1_sumOf_18 : decode cX1_sumOf 18 = .ok (.iinc 3 1, 3) := by decide +kernel
theorem dX1_sumOf_21 : decode cX1_sumOf 21 = .ok (.goto (-17), 3) := by decide +kernel
theorem dX1_sumOf_24 : decode cX1_sumOf 24 = .ok (.iload_n 2, 1) := by decide +kernel
theorem dX1_sumOf_25 : decode cX1_sumOf 25 = .ok (.ireturn, 1) := by decide +kernel
theorem dX1_goodShare_0 : decode cX1_goodShare 0 = .ok (.aload_n 0, 1) := by decide +kernel
theorem dX1_goodShare_1 : decode cX1_goodShare 1 = .ok (.getfield 47, 3) := by decide +kernel
theorem dX1_goodShare_4 : decode cX1_goodShare 4 = .ok (.aload_n 0, 1) := by decide +kernel
theorem dX1_goodShare_5 : decode cX1_goodShare 5 = .ok (.bipush 7, 2) := by decide +kernel
theorem dX1_goodShare_7 : decode cX1_goodShare 7 = .ok (.invokevirtual 173, 3) := by decide +kernel
theorem dX1_goodShare_10 : decode cX1_goodShare 10 = .ok (.iadd, 1) := by decide +kernel
theorem dX1_goodShare_11 : decode cX1_goodShare 11 = .ok (.istore_n 1, 1) := by decide +kernel
theorem dX1_goodShare_12 : decode cX1_goodShare 12 = .ok (.iload_n 1, 1) := by decide +kernel
theorem dX1_goodShare_13 : decode cX1_goodShare 13 = .ok (.ifCond .le 14, 3) := by decide +kernel
theorem dX1_goodShare_16 : decode cX1_goodShare 16 = .ok (.aload_n 0, 1) := by decide +kernel
theorem dX1_goodShare_17 : decode cX1_goodShare 17 = .ok (.getfield 47, 3) := by decide +kernel
theorem dX1_goodShare_20 : decode cX1_goodShare 20 = .ok (.i2d, 1) := by decide +kernel
theorem dX1_goodShare_21 : decode cX1_goodShare 21 = .ok (.iload_n 1, 1) := by decide +kernel
theorem dX1_goodShare_22 : decode cX1_goodShare 22 = .ok (.i2d, 1) := by decide +kernel
theorem dX1_goodShare_23 : decode cX1_goodShare 23 = .ok (.ddiv, 1) := by decide +kernel
theorem dX1_goodShare_24 : decode cX1_goodShare 24 = .ok (.goto 4, 3) := by decide +kernel
theorem dX1_goodShare_27 : decode cX1_goodShare 27 = .ok (.dconst 1, 1) := by decide +kernel
theorem dX1_goodShare_28 : decode cX1_goodShare 28 = .ok (.dreturn, 1) := by decide +kernel
end
section
/-! decode rows, by program -/
theorem dX3_init_0 : decode cX3_init 0 = .ok (.aload_n 0, 1) := by decide +kernel
theorem dX3_init_1 : decode cX3_init 1 = .ok (.invokespecial 1, 3) := by decide +kernel
theorem dX3_init_4 : decode cX3_init 4 = .ok (.aload_n 0, 1) := by decide +kernel
theorem dX3_init_5 : decode cX3_init 5 = .ok (.new 7, 3) := by decide +kernel
theorem dX3_init_8 : decode cX3_init 8 = .ok (.dup, 1) := by decide +kernel
theorem dX3_init_9 : decode cX3_init 9 = .ok (.invokespecial 9, 3) := by decide +kernel
theorem dX3_init_12 : decode cX3_init 12 = .ok (.putfield 10, 3) := by decide +kernel
theorem dX3_init_15 : decode cX3_init 15 = .ok (.aload_n 0, 1) := by decide +kernel
theorem dX3_init_16 : decode cX3_init 16 = .ok (.new 7, 3) := by decide +kernel
theorem dX3_init_19 : decode cX3_init 19 = .ok (.dup, 1) := by decide +kernel
theorem dX3_init_20 : decode cX3_init 20 = .ok (.invokespecial 9, 3) := by decide +kernel
theorem dX3_init_23 : decode cX3_init 23 = .ok (.putfield 16, 3) := by decide +kernel
theorem dX3_init_26 : decode cX3_init 26 = .ok (.aload_n 0, 1) := by decide +kernel
theorem dX3_init_27 : decode cX3_init 27 = .ok (.bipush 6, 2) := by decide +kernel
theorem dX3_init_29 : decode cX3_init 29 = .ok (.anewarray 7, 3) := by decide +kernel
theorem dX3_init_32 : decode cX3_init 32 = .ok (.putfield 19, 3) := by decide +kernel
theorem dX3_init_35 : decode cX3_init 35 = .ok (.aload_n 0, 1) := by decide +kernel
theorem dX3_init_36 : decode cX3_init 36 = .ok (.new 23, 3) := by decide +kernel
theorem dX3_init_39 : decode cX3_init 39 = .ok (.dup, 1) := by decide +kernel
theorem dX3_init_40 : decode cX3_init 40 = .ok (.invokespecial 25, 3) := by decide +kernel
theorem dX3_init_43 : decode cX3_init 43 = .ok (.putfield 26, 3) := by decide +kernel
theorem dX3_init_46 : decode cX3_init 46 = .ok (.iconst 0, 1) := by decide +kernel
theorem dX3_init_47 : decode cX3_init 47 = .ok (.istore_n 1, 1) := by decide +kernel
theorem dX3_init_48 : decode cX3_init 48 = .ok (.iload_n 1, 1) := by decide +kernel
theorem dX3_init_49 : decode cX3_init 49 = .ok (.bipush 6, 2) := by decide +kernel
theorem dX3_init_51 : decode cX3_init 51 = .ok (.if_icmp .ge 22, 3) := by decide +kernel
theorem dX3_init_54 : decode cX3_init 54 = .ok (.aload_n 0, 1) := by decide +kernel
theorem dX3_init_55 : decode cX3_init 55 = .ok (.getfield 19, 3) := by decide +kernel
theorem dX3_init_58 : decode cX3_init 58 = .ok (.iload_n 1, 1) := by decide +kernel
theorem dX3_init_59 : decode cX3_init 59 = .ok (.new 7, 3) := by decide +kernel
theorem dX3_init_62 : decode cX3_init 62 = .ok (.dup, 1) := by decide +kernel
theorem dX3_init_63 : decode cX3_init 63 = .ok (.invokespecial 9, 3) := by decide +kernel
theorem dX3_init_66 : decode cX3_init 66 = .ok (.aastore, 1) := by decide +kernel
theorem dX3_init_67 : decode cX3_init 67 = .ok (.iinc 1 1, 3) := by decide +kernel
theorem dX3_init_70 : decode cX3_init 70 = .ok (.goto (-22), 3) := by decide +kernel
theorem dX3_init_73 : decode cX3_init 73 = .ok (.return_, 1) := by decide +kernel
theorem dX3_call_0 : decode cX3_call 0 = .ok (.iload_n 1, 1) := by decide +kernel
theorem dX3_call_1 : decode cX3_call 1 = .ok (.invokestatic 30, 3) := by decide +kernel
theorem dX3_call_4 : decode cX3_call 4 = .ok (.aload_n 0, 1) := by decide +kernel
theorem dX3_call_5 : decode cX3_call 5 = .ok (.getfield 10, 3) := by decide +kernel
theorem dX3_call_8 : decode cX3_call 8 = .ok (.iload_n 1, 1) := by decide +kernel
theorem dX3_call_9 : decode cX3_call 9 = .ok (.invokevirtual 34, 3) := by decide +kernel
theorem dX3_call_12 : decode cX3_call 12 = .ok (.ifCond .eq 13, 3) := by decide +kernel
theorem dX3_call_15 : decode cX3_call 15 = .ok (.new 38, 3) := by decide +kernel
theorem dX3_call_18 : decode cX3_call 18 = .ok (.dup, 1) := by decide +kernel
theorem dX3_call_19 : decode cX3_call 19 = .ok (.ldc 40, 2) := by decide +kernel
theorem dX3_call_21 : decode cX3_call 21 = .ok (.invokespecial 42, 3) := by decide +kernel
theorem dX3_call_24 : decode cX3_call 24 = .ok (.athrow, 1) := by decide +kernel
theorem dX3_call_25 : decode cX3_call 25 = .ok (.aload_n 0, 1) := by decide +kernel
theorem dX3_call_26 : decode cX3_call 26 = .ok (.invokevirtual 45, 3) := by decide +kernel
theorem dX3_call_29 : decode cX3_call 29 = .ok (.aload_n 0, 1) := by decide +kernel
theorem dX3_call_30 : decode cX3_call 30 = .ok (.getfield 10, 3) := by decide +kernel
theorem dX3_call_33 : decode cX3_call 33 = .ok (.iload_n 1, 1) := by decide +kernel
theorem dX3_call_34 : decode cX3_call 34 = .ok (.invokevirtual 48, 3) := by decide +kernel
theorem dX3_call_37 : decode cX3_call 37 = .ok (.ireturn, 1) := by decide +kernel
theorem dX3_callOften_0 : decode cX3_callOften 0 = .ok (.iload_n 1, 1) := by decide +kernel
theorem dX3_callOften_1 : decode cX3_callOften 1 = .ok (.invokestatic 30, 3) := by decide +kernel
theorem dX3_callOften_4 : decode cX3_callOften 4 = .ok (.iload_n 2, 1) := by decide +kernel
theorem dX3_callOften_5 : decode cX3_callOften 5 = .ok (.iconst 1, 1) := by decide +kernel
theorem dX3_callOften_6 : decode cX3_callOften 6 = .ok (.bipush 50, 2) := by decide +kernel
theorem dX3_callOften_8 : decode cX3_callOften 8 = .ok (.invokestatic 52, 3) := by decide +kernel
theorem dX3_callOften_11 : decode cX3_callOften 11 = .ok (.iload_n 3, 1) := by decide +kernel
theorem dX3_callOften_12 : decode cX3_callOften 12 = .ok (.iconst 0, 1) := by decide +kernel
theorem dX3_callOften_13 : decode cX3_callOften 13 = .ok (.bipush 50, 2) := by decide +kernel
theorem dX3_callOften_15 : decode cX3_callOften 15 = .ok (.invokestatic 52, 3) := by decide +kernel
theorem dX3_callOften_18 : decode cX3_callOften 18 = .ok (.aload_n 0, 1) := by decide +kernel
theorem dX3_callOften_19 : decode cX3_callOften 19 = .ok (.invokevirtual 45, 3) := by decide +kernel
theorem dX3_callOften_22 : decode cX3_callOften 22 = .ok (.aload_n 0, 1) := by decide +kernel
theorem dX3_callOften_23 : decode cX3_callOften 23 = .ok (.getfield 10, 3) := by decide +kernel
theorem dX3_callOften_26 : decode cX3_callOften 26 = .ok (.iload_n 1, 1) := by decide +kernel
theorem dX3_callOften_27 : decode cX3_callOften 27 = .ok (.iload_n 2, 1) := by decide +kernel
theorem dX3_callOften_28 : decode cX3_callOften 28 = .ok (.iload_n 3, 1) := by decide +kernel
theorem dX3_callOften_29 : decode cX3_callOften 29 = .ok (.invokevirtual 56, 3) := by decide +kernel
theorem dX3_callOften_32 : decode cX3_callOften 32 = .ok (.ireturn, 1) := by decide +kernel
theorem dX3_callHealthiest_0 : decode cX3_callHealthiest 0 = .ok (.aload_n 0, 1) := by decide +kernel
theorem dX3_callHealthiest_1 : decode cX3_callHealthiest 1 = .ok (.getfield 10, 3) := by decide +kernel
theorem dX3_callHealthiest_4 : decode cX3_callHealthiest 4 = .ok (.invokevirtual 60, 3) := by decide +kernel
theorem dX3_callHealthiest_7 : decode cX3_callHealthiest 7 = .ok (.ifCond .eq 13, 3) := by decide +kernel
theorem dX3_callHealthiest_10 : decode cX3_callHealthiest 10 = .ok (.new 38, 3) := by decide +kernel
theorem dX3_callHealthiest_13 : decode cX3_callHealthiest 13 = .ok (.dup, 1) := by decide +kernel
theorem dX3_callHealthiest_14 : decode cX3_callHealthiest 14 = .ok (.ldc 40, 2) := by decide +kernel
theorem dX3_callHealthiest_16 : decode cX3_callHealthiest 16 = .ok (.invokespecial 42, 3) := by decide +kernel
theorem dX3_callHealthiest_19 : decode cX3_callHealthiest 19 = .ok (.athrow, 1) := by decide +kernel
theorem dX3_callHealthiest_20 : decode cX3_callHealthiest 20 = .ok (.aload_n 0, 1) := by decide +kernel
theorem dX3_callHealthiest_21 : decode cX3_callHealthiest 21 = .ok (.invokevirtual 45, 3) := by decide +kernel
theorem dX3_callHealthiest_24 : decode cX3_callHealthiest 24 = .ok (.aload_n 0, 1) := by decide +kernel
theorem dX3_callHealthiest_25 : decode cX3_callHealthiest 25 = .ok (.getfield 10, 3) := by decide +kernel
theorem dX3_callHealthiest_28 : decode cX3_callHealthiest 28 = .ok (.invokevirtual 64, 3) := by decide +kernel
theorem dX3_callHealthiest_31 : decode cX3_callHealthiest 31 = .ok (.istore_n 1, 1) := by decide +kernel
theorem dX3_callHealthiest_32 : decode cX3_callHealthiest 32 = .ok (.iload_n 1, 1) := by decide +kernel
theorem dX3_callHealthiest_33 : decode cX3_callHealthiest 33 = .ok (.iconst (-1), 1) := by decide +kernel
theorem dX3_callHealthiest_34 : decode cX3_callHealthiest 34 = .ok (.if_icmp .eq 12, 3) := by decide +kernel
theorem dX3_callHealthiest_37 : decode cX3_callHealthiest 37 = .ok (.aload_n 0, 1) := by decide +kernel
theorem dX3_callHealthiest_38 : decode cX3_callHealthiest 38 = .ok (.getfield 10, 3) := by decide +kernel
theorem dX3_callHealthiest_41 : decode cX3_callHealthiest 41 = .ok (.iload_n 1, 1) := by decide +kernel
theorem dX3_callHealthiest_42 : decode cX3_callHealthiest 42 = .ok (.invokevirtual 48, 3) := by decide +kernel
theorem dX3_callHealthiest_45 : decode cX3_callHealthiest 45 = .ok (.pop, 1) := by decide +kernel
theorem dX3_callHealthiest_46 : decode cX3_callHealthiest 46 = .ok (.iload_n 1, 1) := by decide +kernel
theorem dX3_callHealthiest_47 : decode cX3_callHealthiest 47 = .ok (.ireturn, 1) := by decide +kernel
theorem dX3_close_0 : decode cX3_close 0 = .ok (.iload_n 1, 1) := by decide +kernel
theorem dX3_close_1 : decode cX3_close 1 = .ok (.invokestatic 30, 3) := by decide +kernel
theorem dX3_close_4 : decode cX3_close 4 = .ok (.aload_n 0, 1) := by decide +kernel
theorem dX3_close_5 : decode cX3_close 5 = .ok (.invokevirtual 45, 3) := by decide +kernel
theorem dX3_close_8 : decode cX3_close 8 = .ok (.aload_n 0, 1) := by decide +kernel
theorem dX3_close_9 : decode cX3_close 9 = .ok (.getfield 10, 3) := by decide +kernel
theorem dX3_close_12 : decode cX3_close 12 = .ok (.iload_n 1, 1) := by decide +kernel
theorem dX3_close_13 : decode cX3_close 13 = .ok (.invokevirtual 68, 3) := by decide +kernel
theorem dX3_close_16 : decode cX3_close 16 = .ok (.ireturn, 1) := by decide +kernel
theorem dX3_set_0 : decode cX3_set 0 = .ok (.iload_n 1, 1) := by decide +kernel
theorem dX3_set_1 : decode cX3_set 1 = .ok (.invokestatic 71, 3) := by decide +kernel
theorem dX3_set_4 : decode cX3_set 4 = .ok (.iload_n 2, 1) := by decide +kernel
theorem dX3_set_5 : decode cX3_set 5 = .ok (.getstatic 74, 3) := by decide +kernel
theorem dX3_set_8 : decode cX3_set 8 = .ok (.iload_n 1, 1) := by decide +kernel
theorem dX3_set_9 : decode cX3_set 9 = .ok (.iaload, 1) := by decide +kernel
theorem dX3_set_10 : decode cX3_set 10 = .ok (.getstatic 78, 3) := by decide +kernel
theorem dX3_set_13 : decode cX3_set 13 = .ok (.iload_n 1, 1) := by decide +kernel
theorem dX3_set_14 : decode cX3_set 14 = .ok (.iaload, 1) := by decide +kernel
theorem dX3_set_15 : decode cX3_set 15 = .ok (.invokestatic 52, 3) := by decide +kernel
theorem dX3_set_18 : decode cX3_set 18 = .ok (.aload_n 0, 1) := by decide +kernel
theorem dX3_set_19 : decode cX3_set 19 = .ok (.invokevirtual 45, 3) := by decide +kernel
theorem dX3_set_22 : decode cX3_set 22 = .ok (.aload_n 0, 1) := by decide +kernel
theorem dX3_set_23 : decode cX3_set 23 = .ok (.getfield 10, 3) := by decide +kernel
theorem dX3_set_26 : decode cX3_set 26 = .ok (.getfield 81, 3) := by decide +kernel
theorem dX3_set_29 : decode cX3_set 29 = .ok (.iload_n 1, 1) := by decide +kernel
theorem dX3_set_30 : decode cX3_set 30 = .ok (.iaload, 1) := by decide +kernel
theorem dX3_set_31 : decode cX3_set 31 = .ok (.istore_n 3, 1) := by decide +kernel
theorem dX3_set_32 : decode cX3_set 32 = .ok (.aload_n 0, 1) := by decide +kernel
theorem dX3_set_33 : decode cX3_set 33 = .ok (.getfield 10, 3) := by decide +kernel
theorem dX3_set_36 : decode cX3_set 36 = .ok (.getfield 81, 3) := by decide +kernel
theorem dX3_set_39 : decode cX3_set 39 = .ok (.iload_n 1, 1) := by decide +kernel
theorem dX3_set_40 : decode cX3_set 40 = .ok (.iload_n 2, 1) := by decide +kernel
theorem dX3_set_41 : decode cX3_set 41 = .ok (.iastore, 1) := by decide +kernel
theorem dX3_set_42 : decode cX3_set 42 = .ok (.iload_n 3, 1) := by decide +kernel
theorem dX3_set_43 : decode cX3_set 43 = .ok (.ireturn, 1) := by decide +kernel
theorem dX3_pass_0 : decode cX3_pass 0 = .ok (.iload_n 1, 1) := by decide +kernel
theorem dX3_pass_1 : decode cX3_pass 1 = .ok (.iconst 1, 1) := by decide +kernel
theorem dX3_pass_2 : decode cX3_pass 2 = .ok (.sipush 200, 3) := by decide +kernel
theorem dX3_pass_5 : decode cX3_pass 5 = .ok (.invokestatic 52, 3) := by decide +kernel
theorem dX3_pass_8 : decode cX3_pass 8 = .ok (.aload_n 0, 1) := by decide +kernel
theorem dX3_pass_9 : decode cX3_pass 9 = .ok (.invokevirtual 45, 3) := by decide +kernel
theorem dX3_pass_12 : decode cX3_pass 12 = .ok (.aload_n 0, 1) := by decide +kernel
theorem dX3_pass_13 : decode cX3_pass 13 = .ok (.getfield 10, 3) := by decide +kernel
theorem dX3_pass_16 : decode cX3_pass 16 = .ok (.iload_n 1, 1) := by decide +kernel
theorem dX3_pass_17 : decode cX3_pass 17 = .ok (.invokevirtual 84, 3) := by decide +kernel
theorem dX3_pass_20 : decode cX3_pass 20 = .ok (.ireturn, 1) := by decide +kernel
theorem dX3_append_0 : decode cX3_append 0 = .ok (.iload_n 1, 1) := by decide +kernel
theorem dX3_append_1 : decode cX3_append 1 = .ok (.bipush 33, 2) := by decide +kernel
theorem dX3_append_3 : decode cX3_append 3 = .ok (.bipush 126, 2) := by decide +kernel
theorem dX3_append_5 : decode cX3_append 5 = .ok (.invokestatic 52, 3) := by decide +kernel
theorem dX3_append_8 : decode cX3_append 8 = .ok (.aload_n 0, 1) := by decide +kernel
theorem dX3_append_9 : decode cX3_append 9 = .ok (.getfield 26, 3) := by decide +kernel
theorem dX3_append_12 : decode cX3_append 12 = .ok (.invokevirtual 87, 3) := by decide +kernel
theorem dX3_append_15 : decode cX3_append 15 = .ok (.ifCond .eq 13, 3) := by decide +kernel
theorem dX3_append_18 : decode cX3_append 18 = .ok (.new 38, 3) := by decide +kernel
theorem dX3_append_21 : decode cX3_append 21 = .ok (.dup, 1) := by decide +kernel
theorem dX3_append_22 : decode cX3_append 22 = .ok (.ldc 88, 2) := by decide +kernel
theorem dX3_append_24 : decode cX3_append 24 = .ok (.invokespecial 42, 3) := by decide +kernel
theorem dX3_append_27 : decode cX3_append 27 = .ok (.athrow, 1) := by decide +kernel
theorem dX3_append_28 : decode cX3_append 28 = .ok (.aload_n 0, 1) := by decide +kernel
theorem dX3_append_29 : decode cX3_append 29 = .ok (.getfield 26, 3) := by decide +kernel
theorem dX3_append_32 : decode cX3_append 32 = .ok (.iload_n 1, 1) := by decide +kernel
theorem dX3_append_33 : decode cX3_append 33 = .ok (.invokevirtual 90, 3) := by decide +kernel
theorem dX3_append_36 : decode cX3_append 36 = .ok (.ireturn, 1) := by decide +kernel
theorem dX3_clearBuffer_0 : decode cX3_clearBuffer 0 = .ok (.aload_n 0, 1) := by decide +kernel
theorem dX3_clearBuffer_1 : decode cX3_clearBuffer 1 = .ok (.getfield 26, 3) := by decide +kernel
theorem dX3_clearBuffer_4 : decode cX3_clearBuffer 4 = .ok (.invokevirtual 93, 3) := by decide +kernel
theorem dX3_clearBuffer_7 : decode cX3_clearBuffer 7 = .ok (.ireturn, 1) := by decide +kernel
theorem dX3_firstError_0 : decode cX3_firstError 0 = .ok (.aload_n 0, 1) := by decide +kernel
theorem dX3_firstError_1 : decode cX3_firstError 1 = .ok (.getfield 26, 3) := by decide +kernel
theorem dX3_firstError_4 : decode cX3_firstError 4 = .ok (.invokevirtual 96, 3) := by decide +kernel
theorem dX3_firstError_7 : decode cX3_firstError 7 = .ok (.ireturn, 1) := by decide +kernel
theorem dX3_delays_0 : decode cX3_delays 0 = .ok (.iload_n 1, 1) := by decide +kernel
theorem dX3_delays_1 : decode cX3_delays 1 = .ok (.invokestatic 30, 3) := by decide +kernel
theorem dX3_delays_4 : decode cX3_delays 4 = .ok (.aload_n 0, 1) := by decide +kernel
theorem dX3_delays_5 : decode cX3_delays 5 = .ok (.getfield 26, 3) := by decide +kernel
theorem dX3_delays_8 : decode cX3_delays 8 = .ok (.invokevirtual 99, 3) := by decide +kernel
theorem dX3_delays_11 : decode cX3_delays 11 = .ok (.ifCond .ne 13, 3) := by decide +kernel
theorem dX3_delays_14 : decode cX3_delays 14 = .ok (.new 102, 3) := by decide +kernel
theorem dX3_delays_17 : decode cX3_delays 17 = .ok (.dup, 1) := by decide +kernel
theorem dX3_delays_18 : decode cX3_delays 18 = .ok (.ldc 104, 2) := by decide +kernel
theorem dX3_delays_20 : decode cX3_delays 20 = .ok (.invokespecial 106, 3) := by decide +kernel
theorem dX3_delays_23 : decode cX3_delays 23 = .ok (.athrow, 1) := by decide +kernel
theorem dX3_delays_24 : decode cX3_delays 24 = .ok (.aload_n 0, 1) := by decide +kernel
theorem dX3_delays_25 : decode cX3_delays 25 = .ok (.invokevirtual 45, 3) := by decide +kernel
theorem dX3_delays_28 : decode cX3_delays 28 = .ok (.aload_n 0, 1) := by decide +kernel
theorem dX3_delays_29 : decode cX3_delays 29 = .ok (.getfield 10, 3) := by decide +kernel
theorem dX3_delays_32 : decode cX3_delays 32 = .ok (.getfield 107, 3) := by decide +kernel
theorem dX3_delays_35 : decode cX3_delays 35 = .ok (.iload_n 1, 1) := by decide +kernel
theorem dX3_delays_36 : decode cX3_delays 36 = .ok (.aaload, 1) := by decide +kernel
theorem dX3_delays_37 : decode cX3_delays 37 = .ok (.aload_n 0, 1) := by decide +kernel
theorem dX3_delays_38 : decode cX3_delays 38 = .ok (.getfield 26, 3) := by decide +kernel
theorem dX3_delays_41 : decode cX3_delays 41 = .ok (.invokevirtual 111, 3) := by decide +kernel
theorem dX3_delays_44 : decode cX3_delays 44 = .ok (.istore_n 2, 1) := by decide +kernel
theorem dX3_delays_45 : decode cX3_delays 45 = .ok (.aload_n 0, 1) := by decide +kernel
theorem dX3_delays_46 : decode cX3_delays 46 = .ok (.getfield 26, 3) := by decide +kernel
theorem dX3_delays_49 : decode cX3_delays 49 = .ok (.invokevirtual 93, 3) := by decide +kernel
theorem dX3_delays_52 : decode cX3_delays 52 = .ok (.pop, 1) := by decide +kernel
theorem dX3_delays_53 : decode cX3_delays 53 = .ok (.iload_n 2, 1) := by decide +kernel
theorem dX3_delays_54 : decode cX3_delays 54 = .ok (.ireturn, 1) := by decide +kernel
theorem dX3_undo_0 : decode cX3_undo 0 = .ok (.aload_n 0, 1) := by decide +kernel
theorem dX3_undo_1 : decode cX3_undo 1 = .ok (.getfield 117, 3) := by decide +kernel
theorem dX3_undo_4 : decode cX3_undo 4 = .ok (.ifCond .gt 13, 3) := by decide +kernel
theorem dX3_undo_7 : decode cX3_undo 7 = .ok (.new 38, 3) := by decide +kernel
theorem dX3_undo_10 : decode cX3_undo 10 = .ok (.dup, 1) := by decide +kernel
theorem dX3_undo_11 : decode cX3_undo 11 = .ok (.ldc 121, 2) := by decide +kernel
theorem dX3_undo_13 : decode cX3_undo 13 = .ok (.invokespecial 42, 3) := by decide +kernel
theorem dX3_undo_16 : decode cX3_undo 16 = .ok (.athrow, 1) := by decide +kernel
theorem dX3_undo_17 : decode cX3_undo 17 = .ok (.aload_n 0, 1) := by decide +kernel
theorem dX3_undo_18 : decode cX3_undo 18 = .ok (.dup, 1) := by decide +kernel
theorem dX3_undo_19 : decode cX3_undo 19 = .ok (.getfield 117, 3) := by decide +kernel
theorem dX3_undo_22 : decode cX3_undo 22 = .ok (.iconst 1, 1) := by decide +kernel
theorem dX3_undo_23 : decode cX3_undo 23 = .ok (.isub, 1) := by decide +kernel
theorem dX3_undo_24 : decode cX3_undo 24 = .ok (.putfield 117, 3) := by decide +kernel
theorem dX3_undo_27 : decode cX3_undo 27 = .ok (.aload_n 0, 1) := by decide +kernel
theorem dX3_undo_28 : decode cX3_undo 28 = .ok (.getfield 10, 3) := by decide +kernel
theorem dX3_undo_31 : decode cX3_undo 31 = .ok (.aload_n 0, 1) := by decide +kernel
theorem dX3_undo_32 : decode cX3_undo 32 = .ok (.getfield 19, 3) := by decide +kernel
theorem dX3_undo_35 : decode cX3_undo 35 = .ok (.aload_n 0, 1) := by decide +kernel
theorem dX3_undo_36 : decode cX3_undo 36 = .ok (.getfield 123, 3) := by decide +kernel
theorem dX3_undo_39 : decode cX3_undo 39 = .ok (.aload_n 0, 1) := by decide +kernel
theorem dX3_undo_40 : decode cX3_undo 40 = .ok (.getfield 117, 3) := by decide +kernel
theorem dX3_undo_43 : decode cX3_undo 43 = .ok (.iadd, 1) := by decide +kernel
theorem dX3_undo_44 : decode cX3_undo 44 = .ok (.bipush 6, 2) := by decide +kernel
theorem dX3_undo_46 : decode cX3_undo 46 = .ok (.irem, 1) := by decide +kernel
theorem dX3_undo_47 : decode cX3_undo 47 = .ok (.aaload, 1) := by decide +kernel
theorem dX3_undo_48 : decode cX3_undo 48 = .ok (.invokevirtual 126, 3) := by decide +kernel
theorem dX3_undo_51 : decode cX3_undo 51 = .ok (.aload_n 0, 1) := by decide +kernel
theorem dX3_undo_52 : decode cX3_undo 52 = .ok (.getfield 117, 3) := by decide +kernel
theorem dX3_undo_55 : decode cX3_undo 55 = .ok (.ireturn, 1) := by decide +kernel
theorem dX3_store_0 : decode cX3_store 0 = .ok (.iload_n 1, 1) := by decide +kernel
theorem dX3_store_1 : decode cX3_store 1 = .ok (.invokestatic 30, 3) := by decide +kernel
theorem dX3_store_4 : decode cX3_store 4 = .ok (.iload_n 2, 1) := by decide +kernel
theorem dX3_store_5 : decode cX3_store 5 = .ok (.iconst 0, 1) := by decide +kernel
theorem dX3_store_6 : decode cX3_store 6 = .ok (.bipush 10, 2) := by decide +kernel
theorem dX3_store_8 : decode cX3_store 8 = .ok (.invokestatic 52, 3) := by decide +kernel
theorem dX3_store_11 : decode cX3_store 11 = .ok (.aload_n 0, 1) := by decide +kernel
theorem dX3_store_12 : decode cX3_store 12 = .ok (.getfield 10, 3) := by decide +kernel
theorem dX3_store_15 : decode cX3_store 15 = .ok (.iload_n 1, 1) := by decide +kernel
theorem dX3_store_16 : decode cX3_store 16 = .ok (.iload_n 2, 1) := by decide +kernel
theorem dX3_store_17 : decode cX3_store 17 = .ok (.invokevirtual 130, 3) := by decide +kernel
theorem dX3_store_20 : decode cX3_store 20 = .ok (.ireturn, 1) := by decide +kernel
theorem dX3_delay_0 : decode cX3_delay 0 = .ok (.iload_n 1, 1) := by decide +kernel
theorem dX3_delay_1 : decode cX3_delay 1 = .ok (.invokestatic 30, 3) := by decide +kernel
theorem dX3_delay_4 : decode cX3_delay 4 = .ok (.iload_n 2, 1) := by decide +kernel
theorem dX3_delay_5 : decode cX3_delay 5 = .ok (.invokestatic 134, 3) := by decide +kernel
theorem dX3_delay_8 : decode cX3_delay 8 = .ok (.aload_n 0, 1) := by decide +kernel
theorem dX3_delay_9 : decode cX3_delay 9 = .ok (.getfield 10, 3) := by decide +kernel
theorem dX3_delay_12 : decode cX3_delay 12 = .ok (.getfield 107, 3) := by decide +kernel
theorem dX3_delay_15 : decode cX3_delay 15 = .ok (.iload_n 1, 1) := by decide +kernel
theorem dX3_delay_16 : decode cX3_delay 16 = .ok (.aaload, 1) := by decide +kernel
theorem dX3_delay_17 : decode cX3_delay 17 = .ok (.astore_n 3, 1) := by decide +kernel
theorem dX3_delay_18 : decode cX3_delay 18 = .ok (.iload_n 2, 1) := by decide +kernel
theorem dX3_delay_19 : decode cX3_delay 19 = .ok (.aload_n 3, 1) := by decide +kernel
theorem dX3_delay_20 : decode cX3_delay 20 = .ok (.getfield 137, 3) := by decide +kernel
theorem dX3_delay_23 : decode cX3_delay 23 = .ok (.if_icmp .ge 12, 3) := by decide +kernel
theorem dX3_delay_26 : decode cX3_delay 26 = .ok (.aload_n 3, 1) := by decide +kernel
theorem dX3_delay_27 : decode cX3_delay 27 = .ok (.getfield 140, 3) := by decide +kernel
theorem dX3_delay_30 : decode cX3_delay 30 = .ok (.iload_n 2, 1) := by decide +kernel
theorem dX3_delay_31 : decode cX3_delay 31 = .ok (.iaload, 1) := by decide +kernel
theorem dX3_delay_32 : decode cX3_delay 32 = .ok (.goto 4, 3) := by decide +kernel
theorem dX3_delay_35 : decode cX3_delay 35 = .ok (.iconst (-1), 1) := by decide +kernel
theorem dX3_delay_36 : decode cX3_delay 36 = .ok (.ireturn, 1) := by decide +kernel
theorem dX3_onWay_0 : decode cX3_onWay 0 = .ok (.iload_n 1, 1) := by decide +kernel
theorem dX3_onWay_1 : decode cX3_onWay 1 = .ok (.invokestatic 134, 3) := by decide +kernel
theorem dX3_onWay_4 : decode cX3_onWay 4 = .ok (.iload_n 2, 1) := by decide +kernel
theorem dX3_onWay_5 : decode cX3_onWay 5 = .ok (.iconst 0, 1) := by decide +kernel
theorem dX3_onWay_6 : decode cX3_onWay 6 = .ok (.iconst 3, 1) := by decide +kernel
theorem dX3_onWay_7 : decode cX3_onWay 7 = .ok (.invokestatic 52, 3) := by decide +kernel
theorem dX3_onWay_10 : decode cX3_onWay 10 = .ok (.iload_n 1, 1) := by decide +kernel
theorem dX3_onWay_11 : decode cX3_onWay 11 = .ok (.aload_n 0, 1) := by decide +kernel
theorem dX3_onWay_12 : decode cX3_onWay 12 = .ok (.getfield 10, 3) := by decide +kernel
theorem dX3_onWay_15 : decode cX3_onWay 15 = .ok (.getfield 143, 3) := by decide +kernel
theorem dX3_onWay_18 : decode cX3_onWay 18 = .ok (.if_icmp .ge 17, 3) := by decide +kernel
theorem dX3_onWay_21 : decode cX3_onWay 21 = .ok (.aload_n 0, 1) := by decide +kernel
theorem dX3_onWay_22 : decode cX3_onWay 22 = .ok (.getfield 10, 3) := by decide +kernel
theorem dX3_onWay_25 : decode cX3_onWay 25 = .ok (.getfield 146, 3) := by decide +kernel
theorem dX3_onWay_28 : decode cX3_onWay 28 = .ok (.iload_n 2, 1) := by decide +kernel
theorem dX3_onWay_29 : decode cX3_onWay 29 = .ok (.aaload, 1) := by decide +kernel
theorem dX3_onWay_30 : decode cX3_onWay 30 = .ok (.iload_n 1, 1) := by decide +kernel
theorem dX3_onWay_31 : decode cX3_onWay 31 = .ok (.iaload, 1) := by decide +kernel
theorem dX3_onWay_32 : decode cX3_onWay 32 = .ok (.goto 4, 3) := by decide +kernel
theorem dX3_onWay_35 : decode cX3_onWay 35 = .ok (.iconst (-1), 1) := by decide +kernel
theorem dX3_onWay_36 : decode cX3_onWay 36 = .ok (.ireturn, 1) := by decide +kernel
theorem dX3_count_0 : decode cX3_count 0 = .ok (.iload_n 1, 1) := by decide +kernel
theorem dX3_count_1 : decode cX3_count 1 = .ok (.iconst 0, 1) := by decide +kernel
theorem dX3_count_2 : decode cX3_count 2 = .ok (.bipush 8, 2) := by decide +kernel
theorem dX3_count_4 : decode cX3_count 4 = .ok (.invokestatic 52, 3) := by decide +kernel
theorem dX3_count_7 : decode cX3_count 7 = .ok (.aload_n 0, 1) := by decide +kernel
theorem dX3_count_8 : decode cX3_count 8 = .ok (.iload_n 1, 1) := by decide +kernel
theorem dX3_count_9 : decode cX3_count 9 = .ok (.invokevirtual 150, 3) := by decide +kernel
theorem dX3_count_12 : decode cX3_count 12 = .ok (.ireturn, 1) := by decide +kernel
theorem dX3_setting_0 : decode cX3_setting 0 = .ok (.iload_n 1, 1) := by decide +kernel
theorem dX3_setting_1 : decode cX3_setting 1 = .ok (.invokestatic 71, 3) := by decide +kernel
theorem dX3_setting_4 : decode cX3_setting 4 = .ok (.aload_n 0, 1) := by decide +kernel
theorem dX3_setting_5 : decode cX3_setting 5 = .ok (.getfield 10, 3) := by decide +kernel
theorem dX3_setting_8 : decode cX3_setting 8 = .ok (.getfield 81, 3) := by decide +kernel
theorem dX3_setting_11 : decode cX3_setting 11 = .ok (.iload_n 1, 1) := by decide +kernel
theorem dX3_setting_12 : decode cX3_setting 12 = .ok (.iaload, 1) := by decide +kernel
theorem dX3_setting_13 : decode cX3_setting 13 = .ok (.ireturn, 1) := by decide +kernel
theorem dX3_ifCalled_0 : decode cX3_ifCalled 0 = .ok (.iload_n 1, 1) := by decide +kernel
theorem dX3_ifCalled_1 : decode cX3_ifCalled 1 = .ok (.invokestatic 30, 3) := by decide +kernel
theorem dX3_ifCalled_4 : decode cX3_ifCalled 4 = .ok (.iload_n 2, 1) := by decide +kernel
theorem dX3_ifCalled_5 : decode cX3_ifCalled 5 = .ok (.iconst 1, 1) := by decide +kernel
theorem dX3_ifCalled_6 : decode cX3_ifCalled 6 = .ok (.bipush 50, 2) := by decide +kernel
theorem dX3_ifCalled_8 : decode cX3_ifCalled 8 = .ok (.invokestatic 52, 3) := by decide +kernel
theorem dX3_ifCalled_11 : decode cX3_ifCalled 11 = .ok (.iload_n 3, 1) := by decide +kernel
theorem dX3_ifCalled_12 : decode cX3_ifCalled 12 = .ok (.iconst 0, 1) := by decide +kernel
theorem dX3_ifCalled_13 : decode cX3_ifCalled 13 = .ok (.bipush 50, 2) := by decide +kernel
theorem dX3_ifCalled_15 : decode cX3_ifCalled 15 = .ok (.invokestatic 52, 3) := by decide +kernel
theorem dX3_ifCalled_18 : decode cX3_ifCalled 18 = .ok (.iload 4, 2) := by decide +kernel
theorem dX3_ifCalled_20 : decode cX3_ifCalled 20 = .ok (.iconst 0, 1) := by decide +kernel
theorem dX3_ifCalled_21 : decode cX3_ifCalled 21 = .ok (.iconst 3, 1) := by decide +kernel
theorem dX3_ifCalled_22 : decode cX3_ifCalled 22 = .ok (.invokestatic 52, 3) := by decide +kernel
theorem dX3_ifCalled_25 : decode cX3_ifCalled 25 = .ok (.aload_n 0, 1) := by decide +kernel
theorem dX3_ifCalled_26 : decode cX3_ifCalled 26 = .ok (.iload_n 1, 1) := by decide +kernel
theorem dX3_ifCalled_27 : decode cX3_ifCalled 27 = .ok (.iload_n 2, 1) := by decide +kernel
theorem dX3_ifCalled_28 : decode cX3_ifCalled 28 = .ok (.iload_n 3, 1) := by decide +kernel
theorem dX3_ifCalled_29 : decode cX3_ifCalled 29 = .ok (.invokevirtual 153, 3) := by decide +kernel
theorem dX3_ifCalled_32 : decode cX3_ifCalled 32 = .ok (.aload_n 0, 1) := by decide +kernel
theorem dX3_ifCalled_33 : decode cX3_ifCalled 33 = .ok (.iload_n 1, 1) := by decide +kernel
theorem dX3_ifCalled_34 : decode cX3_ifCalled 34 = .ok (.iload 4, 2) := by decide +kernel
theorem dX3_ifCalled_36 : decode cX3_ifCalled 36 = .ok (.invokevirtual 156, 3) := by decide +kernel
theorem dX3_ifCalled_39 : decode cX3_ifCalled 39 = .ok (.ireturn, 1) := by decide +kernel
theorem dX3_freeIn_0 : decode cX3_freeIn 0 = .ok (.iload_n 1, 1) := by decide +kernel
theorem dX3_freeIn_1 : decode cX3_freeIn 1 = .ok (.invokestatic 30, 3) := by decide +kernel
theorem dX3_freeIn_4 : decode cX3_freeIn 4 = .ok (.aload_n 0, 1) := by decide +kernel
theorem dX3_freeIn_5 : decode cX3_freeIn 5 = .ok (.getfield 10, 3) := by decide +kernel
theorem dX3_freeIn_8 : decode cX3_freeIn 8 = .ok (.iload_n 1, 1) := by decide +kernel
theorem dX3_freeIn_9 : decode cX3_freeIn 9 = .ok (.invokevirtual 159, 3) := by decide +kernel
theorem dX3_freeIn_12 : decode cX3_freeIn 12 = .ok (.ireturn, 1) := by decide +kernel
theorem dX3_healthiest_0 : decode cX3_healthiest 0 = .ok (.aload_n 0, 1) := by decide +kernel
theorem dX3_healthiest_1 : decode cX3_healthiest 1 = .ok (.getfield 10, 3) := by decide +kernel
theorem dX3_healthiest_4 : decode cX3_healthiest 4 = .ok (.invokevirtual 64, 3) := by decide +kernel
theorem dX3_healthiest_7 : decode cX3_healthiest 7 = .ok (.ireturn, 1) := by decide +kernel
theorem dX3_health_0 : decode cX3_health 0 = .ok (.aload_n 0, 1) := by decide +kernel
theorem dX3_health_1 : decode cX3_health 1 = .ok (.getfield 10, 3) := by decide +kernel
theorem dX3_health_4 : decode cX3_health 4 = .ok (.invokevirtual 162, 3) := by decide +kernel
theorem dX3_health_7 : decode cX3_health 7 = .ok (.dreturn, 1) := by decide +kernel
theorem dX3_digest_0 : decode cX3_digest 0 = .ok (.ldc2_w 166, 3) := by decide +kernel
theorem dX3_digest_3 : decode cX3_digest 3 = .ok (.lstore_n 1, 1) := by decide +kernel
theorem dX3_digest_4 : decode cX3_digest 4 = .ok (.iconst 0, 1) := by decide +kernel
theorem dX3_digest_5 : decode cX3_digest 5 = .ok (.istore_n 3, 1) := by decide +kernel
theorem dX3_digest_6 : decode cX3_digest 6 = .ok (.iload_n 3, 1) := by decide +kernel
theorem dX3_digest_7 : decode cX3_digest 7 = .ok (.bipush 9, 2) := by decide +kernel
theorem dX3_digest_9 : decode cX3_digest 9 = .ok (.if_icmp .ge 20, 3) := by decide +kernel
theorem dX3_digest_12 : decode cX3_digest 12 = .ok (.lload_n 1, 1) := by decide +kernel
theorem dX3_digest_13 : decode cX3_digest 13 = .ok (.aload_n 0, 1) := by decide +kernel
theorem dX3_digest_14 : decode cX3_digest 14 = .ok (.iload_n 3, 1) := by decide +kernel
theorem dX3_digest_15 : decode cX3_digest 15 = .ok (.invokevirtual 150, 3) := by decide +kernel
theorem dX3_digest_18 : decode cX3_digest 18 = .ok (.i2l, 1) := by decide +kernel
theorem dX3_digest_19 : decode cX3_digest 19 = .ok (.invokestatic 168, 3) := by decide +kernel
theorem dX3_digest_22 : decode cX3_digest 22 = .ok (.lstore_n 1, 1) := by decide +kernel
theorem dX3_digest_23 : decode cX3_digest 23 = .ok (.iinc 3 1, 3) := by decide +kernel
theorem dX3_digest_26 : decode cX3_digest 26 = .ok (.goto (-20), 3) := by decide +kernel
theorem dX3_digest_29 : decode cX3_digest 29 = .ok (.iconst 0, 1) := by decide +kernel
theorem dX3_digest_30 : decode cX3_digest 30 = .ok (.istore_n 3, 1) := by decide +kernel
theorem dX3_digest_31 : decode cX3_digest 31 = .ok (.iload_n 3, 1) := by decide +kernel
theorem dX3_digest_32 : decode cX3_digest 32 = .ok (.iconst 5, 1) := by decide +kernel
theorem dX3_digest_33 : decode cX3_digest 33 = .ok (.if_icmp .ge 24, 3) := by decide +kernel
theorem dX3_digest_36 : decode cX3_digest 36 = .ok (.lload_n 1, 1) := by decide +kernel
theorem dX3_digest_37 : decode cX3_digest 37 = .ok (.aload_n 0, 1) := by decide +kernel
theorem dX3_digest_38 : decode cX3_digest 38 = .ok (.getfield 10, 3) := by decide +kernel
theorem dX3_digest_41 : decode cX3_digest 41 = .ok (.getfield 81, 3) := by decide +kernel
theorem dX3_digest_44 : decode cX3_digest 44 = .ok (.iload_n 3, 1) := by decide +kernel
theorem dX3_digest_45 : decode cX3_digest 45 = .ok (.iaload, 1) := by decide +kernel
theorem dX3_digest_46 : decode cX3_digest 46 = .ok (.i2l, 1) := by decide +kernel
theorem dX3_digest_47 : decode cX3_digest 47 = .ok (.invokestatic 168, 3) := by decide +kernel
theorem dX3_digest_50 : decode cX3_digest 50 = .ok (.lstore_n 1, 1) := by decide +kernel
theorem dX3_digest_51 : decode cX3_digest 51 = .ok (.iinc 3 1, 3) := by decide +kernel
theorem dX3_digest_54 : decode cX3_digest 54 = .ok (.goto (-23), 3) := by decide +kernel
theorem dX3_digest_57 : decode cX3_digest 57 = .ok (.iconst 0, 1) := by decide +kernel
theorem dX3_digest_58 : decode cX3_digest 58 = .ok (.istore_n 3, 1) := by decide +kernel
theorem dX3_digest_59 : decode cX3_digest 59 = .ok (.iload_n 3, 1) := by decide +kernel
theorem dX3_digest_60 : decode cX3_digest 60 = .ok (.iconst 4, 1) := by decide +kernel
theorem dX3_digest_61 : decode cX3_digest 61 = .ok (.if_icmp .ge 24, 3) := by decide +kernel
theorem dX3_digest_64 : decode cX3_digest 64 = .ok (.aload_n 0, 1) := by decide +kernel
theorem dX3_digest_65 : decode cX3_digest 65 = .ok (.iload_n 3, 1) := by decide +kernel
theorem dX3_digest_66 : decode cX3_digest 66 = .ok (.bipush 6, 2) := by decide +kernel
theorem dX3_digest_68 : decode cX3_digest 68 = .ok (.iconst 3, 1) := by decide +kernel
theorem dX3_digest_69 : decode cX3_digest 69 = .ok (.invokevirtual 153, 3) := by decide +kernel
theorem dX3_digest_72 : decode cX3_digest 72 = .ok (.aload_n 0, 1) := by decide +kernel
theorem dX3_digest_73 : decode cX3_digest 73 = .ok (.lload_n 1, 1) := by decide +kernel
theorem dX3_digest_74 : decode cX3_digest 74 = .ok (.iload_n 3, 1) := by decide +kernel
theorem dX3_digest_75 : decode cX3_digest 75 = .ok (.invokevirtual 172, 3) := by decide +kernel
theorem dX3_digest_78 : decode cX3_digest 78 = .ok (.lstore_n 1, 1) := by decide +kernel
theorem dX3_digest_79 : decode cX3_digest 79 = .ok (.iinc 3 1, 3) := by decide +kernel
theorem dX3_digest_82 : decode cX3_digest 82 = .ok (.goto (-23), 3) := by decide +kernel
theorem dX3_digest_85 : decode cX3_digest 85 = .ok (.iconst 0, 1) := by decide +kernel
theorem dX3_digest_86 : decode cX3_digest 86 = .ok (.istore_n 3, 1) := by decide +kernel
theorem dX3_digest_87 : decode cX3_digest 87 = .ok (.iload_n 3, 1) := by decide +kernel
theorem dX3_digest_88 : decode cX3_digest 88 = .ok (.aload_n 0, 1) := by decide +kernel
theorem dX3_digest_89 : decode cX3_digest 89 = .ok (.getfield 10, 3) := by decide +kernel
theorem dX3_digest_92 : decode cX3_digest 92 = .ok (.getfield 143, 3) := by decide +kernel
theorem dX3_digest_95 : decode cX3_digest 95 = .ok (.if_icmp .ge 42, 3) := by decide +kernel
theorem dX3_digest_98 : decode cX3_digest 98 = .ok (.iconst 0, 1) := by decide +kernel
theorem dX3_digest_99 : decode cX3_digest 99 = .ok (.istore 4, 2) := by decide +kernel
theorem dX3_digest_101 : decode cX3_digest 101 = .ok (.iload 4, 2) := by decide +kernel
theorem dX3_digest_103 : decode cX3_digest 103 = .ok (.iconst 4, 1) := by decide +kernel
theorem dX3_digest_104 : decode cX3_digest 104 = .ok (.if_icmp .ge 27, 3) := by decide +kernel
theorem dX3_digest_107 : decode cX3_digest 107 = .ok (.lload_n 1, 1) := by decide +kernel
theorem dX3_digest_108 : decode cX3_digest 108 = .ok (.aload_n 0, 1) := by decide +kernel
theorem dX3_digest_109 : decode cX3_digest 109 = .ok (.getfield 10, 3) := by decide +kernel
theorem dX3_digest_112 : decode cX3_digest 112 = .ok (.getfield 146, 3) := by decide +kernel
theorem dX3_digest_115 : decode cX3_digest 115 = .ok (.iload 4, 2) := by decide +kernel
theorem dX3_digest_117 : decode cX3_digest 117 = .ok (.aaload, 1) := by decide +kernel
theorem dX3_digest_118 : decode cX3_digest 118 = .ok (.iload_n 3, 1) := by decide +kernel
theorem dX3_digest_119 : decode cX3_digest 119 = .ok (.iaload, 1) := by decide +kernel
theorem dX3_digest_120 : decode cX3_digest 120 = .ok (.i2l, 1) := by decide +kernel
theorem dX3_digest_121 : decode cX3_digest 121 = .ok (.invokestatic 168, 3) := by decide +kernel
theorem dX3_digest_124 : decode cX3_digest 124 = .ok (.lstore_n 1, 1) := by decide +kernel
theorem dX3_digest_125 : decode cX3_digest 125 = .ok (.iinc 4 1, 3) := by decide +kernel
theorem dX3_digest_128 : decode cX3_digest 128 = .ok (.goto (-27), 3) := by decide +kernel
theorem dX3_digest_131 : decode cX3_digest 131 = .ok (.iinc 3 1, 3) := by decide +kernel
theorem dX3_digest_134 : decode cX3_digest 134 = .ok (.goto (-47), 3) := by decide +kernel
theorem dX3_digest_137 : decode cX3_digest 137 = .ok (.lload_n 1, 1) := by decide +kernel
theorem dX3_digest_138 : decode cX3_digest 138 = .ok (.aload_n 0, 1) := by decide +kernel
theorem dX3_digest_139 : decode cX3_digest 139 = .ok (.getfield 10, 3) := by decide +kernel
theorem dX3_digest_142 : decode cX3_digest 142 = .ok (.invokevirtual 64, 3) := by decide +kernel
theorem dX3_digest_145 : decode cX3_digest 145 = .ok (.i2l, 1) := by decide +kernel
theorem dX3_digest_146 : decode cX3_digest 146 = .ok (.invokestatic 168, 3) := by decide +kernel
theorem dX3_digest_149 : decode cX3_digest 149 = .ok (.lstore_n 1, 1) := by decide +kernel
theorem dX3_digest_150 : decode cX3_digest 150 = .ok (.lload_n 1, 1) := by decide +kernel
theorem dX3_digest_151 : decode cX3_digest 151 = .ok (.aload_n 0, 1) := by decide +kernel
theorem dX3_digest_152 : decode cX3_digest 152 = .ok (.getfield 10, 3) := by decide +kernel
theorem dX3_digest_155 : decode cX3_digest 155 = .ok (.invokevirtual 162, 3) := by decide +kernel
theorem dX3_digest_158 : decode cX3_digest 158 = .ok (.invokestatic 176, 3) := by decide +kernel
theorem dX3_digest_161 : decode cX3_digest 161 = .ok (.invokestatic 168, 3) := by decide +kernel
theorem dX3_digest_164 : decode cX3_digest 164 = .ok (.lstore_n 1, 1) := by decide +kernel
theorem dX3_digest_165 : decode cX3_digest 165 = .ok (.lload_n 1, 1) := by decide +kernel
theorem dX3_digest_166 : decode cX3_digest 166 = .ok (.aload_n 0, 1) := by decide +kernel
theorem dX3_digest_167 : decode cX3_digest 167 = .ok (.getfield 26, 3) := by decide +kernel
theorem dX3_digest_170 : decode cX3_digest 170 = .ok (.getfield 180, 3) := by decide +kernel
theorem dX3_digest_173 : decode cX3_digest 173 = .ok (.i2l, 1) := by decide +kernel
theorem dX3_digest_174 : decode cX3_digest 174 = .ok (.invokestatic 168, 3) := by decide +kernel
theorem dX3_digest_177 : decode cX3_digest 177 = .ok (.lstore_n 1, 1) := by decide +kernel
theorem dX3_digest_178 : decode cX3_digest 178 = .ok (.iconst 0, 1) := by decide +kernel
theorem dX3_digest_179 : decode cX3_digest 179 = .ok (.istore_n 3, 1) := by decide +kernel
theorem dX3_digest_180 : decode cX3_digest 180 = .ok (.iload_n 3, 1) := by decide +kernel
theorem dX3_digest_181 : decode cX3_digest 181 = .ok (.aload_n 0, 1) := by decide +kernel
theorem dX3_digest_182 : decode cX3_digest 182 = .ok (.getfield 26, 3) := by decide +kernel
theorem dX3_digest_185 : decode cX3_digest 185 = .ok (.getfield 180, 3) := by decide +kernel
theorem dX3_digest_188 : decode cX3_digest 188 = .ok (.if_icmp .ge 24, 3) := by decide +kernel
theorem dX3_digest_191 : decode cX3_digest 191 = .ok (.lload_n 1, 1) := by decide +kernel
theorem dX3_digest_192 : decode cX3_digest 192 = .ok (.aload_n 0, 1) := by decide +kernel
theorem dX3_digest_193 : decode cX3_digest 193 = .ok (.getfield 26, 3) := by decide +kernel
theorem dX3_digest_196 : decode cX3_digest 196 = .ok (.getfield 183, 3) := by decide +kernel
theorem dX3_digest_199 : decode cX3_digest 199 = .ok (.iload_n 3, 1) := by decide +kernel
theorem dX3_digest_200 : decode cX3_digest 200 = .ok (.iaload, 1) := by decide +kernel
theorem dX3_digest_201 : decode cX3_digest 201 = .ok (.i2l, 1) := by decide +kernel
theorem dX3_digest_202 : decode cX3_digest 202 = .ok (.invokestatic 168, 3) := by decide +kernel
theorem dX3_digest_205 : decode cX3_digest 205 = .ok (.lstore_n 1, 1) := by decide +kernel
theorem dX3_digest_206 : decode cX3_digest 206 = .ok (.iinc 3 1, 3) := by decide +kernel
theorem dX3_digest_209 : decode cX3_digest 209 = .ok (.goto (-29), 3) := by decide +kernel
theorem dX3_digest_212 : decode cX3_digest 212 = .ok (.lload_n 1, 1) := by decide +kernel
theorem dX3_digest_213 : decode cX3_digest 213 = .ok (.lreturn, 1) := by decide +kernel
theorem dX3_mixStore_0 : decode cX3_mixStore 0 = .ok (.lload_n 1, 1) := by decide +kernel
theorem dX3_mixStore_1 : decode cX3_mixStore 1 = .ok (.lstore 4, 2) := by decide +kernel
theorem dX3_mixStore_3 : decode cX3_mixStore 3 = .ok (.iconst 0, 1) := by decide +kernel
theorem dX3_mixStore_4 : decode cX3_mixStore 4 = .ok (.istore 6, 2) := by decide +kernel
theorem dX3_mixStore_6 : decode cX3_mixStore 6 = .ok (.iload 6, 2) := by decide +kernel
theorem dX3_mixStore_8 : decode cX3_mixStore 8 = .ok (.bipush 11, 2) := by decide +kernel
theorem dX3_mixStore_10 : decode cX3_mixStore 10 = .ok (.if_icmp .ge 27, 3) := by decide +kernel
theorem dX3_mixStore_13 : decode cX3_mixStore 13 = .ok (.lload 4, 2) := by decide +kernel
theorem dX3_mixStore_15 : decode cX3_mixStore 15 = .ok (.aload_n 0, 1) := by decide +kernel
theorem dX3_mixStore_16 : decode cX3_mixStore 16 = .ok (.getfield 10, 3) := by decide +kernel
theorem dX3_mixStore_19 : decode cX3_mixStore 19 = .ok (.iload_n 3, 1) := by decide +kernel
theorem dX3_mixStore_20 : decode cX3_mixStore 20 = .ok (.iload 6, 2) := by decide +kernel
theorem dX3_mixStore_22 : decode cX3_mixStore 22 = .ok (.invokevirtual 130, 3) := by decide +kernel
theorem dX3_mixStore_25 : decode cX3_mixStore 25 = .ok (.i2l, 1) := by decide +kernel
theorem dX3_mixStore_26 : decode cX3_mixStore 26 = .ok (.invokestatic 168, 3) := by decide +kernel
theorem dX3_mixStore_29 : decode cX3_mixStore 29 = .ok (.lstore 4, 2) := by decide +kernel
theorem dX3_mixStore_31 : decode cX3_mixStore 31 = .ok (.iinc 6 1, 3) := by decide +kernel
theorem dX3_mixStore_34 : decode cX3_mixStore 34 = .ok (.goto (-28), 3) := by decide +kernel
theorem dX3_mixStore_37 : decode cX3_mixStore 37 = .ok (.aload_n 0, 1) := by decide +kernel
theorem dX3_mixStore_38 : decode cX3_mixStore 38 = .ok (.getfield 10, 3) := by decide +kernel
theorem dX3_mixStore_41 : decode cX3_mixStore 41 = .ok (.getfield 107, 3) := by decide +kernel
theorem dX3_mixStore_44 : decode cX3_mixStore 44 = .ok (.iload_n 3, 1) := by decide +kernel
theorem dX3_mixStore_45 : decode cX3_mixStore 45 = .ok (.aaload, 1) := by decide +kernel
theorem dX3_mixStore_46 : decode cX3_mixStore 46 = .ok (.astore 6, 2) := by decide +kernel
theorem dX3_mixStore_48 : decode cX3_mixStore 48 = .ok (.iconst 0, 1) := by decide +kernel
theorem dX3_mixStore_49 : decode cX3_mixStore 49 = .ok (.istore 7, 2) := by decide +kernel
theorem dX3_mixStore_51 : decode cX3_mixStore 51 = .ok (.iload 7, 2) := by decide +kernel
theorem dX3_mixStore_53 : decode cX3_mixStore 53 = .ok (.aload 6, 2) := by decide +kernel
theorem dX3_mixStore_55 : decode cX3_mixStore 55 = .ok (.getfield 137, 3) := by decide +kernel
theorem dX3_mixStore_58 : decode cX3_mixStore 58 = .ok (.if_icmp .ge 25, 3) := by decide +kernel
theorem dX3_mixStore_61 : decode cX3_mixStore 61 = .ok (.lload 4, 2) := by decide +kernel
theorem dX3_mixStore_63 : decode cX3_mixStore 63 = .ok (.aload 6, 2) := by decide +kernel
theorem dX3_mixStore_65 : decode cX3_mixStore 65 = .ok (.getfield 140, 3) := by decide +kernel
theorem dX3_mixStore_68 : decode cX3_mixStore 68 = .ok (.iload 7, 2) := by decide +kernel
theorem dX3_mixStore_70 : decode cX3_mixStore 70 = .ok (.iaload, 1) := by decide +kernel
theorem dX3_mixStore_71 : decode cX3_mixStore 71 = .ok (.i2l, 1) := by decide +kernel
theorem dX3_mixStore_72 : decode cX3_mixStore 72 = .ok (.invokestatic 168, 3) := by decide +kernel
theorem dX3_mixStore_75 : decode cX3_mixStore 75 = .ok (.lstore 4, 2) := by decide +kernel
theorem dX3_mixStore_77 : decode cX3_mixStore 77 = .ok (.iinc 7 1, 3) := by decide +kernel
theorem dX3_mixStore_80 : decode cX3_mixStore 80 = .ok (.goto (-29), 3) := by decide +kernel
theorem dX3_mixStore_83 : decode cX3_mixStore 83 = .ok (.lload 4, 2) := by decide +kernel
theorem dX3_mixStore_85 : decode cX3_mixStore 85 = .ok (.aload_n 0, 1) := by decide +kernel
theorem dX3_mixStore_86 : decode cX3_mixStore 86 = .ok (.getfield 10, 3) := by decide +kernel
theorem dX3_mixStore_89 : decode cX3_mixStore 89 = .ok (.iload_n 3, 1) := by decide +kernel
theorem dX3_mixStore_90 : decode cX3_mixStore 90 = .ok (.invokevirtual 159, 3) := by decide +kernel
theorem dX3_mixStore_93 : decode cX3_mixStore 93 = .ok (.i2l, 1) := by decide +kernel
theorem dX3_mixStore_94 : decode cX3_mixStore 94 = .ok (.invokestatic 168, 3) := by decide +kernel
theorem dX3_mixStore_97 : decode cX3_mixStore 97 = .ok (.lstore 4, 2) := by decide +kernel
theorem dX3_mixStore_99 : decode cX3_mixStore 99 = .ok (.iconst 0, 1) := by decide +kernel
theorem dX3_mixStore_100 : decode cX3_mixStore 100 = .ok (.istore 7, 2) := by decide +kernel
theorem dX3_mixStore_102 : decode cX3_mixStore 102 = .ok (.iload 7, 2) := by decide +kernel
theorem dX3_mixStore_104 : decode cX3_mixStore 104 = .ok (.iconst 4, 1) := by decide +kernel
theorem dX3_mixStore_105 : decode cX3_mixStore 105 = .ok (.if_icmp .ge 24, 3) := by decide +kernel
theorem dX3_mixStore_108 : decode cX3_mixStore 108 = .ok (.lload 4, 2) := by decide +kernel
theorem dX3_mixStore_110 : decode cX3_mixStore 110 = .ok (.aload_n 0, 1) := by decide +kernel
theorem dX3_mixStore_111 : decode cX3_mixStore 111 = .ok (.iload_n 3, 1) := by decide +kernel
theorem dX3_mixStore_112 : decode cX3_mixStore 112 = .ok (.iload 7, 2) := by decide +kernel
theorem dX3_mixStore_114 : decode cX3_mixStore 114 = .ok (.invokevirtual 156, 3) := by decide +kernel
theorem dX3_mixStore_117 : decode cX3_mixStore 117 = .ok (.i2l, 1) := by decide +kernel
theorem dX3_mixStore_118 : decode cX3_mixStore 118 = .ok (.invokestatic 168, 3) := by decide +kernel
theorem dX3_mixStore_121 : decode cX3_mixStore 121 = .ok (.lstore 4, 2) := by decide +kernel
theorem dX3_mixStore_123 : decode cX3_mixStore 123 = .ok (.iinc 7 1, 3) := by decide +kernel
theorem dX3_mixStore_126 : decode cX3_mixStore 126 = .ok (.goto (-24), 3) := by decide +kernel
theorem dX3_mixStore_129 : decode cX3_mixStore 129 = .ok (.lload 4, 2) := by decide +kernel
theorem dX3_mixStore_131 : decode cX3_mixStore 131 = .ok (.lreturn, 1) := by decide +kernel
theorem dX3_mix_0 : decode cX3_mix 0 = .ok (.ldc2_w 186, 3) := by decide +kernel
theorem dX3_mix_3 : decode cX3_mix 3 = .ok (.lload_n 0, 1) := by decide +kernel
theorem dX3_mix_4 : decode cX3_mix 4 = .ok (.lmul, 1) := by decide +kernel
theorem dX3_mix_5 : decode cX3_mix 5 = .ok (.lload_n 2, 1) := by decide +kernel
theorem dX3_mix_6 : decode cX3_mix 6 = .ok (.ladd, 1) := by decide +kernel
theorem dX3_mix_7 : decode cX3_mix 7 = .ok (.lreturn, 1) := by decide +kernel
theorem dX3_bitsOfShare_0 : decode cX3_bitsOfShare 0 = .ok (.dload_n 0, 1) := by decide +kernel
theorem dX3_bitsOfShare_1 : decode cX3_bitsOfShare 1 = .ok (.dconst 0, 1) := by decide +kernel
theorem dX3_bitsOfShare_2 : decode cX3_bitsOfShare 2 = .ok (.dcmp .g, 1) := by decide +kernel
theorem dX3_bitsOfShare_3 : decode cX3_bitsOfShare 3 = .ok (.ifCond .gt 5, 3) := by decide +kernel
theorem dX3_bitsOfShare_6 : decode cX3_bitsOfShare 6 = .ok (.lconst 0, 1) := by decide +kernel
theorem dX3_bitsOfShare_7 : decode cX3_bitsOfShare 7 = .ok (.lreturn, 1) := by decide +kernel
theorem dX3_bitsOfShare_8 : decode cX3_bitsOfShare 8 = .ok (.dload_n 0, 1) := by decide +kernel
theorem dX3_bitsOfShare_9 : decode cX3_bitsOfShare 9 = .ok (.dstore_n 2, 1) := by decide +kernel
theorem dX3_bitsOfShare_10 : decode cX3_bitsOfShare 10 = .ok (.ldc2_w 188, 3) := by decide +kernel
theorem dX3_bitsOfShare_13 : decode cX3_bitsOfShare 13 = .ok (.lstore 4, 2) := by decide +kernel
theorem dX3_bitsOfShare_15 : decode cX3_bitsOfShare 15 = .ok (.iconst 0, 1) := by decide +kernel
theorem dX3_bitsOfShare_16 : decode cX3_bitsOfShare 16 = .ok (.istore 6, 2) := by decide +kernel
theorem dX3_bitsOfShare_18 : decode cX3_bitsOfShare 18 = .ok (.iload 6, 2) := by decide +kernel
theorem dX3_bitsOfShare_20 : decode cX3_bitsOfShare 20 = .ok (.sipush 1023, 3) := by decide +kernel
theorem dX3_bitsOfShare_23 : decode cX3_bitsOfShare 23 = .ok (.if_icmp .ge 27, 3) := by decide +kernel
theorem dX3_bitsOfShare_26 : decode cX3_bitsOfShare 26 = .ok (.dload_n 2, 1) := by decide +kernel
theorem dX3_bitsOfShare_27 : decode cX3_bitsOfShare 27 = .ok (.dconst 1, 1) := by decide +kernel
theorem dX3_bitsOfShare_28 : decode cX3_bitsOfShare 28 = .ok (.dcmp .g, 1) := by decide +kernel
theorem dX3_bitsOfShare_29 : decode cX3_bitsOfShare 29 = .ok (.ifCond .ge 21, 3) := by decide +kernel
theorem dX3_bitsOfShare_32 : decode cX3_bitsOfShare 32 = .ok (.dload_n 2, 1) := by decide +kernel
theorem dX3_bitsOfShare_33 : decode cX3_bitsOfShare 33 = .ok (.ldc2_w 190, 3) := by decide +kernel
theorem dX3_bitsOfShare_36 : decode cX3_bitsOfShare 36 = .ok (.dmul, 1) := by decide +kernel
theorem dX3_bitsOfShare_37 : decode cX3_bitsOfShare 37 = .ok (.dstore_n 2, 1) := by decide +kernel
theorem dX3_bitsOfShare_38 : decode cX3_bitsOfShare 38 = .ok (.lload 4, 2) := by decide +kernel
theorem dX3_bitsOfShare_40 : decode cX3_bitsOfShare 40 = .ok (.lconst 1, 1) := by decide +kernel
theorem dX3_bitsOfShare_41 : decode cX3_bitsOfShare 41 = .ok (.lsub, 1) := by decide +kernel
theorem dX3_bitsOfShare_42 : decode cX3_bitsOfShare 42 = .ok (.lstore 4, 2) := by decide +kernel
theorem dX3_bitsOfShare_44 : decode cX3_bitsOfShare 44 = .ok (.iinc 6 1, 3) := by decide +kernel
theorem dX3_bitsOfShare_47 : decode cX3_bitsOfShare 47 = .ok (.goto (-29), 3) := by decide +kernel
theorem dX3_bitsOfShare_50 : decode cX3_bitsOfShare 50 = .ok (.dload_n 2, 1) := by decide +kernel
theorem dX3_bitsOfShare_51 : decode cX3_bitsOfShare 51 = .ok (.dconst 1, 1) := by decide +kernel
theorem dX3_bitsOfShare_52 : decode cX3_bitsOfShare 52 = .ok (.dsub, 1) := by decide +kernel
theorem dX3_bitsOfShare_53 : decode cX3_bitsOfShare 53 = .ok (.ldc2_w 192, 3) := by decide +kernel
theorem dX3_bitsOfShare_56 : decode cX3_bitsOfShare 56 = .ok (.dmul, 1) := by decide +kernel
theorem dX3_bitsOfShare_57 : decode cX3_bitsOfShare 57 = .ok (.dstore 6, 2) := by decide +kernel
theorem dX3_bitsOfShare_59 : decode cX3_bitsOfShare 59 = .ok (.lload 4, 2) := by decide +kernel
theorem dX3_bitsOfShare_61 : decode cX3_bitsOfShare 61 = .ok (.bipush 52, 2) := by decide +kernel
theorem dX3_bitsOfShare_63 : decode cX3_bitsOfShare 63 = .ok (.lshl, 1) := by decide +kernel
theorem dX3_bitsOfShare_64 : decode cX3_bitsOfShare 64 = .ok (.dload 6, 2) := by decide +kernel
theorem dX3_bitsOfShare_66 : decode cX3_bitsOfShare 66 = .ok (.d2l, 1) := by decide +kernel
theorem dX3_bitsOfShare_67 : decode cX3_bitsOfShare 67 = .ok (.ladd, 1) := by decide +kernel
theorem dX3_bitsOfShare_68 : decode cX3_bitsOfShare 68 = .ok (.lreturn, 1) := by decide +kernel
theorem dX3_counted_0 : decode cX3_counted 0 = .ok (.iload_n 1, 1) := by decide +kernel
theorem dX3_counted_1 : decode cX3_counted 1 = .ok (.tableswitch 116 0 7 #[47, 55, 63, 72, 82, 92, 100, 108], 47) := by decide +kernel
theorem dX3_counted_48 : decode cX3_counted 48 = .ok (.aload_n 0, 1) := by decide +kernel
theorem dX3_counted_49 : decode cX3_counted 49 = .ok (.getfield 10, 3) := by decide +kernel
theorem dX3_counted_52 : decode cX3_counted 52 = .ok (.getfield 194, 3) := by decide +kernel
theorem dX3_counted_55 : decode cX3_counted 55 = .ok (.ireturn, 1) := by decide +kernel
theorem dX3_counted_56 : decode cX3_counted 56 = .ok (.aload_n 0, 1) := by decide +kernel
theorem dX3_counted_57 : decode cX3_counted 57 = .ok (.getfield 10, 3) := by decide +kernel
theorem dX3_counted_60 : decode cX3_counted 60 = .ok (.getfield 143, 3) := by decide +kernel
theorem dX3_counted_63 : decode cX3_counted 63 = .ok (.ireturn, 1) := by decide +kernel
theorem dX3_counted_64 : decode cX3_counted 64 = .ok (.aload_n 0, 1) := by decide +kernel
theorem dX3_counted_65 : decode cX3_counted 65 = .ok (.getfield 10, 3) := by decide +kernel
theorem dX3_counted_68 : decode cX3_counted 68 = .ok (.iconst 5, 1) := by decide +kernel
theorem dX3_counted_69 : decode cX3_counted 69 = .ok (.invokevirtual 197, 3) := by decide +kernel
theorem dX3_counted_72 : decode cX3_counted 72 = .ok (.ireturn, 1) := by decide +kernel
theorem dX3_counted_73 : decode cX3_counted 73 = .ok (.aload_n 0, 1) := by decide +kernel
theorem dX3_counted_74 : decode cX3_counted 74 = .ok (.getfield 10, 3) := by decide +kernel
theorem dX3_counted_77 : decode cX3_counted 77 = .ok (.bipush 6, 2) := by decide +kernel
theorem dX3_counted_79 : decode cX3_counted 79 = .ok (.invokevirtual 197, 3) := by decide +kernel
theorem dX3_counted_82 : decode cX3_counted 82 = .ok (.ireturn, 1) := by decide +kernel
theorem dX3_counted_83 : decode cX3_counted 83 = .ok (.aload_n 0, 1) := by decide +kernel
theorem dX3_counted_84 : decode cX3_counted 84 = .ok (.getfield 10, 3) := by decide +kernel
theorem dX3_counted_87 : decode cX3_counted 87 = .ok (.bipush 7, 2) := by decide +kernel
theorem dX3_counted_89 : decode cX3_counted 89 = .ok (.invokevirtual 197, 3) := by decide +kernel
theorem dX3_counted_92 : decode cX3_counted 92 = .ok (.ireturn, 1) := by decide +kernel
theorem dX3_counted_93 : decode cX3_counted 93 = .ok (.aload_n 0, 1) := by decide +kernel
theorem dX3_counted_94 : decode cX3_counted 94 = .ok (.getfield 10, 3) := by decide +kernel
theorem dX3_counted_97 : decode cX3_counted 97 = .ok (.getfield 200, 3) := by decide +kernel
theorem dX3_counted_100 : decode cX3_counted 100 = .ok (.ireturn, 1) := by decide +kernel
theorem dX3_counted_101 : decode cX3_counted 101 = .ok (.aload_n 0, 1) := by decide +kernel
theorem dX3_counted_102 : decode cX3_counted 102 = .ok (.getfield 10, 3) := by decide +kernel
theorem dX3_counted_105 : decode cX3_counted 105 = .ok (.invokevirtual 203, 3) := by decide +kernel
theorem dX3_counted_108 : decode cX3_counted 108 = .ok (.ireturn, 1) := by decide +kernel
theorem dX3_counted_109 : decode cX3_counted 109 = .ok (.aload_n 0, 1) := by decide +kernel
theorem dX3_counted_110 : decode cX3_counted 110 = .ok (.getfield 10, 3) := by decide +kernel
theorem dX3_counted_113 : decode cX3_counted 113 = .ok (.getfield 206, 3) := by decide +kernel
theorem dX3_counted_116 : decode cX3_counted 116 = .ok (.ireturn, 1) := by decide +kernel
theorem dX3_counted_117 : decode cX3_counted 117 = .ok (.aload_n 0, 1) := by decide +kernel
theorem dX3_counted_118 : decode cX3_counted 118 = .ok (.getfield 117, 3) := by decide +kernel
theorem dX3_counted_121 : decode cX3_counted 121 = .ok (.ireturn, 1) := by decide +kernel
theorem dX3_foresee_0 : decode cX3_foresee 0 = .ok (.aload_n 0, 1) := by decide +kernel
theorem dX3_foresee_1 : decode cX3_foresee 1 = .ok (.getfield 16, 3) := by decide +kernel
theorem dX3_foresee_4 : decode cX3_foresee 4 = .ok (.aload_n 0, 1) := by decide +kernel
theorem dX3_foresee_5 : decode cX3_foresee 5 = .ok (.getfield 10, 3) := by decide +kernel
theorem dX3_foresee_8 : decode cX3_foresee 8 = .ok (.invokevirtual 126, 3) := by decide +kernel
theorem dX3_foresee_11 : decode cX3_foresee 11 = .ok (.aload_n 0, 1) := by decide +kernel
theorem dX3_foresee_12 : decode cX3_foresee 12 = .ok (.getfield 16, 3) := by decide +kernel
theorem dX3_foresee_15 : decode cX3_foresee 15 = .ok (.iload_n 1, 1) := by decide +kernel
theorem dX3_foresee_16 : decode cX3_foresee 16 = .ok (.iload_n 2, 1) := by decide +kernel
theorem dX3_foresee_17 : decode cX3_foresee 17 = .ok (.iload_n 3, 1) := by decide +kernel
theorem dX3_foresee_18 : decode cX3_foresee 18 = .ok (.invokevirtual 56, 3) := by decide +kernel
theorem dX3_foresee_21 : decode cX3_foresee 21 = .ok (.pop, 1) := by decide +kernel
theorem dX3_foresee_22 : decode cX3_foresee 22 = .ok (.return_, 1) := by decide +kernel
theorem dX3_foreseen_0 : decode cX3_foreseen 0 = .ok (.aload_n 0, 1) := by decide +kernel
theorem dX3_foreseen_1 : decode cX3_foreseen 1 = .ok (.getfield 10, 3) := by decide +kernel
theorem dX3_foreseen_4 : decode cX3_foreseen 4 = .ok (.getfield 107, 3) := by decide +kernel
theorem dX3_foreseen_7 : decode cX3_foreseen 7 = .ok (.iload_n 1, 1) := by decide +kernel
theorem dX3_foreseen_8 : decode cX3_foreseen 8 = .ok (.aaload, 1) := by decide +kernel
theorem dX3_foreseen_9 : decode cX3_foreseen 9 = .ok (.astore_n 3, 1) := by decide +kernel
theorem dX3_foreseen_10 : decode cX3_foreseen 10 = .ok (.aload_n 0, 1) := by decide +kernel
theorem dX3_foreseen_11 : decode cX3_foreseen 11 = .ok (.getfield 16, 3) := by decide +kernel
theorem dX3_foreseen_14 : decode cX3_foreseen 14 = .ok (.getfield 107, 3) := by decide +kernel
theorem dX3_foreseen_17 : decode cX3_foreseen 17 = .ok (.iload_n 1, 1) := by decide +kernel
theorem dX3_foreseen_18 : decode cX3_foreseen 18 = .ok (.aaload, 1) := by decide +kernel
theorem dX3_foreseen_19 : decode cX3_foreseen 19 = .ok (.astore 4, 2) := by decide +kernel
theorem dX3_foreseen_21 : decode cX3_foreseen 21 = .ok (.iload_n 2, 1) := by decide +kernel
theorem dX3_foreseen_22 : decode cX3_foreseen 22 = .ok (.tableswitch 68 0 2 #[26, 37, 48], 26) := by decide +kernel
theorem dX3_foreseen_48 : decode cX3_foreseen 48 = .ok (.aload 4, 2) := by decide +kernel
theorem dX3_foreseen_50 : decode cX3_foreseen 50 = .ok (.getfield 209, 3) := by decide +kernel
theorem dX3_foreseen_53 : decode cX3_foreseen 53 = .ok (.aload_n 3, 1) := by decide +kernel
theorem dX3_foreseen_54 : decode cX3_foreseen 54 = .ok (.getfield 209, 3) := by decide +kernel
theorem dX3_foreseen_57 : decode cX3_foreseen 57 = .ok (.isub, 1) := by decide +kernel
theorem dX3_foreseen_58 : decode cX3_foreseen 58 = .ok (.ireturn, 1) := by decide +kernel
theorem dX3_foreseen_59 : decode cX3_foreseen 59 = .ok (.aload 4, 2) := by decide +kernel
theorem dX3_foreseen_61 : decode cX3_foreseen 61 = .ok (.getfield 212, 3) := by decide +kernel
theorem dX3_foreseen_64 : decode cX3_foreseen 64 = .ok (.aload_n 3, 1) := by decide +kernel
theorem dX3_foreseen_65 : decode cX3_foreseen 65 = .ok (.getfield 212, 3) := by decide +kernel
theorem dX3_foreseen_68 : decode cX3_foreseen 68 = .ok (.isub, 1) := by decide +kernel
theorem dX3_foreseen_69 : decode cX3_foreseen 69 = .ok (.ireturn, 1) := by decide +kernel
theorem dX3_foreseen_70 : decode cX3_foreseen 70 = .ok (.aload_n 0, 1) := by decide +kernel
theorem dX3_foreseen_71 : decode cX3_foreseen 71 = .ok (.getfield 16, 3) := by decide +kernel
theorem dX3_foreseen_74 : decode cX3_foreseen 74 = .ok (.bipush 7, 2) := by decide +kernel
theorem dX3_foreseen_76 : decode cX3_foreseen 76 = .ok (.invokevirtual 197, 3) := by decide +kernel
theorem dX3_foreseen_79 : decode cX3_foreseen 79 = .ok (.aload_n 0, 1) := by decide +kernel
theorem dX3_foreseen_80 : decode cX3_foreseen 80 = .ok (.getfield 10, 3) := by decide +kernel
theorem dX3_foreseen_83 : decode cX3_foreseen 83 = .ok (.bipush 7, 2) := by decide +kernel
theorem dX3_foreseen_85 : decode cX3_foreseen 85 = .ok (.invokevirtual 197, 3) := by decide +kernel
theorem dX3_foreseen_88 : decode cX3_foreseen 88 = .ok (.isub, 1) := by decide +kernel
theorem dX3_foreseen_89 : decode cX3_foreseen 89 = .ok (.ireturn, 1) := by decide +kernel
theorem dX3_foreseen_90 : decode cX3_foreseen 90 = .ok (.aload 4, 2) := by decide +kernel
theorem dX3_foreseen_92 : decode cX3_foreseen 92 = .ok (.getfield 215, 3) := by decide +kernel
theorem dX3_foreseen_95 : decode cX3_foreseen 95 = .ok (.ireturn, 1) := by decide +kernel
theorem dX3_save_0 : decode cX3_save 0 = .ok (.aload_n 0, 1) := by decide +kernel
theorem dX3_save_1 : decode cX3_save 1 = .ok (.getfield 117, 3) := by decide +kernel
theorem dX3_save_4 : decode cX3_save 4 = .ok (.bipush 6, 2) := by decide +kernel
theorem dX3_save_6 : decode cX3_save 6 = .ok (.if_icmp .lt 21, 3) := by decide +kernel
theorem dX3_save_9 : decode cX3_save 9 = .ok (.aload_n 0, 1) := by decide +kernel
theorem dX3_save_10 : decode cX3_save 10 = .ok (.aload_n 0, 1) := by decide +kernel
theorem dX3_save_11 : decode cX3_save 11 = .ok (.getfield 123, 3) := by decide +kernel
theorem dX3_save_14 : decode cX3_save 14 = .ok (.iconst 1, 1) := by decide +kernel
theorem dX3_save_15 : decode cX3_save 15 = .ok (.iadd, 1) := by decide +kernel
theorem dX3_save_16 : decode cX3_save 16 = .ok (.bipush 6, 2) := by decide +kernel
theorem dX3_save_18 : decode cX3_save 18 = .ok (.irem, 1) := by decide +kernel
theorem dX3_save_19 : decode cX3_save 19 = .ok (.putfield 123, 3) := by decide +kernel
theorem dX3_save_22 : decode cX3_save 22 = .ok (.aload_n 0, 1) := by decide +kernel
theorem dX3_save_23 : decode cX3_save 23 = .ok (.iconst 5, 1) := by decide +kernel
theorem dX3_save_24 : decode cX3_save 24 = .ok (.putfield 117, 3) := by decide +kernel
theorem dX3_save_27 : decode cX3_save 27 = .ok (.aload_n 0, 1) := by decide +kernel
theorem dX3_save_28 : decode cX3_save 28 = .ok (.getfield 19, 3) := by decide +kernel
theorem dX3_save_31 : decode cX3_save 31 = .ok (.aload_n 0, 1) := by decide +kernel
theorem dX3_save_32 : decode cX3_save 32 = .ok (.getfield 123, 3) := by decide +kernel
theorem dX3_save_35 : decode cX3_save 35 = .ok (.aload_n 0, 1) := by decide +kernel
theorem dX3_save_36 : decode cX3_save 36 = .ok (.getfield 117, 3) := by decide +kernel
theorem dX3_save_39 : decode cX3_save 39 = .ok (.iadd, 1) := by decide +kernel
theorem dX3_save_40 : decode cX3_save 40 = .ok (.bipush 6, 2) := by decide +kernel
theorem dX3_save_42 : decode cX3_save 42 = .ok (.irem, 1) := by decide +kernel
theorem dX3_save_43 : decode cX3_save 43 = .ok (.aaload, 1) := by decide +kernel
theorem dX3_save_44 : decode cX3_save 44 = .ok (.aload_n 0, 1) := by decide +kernel
theorem dX3_save_45 : decode cX3_save 45 = .ok (.getfield 10, 3) := by decide +kernel
theorem dX3_save_48 : decode cX3_save 48 = .ok (.invokevirtual 126, 3) := by decide +kernel
theorem dX3_save_51 : decode cX3_save 51 = .ok (.aload_n 0, 1) := by decide +kernel
theorem dX3_save_52 : decode cX3_save 52 = .ok (.dup, 1) := by decide +kernel
theorem dX3_save_53 : decode cX3_save 53 = .ok (.getfield 117, 3) := by decide +kernel
theorem dX3_save_56 : decode cX3_save 56 = .ok (.iconst 1, 1) := by decide +kernel
theorem dX3_save_57 : decode cX3_save 57 = .ok (.iadd, 1) := by decide +kernel
theorem dX3_save_58 : decode cX3_save 58 = .ok (.putfield 117, 3) := by decide +kernel
theorem dX3_save_61 : decode cX3_save 61 = .ok (.return_, 1) := by decide +kernel
theorem dX3_requireStore_0 : decode cX3_requireStore 0 = .ok (.iload_n 0, 1) := by decide +kernel
theorem dX3_requireStore_1 : decode cX3_requireStore 1 = .ok (.ifCond .lt 8, 3) := by decide +kernel
theorem dX3_requireStore_4 : decode cX3_requireStore 4 = .ok (.iload_n 0, 1) := by decide +kernel
theorem dX3_requireStore_5 : decode cX3_requireStore 5 = .ok (.iconst 4, 1) := by decide +kernel
theorem dX3_requireStore_6 : decode cX3_requireStore 6 = .ok (.if_icmp .lt 13, 3) := by decide +kernel
theorem dX3_requireStore_9 : decode cX3_requireStore 9 = .ok (.new 218, 3) := by decide +kernel
theorem dX3_requireStore_12 : decode cX3_requireStore 12 = .ok (.dup, 1) := by decide +kernel
theorem dX3_requireStore_13 : decode cX3_requireStore 13 = .ok (.ldc 220, 2) := by decide +kernel
theorem dX3_requireStore_15 : decode cX3_requireStore 15 = .ok (.invokespecial 222, 3) := by decide +kernel
theorem dX3_requireStore_18 : decode cX3_requireStore 18 = .ok (.athrow, 1) := by decide +kernel
theorem dX3_requireStore_19 : decode cX3_requireStore 19 = .ok (.return_, 1) := by decide +kernel
theorem dX3_requireSetting_0 : decode cX3_requireSetting 0 = .ok (.iload_n 0, 1) := by decide +kernel
theorem dX3_requireSetting_1 : decode cX3_requireSetting 1 = .ok (.ifCond .lt 8, 3) := by decide +kernel
theorem dX3_requireSetting_4 : decode cX3_requireSetting 4 = .ok (.iload_n 0, 1) := by decide +kernel
theorem dX3_requireSetting_5 : decode cX3_requireSetting 5 = .ok (.iconst 5, 1) := by decide +kernel
theorem dX3_requireSetting_6 : decode cX3_requireSetting 6 = .ok (.if_icmp .lt 13, 3) := by decide +kernel
theorem dX3_requireSetting_9 : decode cX3_requireSetting 9 = .ok (.new 218, 3) := by decide +kernel
theorem dX3_requireSetting_12 : decode cX3_requireSetting 12 = .ok (.dup, 1) := by decide +kernel
theorem dX3_requireSetting_13 : decode cX3_requireSetting 13 = .ok (.ldc 223, 2) := by decide +kernel
theorem dX3_requireSetting_15 : decode cX3_requireSetting 15 = .ok (.invokespecial 222, 3) := by decide +kernel
theorem dX3_requireSetting_18 : decode cX3_requireSetting 18 = .ok (.athrow, 1) := by decide +kernel
theorem dX3_requireSetting_19 : decode cX3_requireSetting 19 = .ok (.return_, 1) := by decide +kernel
theorem dX3_requireRange_0 : decode cX3_requireRange 0 = .ok (.iload_n 0, 1) := by decide +kernel
theorem dX3_requireRange_1 : decode cX3_requireRange 1 = .ok (.iload_n 1, 1) := by decide +kernel
theorem dX3_requireRange_2 : decode cX3_requireRange 2 = .ok (.if_icmp .lt 8, 3) := by decide +kernel
theorem dX3_requireRange_5 : decode cX3_requireRange 5 = .ok (.iload_n 0, 1) := by decide +kernel
theorem dX3_requireRange_6 : decode cX3_requireRange 6 = .ok (.iload_n 2, 1) := by decide +kernel
theorem dX3_requireRange_7 : decode cX3_requireRange 7 = .ok (.if_icmp .le 13, 3) := by decide +kernel
theorem dX3_requireRange_10 : decode cX3_requireRange 10 = .ok (.new 102, 3) := by decide +kernel
theorem dX3_requireRange_13 : decode cX3_requireRange 13 = .ok (.dup, 1) := by decide +kernel
theorem dX3_requireRange_14 : decode cX3_requireRange 14 = .ok (.ldc 225, 2) := by decide +kernel
theorem dX3_requireRange_16 : decode cX3_requireRange 16 = .ok (.invokespecial 106, 3) := by decide +kernel
theorem dX3_requireRange_19 : decode cX3_requireRange 19 = .ok (.athrow, 1) := by decide +kernel
theorem dX3_requireRange_20 : decode cX3_requireRange 20 = .ok (.return_, 1) := by decide +kernel
theorem dX3_requireNotNegative_0 : decode cX3_requireNotNegative 0 = .ok (.iload_n 0, 1) := by decide +kernel
theorem dX3_requireNotNegative_1 : decode cX3_requireNotNegative 1 = .ok (.ifCond .ge 13, 3) := by decide +kernel
theorem dX3_requireNotNegative_4 : decode cX3_requireNotNegative 4 = .ok (.new 102, 3) := by decide +kernel
theorem dX3_requireNotNegative_7 : decode cX3_requireNotNegative 7 = .ok (.dup, 1) := by decide +kernel
theorem dX3_requireNotNegative_8 : decode cX3_requireNotNegative 8 = .ok (.ldc 227, 2) := by decide +kernel
theorem dX3_requireNotNegative_10 : decode cX3_requireNotNegative 10 = .ok (.invokespecial 106, 3) := by decide +kernel
theorem dX3_requireNotNegative_13 : decode cX3_requireNotNegative 13 = .ok (.athrow, 1) := by decide +kernel
theorem dX3_requireNotNegative_14 : decode cX3_requireNotNegative 14 = .ok (.return_, 1) := by decide +kernel
end
section
/-! decode rows, by program -/
theorem dX4_init_0 : decode cX4_init 0 = .ok (.aload_n 0, 1) := by decide +kernel
theorem dX4_init_1 : decode cX4_init 1 = .ok (.invokespecial 1, 3) := by decide +kernel
theorem dX4_init_4 : decode cX4_init 4 = .ok (.aload_n 0, 1) := by decide +kernel
theorem dX4_init_5 : decode cX4_init 5 = .ok (.sipush 218, 3) := by decide +kernel
theorem dX4_init_8 : decode cX4_init 8 = .ok (.newarray .int, 2) := by decide +kernel
theorem dX4_init_10 : decode cX4_init 10 = .ok (.putfield 7, 3) := by decide +kernel
theorem dX4_init_13 : decode cX4_init 13 = .ok (.aload_n 0, 1) := by decide +kernel
theorem dX4_init_14 : decode cX4_init 14 = .ok (.sipush 218, 3) := by decide +kernel
theorem dX4_init_17 : decode cX4_init 17 = .ok (.newarray .int, 2) := by decide +kernel
theorem dX4_init_19 : decode cX4_init 19 = .ok (.putfield 13, 3) := by decide +kernel
theorem dX4_init_22 : decode cX4_init 22 = .ok (.aload_n 0, 1) := by decide +kernel
theorem dX4_init_23 : decode cX4_init 23 = .ok (.sipush 1308, 3) := by decide +kernel
theorem dX4_init_26 : decode cX4_init 26 = .ok (.newarray .int, 2) := by decide +kernel
theorem dX4_init_28 : decode cX4_init 28 = .ok (.putfield 16, 3) := by decide +kernel
theorem dX4_init_31 : decode cX4_init 31 = .ok (.aload_n 0, 1) := by decide +kernel
theorem dX4_init_32 : decode cX4_init 32 = .ok (.bipush 60, 2) := by decide +kernel
theorem dX4_init_34 : decode cX4_init 34 = .ok (.newarray .int, 2) := by decide +kernel
theorem dX4_init_36 : decode cX4_init 36 = .ok (.putfield 19, 3) := by decide +kernel
theorem dX4_init_39 : decode cX4_init 39 = .ok (.aload_n 0, 1) := by decide +kernel
theorem dX4_init_40 : decode cX4_init 40 = .ok (.bipush 20, 2) := by decide +kernel
theorem dX4_init_42 : decode cX4_init 42 = .ok (.newarray .int, 2) := by decide +kernel
theorem dX4_init_44 : decode cX4_init 44 = .ok (.putfield 22, 3) := by decide +kernel
theorem dX4_init_47 : decode cX4_init 47 = .ok (.aload_n 0, 1) := by decide +kernel
theorem dX4_init_48 : decode cX4_init 48 = .ok (.iconst 0, 1) := by decide +kernel
theorem dX4_init_49 : decode cX4_init 49 = .ok (.putfield 25, 3) := by decide +kernel
theorem dX4_init_52 : decode cX4_init 52 = .ok (.aload_n 0, 1) := by decide +kernel
theorem dX4_init_53 : decode cX4_init 53 = .ok (.getfield 7, 3) := by decide +kernel
theorem dX4_init_56 : decode cX4_init 56 = .ok (.iconst 0, 1) := by decide +kernel
theorem dX4_init_57 : decode cX4_init 57 = .ok (.bipush 20, 2) := by decide +kernel
theorem dX4_init_59 : decode cX4_init 59 = .ok (.iastore, 1) := by decide +kernel
theorem dX4_init_60 : decode cX4_init 60 = .ok (.aload_n 0, 1) := by decide +kernel
theorem dX4_init_61 : decode cX4_init 61 = .ok (.getfield 7, 3) := by decide +kernel
theorem dX4_init_64 : decode cX4_init 64 = .ok (.iconst 1, 1) := by decide +kernel
theorem dX4_init_65 : decode cX4_init 65 = .ok (.iconst 4, 1) := by decide +kernel
theorem dX4_init_66 : decode cX4_init 66 = .ok (.iastore, 1) := by decide +kernel
theorem dX4_init_67 : decode cX4_init 67 = .ok (.aload_n 0, 1) := by decide +kernel
theorem dX4_init_68 : decode cX4_init 68 = .ok (.getfield 7, 3) := by decide +kernel
theorem dX4_init_71 : decode cX4_init 71 = .ok (.iconst 2, 1) := by decide +kernel
theorem dX4_init_72 : decode cX4_init 72 = .ok (.iconst 2, 1) := by decide +kernel
theorem dX4_init_73 : decode cX4_init 73 = .ok (.iastore, 1) := by decide +kernel
theorem dX4_init_74 : decode cX4_init 74 = .ok (.aload_n 0, 1) := by decide +kernel
theorem dX4_init_75 : decode cX4_init 75 = .ok (.getfield 7, 3) := by decide +kernel
theorem dX4_init_78 : decode cX4_init 78 = .ok (.iconst 3, 1) := by decide +kernel
theorem dX4_init_79 : decode cX4_init 79 = .ok (.bipush 10, 2) := by decide +kernel
theorem dX4_init_81 : decode cX4_init 81 = .ok (.iastore, 1) := by decide +kernel
theorem dX4_init_82 : decode cX4_init 82 = .ok (.aload_n 0, 1) := by decide +kernel
theorem dX4_init_83 : decode cX4_init 83 = .ok (.getfield 7, 3) := by decide +kernel
theorem dX4_init_86 : decode cX4_init 86 = .ok (.iconst 4, 1) := by decide +kernel
theorem dX4_init_87 : decode cX4_init 87 = .ok (.bipush 80, 2) := by decide +kernel
theorem dX4_init_89 : decode cX4_init 89 = .ok (.iastore, 1) := by decide +kernel
theorem dX4_init_90 : decode cX4_init 90 = .ok (.iconst 0, 1) := by decide +kernel
theorem dX4_init_91 : decode cX4_init 91 = .ok (.istore_n 1, 1) := by decide +kernel
theorem dX4_init_92 : decode cX4_init 92 = .ok (.iload_n 1, 1) := by decide +kernel
theorem dX4_init_93 : decode cX4_init 93 = .ok (.iconst 4, 1) := by decide +kernel
theorem dX4_init_94 : decode cX4_init 94 = .ok (.if_icmp .ge 24, 3) := by decide +kernel
theorem dX4_init_97 : decode cX4_init 97 = .ok (.aload_n 0, 1) := by decide +kernel
theorem dX4_init_98 : decode cX4_init 98 = .ok (.iload_n 1, 1) := by decide +kernel
theorem dX4_init_99 : decode cX4_init 99 = .ok (.iconst 0, 1) := by decide +kernel
theorem dX4_init_100 : decode cX4_init 100 = .ok (.iconst 1, 1) := by decide +kernel
theorem dX4_init_101 : decode cX4_init 101 = .ok (.invokevirtual 29, 3) := by decide +kernel
theorem dX4_init_104 : decode cX4_init 104 = .ok (.aload_n 0, 1) := by decide +kernel
theorem dX4_init_105 : decode cX4_init 105 = .ok (.iload_n 1, 1) := by decide +kernel
theorem dX4_init_106 : decode cX4_init 106 = .ok (.bipush 12, 2) := by decide +kernel
theorem dX4_init_108 : decode cX4_init 108 = .ok (.iconst 5, 1) := by decide +kernel
theorem dX4_init_109 : decode cX4_init 109 = .ok (.invokevirtual 29, 3) := by decide +kernel
theorem dX4_init_112 : decode cX4_init 112 = .ok (.iinc 1 1, 3) := by decide +kernel
theorem dX4_init_115 : decode cX4_init 115 = .ok (.goto (-23), 3) := by decide +kernel
theorem dX4_init_118 : decode cX4_init 118 = .ok (.return_, 1) := by decide +kernel
theorem dX4_thrown_0 : decode cX4_thrown 0 = .ok (.aload_n 0, 1) := by decide +kernel
theorem dX4_thrown_1 : decode cX4_thrown 1 = .ok (.getfield 25, 3) := by decide +kernel
theorem dX4_thrown_4 : decode cX4_thrown 4 = .ok (.ireturn, 1) := by decide +kernel
theorem dX4_in_0 : decode cX4_in 0 = .ok (.iload_n 0, 1) := by decide +kernel
theorem dX4_in_1 : decode cX4_in 1 = .ok (.iload_n 1, 1) := by decide +kernel
theorem dX4_in_2 : decode cX4_in 2 = .ok (.if_icmp .lt 12, 3) := by decide +kernel
theorem dX4_in_5 : decode cX4_in 5 = .ok (.iload_n 0, 1) := by decide +kernel
theorem dX4_in_6 : decode cX4_in 6 = .ok (.iload_n 2, 1) := by decide +kernel
theorem dX4_in_7 : decode cX4_in 7 = .ok (.if_icmp .gt 7, 3) := by decide +kernel
theorem dX4_in_10 : decode cX4_in 10 = .ok (.iconst 1, 1) := by decide +kernel
theorem dX4_in_11 : decode cX4_in 11 = .ok (.goto 4, 3) := by decide +kernel
theorem dX4_in_14 : decode cX4_in 14 = .ok (.iconst 0, 1) := by decide +kernel
theorem dX4_in_15 : decode cX4_in 15 = .ok (.ireturn, 1) := by decide +kernel
theorem dX4_fails_0 : decode cX4_fails 0 = .ok (.aload_n 0, 1) := by decide +kernel
theorem dX4_fails_1 : decode cX4_fails 1 = .ok (.iload_n 1, 1) := by decide +kernel
theorem dX4_fails_2 : decode cX4_fails 2 = .ok (.putfield 25, 3) := by decide +kernel
theorem dX4_fails_5 : decode cX4_fails 5 = .ok (.iconst 0, 1) := by decide +kernel
theorem dX4_fails_6 : decode cX4_fails 6 = .ok (.ireturn, 1) := by decide +kernel
theorem dX4_isStore_0 : decode cX4_isStore 0 = .ok (.iload_n 0, 1) := by decide +kernel
theorem dX4_isStore_1 : decode cX4_isStore 1 = .ok (.iconst 0, 1) := by decide +kernel
theorem dX4_isStore_2 : decode cX4_isStore 2 = .ok (.iconst 3, 1) := by decide +kernel
theorem dX4_isStore_3 : decode cX4_isStore 3 = .ok (.invokestatic 33, 3) := by decide +kernel
theorem dX4_isStore_6 : decode cX4_isStore 6 = .ok (.ireturn, 1) := by decide +kernel
theorem dX4_of_0 : decode cX4_of 0 = .ok (.aload_n 0, 1) := by decide +kernel
theorem dX4_of_1 : decode cX4_of 1 = .ok (.getfield 7, 3) := by decide +kernel
theorem dX4_of_4 : decode cX4_of 4 = .ok (.bipush 90, 2) := by decide +kernel
theorem dX4_of_6 : decode cX4_of 6 = .ok (.bipush 32, 2) := by decide +kernel
theorem dX4_of_8 : decode cX4_of 8 = .ok (.iload_n 1, 1) := by decide +kernel
theorem dX4_of_9 : decode cX4_of 9 = .ok (.imul, 1) := by decide +kernel
theorem dX4_of_10 : decode cX4_of 10 = .ok (.iadd, 1) := by decide +kernel
theorem dX4_of_11 : decode cX4_of 11 = .ok (.iload_n 2, 1) := by decide +kernel
theorem dX4_of_12 : decode cX4_of 12 = .ok (.iadd, 1) := by decide +kernel
theorem dX4_of_13 : decode cX4_of 13 = .ok (.iaload, 1) := by decide +kernel
theorem dX4_of_14 : decode cX4_of 14 = .ok (.ireturn, 1) := by decide +kernel
theorem dX4_lay_0 : decode cX4_lay 0 = .ok (.aload_n 0, 1) := by decide +kernel
theorem dX4_lay_1 : decode cX4_lay 1 = .ok (.getfield 7, 3) := by decide +kernel
theorem dX4_lay_4 : decode cX4_lay 4 = .ok (.bipush 90, 2) := by decide +kernel
theorem dX4_lay_6 : decode cX4_lay 6 = .ok (.bipush 32, 2) := by decide +kernel
theorem dX4_lay_8 : decode cX4_lay 8 = .ok (.iload_n 1, 1) := by decide +kernel
theorem dX4_lay_9 : decode cX4_lay 9 = .ok (.imul, 1) := by decide +kernel
theorem dX4_lay_10 : decode cX4_lay 10 = .ok (.iadd, 1) := by decide +kernel
theorem dX4_lay_11 : decode cX4_lay 11 = .ok (.iload_n 2, 1) := by decide +kernel
theorem dX4_lay_12 : decode cX4_lay 12 = .ok (.iadd, 1) := by decide +kernel
theorem dX4_lay_13 : decode cX4_lay 13 = .ok (.iload_n 3, 1) := by decide +kernel
theorem dX4_lay_14 : decode cX4_lay 14 = .ok (.iastore, 1) := by decide +kernel
theorem dX4_lay_15 : decode cX4_lay 15 = .ok (.return_, 1) := by decide +kernel
theorem dX4_adds_0 : decode cX4_adds 0 = .ok (.aload_n 0, 1) := by decide +kernel
theorem dX4_adds_1 : decode cX4_adds 1 = .ok (.getfield 7, 3) := by decide +kernel
theorem dX4_adds_4 : decode cX4_adds 4 = .ok (.bipush 90, 2) := by decide +kernel
theorem dX4_adds_6 : decode cX4_adds 6 = .ok (.bipush 32, 2) := by decide +kernel
theorem dX4_adds_8 : decode cX4_adds 8 = .ok (.iload_n 1, 1) := by decide +kernel
theorem dX4_adds_9 : decode cX4_adds 9 = .ok (.imul, 1) := by decide +kernel
theorem dX4_adds_10 : decode cX4_adds 10 = .ok (.iadd, 1) := by decide +kernel
theorem dX4_adds_11 : decode cX4_adds 11 = .ok (.iload_n 2, 1) := by decide +kernel
theorem dX4_adds_12 : decode cX4_adds 12 = .ok (.iadd, 1) := by decide +kernel
theorem dX4_adds_13 : decode cX4_adds 13 = .ok (.dup2, 1) := by decide +kernel
theorem dX4_adds_14 : decode cX4_adds 14 = .ok (.iaload, 1) := by decide +kernel
theorem dX4_adds_15 : decode cX4_adds 15 = .ok (.iconst 1, 1) := by decide +kernel
theorem dX4_adds_16 : decode cX4_adds 16 = .ok (.iadd, 1) := by decide +kernel
theorem dX4_adds_17 : decode cX4_adds 17 = .ok (.iastore, 1) := by decide +kernel
theorem dX4_adds_18 : decode cX4_adds 18 = .ok (.return_, 1) := by decide +kernel
theorem dX4_callOf_0 : decode cX4_callOf 0 = .ok (.aload_n 0, 1) := by decide +kernel
theorem dX4_callOf_1 : decode cX4_callOf 1 = .ok (.getfield 7, 3) := by decide +kernel
theorem dX4_callOf_4 : decode cX4_callOf 4 = .ok (.bipush 10, 2) := by decide +kernel
theorem dX4_callOf_6 : decode cX4_callOf 6 = .ok (.iconst 5, 1) := by decide +kernel
theorem dX4_callOf_7 : decode cX4_callOf 7 = .ok (.iload_n 1, 1) := by decide +kernel
theorem dX4_callOf_8 : decode cX4_callOf 8 = .ok (.imul, 1) := by decide +kernel
theorem dX4_callOf_9 : decode cX4_callOf 9 = .ok (.iadd, 1) := by decide +kernel
theorem dX4_callOf_10 : decode cX4_callOf 10 = .ok (.iload_n 2, 1) := by decide +kernel
theorem dX4_callOf_11 : decode cX4_callOf 11 = .ok (.iadd, 1) := by decide +kernel
theorem dX4_callOf_12 : decode cX4_callOf 12 = .ok (.iaload, 1) := by decide +kernel
theorem dX4_callOf_13 : decode cX4_callOf 13 = .ok (.ireturn, 1) := by decide +kernel
theorem dX4_saves_0 : decode cX4_saves 0 = .ok (.aload_n 0, 1) := by decide +kernel
theorem dX4_saves_1 : decode cX4_saves 1 = .ok (.getfield 37, 3) := by decide +kernel
theorem dX4_saves_4 : decode cX4_saves 4 = .ok (.bipush 6, 2) := by decide +kernel
theorem dX4_saves_6 : decode cX4_saves 6 = .ok (.if_icmp .ne 44, 3) := by decide +kernel
theorem dX4_saves_9 : decode cX4_saves 9 = .ok (.iconst 0, 1) := by decide +kernel
theorem dX4_saves_10 : decode cX4_saves 10 = .ok (.istore_n 1, 1) := by decide +kernel
theorem dX4_saves_11 : decode cX4_saves 11 = .ok (.iload_n 1, 1) := by decide +kernel
theorem dX4_saves_12 : decode cX4_saves 12 = .ok (.sipush 1090, 3) := by decide +kernel
theorem dX4_saves_15 : decode cX4_saves 15 = .ok (.if_icmp .ge 25, 3) := by decide +kernel
theorem dX4_saves_18 : decode cX4_saves 18 = .ok (.aload_n 0, 1) := by decide +kernel
theorem dX4_saves_19 : decode cX4_saves 19 = .ok (.getfield 16, 3) := by decide +kernel
theorem dX4_saves_22 : decode cX4_saves 22 = .ok (.iload_n 1, 1) := by decide +kernel
theorem dX4_saves_23 : decode cX4_saves 23 = .ok (.aload_n 0, 1) := by decide +kernel
theorem dX4_saves_24 : decode cX4_saves 24 = .ok (.getfield 16, 3) := by decide +kernel
theorem dX4_saves_27 : decode cX4_saves 27 = .ok (.iload_n 1, 1) := by decide +kernel
theorem dX4_saves_28 : decode cX4_saves 28 = .ok (.sipush 218, 3) := by decide +kernel
theorem dX4_saves_31 : decode cX4_saves 31 = .ok (.iadd, 1) := by decide +kernel
theorem dX4_saves_32 : decode cX4_saves 32 = .ok (.iaload, 1) := by decide +kernel
theorem dX4_saves_33 : decode cX4_saves 33 = .ok (.iastore, 1) := by decide +kernel
theorem dX4_saves_34 : decode cX4_saves 34 = .ok (.iinc 1 1, 3) := by decide +kernel
theorem dX4_saves_37 : decode cX4_saves 37 = .ok (.goto (-26), 3) := by decide +kernel
theorem dX4_saves_40 : decode cX4_saves 40 = .ok (.aload_n 0, 1) := by decide +kernel
theorem dX4_saves_41 : decode cX4_saves 41 = .ok (.dup, 1) := by decide +kernel
theorem dX4_saves_42 : decode cX4_saves 42 = .ok (.getfield 37, 3) := by decide +kernel
theorem dX4_saves_45 : decode cX4_saves 45 = .ok (.iconst 1, 1) := by decide +kernel
theorem dX4_saves_46 : decode cX4_saves 46 = .ok (.isub, 1) := by decide +kernel
theorem dX4_saves_47 : decode cX4_saves 47 = .ok (.putfield 37, 3) := by decide +kernel
theorem dX4_saves_50 : decode cX4_saves 50 = .ok (.iconst 0, 1) := by decide +kernel
theorem dX4_saves_51 : decode cX4_saves 51 = .ok (.istore_n 1, 1) := by decide +kernel
theorem dX4_saves_52 : decode cX4_saves 52 = .ok (.iload_n 1, 1) := by decide +kernel
theorem dX4_saves_53 : decode cX4_saves 53 = .ok (.sipush 218, 3) := by decide +kernel
theorem dX4_saves_56 : decode cX4_saves 56 = .ok (.if_icmp .ge 30, 3) := by decide +kernel
theorem dX4_saves_59 : decode cX4_saves 59 = .ok (.aload_n 0, 1) := by decide +kernel
theorem dX4_saves_60 : decode cX4_saves 60 = .ok (.getfield 16, 3) := by decide +kernel
theorem dX4_saves_63 : decode cX4_saves 63 = .ok (.sipush 218, 3) := by decide +kernel
theorem dX4_saves_66 : decode cX4_saves 66 = .ok (.aload_n 0, 1) := by decide +kernel
theorem dX4_saves_67 : decode cX4_saves 67 = .ok (.getfield 37, 3) := by decide +kernel
theorem dX4_saves_70 : decode cX4_saves 70 = .ok (.imul, 1) := by decide +kernel
theorem dX4_saves_71 : decode cX4_saves 71 = .ok (.iload_n 1, 1) := by decide +kernel
theorem dX4_saves_72 : decode cX4_saves 72 = .ok (.iadd, 1) := by decide +kernel
theorem dX4_saves_73 : decode cX4_saves 73 = .ok (.aload_n 0, 1) := by decide +kernel
theorem dX4_saves_74 : decode cX4_saves 74 = .ok (.getfield 7, 3) := by decide +kernel
theorem dX4_saves_77 : decode cX4_saves 77 = .ok (.iload_n 1, 1) := by decide +kernel
theorem dX4_saves_78 : decode cX4_saves 78 = .ok (.iaload, 1) := by decide +kernel
theorem dX4_saves_79 : decode cX4_saves 79 = .ok (.iastore, 1) := by decide +kernel
theorem dX4_saves_80 : decode cX4_saves 80 = .ok (.iinc 1 1, 3) := by decide +kernel
theorem dX4_saves_83 : decode cX4_saves 83 = .ok (.goto (-31), 3) := by decide +kernel
theorem dX4_saves_86 : decode cX4_saves 86 = .ok (.aload_n 0, 1) := by decide +kernel
theorem dX4_saves_87 : decode cX4_saves 87 = .ok (.dup, 1) := by decide +kernel
theorem dX4_saves_88 : decode cX4_saves 88 = .ok (.getfield 37, 3) := by decide +kernel
theorem dX4_saves_91 : decode cX4_saves 91 = .ok (.iconst 1, 1) := by decide +kernel
theorem dX4_saves_92 : decode cX4_saves 92 = .ok (.iadd, 1) := by decide +kernel
theorem dX4_saves_93 : decode cX4_saves 93 = .ok (.putfield 37, 3) := by decide +kernel
theorem dX4_saves_96 : decode cX4_saves 96 = .ok (.return_, 1) := by decide +kernel
theorem dX4_putAside_0 : decode cX4_putAside 0 = .ok (.iconst 0, 1) := by decide +kernel
theorem dX4_putAside_1 : decode cX4_putAside 1 = .ok (.istore_n 1, 1) := by decide +kernel
theorem dX4_putAside_2 : decode cX4_putAside 2 = .ok (.iload_n 1, 1) := by decide +kernel
theorem dX4_putAside_3 : decode cX4_putAside 3 = .ok (.sipush 218, 3) := by decide +kernel
theorem dX4_putAside_6 : decode cX4_putAside 6 = .ok (.if_icmp .ge 21, 3) := by decide +kernel
theorem dX4_putAside_9 : decode cX4_putAside 9 = .ok (.aload_n 0, 1) := by decide +kernel
theorem dX4_putAside_10 : decode cX4_putAside 10 = .ok (.getfield 13, 3) := by decide +kernel
theorem dX4_putAside_13 : decode cX4_putAside 13 = .ok (.iload_n 1, 1) := by decide +kernel
theorem dX4_putAside_14 : decode cX4_putAside 14 = .ok (.aload_n 0, 1) := by decide +kernel
theorem dX4_putAside_15 : decode cX4_putAside 15 = .ok (.getfield 7, 3) := by decide +kernel
theorem dX4_putAside_18 : decode cX4_putAside 18 = .ok (.iload_n 1, 1) := by decide +kernel
theorem dX4_putAside_19 : decode cX4_putAside 19 = .ok (.iaload, 1) := by decide +kernel
theorem dX4_putAside_20 : decode cX4_putAside 20 = .ok (.iastore, 1) := by decide +kernel
theorem dX4_putAside_21 : decode cX4_putAside 21 = .ok (.iinc 1 1, 3) := by decide +kernel
theorem dX4_putAside_24 : decode cX4_putAside 24 = .ok (.goto (-22), 3) := by decide +kernel
theorem dX4_putAside_27 : decode cX4_putAside 27 = .ok (.return_, 1) := by decide +kernel
theorem dX4_takeBack_0 : decode cX4_takeBack 0 = .ok (.iconst 0, 1) := by decide +kernel
theorem dX4_takeBack_1 : decode cX4_takeBack 1 = .ok (.istore_n 1, 1) := by decide +kernel
theorem dX4_takeBack_2 : decode cX4_takeBack 2 = .ok (.iload_n 1, 1) := by decide +kernel
theorem dX4_takeBack_3 : decode cX4_takeBack 3 = .ok (.sipush 218, 3) := by decide +kernel
theorem dX4_takeBack_6 : decode cX4_takeBack 6 = .ok (.if_icmp .ge 21, 3) := by decide +kernel
theorem dX4_takeBack_9 : decode cX4_takeBack 9 = .ok (.aload_n 0, 1) := by decide +kernel
theorem dX4_takeBack_10 : decode cX4_takeBack 10 = .ok (.getfield 7, 3) := by decide +kernel
theorem dX4_takeBack_13 : decode cX4_takeBack 13 = .ok (.iload_n 1, 1) := by decide +kernel
theorem dX4_takeBack_14 : decode cX4_takeBack 14 = .ok (.aload_n 0, 1) := by decide +kernel
theorem dX4_takeBack_15 : decode cX4_takeBack 15 = .ok (.getfield 13, 3) := by decide +kernel
theorem dX4_takeBack_18 : decode cX4_takeBack 18 = .ok (.iload_n 1, 1) := by decide +kernel
theorem dX4_takeBack_19 : decode cX4_takeBack 19 = .ok (.iaload, 1) := by decide +kernel
theorem dX4_takeBack_20 : decode cX4_takeBack 20 = .ok (.iastore, 1) := by decide +kernel
theorem dX4_takeBack_21 : decode cX4_takeBack 21 = .ok (.iinc 1 1, 3) := by decide +kernel
theorem dX4_takeBack_24 : decode cX4_takeBack 24 = .ok (.goto (-22), 3) := by decide +kernel
theorem dX4_takeBack_27 : decode cX4_takeBack 27 = .ok (.return_, 1) := by decide +kernel
theorem dX4_inWindow_0 : decode cX4_inWindow 0 = .ok (.aload_n 0, 1) := by decide +kernel
theorem dX4_inWindow_1 : decode cX4_inWindow 1 = .ok (.iload_n 1, 1) := by decide +kernel
theorem dX4_inWindow_2 : decode cX4_inWindow 2 = .ok (.iconst 4, 1) := by decide +kernel
theorem dX4_inWindow_3 : decode cX4_inWindow 3 = .ok (.invokevirtual 40, 3) := by decide +kernel
theorem dX4_inWindow_6 : decode cX4_inWindow 6 = .ok (.istore_n 2, 1) := by decide +kernel
theorem dX4_inWindow_7 : decode cX4_inWindow 7 = .ok (.aload_n 0, 1) := by decide +kernel
theorem dX4_inWindow_8 : decode cX4_inWindow 8 = .ok (.iload_n 1, 1) := by decide +kernel
theorem dX4_inWindow_9 : decode cX4_inWindow 9 = .ok (.iconst 2, 1) := by decide +kernel
theorem dX4_inWindow_10 : decode cX4_inWindow 10 = .ok (.invokevirtual 40, 3) := by decide +kernel
theorem dX4_inWindow_13 : decode cX4_inWindow 13 = .ok (.ifCond .eq 7, 3) := by decide +kernel
theorem dX4_inWindow_16 : decode cX4_inWindow 16 = .ok (.iconst 0, 1) := by decide +kernel
theorem dX4_inWindow_17 : decode cX4_inWindow 17 = .ok (.goto 23, 3) := by decide +kernel
theorem dX4_inWindow_20 : decode cX4_inWindow 20 = .ok (.iload_n 2, 1) := by decide +kernel
theorem dX4_inWindow_21 : decode cX4_inWindow 21 = .ok (.aload_n 0, 1) := by decide +kernel
theorem dX4_inWindow_22 : decode cX4_inWindow 22 = .ok (.getfield 7, 3) := by decide +kernel
theorem dX4_inWindow_25 : decode cX4_inWindow 25 = .ok (.iconst 1, 1) := by decide +kernel
theorem dX4_inWindow_26 : decode cX4_inWindow 26 = .ok (.iaload, 1) := by decide +kernel
theorem dX4_inWindow_27 : decode cX4_inWindow 27 = .ok (.if_icmp .ge 7, 3) := by decide +kernel
theorem dX4_inWindow_30 : decode cX4_inWindow 30 = .ok (.iload_n 2, 1) := by decide +kernel
theorem dX4_inWindow_31 : decode cX4_inWindow 31 = .ok (.goto 9, 3) := by decide +kernel
theorem dX4_inWindow_34 : decode cX4_inWindow 34 = .ok (.aload_n 0, 1) := by decide +kernel
theorem dX4_inWindow_35 : decode cX4_inWindow 35 = .ok (.getfield 7, 3) := by decide +kernel
theorem dX4_inWindow_38 : decode cX4_inWindow 38 = .ok (.iconst 1, 1) := by decide +kernel
theorem dX4_inWindow_39 : decode cX4_inWindow 39 = .ok (.iaload, 1) := by decide +kernel
theorem dX4_inWindow_40 : decode cX4_inWindow 40 = .ok (.ireturn, 1) := by decide +kernel
theorem dX4_badInWindow_0 : decode cX4_badInWindow 0 = .ok (.iconst 0, 1) := by decide +kernel
theorem dX4_badInWindow_1 : decode cX4_badInWindow 1 = .ok (.istore_n 2, 1) := by decide +kernel
theorem dX4_badInWindow_2 : decode cX4_badInWindow 2 = .ok (.iconst 0, 1) := by decide +kernel
theorem dX4_badInWindow_3 : decode cX4_badInWindow 3 = .ok (.istore_n 3, 1) := by decide +kernel
theorem dX4_badInWindow_4 : decode cX4_badInWindow 4 = .ok (.iload_n 3, 1) := by decide +kernel
theorem dX4_badInWindow_5 : decode cX4_badInWindow 5 = .ok (.aload_n 0, 1) := by decide +kernel
theorem dX4_badInWindow_6 : decode cX4_badInWindow 6 = .ok (.iload_n 1, 1) := by decide +kernel
theorem dX4_badInWindow_7 : decode cX4_badInWindow 7 = .ok (.invokevirtual 44, 3) := by decide +kernel
theorem dX4_badInWindow_10 : decode cX4_badInWindow 10 = .ok (.if_icmp .ge 22, 3) := by decide +kernel
theorem dX4_badInWindow_13 : decode cX4_badInWindow 13 = .ok (.iload_n 2, 1) := by decide +kernel
theorem dX4_badInWindow_14 : decode cX4_badInWindow 14 = .ok (.aload_n 0, 1) := by decide +kernel
theorem dX4_badInWindow_15 : decode cX4_badInWindow 15 = .ok (.iload_n 1, 1) := by decide +kernel
theorem dX4_badInWindow_16 : decode cX4_badInWindow 16 = .ok (.iconst 3, 1) := by decide +kernel
theorem dX4_badInWindow_17 : decode cX4_badInWindow 17 = .ok (.invokevirtual 40, 3) := by decide +kernel
theorem dX4_badInWindow_20 : decode cX4_badInWindow 20 = .ok (.iload_n 3, 1) := by decide +kernel
theorem dX4_badInWindow_21 : decode cX4_badInWindow 21 = .ok (.ishr, 1) := by decide +kernel
theorem dX4_badInWindow_22 : decode cX4_badInWindow 22 = .ok (.iconst 1, 1) := by decide +kernel
theorem dX4_badInWindow_23 : decode cX4_badInWindow 23 = .ok (.iand, 1) := by decide +kernel
theorem dX4_badInWindow_24 : decode cX4_badInWindow 24 = .ok (.iadd, 1) := by decide +kernel
theorem dX4_badInWindow_25 : decode cX4_badInWindow 25 = .ok (.istore_n 2, 1) := by decide +kernel
theorem dX4_badInWindow_26 : decode cX4_badInWindow 26 = .ok (.iinc 3 1, 3) := by decide +kernel
theorem dX4_badInWindow_29 : decode cX4_badInWindow 29 = .ok (.goto (-25), 3) := by decide +kernel
theorem dX4_badInWindow_32 : decode cX4_badInWindow 32 = .ok (.iload_n 2, 1) := by decide +kernel
theorem dX4_badInWindow_33 : decode cX4_badInWindow 33 = .ok (.ireturn, 1) := by decide +kernel
theorem dX4_cutsOff_0 : decode cX4_cutsOff 0 = .ok (.aload_n 0, 1) := by decide +kernel
theorem dX4_cutsOff_1 : decode cX4_cutsOff 1 = .ok (.iload_n 1, 1) := by decide +kernel
theorem dX4_cutsOff_2 : decode cX4_cutsOff 2 = .ok (.iconst 2, 1) := by decide +kernel
theorem dX4_cutsOff_3 : decode cX4_cutsOff 3 = .ok (.iconst 1, 1) := by decide +kernel
theorem dX4_cutsOff_4 : decode cX4_cutsOff 4 = .ok (.invokevirtual 29, 3) := by decide +kernel
theorem dX4_cutsOff_7 : decode cX4_cutsOff 7 = .ok (.aload_n 0, 1) := by decide +kernel
theorem dX4_cutsOff_8 : decode cX4_cutsOff 8 = .ok (.iload_n 1, 1) := by decide +kernel
theorem dX4_cutsOff_9 : decode cX4_cutsOff 9 = .ok (.iconst 3, 1) := by decide +kernel
theorem dX4_cutsOff_10 : decode cX4_cutsOff 10 = .ok (.iconst 0, 1) := by decide +kernel
theorem dX4_cutsOff_11 : decode cX4_cutsOff 11 = .ok (.invokevirtual 29, 3) := by decide +kernel
theorem dX4_cutsOff_14 : decode cX4_cutsOff 14 = .ok (.aload_n 0, 1) := by decide +kernel
theorem dX4_cutsOff_15 : decode cX4_cutsOff 15 = .ok (.iload_n 1, 1) := by decide +kernel
theorem dX4_cutsOff_16 : decode cX4_cutsOff 16 = .ok (.iconst 4, 1) := by decide +kernel
theorem dX4_cutsOff_17 : decode cX4_cutsOff 17 = .ok (.iconst 0, 1) := by decide +kernel
theorem dX4_cutsOff_18 : decode cX4_cutsOff 18 = .ok (.invokevirtual 29, 3) := by decide +kernel
theorem dX4_cutsOff_21 : decode cX4_cutsOff 21 = .ok (.aload_n 0, 1) := by decide +kernel
theorem dX4_cutsOff_22 : decode cX4_cutsOff 22 = .ok (.iload_n 1, 1) := by decide +kernel
theorem dX4_cutsOff_23 : decode cX4_cutsOff 23 = .ok (.iconst 5, 1) := by decide +kernel
theorem dX4_cutsOff_24 : decode cX4_cutsOff 24 = .ok (.iload_n 2, 1) := by decide +kernel
theorem dX4_cutsOff_25 : decode cX4_cutsOff 25 = .ok (.invokevirtual 29, 3) := by decide +kernel
theorem dX4_cutsOff_28 : decode cX4_cutsOff 28 = .ok (.aload_n 0, 1) := by decide +kernel
theorem dX4_cutsOff_29 : decode cX4_cutsOff 29 = .ok (.iload_n 1, 1) := by decide +kernel
theorem dX4_cutsOff_30 : decode cX4_cutsOff 30 = .ok (.bipush 6, 2) := by decide +kernel
theorem dX4_cutsOff_32 : decode cX4_cutsOff 32 = .ok (.iload_n 2, 1) := by decide +kernel
theorem dX4_cutsOff_33 : decode cX4_cutsOff 33 = .ok (.invokevirtual 29, 3) := by decide +kernel
theorem dX4_cutsOff_36 : decode cX4_cutsOff 36 = .ok (.aload_n 0, 1) := by decide +kernel
theorem dX4_cutsOff_37 : decode cX4_cutsOff 37 = .ok (.iload_n 1, 1) := by decide +kernel
theorem dX4_cutsOff_38 : decode cX4_cutsOff 38 = .ok (.bipush 10, 2) := by decide +kernel
theorem dX4_cutsOff_40 : decode cX4_cutsOff 40 = .ok (.invokevirtual 48, 3) := by decide +kernel
theorem dX4_cutsOff_43 : decode cX4_cutsOff 43 = .ok (.return_, 1) := by decide +kernel
theorem dX4_closes_0 : decode cX4_closes 0 = .ok (.aload_n 0, 1) := by decide +kernel
theorem dX4_closes_1 : decode cX4_closes 1 = .ok (.iload_n 1, 1) := by decide +kernel
theorem dX4_closes_2 : decode cX4_closes 2 = .ok (.iconst 2, 1) := by decide +kernel
theorem dX4_closes_3 : decode cX4_closes 3 = .ok (.iconst 0, 1) := by decide +kernel
theorem dX4_closes_4 : decode cX4_closes 4 = .ok (.invokevirtual 29, 3) := by decide +kernel
theorem dX4_closes_7 : decode cX4_closes 7 = .ok (.aload_n 0, 1) := by decide +kernel
theorem dX4_closes_8 : decode cX4_closes 8 = .ok (.iload_n 1, 1) := by decide +kernel
theorem dX4_closes_9 : decode cX4_closes 9 = .ok (.iconst 3, 1) := by decide +kernel
theorem dX4_closes_10 : decode cX4_closes 10 = .ok (.iconst 0, 1) := by decide +kernel
theorem dX4_closes_11 : decode cX4_closes 11 = .ok (.invokevirtual 29, 3) := by decide +kernel
theorem dX4_closes_14 : decode cX4_closes 14 = .ok (.aload_n 0, 1) := by decide +kernel
theorem dX4_closes_15 : decode cX4_closes 15 = .ok (.iload_n 1, 1) := by decide +kernel
theorem dX4_closes_16 : decode cX4_closes 16 = .ok (.iconst 4, 1) := by decide +kernel
theorem dX4_closes_17 : decode cX4_closes 17 = .ok (.iconst 0, 1) := by decide +kernel
theorem dX4_closes_18 : decode cX4_closes 18 = .ok (.invokevirtual 29, 3) := by decide +kernel
theorem dX4_closes_21 : decode cX4_closes 21 = .ok (.aload_n 0, 1) := by decide +kernel
theorem dX4_closes_22 : decode cX4_closes 22 = .ok (.iload_n 1, 1) := by decide +kernel
theorem dX4_closes_23 : decode cX4_closes 23 = .ok (.iconst 5, 1) := by decide +kernel
theorem dX4_closes_24 : decode cX4_closes 24 = .ok (.iconst 0, 1) := by decide +kernel
theorem dX4_closes_25 : decode cX4_closes 25 = .ok (.invokevirtual 29, 3) := by decide +kernel
theorem dX4_closes_28 : decode cX4_closes 28 = .ok (.aload_n 0, 1) := by decide +kernel
theorem dX4_closes_29 : decode cX4_closes 29 = .ok (.iload_n 1, 1) := by decide +kernel
theorem dX4_closes_30 : decode cX4_closes 30 = .ok (.bipush 6, 2) := by decide +kernel
theorem dX4_closes_32 : decode cX4_closes 32 = .ok (.iconst 0, 1) := by decide +kernel
theorem dX4_closes_33 : decode cX4_closes 33 = .ok (.invokevirtual 29, 3) := by decide +kernel
theorem dX4_closes_36 : decode cX4_closes 36 = .ok (.aload_n 0, 1) := by decide +kernel
theorem dX4_closes_37 : decode cX4_closes 37 = .ok (.iload_n 1, 1) := by decide +kernel
theorem dX4_closes_38 : decode cX4_closes 38 = .ok (.bipush 11, 2) := by decide +kernel
theorem dX4_closes_40 : decode cX4_closes 40 = .ok (.invokevirtual 48, 3) := by decide +kernel
theorem dX4_closes_43 : decode cX4_closes 43 = .ok (.return_, 1) := by decide +kernel
theorem dX4_comesOut_0 : decode cX4_comesOut 0 = .ok (.iload_n 2, 1) := by decide +kernel
theorem dX4_comesOut_1 : decode cX4_comesOut 1 = .ok (.ifCond .eq 13, 3) := by decide +kernel
theorem dX4_comesOut_4 : decode cX4_comesOut 4 = .ok (.iload_n 2, 1) := by decide +kernel
theorem dX4_comesOut_5 : decode cX4_comesOut 5 = .ok (.aload_n 0, 1) := by decide +kernel
theorem dX4_comesOut_6 : decode cX4_comesOut 6 = .ok (.getfield 7, 3) := by decide +kernel
theorem dX4_comesOut_9 : decode cX4_comesOut 9 = .ok (.iconst 0, 1) := by decide +kernel
theorem dX4_comesOut_10 : decode cX4_comesOut 10 = .ok (.iaload, 1) := by decide +kernel
theorem dX4_comesOut_11 : decode cX4_comesOut 11 = .ok (.if_icmp .le 7, 3) := by decide +kernel
theorem dX4_comesOut_14 : decode cX4_comesOut 14 = .ok (.iconst 1, 1) := by decide +kernel
theorem dX4_comesOut_15 : decode cX4_comesOut 15 = .ok (.goto 4, 3) := by decide +kernel
theorem dX4_comesOut_18 : decode cX4_comesOut 18 = .ok (.iconst 0, 1) := by decide +kernel
theorem dX4_comesOut_19 : decode cX4_comesOut 19 = .ok (.istore 5, 2) := by decide +kernel
theorem dX4_comesOut_21 : decode cX4_comesOut 21 = .ok (.aload_n 0, 1) := by decide +kernel
theorem dX4_comesOut_22 : decode cX4_comesOut 22 = .ok (.getfield 7, 3) := by decide +kernel
theorem dX4_comesOut_25 : decode cX4_comesOut 25 = .ok (.bipush 6, 2) := by decide +kernel
theorem dX4_comesOut_27 : decode cX4_comesOut 27 = .ok (.dup2, 1) := by decide +kernel
theorem dX4_comesOut_28 : decode cX4_comesOut 28 = .ok (.iaload, 1) := by decide +kernel
theorem dX4_comesOut_29 : decode cX4_comesOut 29 = .ok (.iload 5, 2) := by decide +kernel
theorem dX4_comesOut_31 : decode cX4_comesOut 31 = .ok (.ifCond .eq 7, 3) := by decide +kernel
theorem dX4_comesOut_34 : decode cX4_comesOut 34 = .ok (.iconst 1, 1) := by decide +kernel
theorem dX4_comesOut_35 : decode cX4_comesOut 35 = .ok (.goto 4, 3) := by decide +kernel
theorem dX4_comesOut_38 : decode cX4_comesOut 38 = .ok (.iconst 0, 1) := by decide +kernel
theorem dX4_comesOut_39 : decode cX4_comesOut 39 = .ok (.iadd, 1) := by decide +kernel
theorem dX4_comesOut_40 : decode cX4_comesOut 40 = .ok (.iastore, 1) := by decide +kernel
theorem dX4_comesOut_41 : decode cX4_comesOut 41 = .ok (.aload_n 0, 1) := by decide +kernel
theorem dX4_comesOut_42 : decode cX4_comesOut 42 = .ok (.getfield 7, 3) := by decide +kernel
theorem dX4_comesOut_45 : decode cX4_comesOut 45 = .ok (.bipush 7, 2) := by decide +kernel
theorem dX4_comesOut_47 : decode cX4_comesOut 47 = .ok (.dup2, 1) := by decide +kernel
theorem dX4_comesOut_48 : decode cX4_comesOut 48 = .ok (.iaload, 1) := by decide +kernel
theorem dX4_comesOut_49 : decode cX4_comesOut 49 = .ok (.iload 5, 2) := by decide +kernel
theorem dX4_comesOut_51 : decode cX4_comesOut 51 = .ok (.ifCond .eq 7, 3) := by decide +kernel
theorem dX4_comesOut_54 : decode cX4_comesOut 54 = .ok (.iconst 0, 1) := by decide +kernel
theorem dX4_comesOut_55 : decode cX4_comesOut 55 = .ok (.goto 4, 3) := by decide +kernel
theorem dX4_comesOut_58 : decode cX4_comesOut 58 = .ok (.iconst 1, 1) := by decide +kernel
theorem dX4_comesOut_59 : decode cX4_comesOut 59 = .ok (.iadd, 1) := by decide +kernel
theorem dX4_comesOut_60 : decode cX4_comesOut 60 = .ok (.iastore, 1) := by decide +kernel
theorem dX4_comesOut_61 : decode cX4_comesOut 61 = .ok (.aload_n 0, 1) := by decide +kernel
theorem dX4_comesOut_62 : decode cX4_comesOut 62 = .ok (.iload_n 1, 1) := by decide +kernel
theorem dX4_comesOut_63 : decode cX4_comesOut 63 = .ok (.bipush 9, 2) := by decide +kernel
theorem dX4_comesOut_65 : decode cX4_comesOut 65 = .ok (.aload_n 0, 1) := by decide +kernel
theorem dX4_comesOut_66 : decode cX4_comesOut 66 = .ok (.iload_n 1, 1) := by decide +kernel
theorem dX4_comesOut_67 : decode cX4_comesOut 67 = .ok (.bipush 9, 2) := by decide +kernel
theorem dX4_comesOut_69 : decode cX4_comesOut 69 = .ok (.invokevirtual 40, 3) := by decide +kernel
theorem dX4_comesOut_72 : decode cX4_comesOut 72 = .ok (.iload 5, 2) := by decide +kernel
theorem dX4_comesOut_74 : decode cX4_comesOut 74 = .ok (.ifCond .eq 7, 3) := by decide +kernel
theorem dX4_comesOut_77 : decode cX4_comesOut 77 = .ok (.iconst 1, 1) := by decide +kernel
theorem dX4_comesOut_78 : decode cX4_comesOut 78 = .ok (.goto 4, 3) := by decide +kernel
theorem dX4_comesOut_81 : decode cX4_comesOut 81 = .ok (.iconst 0, 1) := by decide +kernel
theorem dX4_comesOut_82 : decode cX4_comesOut 82 = .ok (.iadd, 1) := by decide +kernel
theorem dX4_comesOut_83 : decode cX4_comesOut 83 = .ok (.invokevirtual 29, 3) := by decide +kernel
theorem dX4_comesOut_86 : decode cX4_comesOut 86 = .ok (.iload_n 3, 1) := by decide +kernel
theorem dX4_comesOut_87 : decode cX4_comesOut 87 = .ok (.ifCond .eq 49, 3) := by decide +kernel
theorem dX4_comesOut_90 : decode cX4_comesOut 90 = .ok (.iload 5, 2) := by decide +kernel
theorem dX4_comesOut_92 : decode cX4_comesOut 92 = .ok (.ifCond .eq 44, 3) := by decide +kernel
theorem dX4_comesOut_95 : decode cX4_comesOut 95 = .ok (.iconst 2, 1) := by decide +kernel
theorem dX4_comesOut_96 : decode cX4_comesOut 96 = .ok (.aload_n 0, 1) := by decide +kernel
theorem dX4_comesOut_97 : decode cX4_comesOut 97 = .ok (.iload_n 1, 1) := by decide +kernel
theorem dX4_comesOut_98 : decode cX4_comesOut 98 = .ok (.bipush 6, 2) := by decide +kernel
theorem dX4_comesOut_100 : decode cX4_comesOut 100 = .ok (.invokevirtual 40, 3) := by decide +kernel
theorem dX4_comesOut_103 : decode cX4_comesOut 103 = .ok (.imul, 1) := by decide +kernel
theorem dX4_comesOut_104 : decode cX4_comesOut 104 = .ok (.istore 6, 2) := by decide +kernel
theorem dX4_comesOut_106 : decode cX4_comesOut 106 = .ok (.aload_n 0, 1) := by decide +kernel
theorem dX4_comesOut_107 : decode cX4_comesOut 107 = .ok (.iload_n 1, 1) := by decide +kernel
theorem dX4_comesOut_108 : decode cX4_comesOut 108 = .ok (.iload 6, 2) := by decide +kernel
theorem dX4_comesOut_110 : decode cX4_comesOut 110 = .ok (.aload_n 0, 1) := by decide +kernel
theorem dX4_comesOut_111 : decode cX4_comesOut 111 = .ok (.getfield 7, 3) := by decide +kernel
theorem dX4_comesOut_114 : decode cX4_comesOut 114 = .ok (.iconst 4, 1) := by decide +kernel
theorem dX4_comesOut_115 : decode cX4_comesOut 115 = .ok (.iaload, 1) := by decide +kernel
theorem dX4_comesOut_116 : decode cX4_comesOut 116 = .ok (.if_icmp .ge 8, 3) := by decide +kernel
theorem dX4_comesOut_119 : decode cX4_comesOut 119 = .ok (.iload 6, 2) := by decide +kernel
theorem dX4_comesOut_121 : decode cX4_comesOut 121 = .ok (.goto 9, 3) := by decide +kernel
theorem dX4_comesOut_124 : decode cX4_comesOut 124 = .ok (.aload_n 0, 1) := by decide +kernel
theorem dX4_comesOut_125 : decode cX4_comesOut 125 = .ok (.getfield 7, 3) := by decide +kernel
theorem dX4_comesOut_128 : decode cX4_comesOut 128 = .ok (.iconst 4, 1) := by decide +kernel
theorem dX4_comesOut_129 : decode cX4_comesOut 129 = .ok (.iaload, 1) := by decide +kernel
theorem dX4_comesOut_130 : decode cX4_comesOut 130 = .ok (.invokevirtual 52, 3) := by decide +kernel
theorem dX4_comesOut_133 : decode cX4_comesOut 133 = .ok (.goto 133, 3) := by decide +kernel
theorem dX4_comesOut_136 : decode cX4_comesOut 136 = .ok (.iload_n 3, 1) := by decide +kernel
theorem dX4_comesOut_137 : decode cX4_comesOut 137 = .ok (.ifCond .eq 11, 3) := by decide +kernel
theorem dX4_comesOut_140 : decode cX4_comesOut 140 = .ok (.aload_n 0, 1) := by decide +kernel
theorem dX4_comesOut_141 : decode cX4_comesOut 141 = .ok (.iload_n 1, 1) := by decide +kernel
theorem dX4_comesOut_142 : decode cX4_comesOut 142 = .ok (.invokevirtual 55, 3) := by decide +kernel
theorem dX4_comesOut_145 : decode cX4_comesOut 145 = .ok (.goto 121, 3) := by decide +kernel
theorem dX4_comesOut_148 : decode cX4_comesOut 148 = .ok (.aload_n 0, 1) := by decide +kernel
theorem dX4_comesOut_149 : decode cX4_comesOut 149 = .ok (.iload_n 1, 1) := by decide +kernel
theorem dX4_comesOut_150 : decode cX4_comesOut 150 = .ok (.iconst 2, 1) := by decide +kernel
theorem dX4_comesOut_151 : decode cX4_comesOut 151 = .ok (.invokevirtual 40, 3) := by decide +kernel
theorem dX4_comesOut_154 : decode cX4_comesOut 154 = .ok (.ifCond .ne 112, 3) := by decide +kernel
theorem dX4_comesOut_157 : decode cX4_comesOut 157 = .ok (.aload_n 0, 1) := by decide +kernel
theorem dX4_comesOut_158 : decode cX4_comesOut 158 = .ok (.iload_n 1, 1) := by decide +kernel
theorem dX4_comesOut_159 : decode cX4_comesOut 159 = .ok (.bipush 11, 2) := by decide +kernel
theorem dX4_comesOut_161 : decode cX4_comesOut 161 = .ok (.invokevirtual 40, 3) := by decide +kernel
theorem dX4_comesOut_164 : decode cX4_comesOut 164 = .ok (.iload 4, 2) := by decide +kernel
theorem dX4_comesOut_166 : decode cX4_comesOut 166 = .ok (.if_icmp .ne 100, 3) := by decide +kernel
theorem dX4_comesOut_169 : decode cX4_comesOut 169 = .ok (.aload_n 0, 1) := by decide +kernel
theorem dX4_comesOut_170 : decode cX4_comesOut 170 = .ok (.iload_n 1, 1) := by decide +kernel
theorem dX4_comesOut_171 : decode cX4_comesOut 171 = .ok (.iconst 3, 1) := by decide +kernel
theorem dX4_comesOut_172 : decode cX4_comesOut 172 = .ok (.aload_n 0, 1) := by decide +kernel
theorem dX4_comesOut_173 : decode cX4_comesOut 173 = .ok (.iload_n 1, 1) := by decide +kernel
theorem dX4_comesOut_174 : decode cX4_comesOut 174 = .ok (.iconst 3, 1) := by decide +kernel
theorem dX4_comesOut_175 : decode cX4_comesOut 175 = .ok (.invokevirtual 40, 3) := by decide +kernel
theorem dX4_comesOut_178 : decode cX4_comesOut 178 = .ok (.iconst 1, 1) := by decide +kernel
theorem dX4_comesOut_179 : decode cX4_comesOut 179 = .ok (.ishl, 1) := by decide +kernel
theorem dX4_comesOut_180 : decode cX4_comesOut 180 = .ok (.iload 5, 2) := by decide +kernel
theorem dX4_comesOut_182 : decode cX4_comesOut 182 = .ok (.ifCond .eq 7, 3) := by decide +kernel
theorem dX4_comesOut_185 : decode cX4_comesOut 185 = .ok (.iconst 1, 1) := by decide +kernel
theorem dX4_comesOut_186 : decode cX4_comesOut 186 = .ok (.goto 4, 3) := by decide +kernel
theorem dX4_comesOut_189 : decode cX4_comesOut 189 = .ok (.iconst 0, 1) := by decide +kernel
theorem dX4_comesOut_190 : decode cX4_comesOut 190 = .ok (.ior, 1) := by decide +kernel
theorem dX4_comesOut_191 : decode cX4_comesOut 191 = .ok (.ldc 59, 2) := by decide +kernel
theorem dX4_comesOut_193 : decode cX4_comesOut 193 = .ok (.iand, 1) := by decide +kernel
theorem dX4_comesOut_194 : decode cX4_comesOut 194 = .ok (.invokevirtual 29, 3) := by decide +kernel
theorem dX4_comesOut_197 : decode cX4_comesOut 197 = .ok (.aload_n 0, 1) := by decide +kernel
theorem dX4_comesOut_198 : decode cX4_comesOut 198 = .ok (.iload_n 1, 1) := by decide +kernel
theorem dX4_comesOut_199 : decode cX4_comesOut 199 = .ok (.iconst 4, 1) := by decide +kernel
theorem dX4_comesOut_200 : decode cX4_comesOut 200 = .ok (.aload_n 0, 1) := by decide +kernel
theorem dX4_comesOut_201 : decode cX4_comesOut 201 = .ok (.iload_n 1, 1) := by decide +kernel
theorem dX4_comesOut_202 : decode cX4_comesOut 202 = .ok (.iconst 4, 1) := by decide +kernel
theorem dX4_comesOut_203 : decode cX4_comesOut 203 = .ok (.invokevirtual 40, 3) := by decide +kernel
theorem dX4_comesOut_206 : decode cX4_comesOut 206 = .ok (.bipush 16, 2) := by decide +kernel
theorem dX4_comesOut_208 : decode cX4_comesOut 208 = .ok (.if_icmp .ge 14, 3) := by decide +kernel
theorem dX4_comesOut_211 : decode cX4_comesOut 211 = .ok (.aload_n 0, 1) := by decide +kernel
theorem dX4_comesOut_212 : decode cX4_comesOut 212 = .ok (.iload_n 1, 1) := by decide +kernel
theorem dX4_comesOut_213 : decode cX4_comesOut 213 = .ok (.iconst 4, 1) := by decide +kernel
theorem dX4_comesOut_214 : decode cX4_comesOut 214 = .ok (.invokevirtual 40, 3) := by decide +kernel
theorem dX4_comesOut_217 : decode cX4_comesOut 217 = .ok (.iconst 1, 1) := by decide +kernel
theorem dX4_comesOut_218 : decode cX4_comesOut 218 = .ok (.iadd, 1) := by decide +kernel
theorem dX4_comesOut_219 : decode cX4_comesOut 219 = .ok (.goto 5, 3) := by decide +kernel
theorem dX4_comesOut_222 : decode cX4_comesOut 222 = .ok (.bipush 16, 2) := by decide +kernel
theorem dX4_comesOut_224 : decode cX4_comesOut 224 = .ok (.invokevirtual 29, 3) := by decide +kernel
theorem dX4_comesOut_227 : decode cX4_comesOut 227 = .ok (.aload_n 0, 1) := by decide +kernel
theorem dX4_comesOut_228 : decode cX4_comesOut 228 = .ok (.iload_n 1, 1) := by decide +kernel
theorem dX4_comesOut_229 : decode cX4_comesOut 229 = .ok (.invokevirtual 44, 3) := by decide +kernel
theorem dX4_comesOut_232 : decode cX4_comesOut 232 = .ok (.aload_n 0, 1) := by decide +kernel
theorem dX4_comesOut_233 : decode cX4_comesOut 233 = .ok (.getfield 7, 3) := by decide +kernel
theorem dX4_comesOut_236 : decode cX4_comesOut 236 = .ok (.iconst 1, 1) := by decide +kernel
theorem dX4_comesOut_237 : decode cX4_comesOut 237 = .ok (.iaload, 1) := by decide +kernel
theorem dX4_comesOut_238 : decode cX4_comesOut 238 = .ok (.if_icmp .ne 28, 3) := by decide +kernel
theorem dX4_comesOut_241 : decode cX4_comesOut 241 = .ok (.aload_n 0, 1) := by decide +kernel
theorem dX4_comesOut_242 : decode cX4_comesOut 242 = .ok (.iload_n 1, 1) := by decide +kernel
theorem dX4_comesOut_243 : decode cX4_comesOut 243 = .ok (.invokevirtual 60, 3) := by decide +kernel
theorem dX4_comesOut_246 : decode cX4_comesOut 246 = .ok (.aload_n 0, 1) := by decide +kernel
theorem dX4_comesOut_247 : decode cX4_comesOut 247 = .ok (.getfield 7, 3) := by decide +kernel
theorem dX4_comesOut_250 : decode cX4_comesOut 250 = .ok (.iconst 2, 1) := by decide +kernel
theorem dX4_comesOut_251 : decode cX4_comesOut 251 = .ok (.iaload, 1) := by decide +kernel
theorem dX4_comesOut_252 : decode cX4_comesOut 252 = .ok (.if_icmp .lt 14, 3) := by decide +kernel
theorem dX4_comesOut_255 : decode cX4_comesOut 255 = .ok (.aload_n 0, 1) := by decide +kernel
theorem dX4_comesOut_256 : decode cX4_comesOut 256 = .ok (.iload_n 1, 1) := by decide +kernel
theorem dX4_comesOut_257 : decode cX4_comesOut 257 = .ok (.aload_n 0, 1) := by decide +kernel
theorem dX4_comesOut_258 : decode cX4_comesOut 258 = .ok (.getfield 7, 3) := by decide +kernel
theorem dX4_comesOut_261 : decode cX4_comesOut 261 = .ok (.iconst 3, 1) := by decide +kernel
theorem dX4_comesOut_262 : decode cX4_comesOut 262 = .ok (.iaload, 1) := by decide +kernel
theorem dX4_comesOut_263 : decode cX4_comesOut 263 = .ok (.invokevirtual 52, 3) := by decide +kernel
theorem dX4_comesOut_266 : decode cX4_comesOut 266 = .ok (.return_, 1) := by decide +kernel
theorem dX4_hasTrial_0 : decode cX4_hasTrial 0 = .ok (.iconst 0, 1) := by decide +kernel
theorem dX4_hasTrial_1 : decode cX4_hasTrial 1 = .ok (.istore_n 2, 1) := by decide +kernel
theorem dX4_hasTrial_2 : decode cX4_hasTrial 2 = .ok (.iconst 0, 1) := by decide +kernel
theorem dX4_hasTrial_3 : decode cX4_hasTrial 3 = .ok (.istore_n 3, 1) := by decide +kernel
theorem dX4_hasTrial_4 : decode cX4_hasTrial 4 = .ok (.iload_n 3, 1) := by decide +kernel
theorem dX4_hasTrial_5 : decode cX4_hasTrial 5 = .ok (.aload_n 0, 1) := by decide +kernel
theorem dX4_hasTrial_6 : decode cX4_hasTrial 6 = .ok (.getfield 7, 3) := by decide +kernel
theorem dX4_hasTrial_9 : decode cX4_hasTrial 9 = .ok (.bipush 9, 2) := by decide +kernel
theorem dX4_hasTrial_11 : decode cX4_hasTrial 11 = .ok (.iaload, 1) := by decide +kernel
theorem dX4_hasTrial_12 : decode cX4_hasTrial 12 = .ok (.if_icmp .ge 39, 3) := by decide +kernel
theorem dX4_hasTrial_15 : decode cX4_hasTrial 15 = .ok (.iload_n 2, 1) := by decide +kernel
theorem dX4_hasTrial_16 : decode cX4_hasTrial 16 = .ok (.ifCond .ne 23, 3) := by decide +kernel
theorem dX4_hasTrial_19 : decode cX4_hasTrial 19 = .ok (.aload_n 0, 1) := by decide +kernel
theorem dX4_hasTrial_20 : decode cX4_hasTrial 20 = .ok (.iload_n 3, 1) := by decide +kernel
theorem dX4_hasTrial_21 : decode cX4_hasTrial 21 = .ok (.iconst 0, 1) := by decide +kernel
theorem dX4_hasTrial_22 : decode cX4_hasTrial 22 = .ok (.invokevirtual 63, 3) := by decide +kernel
theorem dX4_hasTrial_25 : decode cX4_hasTrial 25 = .ok (.iload_n 1, 1) := by decide +kernel
theorem dX4_hasTrial_26 : decode cX4_hasTrial 26 = .ok (.if_icmp .ne 17, 3) := by decide +kernel
theorem dX4_hasTrial_29 : decode cX4_hasTrial 29 = .ok (.aload_n 0, 1) := by decide +kernel
theorem dX4_hasTrial_30 : decode cX4_hasTrial 30 = .ok (.iload_n 3, 1) := by decide +kernel
theorem dX4_hasTrial_31 : decode cX4_hasTrial 31 = .ok (.iconst 3, 1) := by decide +kernel
theorem dX4_hasTrial_32 : decode cX4_hasTrial 32 = .ok (.invokevirtual 63, 3) := by decide +kernel
theorem dX4_hasTrial_35 : decode cX4_hasTrial 35 = .ok (.iconst 1, 1) := by decide +kernel
theorem dX4_hasTrial_36 : decode cX4_hasTrial 36 = .ok (.if_icmp .ne 7, 3) := by decide +kernel
theorem dX4_hasTrial_39 : decode cX4_hasTrial 39 = .ok (.iconst 1, 1) := by decide +kernel
theorem dX4_hasTrial_40 : decode cX4_hasTrial 40 = .ok (.goto 4, 3) := by decide +kernel
theorem dX4_hasTrial_43 : decode cX4_hasTrial 43 = .ok (.iconst 0, 1) := by decide +kernel
theorem dX4_hasTrial_44 : decode cX4_hasTrial 44 = .ok (.istore_n 2, 1) := by decide +kernel
theorem dX4_hasTrial_45 : decode cX4_hasTrial 45 = .ok (.iinc 3 1, 3) := by decide +kernel
theorem dX4_hasTrial_48 : decode cX4_hasTrial 48 = .ok (.goto (-44), 3) := by decide +kernel
theorem dX4_hasTrial_51 : decode cX4_hasTrial 51 = .ok (.iload_n 2, 1) := by decide +kernel
theorem dX4_hasTrial_52 : decode cX4_hasTrial 52 = .ok (.ireturn, 1) := by decide +kernel
theorem dX4_isRefused_0 : decode cX4_isRefused 0 = .ok (.aload_n 0, 1) := by decide +kernel
theorem dX4_isRefused_1 : decode cX4_isRefused 1 = .ok (.iload_n 1, 1) := by decide +kernel
theorem dX4_isRefused_2 : decode cX4_isRefused 2 = .ok (.iconst 2, 1) := by decide +kernel
theorem dX4_isRefused_3 : decode cX4_isRefused 3 = .ok (.invokevirtual 40, 3) := by decide +kernel
theorem dX4_isRefused_6 : decode cX4_isRefused 6 = .ok (.iconst 1, 1) := by decide +kernel
theorem dX4_isRefused_7 : decode cX4_isRefused 7 = .ok (.if_icmp .eq 21, 3) := by decide +kernel
theorem dX4_isRefused_10 : decode cX4_isRefused 10 = .ok (.aload_n 0, 1) := by decide +kernel
theorem dX4_isRefused_11 : decode cX4_isRefused 11 = .ok (.iload_n 1, 1) := by decide +kernel
theorem dX4_isRefused_12 : decode cX4_isRefused 12 = .ok (.iconst 2, 1) := by decide +kernel
theorem dX4_isRefused_13 : decode cX4_isRefused 13 = .ok (.invokevirtual 40, 3) := by decide +kernel
theorem dX4_isRefused_16 : decode cX4_isRefused 16 = .ok (.iconst 2, 1) := by decide +kernel
theorem dX4_isRefused_17 : decode cX4_isRefused 17 = .ok (.if_icmp .ne 15, 3) := by decide +kernel
theorem dX4_isRefused_20 : decode cX4_isRefused 20 = .ok (.aload_n 0, 1) := by decide +kernel
theorem dX4_isRefused_21 : decode cX4_isRefused 21 = .ok (.iload_n 1, 1) := by decide +kernel
theorem dX4_isRefused_22 : decode cX4_isRefused 22 = .ok (.invokevirtual 66, 3) := by decide +kernel
theorem dX4_isRefused_25 : decode cX4_isRefused 25 = .ok (.ifCond .eq 7, 3) := by decide +kernel
theorem dX4_isRefused_28 : decode cX4_isRefused 28 = .ok (.iconst 1, 1) := by decide +kernel
theorem dX4_isRefused_29 : decode cX4_isRefused 29 = .ok (.goto 4, 3) := by decide +kernel
theorem dX4_isRefused_32 : decode cX4_isRefused 32 = .ok (.iconst 0, 1) := by decide +kernel
theorem dX4_isRefused_33 : decode cX4_isRefused 33 = .ok (.ireturn, 1) := by decide +kernel
theorem dX4_calls_0 : decode cX4_calls 0 = .ok (.aload_n 0, 1) := by decide +kernel
theorem dX4_calls_1 : decode cX4_calls 1 = .ok (.iload_n 1, 1) := by decide +kernel
theorem dX4_calls_2 : decode cX4_calls 2 = .ok (.invokevirtual 70, 3) := by decide +kernel
theorem dX4_calls_5 : decode cX4_calls 5 = .ok (.ifCond .eq 12, 3) := by decide +kernel
theorem dX4_calls_8 : decode cX4_calls 8 = .ok (.aload_n 0, 1) := by decide +kernel
theorem dX4_calls_9 : decode cX4_calls 9 = .ok (.iload_n 1, 1) := by decide +kernel
theorem dX4_calls_10 : decode cX4_calls 10 = .ok (.bipush 8, 2) := by decide +kernel
theorem dX4_calls_12 : decode cX4_calls 12 = .ok (.invokevirtual 48, 3) := by decide +kernel
theorem dX4_calls_15 : decode cX4_calls 15 = .ok (.iconst 0, 1) := by decide +kernel
theorem dX4_calls_16 : decode cX4_calls 16 = .ok (.ireturn, 1) := by decide +kernel
theorem dX4_calls_17 : decode cX4_calls 17 = .ok (.aload_n 0, 1) := by decide +kernel
theorem dX4_calls_18 : decode cX4_calls 18 = .ok (.iload_n 1, 1) := by decide +kernel
theorem dX4_calls_19 : decode cX4_calls 19 = .ok (.iconst 2, 1) := by decide +kernel
theorem dX4_calls_20 : decode cX4_calls 20 = .ok (.invokevirtual 40, 3) := by decide +kernel
theorem dX4_calls_23 : decode cX4_calls 23 = .ok (.iconst 2, 1) := by decide +kernel
theorem dX4_calls_24 : decode cX4_calls 24 = .ok (.if_icmp .ne 7, 3) := by decide +kernel
theorem dX4_calls_27 : decode cX4_calls 27 = .ok (.iconst 1, 1) := by decide +kernel
theorem dX4_calls_28 : decode cX4_calls 28 = .ok (.goto 4, 3) := by decide +kernel
theorem dX4_calls_31 : decode cX4_calls 31 = .ok (.iconst 0, 1) := by decide +kernel
theorem dX4_calls_32 : decode cX4_calls 32 = .ok (.istore_n 2, 1) := by decide +kernel
theorem dX4_calls_33 : decode cX4_calls 33 = .ok (.aload_n 0, 1) := by decide +kernel
theorem dX4_calls_34 : decode cX4_calls 34 = .ok (.iload_n 1, 1) := by decide +kernel
theorem dX4_calls_35 : decode cX4_calls 35 = .ok (.bipush 12, 2) := by decide +kernel
theorem dX4_calls_37 : decode cX4_calls 37 = .ok (.aload_n 0, 1) := by decide +kernel
theorem dX4_calls_38 : decode cX4_calls 38 = .ok (.iload_n 1, 1) := by decide +kernel
theorem dX4_calls_39 : decode cX4_calls 39 = .ok (.iconst 1, 1) := by decide +kernel
theorem dX4_calls_40 : decode cX4_calls 40 = .ok (.invokevirtual 40, 3) := by decide +kernel
theorem dX4_calls_43 : decode cX4_calls 43 = .ok (.iadd, 1) := by decide +kernel
theorem dX4_calls_44 : decode cX4_calls 44 = .ok (.invokevirtual 40, 3) := by decide +kernel
theorem dX4_calls_47 : decode cX4_calls 47 = .ok (.istore_n 3, 1) := by decide +kernel
theorem dX4_calls_48 : decode cX4_calls 48 = .ok (.aload_n 0, 1) := by decide +kernel
theorem dX4_calls_49 : decode cX4_calls 49 = .ok (.iload_n 1, 1) := by decide +kernel
theorem dX4_calls_50 : decode cX4_calls 50 = .ok (.iconst 1, 1) := by decide +kernel
theorem dX4_calls_51 : decode cX4_calls 51 = .ok (.aload_n 0, 1) := by decide +kernel
theorem dX4_calls_52 : decode cX4_calls 52 = .ok (.iload_n 1, 1) := by decide +kernel
theorem dX4_calls_53 : decode cX4_calls 53 = .ok (.iconst 1, 1) := by decide +kernel
theorem dX4_calls_54 : decode cX4_calls 54 = .ok (.invokevirtual 40, 3) := by decide +kernel
theorem dX4_calls_57 : decode cX4_calls 57 = .ok (.iconst 1, 1) := by decide +kernel
theorem dX4_calls_58 : decode cX4_calls 58 = .ok (.iadd, 1) := by decide +kernel
theorem dX4_calls_59 : decode cX4_calls 59 = .ok (.aload_n 0, 1) := by decide +kernel
theorem dX4_calls_60 : decode cX4_calls 60 = .ok (.iload_n 1, 1) := by decide +kernel
theorem dX4_calls_61 : decode cX4_calls 61 = .ok (.iconst 0, 1) := by decide +kernel
theorem dX4_calls_62 : decode cX4_calls 62 = .ok (.invokevirtual 40, 3) := by decide +kernel
theorem dX4_calls_65 : decode cX4_calls 65 = .ok (.irem, 1) := by decide +kernel
theorem dX4_calls_66 : decode cX4_calls 66 = .ok (.invokevirtual 29, 3) := by decide +kernel
theorem dX4_calls_69 : decode cX4_calls 69 = .ok (.aload_n 0, 1) := by decide +kernel
theorem dX4_calls_70 : decode cX4_calls 70 = .ok (.iload_n 1, 1) := by decide +kernel
theorem dX4_calls_71 : decode cX4_calls 71 = .ok (.bipush 7, 2) := by decide +kernel
theorem dX4_calls_73 : decode cX4_calls 73 = .ok (.invokevirtual 48, 3) := by decide +kernel
theorem dX4_calls_76 : decode cX4_calls 76 = .ok (.aload_n 0, 1) := by decide +kernel
theorem dX4_calls_77 : decode cX4_calls 77 = .ok (.getfield 7, 3) := by decide +kernel
theorem dX4_calls_80 : decode cX4_calls 80 = .ok (.bipush 8, 2) := by decide +kernel
theorem dX4_calls_82 : decode cX4_calls 82 = .ok (.dup2, 1) := by decide +kernel
theorem dX4_calls_83 : decode cX4_calls 83 = .ok (.iaload, 1) := by decide +kernel
theorem dX4_calls_84 : decode cX4_calls 84 = .ok (.iload_n 2, 1) := by decide +kernel
theorem dX4_calls_85 : decode cX4_calls 85 = .ok (.ifCond .eq 7, 3) := by decide +kernel
theorem dX4_calls_88 : decode cX4_calls 88 = .ok (.iconst 1, 1) := by decide +kernel
theorem dX4_calls_89 : decode cX4_calls 89 = .ok (.goto 4, 3) := by decide +kernel
theorem dX4_calls_92 : decode cX4_calls 92 = .ok (.iconst 0, 1) := by decide +kernel
theorem dX4_calls_93 : decode cX4_calls 93 = .ok (.iadd, 1) := by decide +kernel
theorem dX4_calls_94 : decode cX4_calls 94 = .ok (.iastore, 1) := by decide +kernel
theorem dX4_calls_95 : decode cX4_calls 95 = .ok (.iload_n 3, 1) := by decide +kernel
theorem dX4_calls_96 : decode cX4_calls 96 = .ok (.ifCond .ne 20, 3) := by decide +kernel
theorem dX4_calls_99 : decode cX4_calls 99 = .ok (.aload_n 0, 1) := by decide +kernel
theorem dX4_calls_100 : decode cX4_calls 100 = .ok (.iload_n 1, 1) := by decide +kernel
theorem dX4_calls_101 : decode cX4_calls 101 = .ok (.iconst 0, 1) := by decide +kernel
theorem dX4_calls_102 : decode cX4_calls 102 = .ok (.iload_n 2, 1) := by decide +kernel
theorem dX4_calls_103 : decode cX4_calls 103 = .ok (.aload_n 0, 1) := by decide +kernel
theorem dX4_calls_104 : decode cX4_calls 104 = .ok (.iload_n 1, 1) := by decide +kernel
theorem dX4_calls_105 : decode cX4_calls 105 = .ok (.bipush 11, 2) := by decide +kernel
theorem dX4_calls_107 : decode cX4_calls 107 = .ok (.invokevirtual 40, 3) := by decide +kernel
theorem dX4_calls_110 : decode cX4_calls 110 = .ok (.invokevirtual 73, 3) := by decide +kernel
theorem dX4_calls_113 : decode cX4_calls 113 = .ok (.goto 92, 3) := by decide +kernel
theorem dX4_calls_116 : decode cX4_calls 116 = .ok (.bipush 10, 2) := by decide +kernel
theorem dX4_calls_118 : decode cX4_calls 118 = .ok (.iconst 5, 1) := by decide +kernel
theorem dX4_calls_119 : decode cX4_calls 119 = .ok (.aload_n 0, 1) := by decide +kernel
theorem dX4_calls_120 : decode cX4_calls 120 = .ok (.getfield 7, 3) := by decide +kernel
theorem dX4_calls_123 : decode cX4_calls 123 = .ok (.bipush 9, 2) := by decide +kernel
theorem dX4_calls_125 : decode cX4_calls 125 = .ok (.iaload, 1) := by decide +kernel
theorem dX4_calls_126 : decode cX4_calls 126 = .ok (.imul, 1) := by decide +kernel
theorem dX4_calls_127 : decode cX4_calls 127 = .ok (.iadd, 1) := by decide +kernel
theorem dX4_calls_128 : decode cX4_calls 128 = .ok (.istore 4, 2) := by decide +kernel
theorem dX4_calls_130 : decode cX4_calls 130 = .ok (.aload_n 0, 1) := by decide +kernel
theorem dX4_calls_131 : decode cX4_calls 131 = .ok (.getfield 7, 3) := by decide +kernel
theorem dX4_calls_134 : decode cX4_calls 134 = .ok (.iload 4, 2) := by decide +kernel
theorem dX4_calls_136 : decode cX4_calls 136 = .ok (.iconst 0, 1) := by decide +kernel
theorem dX4_calls_137 : decode cX4_calls 137 = .ok (.iadd, 1) := by decide +kernel
theorem dX4_calls_138 : decode cX4_calls 138 = .ok (.iload_n 1, 1) := by decide +kernel
theorem dX4_calls_139 : decode cX4_calls 139 = .ok (.iastore, 1) := by decide +kernel
theorem dX4_calls_140 : decode cX4_calls 140 = .ok (.aload_n 0, 1) := by decide +kernel
theorem dX4_calls_141 : decode cX4_calls 141 = .ok (.getfield 7, 3) := by decide +kernel
theorem dX4_calls_144 : decode cX4_calls 144 = .ok (.iload 4, 2) := by decide +kernel
theorem dX4_calls_146 : decode cX4_calls 146 = .ok (.iconst 1, 1) := by decide +kernel
theorem dX4_calls_147 : decode cX4_calls 147 = .ok (.iadd, 1) := by decide +kernel
theorem dX4_calls_148 : decode cX4_calls 148 = .ok (.iload_n 3, 1) := by decide +kernel
theorem dX4_calls_149 : decode cX4_calls 149 = .ok (.iastore, 1) := by decide +kernel
theorem dX4_calls_150 : decode cX4_calls 150 = .ok (.aload_n 0, 1) := by decide +kernel
theorem dX4_calls_151 : decode cX4_calls 151 = .ok (.getfield 7, 3) := by decide +kernel
theorem dX4_calls_154 : decode cX4_calls 154 = .ok (.iload 4, 2) := by decide +kernel
theorem dX4_calls_156 : decode cX4_calls 156 = .ok (.iconst 2, 1) := by decide +kernel
theorem dX4_calls_157 : decode cX4_calls 157 = .ok (.iadd, 1) := by decide +kernel
theorem dX4_calls_158 : decode cX4_calls 158 = .ok (.iload_n 3, 1) := by decide +kernel
theorem dX4_calls_159 : decode cX4_calls 159 = .ok (.iastore, 1) := by decide +kernel
theorem dX4_calls_160 : decode cX4_calls 160 = .ok (.aload_n 0, 1) := by decide +kernel
theorem dX4_calls_161 : decode cX4_calls 161 = .ok (.getfield 7, 3) := by decide +kernel
theorem dX4_calls_164 : decode cX4_calls 164 = .ok (.iload 4, 2) := by decide +kernel
theorem dX4_calls_166 : decode cX4_calls 166 = .ok (.iconst 3, 1) := by decide +kernel
theorem dX4_calls_167 : decode cX4_calls 167 = .ok (.iadd, 1) := by decide +kernel
theorem dX4_calls_168 : decode cX4_calls 168 = .ok (.iload_n 2, 1) := by decide +kernel
theorem dX4_calls_169 : decode cX4_calls 169 = .ok (.ifCond .eq 7, 3) := by decide +kernel
theorem dX4_calls_172 : decode cX4_calls 172 = .ok (.iconst 1, 1) := by decide +kernel
theorem dX4_calls_173 : decode cX4_calls 173 = .ok (.goto 4, 3) := by decide +kernel
theorem dX4_calls_176 : decode cX4_calls 176 = .ok (.iconst 0, 1) := by decide +kernel
theorem dX4_calls_177 : decode cX4_calls 177 = .ok (.iastore, 1) := by decide +kernel
theorem dX4_calls_178 : decode cX4_calls 178 = .ok (.aload_n 0, 1) := by decide +kernel
theorem dX4_calls_179 : decode cX4_calls 179 = .ok (.getfield 7, 3) := by decide +kernel
theorem dX4_calls_182 : decode cX4_calls 182 = .ok (.iload 4, 2) := by decide +kernel
theorem dX4_calls_184 : decode cX4_calls 184 = .ok (.iconst 4, 1) := by decide +kernel
theorem dX4_calls_185 : decode cX4_calls 185 = .ok (.iadd, 1) := by decide +kernel
theorem dX4_calls_186 : decode cX4_calls 186 = .ok (.aload_n 0, 1) := by decide +kernel
theorem dX4_calls_187 : decode cX4_calls 187 = .ok (.iload_n 1, 1) := by decide +kernel
theorem dX4_calls_188 : decode cX4_calls 188 = .ok (.bipush 11, 2) := by decide +kernel
theorem dX4_calls_190 : decode cX4_calls 190 = .ok (.invokevirtual 40, 3) := by decide +kernel
theorem dX4_calls_193 : decode cX4_calls 193 = .ok (.iastore, 1) := by decide +kernel
theorem dX4_calls_194 : decode cX4_calls 194 = .ok (.aload_n 0, 1) := by decide +kernel
theorem dX4_calls_195 : decode cX4_calls 195 = .ok (.getfield 7, 3) := by decide +kernel
theorem dX4_calls_198 : decode cX4_calls 198 = .ok (.bipush 9, 2) := by decide +kernel
theorem dX4_calls_200 : decode cX4_calls 200 = .ok (.dup2, 1) := by decide +kernel
theorem dX4_calls_201 : decode cX4_calls 201 = .ok (.iaload, 1) := by decide +kernel
theorem dX4_calls_202 : decode cX4_calls 202 = .ok (.iconst 1, 1) := by decide +kernel
theorem dX4_calls_203 : decode cX4_calls 203 = .ok (.iadd, 1) := by decide +kernel
theorem dX4_calls_204 : decode cX4_calls 204 = .ok (.iastore, 1) := by decide +kernel
theorem dX4_calls_205 : decode cX4_calls 205 = .ok (.iload_n 2, 1) := by decide +kernel
theorem dX4_calls_206 : decode cX4_calls 206 = .ok (.ifCond .eq 7, 3) := by decide +kernel
theorem dX4_calls_209 : decode cX4_calls 209 = .ok (.iconst 2, 1) := by decide +kernel
theorem dX4_calls_210 : decode cX4_calls 210 = .ok (.goto 4, 3) := by decide +kernel
theorem dX4_calls_213 : decode cX4_calls 213 = .ok (.iconst 1, 1) := by decide +kernel
theorem dX4_calls_214 : decode cX4_calls 214 = .ok (.ireturn, 1) := by decide +kernel
theorem dX4_drops_0 : decode cX4_drops 0 = .ok (.aload_n 0, 1) := by decide +kernel
theorem dX4_drops_1 : decode cX4_drops 1 = .ok (.getfield 7, 3) := by decide +kernel
theorem dX4_drops_4 : decode cX4_drops 4 = .ok (.bipush 9, 2) := by decide +kernel
theorem dX4_drops_6 : decode cX4_drops 6 = .ok (.dup2, 1) := by decide +kernel
theorem dX4_drops_7 : decode cX4_drops 7 = .ok (.iaload, 1) := by decide +kernel
theorem dX4_drops_8 : decode cX4_drops 8 = .ok (.iconst 1, 1) := by decide +kernel
theorem dX4_drops_9 : decode cX4_drops 9 = .ok (.isub, 1) := by decide +kernel
theorem dX4_drops_10 : decode cX4_drops 10 = .ok (.iastore, 1) := by decide +kernel
theorem dX4_drops_11 : decode cX4_drops 11 = .ok (.iconst 5, 1) := by decide +kernel
theorem dX4_drops_12 : decode cX4_drops 12 = .ok (.iload_n 1, 1) := by decide +kernel
theorem dX4_drops_13 : decode cX4_drops 13 = .ok (.imul, 1) := by decide +kernel
theorem dX4_drops_14 : decode cX4_drops 14 = .ok (.istore_n 2, 1) := by decide +kernel
theorem dX4_drops_15 : decode cX4_drops 15 = .ok (.iload_n 2, 1) := by decide +kernel
theorem dX4_drops_16 : decode cX4_drops 16 = .ok (.iconst 5, 1) := by decide +kernel
theorem dX4_drops_17 : decode cX4_drops 17 = .ok (.aload_n 0, 1) := by decide +kernel
theorem dX4_drops_18 : decode cX4_drops 18 = .ok (.getfield 7, 3) := by decide +kernel
theorem dX4_drops_21 : decode cX4_drops 21 = .ok (.bipush 9, 2) := by decide +kernel
theorem dX4_drops_23 : decode cX4_drops 23 = .ok (.iaload, 1) := by decide +kernel
theorem dX4_drops_24 : decode cX4_drops 24 = .ok (.imul, 1) := by decide +kernel
theorem dX4_drops_25 : decode cX4_drops 25 = .ok (.if_icmp .ge 29, 3) := by decide +kernel
theorem dX4_drops_28 : decode cX4_drops 28 = .ok (.aload_n 0, 1) := by decide +kernel
theorem dX4_drops_29 : decode cX4_drops 29 = .ok (.getfield 7, 3) := by decide +kernel
theorem dX4_drops_32 : decode cX4_drops 32 = .ok (.bipush 10, 2) := by decide +kernel
theorem dX4_drops_34 : decode cX4_drops 34 = .ok (.iload_n 2, 1) := by decide +kernel
theorem dX4_drops_35 : decode cX4_drops 35 = .ok (.iadd, 1) := by decide +kernel
theorem dX4_drops_36 : decode cX4_drops 36 = .ok (.aload_n 0, 1) := by decide +kernel
theorem dX4_drops_37 : decode cX4_drops 37 = .ok (.getfield 7, 3) := by decide +kernel
theorem dX4_drops_40 : decode cX4_drops 40 = .ok (.bipush 10, 2) := by decide +kernel
theorem dX4_drops_42 : decode cX4_drops 42 = .ok (.iload_n 2, 1) := by decide +kernel
theorem dX4_drops_43 : decode cX4_drops 43 = .ok (.iadd, 1) := by decide +kernel
theorem dX4_drops_44 : decode cX4_drops 44 = .ok (.iconst 5, 1) := by decide +kernel
theorem dX4_drops_45 : decode cX4_drops 45 = .ok (.iadd, 1) := by decide +kernel
theorem dX4_drops_46 : decode cX4_drops 46 = .ok (.iaload, 1) := by decide +kernel
theorem dX4_drops_47 : decode cX4_drops 47 = .ok (.iastore, 1) := by decide +kernel
theorem dX4_drops_48 : decode cX4_drops 48 = .ok (.iinc 2 1, 3) := by decide +kernel
theorem dX4_drops_51 : decode cX4_drops 51 = .ok (.goto (-36), 3) := by decide +kernel
theorem dX4_drops_54 : decode cX4_drops 54 = .ok (.iconst 0, 1) := by decide +kernel
theorem dX4_drops_55 : decode cX4_drops 55 = .ok (.istore_n 2, 1) := by decide +kernel
theorem dX4_drops_56 : decode cX4_drops 56 = .ok (.iload_n 2, 1) := by decide +kernel
theorem dX4_drops_57 : decode cX4_drops 57 = .ok (.iconst 5, 1) := by decide +kernel
theorem dX4_drops_58 : decode cX4_drops 58 = .ok (.if_icmp .ge 29, 3) := by decide +kernel
theorem dX4_drops_61 : decode cX4_drops 61 = .ok (.aload_n 0, 1) := by decide +kernel
theorem dX4_drops_62 : decode cX4_drops 62 = .ok (.getfield 7, 3) := by decide +kernel
theorem dX4_drops_65 : decode cX4_drops 65 = .ok (.bipush 10, 2) := by decide +kernel
theorem dX4_drops_67 : decode cX4_drops 67 = .ok (.iconst 5, 1) := by decide +kernel
theorem dX4_drops_68 : decode cX4_drops 68 = .ok (.aload_n 0, 1) := by decide +kernel
theorem dX4_drops_69 : decode cX4_drops 69 = .ok (.getfield 7, 3) := by decide +kernel
theorem dX4_drops_72 : decode cX4_drops 72 = .ok (.bipush 9, 2) := by decide +kernel
theorem dX4_drops_74 : decode cX4_drops 74 = .ok (.iaload, 1) := by decide +kernel
theorem dX4_drops_75 : decode cX4_drops 75 = .ok (.imul, 1) := by decide +kernel
theorem dX4_drops_76 : decode cX4_drops 76 = .ok (.iadd, 1) := by decide +kernel
theorem dX4_drops_77 : decode cX4_drops 77 = .ok (.iload_n 2, 1) := by decide +kernel
theorem dX4_drops_78 : decode cX4_drops 78 = .ok (.iadd, 1) := by decide +kernel
theorem dX4_drops_79 : decode cX4_drops 79 = .ok (.iconst 0, 1) := by decide +kernel
theorem dX4_drops_80 : decode cX4_drops 80 = .ok (.iastore, 1) := by decide +kernel
theorem dX4_drops_81 : decode cX4_drops 81 = .ok (.iinc 2 1, 3) := by decide +kernel
theorem dX4_drops_84 : decode cX4_drops 84 = .ok (.goto (-28), 3) := by decide +kernel
theorem dX4_drops_87 : decode cX4_drops 87 = .ok (.return_, 1) := by decide +kernel
theorem dX4_tick_0 : decode cX4_tick 0 = .ok (.iconst 0, 1) := by decide +kernel
theorem dX4_tick_1 : decode cX4_tick 1 = .ok (.istore_n 1, 1) := by decide +kernel
theorem dX4_tick_2 : decode cX4_tick 2 = .ok (.iload_n 1, 1) := by decide +kernel
theorem dX4_tick_3 : decode cX4_tick 3 = .ok (.aload_n 0, 1) := by decide +kernel
theorem dX4_tick_4 : decode cX4_tick 4 = .ok (.getfield 7, 3) := by decide +kernel
theorem dX4_tick_7 : decode cX4_tick 7 = .ok (.bipush 9, 2) := by decide +kernel
theorem dX4_tick_9 : decode cX4_tick 9 = .ok (.iaload, 1) := by decide +kernel
theorem dX4_tick_10 : decode cX4_tick 10 = .ok (.if_icmp .ge 26, 3) := by decide +kernel
theorem dX4_tick_13 : decode cX4_tick 13 = .ok (.aload_n 0, 1) := by decide +kernel
theorem dX4_tick_14 : decode cX4_tick 14 = .ok (.getfield 7, 3) := by decide +kernel
theorem dX4_tick_17 : decode cX4_tick 17 = .ok (.bipush 10, 2) := by decide +kernel
theorem dX4_tick_19 : decode cX4_tick 19 = .ok (.iconst 5, 1) := by decide +kernel
theorem dX4_tick_20 : decode cX4_tick 20 = .ok (.iload_n 1, 1) := by decide +kernel
theorem dX4_tick_21 : decode cX4_tick 21 = .ok (.imul, 1) := by decide +kernel
theorem dX4_tick_22 : decode cX4_tick 22 = .ok (.iadd, 1) := by decide +kernel
theorem dX4_tick_23 : decode cX4_tick 23 = .ok (.iconst 1, 1) := by decide +kernel
theorem dX4_tick_24 : decode cX4_tick 24 = .ok (.iadd, 1) := by decide +kernel
theorem dX4_tick_25 : decode cX4_tick 25 = .ok (.dup2, 1) := by decide +kernel
theorem dX4_tick_26 : decode cX4_tick 26 = .ok (.iaload, 1) := by decide +kernel
theorem dX4_tick_27 : decode cX4_tick 27 = .ok (.iconst 1, 1) := by decide +kernel
theorem dX4_tick_28 : decode cX4_tick 28 = .ok (.isub, 1) := by decide +kernel
theorem dX4_tick_29 : decode cX4_tick 29 = .ok (.iastore, 1) := by decide +kernel
theorem dX4_tick_30 : decode cX4_tick 30 = .ok (.iinc 1 1, 3) := by decide +kernel
theorem dX4_tick_33 : decode cX4_tick 33 = .ok (.goto (-31), 3) := by decide +kernel
theorem dX4_tick_36 : decode cX4_tick 36 = .ok (.iconst 0, 1) := by decide +kernel
theorem dX4_tick_37 : decode cX4_tick 37 = .ok (.istore_n 1, 1) := by decide +kernel
theorem dX4_tick_38 : decode cX4_tick 38 = .ok (.iconst 0, 1) := by decide +kernel
theorem dX4_tick_39 : decode cX4_tick 39 = .ok (.istore_n 2, 1) := by decide +kernel
theorem dX4_tick_40 : decode cX4_tick 40 = .ok (.iload_n 2, 1) := by decide +kernel
theorem dX4_tick_41 : decode cX4_tick 41 = .ok (.aload_n 0, 1) := by decide +kernel
theorem dX4_tick_42 : decode cX4_tick 42 = .ok (.getfield 7, 3) := by decide +kernel
theorem dX4_tick_45 : decode cX4_tick 45 = .ok (.bipush 9, 2) := by decide +kernel
theorem dX4_tick_47 : decode cX4_tick 47 = .ok (.iaload, 1) := by decide +kernel
theorem dX4_tick_48 : decode cX4_tick 48 = .ok (.if_icmp .ge 80, 3) := by decide +kernel
theorem dX4_tick_51 : decode cX4_tick 51 = .ok (.aload_n 0, 1) := by decide +kernel
theorem dX4_tick_52 : decode cX4_tick 52 = .ok (.iload_n 2, 1) := by decide +kernel
theorem dX4_tick_53 : decode cX4_tick 53 = .ok (.iconst 1, 1) := by decide +kernel
theorem dX4_tick_54 : decode cX4_tick 54 = .ok (.invokevirtual 63, 3) := by decide +kernel
theorem dX4_tick_57 : decode cX4_tick 57 = .ok (.ifCond .ne 65, 3) := by decide +kernel
theorem dX4_tick_60 : decode cX4_tick 60 = .ok (.aload_n 0, 1) := by decide +kernel
theorem dX4_tick_61 : decode cX4_tick 61 = .ok (.iload_n 2, 1) := by decide +kernel
theorem dX4_tick_62 : decode cX4_tick 62 = .ok (.iconst 0, 1) := by decide +kernel
theorem dX4_tick_63 : decode cX4_tick 63 = .ok (.invokevirtual 63, 3) := by decide +kernel
theorem dX4_tick_66 : decode cX4_tick 66 = .ok (.istore_n 3, 1) := by decide +kernel
theorem dX4_tick_67 : decode cX4_tick 67 = .ok (.aload_n 0, 1) := by decide +kernel
theorem dX4_tick_68 : decode cX4_tick 68 = .ok (.iload_n 2, 1) := by decide +kernel
theorem dX4_tick_69 : decode cX4_tick 69 = .ok (.iconst 2, 1) := by decide +kernel
theorem dX4_tick_70 : decode cX4_tick 70 = .ok (.invokevirtual 63, 3) := by decide +kernel
theorem dX4_tick_73 : decode cX4_tick 73 = .ok (.istore 4, 2) := by decide +kernel
theorem dX4_tick_75 : decode cX4_tick 75 = .ok (.aload_n 0, 1) := by decide +kernel
theorem dX4_tick_76 : decode cX4_tick 76 = .ok (.iload_n 2, 1) := by decide +kernel
theorem dX4_tick_77 : decode cX4_tick 77 = .ok (.iconst 3, 1) := by decide +kernel
theorem dX4_tick_78 : decode cX4_tick 78 = .ok (.invokevirtual 63, 3) := by decide +kernel
theorem dX4_tick_81 : decode cX4_tick 81 = .ok (.iconst 1, 1) := by decide +kernel
theorem dX4_tick_82 : decode cX4_tick 82 = .ok (.if_icmp .ne 7, 3) := by decide +kernel
theorem dX4_tick_85 : decode cX4_tick 85 = .ok (.iconst 1, 1) := by decide +kernel
theorem dX4_tick_86 : decode cX4_tick 86 = .ok (.goto 4, 3) := by decide +kernel
theorem dX4_tick_89 : decode cX4_tick 89 = .ok (.iconst 0, 1) := by decide +kernel
theorem dX4_tick_90 : decode cX4_tick 90 = .ok (.istore 5, 2) := by decide +kernel
theorem dX4_tick_92 : decode cX4_tick 92 = .ok (.aload_n 0, 1) := by decide +kernel
theorem dX4_tick_93 : decode cX4_tick 93 = .ok (.iload_n 2, 1) := by decide +kernel
theorem dX4_tick_94 : decode cX4_tick 94 = .ok (.iconst 4, 1) := by decide +kernel
theorem dX4_tick_95 : decode cX4_tick 95 = .ok (.invokevirtual 63, 3) := by decide +kernel
theorem dX4_tick_98 : decode cX4_tick 98 = .ok (.istore 6, 2) := by decide +kernel
theorem dX4_tick_100 : decode cX4_tick 100 = .ok (.aload_n 0, 1) := by decide +kernel
theorem dX4_tick_101 : decode cX4_tick 101 = .ok (.iload_n 2, 1) := by decide +kernel
theorem dX4_tick_102 : decode cX4_tick 102 = .ok (.invokevirtual 77, 3) := by decide +kernel
theorem dX4_tick_105 : decode cX4_tick 105 = .ok (.aload_n 0, 1) := by decide +kernel
theorem dX4_tick_106 : decode cX4_tick 106 = .ok (.iload_n 3, 1) := by decide +kernel
theorem dX4_tick_107 : decode cX4_tick 107 = .ok (.iload 4, 2) := by decide +kernel
theorem dX4_tick_109 : decode cX4_tick 109 = .ok (.iload 5, 2) := by decide +kernel
theorem dX4_tick_111 : decode cX4_tick 111 = .ok (.iload 6, 2) := by decide +kernel
theorem dX4_tick_113 : decode cX4_tick 113 = .ok (.invokevirtual 73, 3) := by decide +kernel
theorem dX4_tick_116 : decode cX4_tick 116 = .ok (.iinc 1 1, 3) := by decide +kernel
theorem dX4_tick_119 : decode cX4_tick 119 = .ok (.goto (-79), 3) := by decide +kernel
theorem dX4_tick_122 : decode cX4_tick 122 = .ok (.iinc 2 1, 3) := by decide +kernel
theorem dX4_tick_125 : decode cX4_tick 125 = .ok (.goto (-85), 3) := by decide +kernel
theorem dX4_tick_128 : decode cX4_tick 128 = .ok (.iconst 0, 1) := by decide +kernel
theorem dX4_tick_129 : decode cX4_tick 129 = .ok (.istore_n 3, 1) := by decide +kernel
theorem dX4_tick_130 : decode cX4_tick 130 = .ok (.iload_n 3, 1) := by decide +kernel
theorem dX4_tick_131 : decode cX4_tick 131 = .ok (.iconst 4, 1) := by decide +kernel
theorem dX4_tick_132 : decode cX4_tick 132 = .ok (.if_icmp .ge 53, 3) := by decide +kernel
theorem dX4_tick_135 : decode cX4_tick 135 = .ok (.aload_n 0, 1) := by decide +kernel
theorem dX4_tick_136 : decode cX4_tick 136 = .ok (.iload_n 3, 1) := by decide +kernel
theorem dX4_tick_137 : decode cX4_tick 137 = .ok (.iconst 2, 1) := by decide +kernel
theorem dX4_tick_138 : decode cX4_tick 138 = .ok (.invokevirtual 40, 3) := by decide +kernel
theorem dX4_tick_141 : decode cX4_tick 141 = .ok (.iconst 1, 1) := by decide +kernel
theorem dX4_tick_142 : decode cX4_tick 142 = .ok (.if_icmp .ne 37, 3) := by decide +kernel
theorem dX4_tick_145 : decode cX4_tick 145 = .ok (.aload_n 0, 1) := by decide +kernel
theorem dX4_tick_146 : decode cX4_tick 146 = .ok (.iload_n 3, 1) := by decide +kernel
theorem dX4_tick_147 : decode cX4_tick 147 = .ok (.iconst 5, 1) := by decide +kernel
theorem dX4_tick_148 : decode cX4_tick 148 = .ok (.aload_n 0, 1) := by decide +kernel
theorem dX4_tick_149 : decode cX4_tick 149 = .ok (.iload_n 3, 1) := by decide +kernel
theorem dX4_tick_150 : decode cX4_tick 150 = .ok (.iconst 5, 1) := by decide +kernel
theorem dX4_tick_151 : decode cX4_tick 151 = .ok (.invokevirtual 40, 3) := by decide +kernel
theorem dX4_tick_154 : decode cX4_tick 154 = .ok (.iconst 1, 1) := by decide +kernel
theorem dX4_tick_155 : decode cX4_tick 155 = .ok (.isub, 1) := by decide +kernel
theorem dX4_tick_156 : decode cX4_tick 156 = .ok (.invokevirtual 29, 3) := by decide +kernel
theorem dX4_tick_159 : decode cX4_tick 159 = .ok (.aload_n 0, 1) := by decide +kernel
theorem dX4_tick_160 : decode cX4_tick 160 = .ok (.iload_n 3, 1) := by decide +kernel
theorem dX4_tick_161 : decode cX4_tick 161 = .ok (.iconst 2, 1) := by decide +kernel
theorem dX4_tick_162 : decode cX4_tick 162 = .ok (.aload_n 0, 1) := by decide +kernel
theorem dX4_tick_163 : decode cX4_tick 163 = .ok (.iload_n 3, 1) := by decide +kernel
theorem dX4_tick_164 : decode cX4_tick 164 = .ok (.iconst 5, 1) := by decide +kernel
theorem dX4_tick_165 : decode cX4_tick 165 = .ok (.invokevirtual 40, 3) := by decide +kernel
theorem dX4_tick_168 : decode cX4_tick 168 = .ok (.ifCond .ne 7, 3) := by decide +kernel
theorem dX4_tick_171 : decode cX4_tick 171 = .ok (.iconst 2, 1) := by decide +kernel
theorem dX4_tick_172 : decode cX4_tick 172 = .ok (.goto 4, 3) := by decide +kernel
theorem dX4_tick_175 : decode cX4_tick 175 = .ok (.iconst 1, 1) := by decide +kernel
theorem dX4_tick_176 : decode cX4_tick 176 = .ok (.invokevirtual 29, 3) := by decide +kernel
theorem dX4_tick_179 : decode cX4_tick 179 = .ok (.iinc 3 1, 3) := by decide +kernel
theorem dX4_tick_182 : decode cX4_tick 182 = .ok (.goto (-52), 3) := by decide +kernel
theorem dX4_tick_185 : decode cX4_tick 185 = .ok (.aload_n 0, 1) := by decide +kernel
theorem dX4_tick_186 : decode cX4_tick 186 = .ok (.getfield 7, 3) := by decide +kernel
theorem dX4_tick_189 : decode cX4_tick 189 = .ok (.iconst 5, 1) := by decide +kernel
theorem dX4_tick_190 : decode cX4_tick 190 = .ok (.dup2, 1) := by decide +kernel
theorem dX4_tick_191 : decode cX4_tick 191 = .ok (.iaload, 1) := by decide +kernel
theorem dX4_tick_192 : decode cX4_tick 192 = .ok (.iconst 1, 1) := by decide +kernel
theorem dX4_tick_193 : decode cX4_tick 193 = .ok (.iadd, 1) := by decide +kernel
theorem dX4_tick_194 : decode cX4_tick 194 = .ok (.iastore, 1) := by decide +kernel
theorem dX4_tick_195 : decode cX4_tick 195 = .ok (.iload_n 1, 1) := by decide +kernel
theorem dX4_tick_196 : decode cX4_tick 196 = .ok (.ireturn, 1) := by decide +kernel
theorem dX4_ticks_0 : decode cX4_ticks 0 = .ok (.iconst 0, 1) := by decide +kernel
theorem dX4_ticks_1 : decode cX4_ticks 1 = .ok (.istore_n 2, 1) := by decide +kernel
theorem dX4_ticks_2 : decode cX4_ticks 2 = .ok (.iconst 0, 1) := by decide +kernel
theorem dX4_ticks_3 : decode cX4_ticks 3 = .ok (.istore_n 3, 1) := by decide +kernel
theorem dX4_ticks_4 : decode cX4_ticks 4 = .ok (.iload_n 3, 1) := by decide +kernel
theorem dX4_ticks_5 : decode cX4_ticks 5 = .ok (.iload_n 1, 1) := by decide +kernel
theorem dX4_ticks_6 : decode cX4_ticks 6 = .ok (.if_icmp .ge 16, 3) := by decide +kernel
theorem dX4_ticks_9 : decode cX4_ticks 9 = .ok (.iload_n 2, 1) := by decide +kernel
theorem dX4_ticks_10 : decode cX4_ticks 10 = .ok (.aload_n 0, 1) := by decide +kernel
theorem dX4_ticks_11 : decode cX4_ticks 11 = .ok (.invokevirtual 80, 3) := by decide +kernel
theorem dX4_ticks_14 : decode cX4_ticks 14 = .ok (.iadd, 1) := by decide +kernel
theorem dX4_ticks_15 : decode cX4_ticks 15 = .ok (.istore_n 2, 1) := by decide +kernel
theorem dX4_ticks_16 : decode cX4_ticks 16 = .ok (.iinc 3 1, 3) := by decide +kernel
theorem dX4_ticks_19 : decode cX4_ticks 19 = .ok (.goto (-15), 3) := by decide +kernel
theorem dX4_ticks_22 : decode cX4_ticks 22 = .ok (.iload_n 2, 1) := by decide +kernel
theorem dX4_ticks_23 : decode cX4_ticks 23 = .ok (.ireturn, 1) := by decide +kernel
theorem dX4_callsOften_0 : decode cX4_callsOften 0 = .ok (.iconst 0, 1) := by decide +kernel
theorem dX4_callsOften_1 : decode cX4_callsOften 1 = .ok (.istore 4, 2) := by decide +kernel
theorem dX4_callsOften_3 : decode cX4_callsOften 3 = .ok (.iconst 0, 1) := by decide +kernel
theorem dX4_callsOften_4 : decode cX4_callsOften 4 = .ok (.istore 5, 2) := by decide +kernel
theorem dX4_callsOften_6 : decode cX4_callsOften 6 = .ok (.iload 5, 2) := by decide +kernel
theorem dX4_callsOften_8 : decode cX4_callsOften 8 = .ok (.iload_n 2, 1) := by decide +kernel
theorem dX4_callsOften_9 : decode cX4_callsOften 9 = .ok (.if_icmp .ge 56, 3) := by decide +kernel
theorem dX4_callsOften_12 : decode cX4_callsOften 12 = .ok (.aload_n 0, 1) := by decide +kernel
theorem dX4_callsOften_13 : decode cX4_callsOften 13 = .ok (.getfield 7, 3) := by decide +kernel
theorem dX4_callsOften_16 : decode cX4_callsOften 16 = .ok (.bipush 9, 2) := by decide +kernel
theorem dX4_callsOften_18 : decode cX4_callsOften 18 = .ok (.iaload, 1) := by decide +kernel
theorem dX4_callsOften_19 : decode cX4_callsOften 19 = .ok (.bipush 16, 2) := by decide +kernel
theorem dX4_callsOften_21 : decode cX4_callsOften 21 = .ok (.if_icmp .ne 14, 3) := by decide +kernel
theorem dX4_callsOften_24 : decode cX4_callsOften 24 = .ok (.aload_n 0, 1) := by decide +kernel
theorem dX4_callsOften_25 : decode cX4_callsOften 25 = .ok (.iload_n 1, 1) := by decide +kernel
theorem dX4_callsOften_26 : decode cX4_callsOften 26 = .ok (.invokevirtual 70, 3) := by decide +kernel
theorem dX4_callsOften_29 : decode cX4_callsOften 29 = .ok (.ifCond .ne 6, 3) := by decide +kernel
theorem dX4_callsOften_32 : decode cX4_callsOften 32 = .ok (.iload 4, 2) := by decide +kernel
theorem dX4_callsOften_34 : decode cX4_callsOften 34 = .ok (.ireturn, 1) := by decide +kernel
theorem dX4_callsOften_35 : decode cX4_callsOften 35 = .ok (.iload 4, 2) := by decide +kernel
theorem dX4_callsOften_37 : decode cX4_callsOften 37 = .ok (.aload_n 0, 1) := by decide +kernel
theorem dX4_callsOften_38 : decode cX4_callsOften 38 = .ok (.iload_n 1, 1) := by decide +kernel
theorem dX4_callsOften_39 : decode cX4_callsOften 39 = .ok (.invokevirtual 84, 3) := by decide +kernel
theorem dX4_callsOften_42 : decode cX4_callsOften 42 = .ok (.ifCond .le 7, 3) := by decide +kernel
theorem dX4_callsOften_45 : decode cX4_callsOften 45 = .ok (.iconst 1, 1) := by decide +kernel
theorem dX4_callsOften_46 : decode cX4_callsOften 46 = .ok (.goto 4, 3) := by decide +kernel
theorem dX4_callsOften_49 : decode cX4_callsOften 49 = .ok (.iconst 0, 1) := by decide +kernel
theorem dX4_callsOften_50 : decode cX4_callsOften 50 = .ok (.iadd, 1) := by decide +kernel
theorem dX4_callsOften_51 : decode cX4_callsOften 51 = .ok (.istore 4, 2) := by decide +kernel
theorem dX4_callsOften_53 : decode cX4_callsOften 53 = .ok (.aload_n 0, 1) := by decide +kernel
theorem dX4_callsOften_54 : decode cX4_callsOften 54 = .ok (.iload_n 3, 1) := by decide +kernel
theorem dX4_callsOften_55 : decode cX4_callsOften 55 = .ok (.invokevirtual 87, 3) := by decide +kernel
theorem dX4_callsOften_58 : decode cX4_callsOften 58 = .ok (.pop, 1) := by decide +kernel
theorem dX4_callsOften_59 : decode cX4_callsOften 59 = .ok (.iinc 5 1, 3) := by decide +kernel
theorem dX4_callsOften_62 : decode cX4_callsOften 62 = .ok (.goto (-56), 3) := by decide +kernel
theorem dX4_callsOften_65 : decode cX4_callsOften 65 = .ok (.iload 4, 2) := by decide +kernel
theorem dX4_callsOften_67 : decode cX4_callsOften 67 = .ok (.ireturn, 1) := by decide +kernel
theorem dX4_call_0 : decode cX4_call 0 = .ok (.aload_n 0, 1) := by decide +kernel
theorem dX4_call_1 : decode cX4_call 1 = .ok (.iconst 0, 1) := by decide +kernel
theorem dX4_call_2 : decode cX4_call 2 = .ok (.putfield 25, 3) := by decide +kernel
theorem dX4_call_5 : decode cX4_call 5 = .ok (.iload_n 1, 1) := by decide +kernel
theorem dX4_call_6 : decode cX4_call 6 = .ok (.invokestatic 90, 3) := by decide +kernel
theorem dX4_call_9 : decode cX4_call 9 = .ok (.ifCond .ne 9, 3) := by decide +kernel
theorem dX4_call_12 : decode cX4_call 12 = .ok (.aload_n 0, 1) := by decide +kernel
theorem dX4_call_13 : decode cX4_call 13 = .ok (.iconst 1, 1) := by decide +kernel
theorem dX4_call_14 : decode cX4_call 14 = .ok (.invokevirtual 93, 3) := by decide +kernel
theorem dX4_call_17 : decode cX4_call 17 = .ok (.ireturn, 1) := by decide +kernel
theorem dX4_call_18 : decode cX4_call 18 = .ok (.aload_n 0, 1) := by decide +kernel
theorem dX4_call_19 : decode cX4_call 19 = .ok (.getfield 7, 3) := by decide +kernel
theorem dX4_call_22 : decode cX4_call 22 = .ok (.bipush 9, 2) := by decide +kernel
theorem dX4_call_24 : decode cX4_call 24 = .ok (.iaload, 1) := by decide +kernel
theorem dX4_call_25 : decode cX4_call 25 = .ok (.bipush 16, 2) := by decide +kernel
theorem dX4_call_27 : decode cX4_call 27 = .ok (.if_icmp .ne 17, 3) := by decide +kernel
theorem dX4_call_30 : decode cX4_call 30 = .ok (.aload_n 0, 1) := by decide +kernel
theorem dX4_call_31 : decode cX4_call 31 = .ok (.iload_n 1, 1) := by decide +kernel
theorem dX4_call_32 : decode cX4_call 32 = .ok (.invokevirtual 70, 3) := by decide +kernel
theorem dX4_call_35 : decode cX4_call 35 = .ok (.ifCond .ne 9, 3) := by decide +kernel
theorem dX4_call_38 : decode cX4_call 38 = .ok (.aload_n 0, 1) := by decide +kernel
theorem dX4_call_39 : decode cX4_call 39 = .ok (.iconst 2, 1) := by decide +kernel
theorem dX4_call_40 : decode cX4_call 40 = .ok (.invokevirtual 93, 3) := by decide +kernel
theorem dX4_call_43 : decode cX4_call 43 = .ok (.ireturn, 1) := by decide +kernel
theorem dX4_call_44 : decode cX4_call 44 = .ok (.aload_n 0, 1) := by decide +kernel
theorem dX4_call_45 : decode cX4_call 45 = .ok (.invokevirtual 96, 3) := by decide +kernel
theorem dX4_call_48 : decode cX4_call 48 = .ok (.aload_n 0, 1) := by decide +kernel
theorem dX4_call_49 : decode cX4_call 49 = .ok (.iload_n 1, 1) := by decide +kernel
theorem dX4_call_50 : decode cX4_call 50 = .ok (.invokevirtual 84, 3) := by decide +kernel
theorem dX4_call_53 : decode cX4_call 53 = .ok (.ireturn, 1) := by decide +kernel
theorem dX4_callOften_0 : decode cX4_callOften 0 = .ok (.aload_n 0, 1) := by decide +kernel
theorem dX4_callOften_1 : decode cX4_callOften 1 = .ok (.iconst 0, 1) := by decide +kernel
theorem dX4_callOften_2 : decode cX4_callOften 2 = .ok (.putfield 25, 3) := by decide +kernel
theorem dX4_callOften_5 : decode cX4_callOften 5 = .ok (.iload_n 1, 1) := by decide +kernel
theorem dX4_callOften_6 : decode cX4_callOften 6 = .ok (.invokestatic 90, 3) := by decide +kernel
theorem dX4_callOften_9 : decode cX4_callOften 9 = .ok (.ifCond .ne 9, 3) := by decide +kernel
theorem dX4_callOften_12 : decode cX4_callOften 12 = .ok (.aload_n 0, 1) := by decide +kernel
theorem dX4_callOften_13 : decode cX4_callOften 13 = .ok (.iconst 1, 1) := by decide +kernel
theorem dX4_callOften_14 : decode cX4_callOften 14 = .ok (.invokevirtual 93, 3) := by decide +kernel
theorem dX4_callOften_17 : decode cX4_callOften 17 = .ok (.ireturn, 1) := by decide +kernel
theorem dX4_callOften_18 : decode cX4_callOften 18 = .ok (.iload_n 2, 1) := by decide +kernel
theorem dX4_callOften_19 : decode cX4_callOften 19 = .ok (.iconst 1, 1) := by decide +kernel
theorem dX4_callOften_20 : decode cX4_callOften 20 = .ok (.bipush 50, 2) := by decide +kernel
theorem dX4_callOften_22 : decode cX4_callOften 22 = .ok (.invokestatic 33, 3) := by decide +kernel
theorem dX4_callOften_25 : decode cX4_callOften 25 = .ok (.ifCond .eq 13, 3) := by decide +kernel
theorem dX4_callOften_28 : decode cX4_callOften 28 = .ok (.iload_n 3, 1) := by decide +kernel
theorem dX4_callOften_29 : decode cX4_callOften 29 = .ok (.iconst 0, 1) := by decide +kernel
theorem dX4_callOften_30 : decode cX4_callOften 30 = .ok (.bipush 50, 2) := by decide +kernel
theorem dX4_callOften_32 : decode cX4_callOften 32 = .ok (.invokestatic 33, 3) := by decide +kernel
theorem dX4_callOften_35 : decode cX4_callOften 35 = .ok (.ifCond .ne 9, 3) := by decide +kernel
theorem dX4_callOften_38 : decode cX4_callOften 38 = .ok (.aload_n 0, 1) := by decide +kernel
theorem dX4_callOften_39 : decode cX4_callOften 39 = .ok (.iconst 2, 1) := by decide +kernel
theorem dX4_callOften_40 : decode cX4_callOften 40 = .ok (.invokevirtual 93, 3) := by decide +kernel
theorem dX4_callOften_43 : decode cX4_callOften 43 = .ok (.ireturn, 1) := by decide +kernel
theorem dX4_callOften_44 : decode cX4_callOften 44 = .ok (.aload_n 0, 1) := by decide +kernel
theorem dX4_callOften_45 : decode cX4_callOften 45 = .ok (.invokevirtual 96, 3) := by decide +kernel
theorem dX4_callOften_48 : decode cX4_callOften 48 = .ok (.aload_n 0, 1) := by decide +kernel
theorem dX4_callOften_49 : decode cX4_callOften 49 = .ok (.iload_n 1, 1) := by decide +kernel
theorem dX4_callOften_50 : decode cX4_callOften 50 = .ok (.iload_n 2, 1) := by decide +kernel
theorem dX4_callOften_51 : decode cX4_callOften 51 = .ok (.iload_n 3, 1) := by decide +kernel
theorem dX4_callOften_52 : decode cX4_callOften 52 = .ok (.invokevirtual 99, 3) := by decide +kernel
theorem dX4_callOften_55 : decode cX4_callOften 55 = .ok (.ireturn, 1) := by decide +kernel
theorem dX4_onWayOf_0 : decode cX4_onWayOf 0 = .ok (.iconst 0, 1) := by decide +kernel
theorem dX4_onWayOf_1 : decode cX4_onWayOf 1 = .ok (.istore_n 2, 1) := by decide +kernel
theorem dX4_onWayOf_2 : decode cX4_onWayOf 2 = .ok (.iconst 0, 1) := by decide +kernel
theorem dX4_onWayOf_3 : decode cX4_onWayOf 3 = .ok (.istore_n 3, 1) := by decide +kernel
theorem dX4_onWayOf_4 : decode cX4_onWayOf 4 = .ok (.iload_n 3, 1) := by decide +kernel
theorem dX4_onWayOf_5 : decode cX4_onWayOf 5 = .ok (.aload_n 0, 1) := by decide +kernel
theorem dX4_onWayOf_6 : decode cX4_onWayOf 6 = .ok (.getfield 7, 3) := by decide +kernel
theorem dX4_onWayOf_9 : decode cX4_onWayOf 9 = .ok (.bipush 9, 2) := by decide +kernel
theorem dX4_onWayOf_11 : decode cX4_onWayOf 11 = .ok (.iaload, 1) := by decide +kernel
theorem dX4_onWayOf_12 : decode cX4_onWayOf 12 = .ok (.if_icmp .ge 27, 3) := by decide +kernel
theorem dX4_onWayOf_15 : decode cX4_onWayOf 15 = .ok (.iload_n 2, 1) := by decide +kernel
theorem dX4_onWayOf_16 : decode cX4_onWayOf 16 = .ok (.aload_n 0, 1) := by decide +kernel
theorem dX4_onWayOf_17 : decode cX4_onWayOf 17 = .ok (.iload_n 3, 1) := by decide +kernel
theorem dX4_onWayOf_18 : decode cX4_onWayOf 18 = .ok (.iconst 0, 1) := by decide +kernel
theorem dX4_onWayOf_19 : decode cX4_onWayOf 19 = .ok (.invokevirtual 63, 3) := by decide +kernel
theorem dX4_onWayOf_22 : decode cX4_onWayOf 22 = .ok (.iload_n 1, 1) := by decide +kernel
theorem dX4_onWayOf_23 : decode cX4_onWayOf 23 = .ok (.if_icmp .ne 7, 3) := by decide +kernel
theorem dX4_onWayOf_26 : decode cX4_onWayOf 26 = .ok (.iconst 1, 1) := by decide +kernel
theorem dX4_onWayOf_27 : decode cX4_onWayOf 27 = .ok (.goto 4, 3) := by decide +kernel
theorem dX4_onWayOf_30 : decode cX4_onWayOf 30 = .ok (.iconst 0, 1) := by decide +kernel
theorem dX4_onWayOf_31 : decode cX4_onWayOf 31 = .ok (.iadd, 1) := by decide +kernel
theorem dX4_onWayOf_32 : decode cX4_onWayOf 32 = .ok (.istore_n 2, 1) := by decide +kernel
theorem dX4_onWayOf_33 : decode cX4_onWayOf 33 = .ok (.iinc 3 1, 3) := by decide +kernel
theorem dX4_onWayOf_36 : decode cX4_onWayOf 36 = .ok (.goto (-32), 3) := by decide +kernel
theorem dX4_onWayOf_39 : decode cX4_onWayOf 39 = .ok (.iload_n 2, 1) := by decide +kernel
theorem dX4_onWayOf_40 : decode cX4_onWayOf 40 = .ok (.ireturn, 1) := by decide +kernel
theorem dX4_bestStore_0 : decode cX4_bestStore 0 = .ok (.iconst (-1), 1) := by decide +kernel
theorem dX4_bestStore_1 : decode cX4_bestStore 1 = .ok (.istore_n 1, 1) := by decide +kernel
theorem dX4_bestStore_2 : decode cX4_bestStore 2 = .ok (.iconst 0, 1) := by decide +kernel
theorem dX4_bestStore_3 : decode cX4_bestStore 3 = .ok (.istore_n 2, 1) := by decide +kernel
theorem dX4_bestStore_4 : decode cX4_bestStore 4 = .ok (.iload_n 2, 1) := by decide +kernel
theorem dX4_bestStore_5 : decode cX4_bestStore 5 = .ok (.iconst 4, 1) := by decide +kernel
theorem dX4_bestStore_6 : decode cX4_bestStore 6 = .ok (.if_icmp .ge 83, 3) := by decide +kernel
theorem dX4_bestStore_9 : decode cX4_bestStore 9 = .ok (.aload_n 0, 1) := by decide +kernel
theorem dX4_bestStore_10 : decode cX4_bestStore 10 = .ok (.iload_n 2, 1) := by decide +kernel
theorem dX4_bestStore_11 : decode cX4_bestStore 11 = .ok (.iconst 2, 1) := by decide +kernel
theorem dX4_bestStore_12 : decode cX4_bestStore 12 = .ok (.invokevirtual 40, 3) := by decide +kernel
theorem dX4_bestStore_15 : decode cX4_bestStore 15 = .ok (.ifCond .ne 68, 3) := by decide +kernel
theorem dX4_bestStore_18 : decode cX4_bestStore 18 = .ok (.iload_n 1, 1) := by decide +kernel
theorem dX4_bestStore_19 : decode cX4_bestStore 19 = .ok (.iconst (-1), 1) := by decide +kernel
theorem dX4_bestStore_20 : decode cX4_bestStore 20 = .ok (.if_icmp .ne 7, 3) := by decide +kernel
theorem dX4_bestStore_23 : decode cX4_bestStore 23 = .ok (.iconst 1, 1) := by decide +kernel
theorem dX4_bestStore_24 : decode cX4_bestStore 24 = .ok (.goto 14, 3) := by decide +kernel
theorem dX4_bestStore_27 : decode cX4_bestStore 27 = .ok (.aload_n 0, 1) := by decide +kernel
theorem dX4_bestStore_28 : decode cX4_bestStore 28 = .ok (.iload_n 1, 1) := by decide +kernel
theorem dX4_bestStore_29 : decode cX4_bestStore 29 = .ok (.invokevirtual 60, 3) := by decide +kernel
theorem dX4_bestStore_32 : decode cX4_bestStore 32 = .ok (.aload_n 0, 1) := by decide +kernel
theorem dX4_bestStore_33 : decode cX4_bestStore 33 = .ok (.iload_n 2, 1) := by decide +kernel
theorem dX4_bestStore_34 : decode cX4_bestStore 34 = .ok (.invokevirtual 60, 3) := by decide +kernel
theorem dX4_bestStore_37 : decode cX4_bestStore 37 = .ok (.isub, 1) := by decide +kernel
theorem dX4_bestStore_38 : decode cX4_bestStore 38 = .ok (.istore_n 3, 1) := by decide +kernel
theorem dX4_bestStore_39 : decode cX4_bestStore 39 = .ok (.iload_n 1, 1) := by decide +kernel
theorem dX4_bestStore_40 : decode cX4_bestStore 40 = .ok (.iconst (-1), 1) := by decide +kernel
theorem dX4_bestStore_41 : decode cX4_bestStore 41 = .ok (.if_icmp .eq 20, 3) := by decide +kernel
theorem dX4_bestStore_44 : decode cX4_bestStore 44 = .ok (.aload_n 0, 1) := by decide +kernel
theorem dX4_bestStore_45 : decode cX4_bestStore 45 = .ok (.iload_n 2, 1) := by decide +kernel
theorem dX4_bestStore_46 : decode cX4_bestStore 46 = .ok (.invokevirtual 103, 3) := by decide +kernel
theorem dX4_bestStore_49 : decode cX4_bestStore 49 = .ok (.aload_n 0, 1) := by decide +kernel
theorem dX4_bestStore_50 : decode cX4_bestStore 50 = .ok (.iload_n 1, 1) := by decide +kernel
theorem dX4_bestStore_51 : decode cX4_bestStore 51 = .ok (.invokevirtual 103, 3) := by decide +kernel
theorem dX4_bestStore_54 : decode cX4_bestStore 54 = .ok (.if_icmp .ge 7, 3) := by decide +kernel
theorem dX4_bestStore_57 : decode cX4_bestStore 57 = .ok (.iconst 1, 1) := by decide +kernel
theorem dX4_bestStore_58 : decode cX4_bestStore 58 = .ok (.goto 4, 3) := by decide +kernel
theorem dX4_bestStore_61 : decode cX4_bestStore 61 = .ok (.iconst 0, 1) := by decide +kernel
theorem dX4_bestStore_62 : decode cX4_bestStore 62 = .ok (.istore 4, 2) := by decide +kernel
theorem dX4_bestStore_64 : decode cX4_bestStore 64 = .ok (.iload_n 3, 1) := by decide +kernel
theorem dX4_bestStore_65 : decode cX4_bestStore 65 = .ok (.ifCond .gt 12, 3) := by decide +kernel
theorem dX4_bestStore_68 : decode cX4_bestStore 68 = .ok (.iload_n 3, 1) := by decide +kernel
theorem dX4_bestStore_69 : decode cX4_bestStore 69 = .ok (.ifCond .ne 12, 3) := by decide +kernel
theorem dX4_bestStore_72 : decode cX4_bestStore 72 = .ok (.iload 4, 2) := by decide +kernel
theorem dX4_bestStore_74 : decode cX4_bestStore 74 = .ok (.ifCond .eq 7, 3) := by decide +kernel
theorem dX4_bestStore_77 : decode cX4_bestStore 77 = .ok (.iload_n 2, 1) := by decide +kernel
theorem dX4_bestStore_78 : decode cX4_bestStore 78 = .ok (.goto 4, 3) := by decide +kernel
theorem dX4_bestStore_81 : decode cX4_bestStore 81 = .ok (.iload_n 1, 1) := by decide +kernel
theorem dX4_bestStore_82 : decode cX4_bestStore 82 = .ok (.istore_n 1, 1) := by decide +kernel
theorem dX4_bestStore_83 : decode cX4_bestStore 83 = .ok (.iinc 2 1, 3) := by decide +kernel
theorem dX4_bestStore_86 : decode cX4_bestStore 86 = .ok (.goto (-82), 3) := by decide +kernel
theorem dX4_bestStore_89 : decode cX4_bestStore 89 = .ok (.iload_n 1, 1) := by decide +kernel
theorem dX4_bestStore_90 : decode cX4_bestStore 90 = .ok (.ireturn, 1) := by decide +kernel
theorem dX4_callHealthiest_0 : decode cX4_callHealthiest 0 = .ok (.aload_n 0, 1) := by decide +kernel
theorem dX4_callHealthiest_1 : decode cX4_callHealthiest 1 = .ok (.iconst 0, 1) := by decide +kernel
theorem dX4_callHealthiest_2 : decode cX4_callHealthiest 2 = .ok (.putfield 25, 3) := by decide +kernel
theorem dX4_callHealthiest_5 : decode cX4_callHealthiest 5 = .ok (.aload_n 0, 1) := by decide +kernel
theorem dX4_callHealthiest_6 : decode cX4_callHealthiest 6 = .ok (.getfield 7, 3) := by decide +kernel
theorem dX4_callHealthiest_9 : decode cX4_callHealthiest 9 = .ok (.bipush 9, 2) := by decide +kernel
theorem dX4_callHealthiest_11 : decode cX4_callHealthiest 11 = .ok (.iaload, 1) := by decide +kernel
theorem dX4_callHealthiest_12 : decode cX4_callHealthiest 12 = .ok (.bipush 16, 2) := by decide +kernel
theorem dX4_callHealthiest_14 : decode cX4_callHealthiest 14 = .ok (.if_icmp .ne 9, 3) := by decide +kernel
theorem dX4_callHealthiest_17 : decode cX4_callHealthiest 17 = .ok (.aload_n 0, 1) := by decide +kernel
theorem dX4_callHealthiest_18 : decode cX4_callHealthiest 18 = .ok (.iconst 1, 1) := by decide +kernel
theorem dX4_callHealthiest_19 : decode cX4_callHealthiest 19 = .ok (.invokevirtual 93, 3) := by decide +kernel
theorem dX4_callHealthiest_22 : decode cX4_callHealthiest 22 = .ok (.ireturn, 1) := by decide +kernel
theorem dX4_callHealthiest_23 : decode cX4_callHealthiest 23 = .ok (.aload_n 0, 1) := by decide +kernel
theorem dX4_callHealthiest_24 : decode cX4_callHealthiest 24 = .ok (.invokevirtual 96, 3) := by decide +kernel
theorem dX4_callHealthiest_27 : decode cX4_callHealthiest 27 = .ok (.aload_n 0, 1) := by decide +kernel
theorem dX4_callHealthiest_28 : decode cX4_callHealthiest 28 = .ok (.invokevirtual 106, 3) := by decide +kernel
theorem dX4_callHealthiest_31 : decode cX4_callHealthiest 31 = .ok (.istore_n 1, 1) := by decide +kernel
theorem dX4_callHealthiest_32 : decode cX4_callHealthiest 32 = .ok (.iload_n 1, 1) := by decide +kernel
theorem dX4_callHealthiest_33 : decode cX4_callHealthiest 33 = .ok (.iconst (-1), 1) := by decide +kernel
theorem dX4_callHealthiest_34 : decode cX4_callHealthiest 34 = .ok (.if_icmp .eq 9, 3) := by decide +kernel
theorem dX4_callHealthiest_37 : decode cX4_callHealthiest 37 = .ok (.aload_n 0, 1) := by decide +kernel
theorem dX4_callHealthiest_38 : decode cX4_callHealthiest 38 = .ok (.iload_n 1, 1) := by decide +kernel
theorem dX4_callHealthiest_39 : decode cX4_callHealthiest 39 = .ok (.invokevirtual 84, 3) := by decide +kernel
theorem dX4_callHealthiest_42 : decode cX4_callHealthiest 42 = .ok (.pop, 1) := by decide +kernel
theorem dX4_callHealthiest_43 : decode cX4_callHealthiest 43 = .ok (.iload_n 1, 1) := by decide +kernel
theorem dX4_callHealthiest_44 : decode cX4_callHealthiest 44 = .ok (.ireturn, 1) := by decide +kernel
theorem dX4_close_0 : decode cX4_close 0 = .ok (.aload_n 0, 1) := by decide +kernel
theorem dX4_close_1 : decode cX4_close 1 = .ok (.iconst 0, 1) := by decide +kernel
theorem dX4_close_2 : decode cX4_close 2 = .ok (.putfield 25, 3) := by decide +kernel
theorem dX4_close_5 : decode cX4_close 5 = .ok (.iload_n 1, 1) := by decide +kernel
theorem dX4_close_6 : decode cX4_close 6 = .ok (.invokestatic 90, 3) := by decide +kernel
theorem dX4_close_9 : decode cX4_close 9 = .ok (.ifCond .ne 9, 3) := by decide +kernel
theorem dX4_close_12 : decode cX4_close 12 = .ok (.aload_n 0, 1) := by decide +kernel
theorem dX4_close_13 : decode cX4_close 13 = .ok (.iconst 1, 1) := by decide +kernel
theorem dX4_close_14 : decode cX4_close 14 = .ok (.invokevirtual 93, 3) := by decide +kernel
theorem dX4_close_17 : decode cX4_close 17 = .ok (.ireturn, 1) := by decide +kernel
theorem dX4_close_18 : decode cX4_close 18 = .ok (.aload_n 0, 1) := by decide +kernel
theorem dX4_close_19 : decode cX4_close 19 = .ok (.invokevirtual 96, 3) := by decide +kernel
theorem dX4_close_22 : decode cX4_close 22 = .ok (.aload_n 0, 1) := by decide +kernel
theorem dX4_close_23 : decode cX4_close 23 = .ok (.iload_n 1, 1) := by decide +kernel
theorem dX4_close_24 : decode cX4_close 24 = .ok (.iconst 2, 1) := by decide +kernel
theorem dX4_close_25 : decode cX4_close 25 = .ok (.invokevirtual 40, 3) := by decide +kernel
theorem dX4_close_28 : decode cX4_close 28 = .ok (.istore_n 2, 1) := by decide +kernel
theorem dX4_close_29 : decode cX4_close 29 = .ok (.iconst 0, 1) := by decide +kernel
theorem dX4_close_30 : decode cX4_close 30 = .ok (.istore_n 3, 1) := by decide +kernel
theorem dX4_close_31 : decode cX4_close 31 = .ok (.iload_n 3, 1) := by decide +kernel
theorem dX4_close_32 : decode cX4_close 32 = .ok (.aload_n 0, 1) := by decide +kernel
theorem dX4_close_33 : decode cX4_close 33 = .ok (.getfield 7, 3) := by decide +kernel
theorem dX4_close_36 : decode cX4_close 36 = .ok (.bipush 9, 2) := by decide +kernel
theorem dX4_close_38 : decode cX4_close 38 = .ok (.iaload, 1) := by decide +kernel
theorem dX4_close_39 : decode cX4_close 39 = .ok (.if_icmp .ge 33, 3) := by decide +kernel
theorem dX4_close_42 : decode cX4_close 42 = .ok (.aload_n 0, 1) := by decide +kernel
theorem dX4_close_43 : decode cX4_close 43 = .ok (.iload_n 3, 1) := by decide +kernel
theorem dX4_close_44 : decode cX4_close 44 = .ok (.iconst 0, 1) := by decide +kernel
theorem dX4_close_45 : decode cX4_close 45 = .ok (.invokevirtual 63, 3) := by decide +kernel
theorem dX4_close_48 : decode cX4_close 48 = .ok (.iload_n 1, 1) := by decide +kernel
theorem dX4_close_49 : decode cX4_close 49 = .ok (.if_icmp .ne 17, 3) := by decide +kernel
theorem dX4_close_52 : decode cX4_close 52 = .ok (.aload_n 0, 1) := by decide +kernel
theorem dX4_close_53 : decode cX4_close 53 = .ok (.getfield 7, 3) := by decide +kernel
theorem dX4_close_56 : decode cX4_close 56 = .ok (.bipush 10, 2) := by decide +kernel
theorem dX4_close_58 : decode cX4_close 58 = .ok (.iconst 5, 1) := by decide +kernel
theorem dX4_close_59 : decode cX4_close 59 = .ok (.iload_n 3, 1) := by decide +kernel
theorem dX4_close_60 : decode cX4_close 60 = .ok (.imul, 1) := by decide +kernel
theorem dX4_close_61 : decode cX4_close 61 = .ok (.iadd, 1) := by decide +kernel
theorem dX4_close_62 : decode cX4_close 62 = .ok (.iconst 3, 1) := by decide +kernel
theorem dX4_close_63 : decode cX4_close 63 = .ok (.iadd, 1) := by decide +kernel
theorem dX4_close_64 : decode cX4_close 64 = .ok (.iconst 0, 1) := by decide +kernel
theorem dX4_close_65 : decode cX4_close 65 = .ok (.iastore, 1) := by decide +kernel
theorem dX4_close_66 : decode cX4_close 66 = .ok (.iinc 3 1, 3) := by decide +kernel
theorem dX4_close_69 : decode cX4_close 69 = .ok (.goto (-38), 3) := by decide +kernel
theorem dX4_close_72 : decode cX4_close 72 = .ok (.aload_n 0, 1) := by decide +kernel
theorem dX4_close_73 : decode cX4_close 73 = .ok (.iload_n 1, 1) := by decide +kernel
theorem dX4_close_74 : decode cX4_close 74 = .ok (.invokevirtual 55, 3) := by decide +kernel
theorem dX4_close_77 : decode cX4_close 77 = .ok (.iload_n 2, 1) := by decide +kernel
theorem dX4_close_78 : decode cX4_close 78 = .ok (.ireturn, 1) := by decide +kernel
theorem dX4_isSetting_0 : decode cX4_isSetting 0 = .ok (.iload_n 0, 1) := by decide +kernel
theorem dX4_isSetting_1 : decode cX4_isSetting 1 = .ok (.tableswitch 55 0 3 #[31, 39, 47, 31], 31) := by decide +kernel
theorem dX4_isSetting_32 : decode cX4_isSetting 32 = .ok (.iload_n 1, 1) := by decide +kernel
theorem dX4_isSetting_33 : decode cX4_isSetting 33 = .ok (.iconst 1, 1) := by decide +kernel
theorem dX4_isSetting_34 : decode cX4_isSetting 34 = .ok (.bipush 99, 2) := by decide +kernel
theorem dX4_isSetting_36 : decode cX4_isSetting 36 = .ok (.invokestatic 33, 3) := by decide +kernel
theorem dX4_isSetting_39 : decode cX4_isSetting 39 = .ok (.ireturn, 1) := by decide +kernel
theorem dX4_isSetting_40 : decode cX4_isSetting 40 = .ok (.iload_n 1, 1) := by decide +kernel
theorem dX4_isSetting_41 : decode cX4_isSetting 41 = .ok (.iconst 2, 1) := by decide +kernel
theorem dX4_isSetting_42 : decode cX4_isSetting 42 = .ok (.bipush 16, 2) := by decide +kernel
theorem dX4_isSetting_44 : decode cX4_isSetting 44 = .ok (.invokestatic 33, 3) := by decide +kernel
theorem dX4_isSetting_47 : decode cX4_isSetting 47 = .ok (.ireturn, 1) := by decide +kernel
theorem dX4_isSetting_48 : decode cX4_isSetting 48 = .ok (.iload_n 1, 1) := by decide +kernel
theorem dX4_isSetting_49 : decode cX4_isSetting 49 = .ok (.iconst 1, 1) := by decide +kernel
theorem dX4_isSetting_50 : decode cX4_isSetting 50 = .ok (.bipush 16, 2) := by decide +kernel
theorem dX4_isSetting_52 : decode cX4_isSetting 52 = .ok (.invokestatic 33, 3) := by decide +kernel
theorem dX4_isSetting_55 : decode cX4_isSetting 55 = .ok (.ireturn, 1) := by decide +kernel
theorem dX4_isSetting_56 : decode cX4_isSetting 56 = .ok (.iload_n 1, 1) := by decide +kernel
theorem dX4_isSetting_57 : decode cX4_isSetting 57 = .ok (.iconst 1, 1) := by decide +kernel
theorem dX4_isSetting_58 : decode cX4_isSetting 58 = .ok (.sipush 999, 3) := by decide +kernel
theorem dX4_isSetting_61 : decode cX4_isSetting 61 = .ok (.invokestatic 33, 3) := by decide +kernel
theorem dX4_isSetting_64 : decode cX4_isSetting 64 = .ok (.ireturn, 1) := by decide +kernel
theorem dX4_set_0 : decode cX4_set 0 = .ok (.aload_n 0, 1) := by decide +kernel
theorem dX4_set_1 : decode cX4_set 1 = .ok (.iconst 0, 1) := by decide +kernel
theorem dX4_set_2 : decode cX4_set 2 = .ok (.putfield 25, 3) := by decide +kernel
theorem dX4_set_5 : decode cX4_set 5 = .ok (.iload_n 1, 1) := by decide +kernel
theorem dX4_set_6 : decode cX4_set 6 = .ok (.iconst 0, 1) := by decide +kernel
theorem dX4_set_7 : decode cX4_set 7 = .ok (.iconst 4, 1) := by decide +kernel
theorem dX4_set_8 : decode cX4_set 8 = .ok (.invokestatic 33, 3) := by decide +kernel
theorem dX4_set_11 : decode cX4_set 11 = .ok (.ifCond .ne 9, 3) := by decide +kernel
theorem dX4_set_14 : decode cX4_set 14 = .ok (.aload_n 0, 1) := by decide +kernel
theorem dX4_set_15 : decode cX4_set 15 = .ok (.iconst 1, 1) := by decide +kernel
theorem dX4_set_16 : decode cX4_set 16 = .ok (.invokevirtual 93, 3) := by decide +kernel
theorem dX4_set_19 : decode cX4_set 19 = .ok (.ireturn, 1) := by decide +kernel
theorem dX4_set_20 : decode cX4_set 20 = .ok (.iload_n 1, 1) := by decide +kernel
theorem dX4_set_21 : decode cX4_set 21 = .ok (.iload_n 2, 1) := by decide +kernel
theorem dX4_set_22 : decode cX4_set 22 = .ok (.invokestatic 109, 3) := by decide +kernel
theorem dX4_set_25 : decode cX4_set 25 = .ok (.ifCond .ne 9, 3) := by decide +kernel
theorem dX4_set_28 : decode cX4_set 28 = .ok (.aload_n 0, 1) := by decide +kernel
theorem dX4_set_29 : decode cX4_set 29 = .ok (.iconst 2, 1) := by decide +kernel
theorem dX4_set_30 : decode cX4_set 30 = .ok (.invokevirtual 93, 3) := by decide +kernel
theorem dX4_set_33 : decode cX4_set 33 = .ok (.ireturn, 1) := by decide +kernel
theorem dX4_set_34 : decode cX4_set 34 = .ok (.aload_n 0, 1) := by decide +kernel
theorem dX4_set_35 : decode cX4_set 35 = .ok (.invokevirtual 96, 3) := by decide +kernel
theorem dX4_set_38 : decode cX4_set 38 = .ok (.aload_n 0, 1) := by decide +kernel
theorem dX4_set_39 : decode cX4_set 39 = .ok (.getfield 7, 3) := by decide +kernel
theorem dX4_set_42 : decode cX4_set 42 = .ok (.iload_n 1, 1) := by decide +kernel
theorem dX4_set_43 : decode cX4_set 43 = .ok (.iaload, 1) := by decide +kernel
theorem dX4_set_44 : decode cX4_set 44 = .ok (.istore_n 3, 1) := by decide +kernel
theorem dX4_set_45 : decode cX4_set 45 = .ok (.aload_n 0, 1) := by decide +kernel
theorem dX4_set_46 : decode cX4_set 46 = .ok (.getfield 7, 3) := by decide +kernel
theorem dX4_set_49 : decode cX4_set 49 = .ok (.iload_n 1, 1) := by decide +kernel
theorem dX4_set_50 : decode cX4_set 50 = .ok (.iload_n 2, 1) := by decide +kernel
theorem dX4_set_51 : decode cX4_set 51 = .ok (.iastore, 1) := by decide +kernel
theorem dX4_set_52 : decode cX4_set 52 = .ok (.iload_n 3, 1) := by decide +kernel
theorem dX4_set_53 : decode cX4_set 53 = .ok (.ireturn, 1) := by decide +kernel
theorem dX4_pass_0 : decode cX4_pass 0 = .ok (.aload_n 0, 1) := by decide +kernel
theorem dX4_pass_1 : decode cX4_pass 1 = .ok (.iconst 0, 1) := by decide +kernel
theorem dX4_pass_2 : decode cX4_pass 2 = .ok (.putfield 25, 3) := by decide +kernel
theorem dX4_pass_5 : decode cX4_pass 5 = .ok (.iload_n 1, 1) := by decide +kernel
theorem dX4_pass_6 : decode cX4_pass 6 = .ok (.iconst 1, 1) := by decide +kernel
theorem dX4_pass_7 : decode cX4_pass 7 = .ok (.sipush 200, 3) := by decide +kernel
theorem dX4_pass_10 : decode cX4_pass 10 = .ok (.invokestatic 33, 3) := by decide +kernel
theorem dX4_pass_13 : decode cX4_pass 13 = .ok (.ifCond .ne 9, 3) := by decide +kernel
theorem dX4_pass_16 : decode cX4_pass 16 = .ok (.aload_n 0, 1) := by decide +kernel
theorem dX4_pass_17 : decode cX4_pass 17 = .ok (.iconst 1, 1) := by decide +kernel
theorem dX4_pass_18 : decode cX4_pass 18 = .ok (.invokevirtual 93, 3) := by decide +kernel
theorem dX4_pass_21 : decode cX4_pass 21 = .ok (.ireturn, 1) := by decide +kernel
theorem dX4_pass_22 : decode cX4_pass 22 = .ok (.aload_n 0, 1) := by decide +kernel
theorem dX4_pass_23 : decode cX4_pass 23 = .ok (.invokevirtual 96, 3) := by decide +kernel
theorem dX4_pass_26 : decode cX4_pass 26 = .ok (.aload_n 0, 1) := by decide +kernel
theorem dX4_pass_27 : decode cX4_pass 27 = .ok (.iload_n 1, 1) := by decide +kernel
theorem dX4_pass_28 : decode cX4_pass 28 = .ok (.invokevirtual 87, 3) := by decide +kernel
theorem dX4_pass_31 : decode cX4_pass 31 = .ok (.ireturn, 1) := by decide +kernel
theorem dX4_append_0 : decode cX4_append 0 = .ok (.aload_n 0, 1) := by decide +kernel
theorem dX4_append_1 : decode cX4_append 1 = .ok (.iconst 0, 1) := by decide +kernel
theorem dX4_append_2 : decode cX4_append 2 = .ok (.putfield 25, 3) := by decide +kernel
theorem dX4_append_5 : decode cX4_append 5 = .ok (.iload_n 1, 1) := by decide +kernel
theorem dX4_append_6 : decode cX4_append 6 = .ok (.bipush 33, 2) := by decide +kernel
theorem dX4_append_8 : decode cX4_append 8 = .ok (.bipush 126, 2) := by decide +kernel
theorem dX4_append_10 : decode cX4_append 10 = .ok (.invokestatic 33, 3) := by decide +kernel
theorem dX4_append_13 : decode cX4_append 13 = .ok (.ifCond .ne 9, 3) := by decide +kernel
theorem dX4_append_16 : decode cX4_append 16 = .ok (.aload_n 0, 1) := by decide +kernel
theorem dX4_append_17 : decode cX4_append 17 = .ok (.iconst 1, 1) := by decide +kernel
theorem dX4_append_18 : decode cX4_append 18 = .ok (.invokevirtual 93, 3) := by decide +kernel
theorem dX4_append_21 : decode cX4_append 21 = .ok (.ireturn, 1) := by decide +kernel
theorem dX4_append_22 : decode cX4_append 22 = .ok (.aload_n 0, 1) := by decide +kernel
theorem dX4_append_23 : decode cX4_append 23 = .ok (.getfield 113, 3) := by decide +kernel
theorem dX4_append_26 : decode cX4_append 26 = .ok (.bipush 60, 2) := by decide +kernel
theorem dX4_append_28 : decode cX4_append 28 = .ok (.if_icmp .ne 9, 3) := by decide +kernel
theorem dX4_append_31 : decode cX4_append 31 = .ok (.aload_n 0, 1) := by decide +kernel
theorem dX4_append_32 : decode cX4_append 32 = .ok (.iconst 2, 1) := by decide +kernel
theorem dX4_append_33 : decode cX4_append 33 = .ok (.invokevirtual 93, 3) := by decide +kernel
theorem dX4_append_36 : decode cX4_append 36 = .ok (.ireturn, 1) := by decide +kernel
theorem dX4_append_37 : decode cX4_append 37 = .ok (.aload_n 0, 1) := by decide +kernel
theorem dX4_append_38 : decode cX4_append 38 = .ok (.getfield 19, 3) := by decide +kernel
theorem dX4_append_41 : decode cX4_append 41 = .ok (.aload_n 0, 1) := by decide +kernel
theorem dX4_append_42 : decode cX4_append 42 = .ok (.getfield 113, 3) := by decide +kernel
theorem dX4_append_45 : decode cX4_append 45 = .ok (.iload_n 1, 1) := by decide +kernel
theorem dX4_append_46 : decode cX4_append 46 = .ok (.iastore, 1) := by decide +kernel
theorem dX4_append_47 : decode cX4_append 47 = .ok (.aload_n 0, 1) := by decide +kernel
theorem dX4_append_48 : decode cX4_append 48 = .ok (.dup, 1) := by decide +kernel
theorem dX4_append_49 : decode cX4_append 49 = .ok (.getfield 113, 3) := by decide +kernel
theorem dX4_append_52 : decode cX4_append 52 = .ok (.iconst 1, 1) := by decide +kernel
theorem dX4_append_53 : decode cX4_append 53 = .ok (.iadd, 1) := by decide +kernel
theorem dX4_append_54 : decode cX4_append 54 = .ok (.putfield 113, 3) := by decide +kernel
theorem dX4_append_57 : decode cX4_append 57 = .ok (.aload_n 0, 1) := by decide +kernel
theorem dX4_append_58 : decode cX4_append 58 = .ok (.getfield 113, 3) := by decide +kernel
theorem dX4_append_61 : decode cX4_append 61 = .ok (.ireturn, 1) := by decide +kernel
theorem dX4_clearBuffer_0 : decode cX4_clearBuffer 0 = .ok (.aload_n 0, 1) := by decide +kernel
theorem dX4_clearBuffer_1 : decode cX4_clearBuffer 1 = .ok (.iconst 0, 1) := by decide +kernel
theorem dX4_clearBuffer_2 : decode cX4_clearBuffer 2 = .ok (.putfield 25, 3) := by decide +kernel
theorem dX4_clearBuffer_5 : decode cX4_clearBuffer 5 = .ok (.aload_n 0, 1) := by decide +kernel
theorem dX4_clearBuffer_6 : decode cX4_clearBuffer 6 = .ok (.getfield 113, 3) := by decide +kernel
theorem dX4_clearBuffer_9 : decode cX4_clearBuffer 9 = .ok (.istore_n 1, 1) := by decide +kernel
theorem dX4_clearBuffer_10 : decode cX4_clearBuffer 10 = .ok (.aload_n 0, 1) := by decide +kernel
theorem dX4_clearBuffer_11 : decode cX4_clearBuffer 11 = .ok (.iconst 0, 1) := by decide +kernel
theorem dX4_clearBuffer_12 : decode cX4_clearBuffer 12 = .ok (.putfield 113, 3) := by decide +kernel
theorem dX4_clearBuffer_15 : decode cX4_clearBuffer 15 = .ok (.iload_n 1, 1) := by decide +kernel
theorem dX4_clearBuffer_16 : decode cX4_clearBuffer 16 = .ok (.ireturn, 1) := by decide +kernel
theorem dX4_sign_0 : decode cX4_sign 0 = .ok (.aload_n 0, 1) := by decide +kernel
theorem dX4_sign_1 : decode cX4_sign 1 = .ok (.getfield 116, 3) := by decide +kernel
theorem dX4_sign_4 : decode cX4_sign 4 = .ok (.aload_n 0, 1) := by decide +kernel
theorem dX4_sign_5 : decode cX4_sign 5 = .ok (.getfield 113, 3) := by decide +kernel
theorem dX4_sign_8 : decode cX4_sign 8 = .ok (.if_icmp .ge 15, 3) := by decide +kernel
theorem dX4_sign_11 : decode cX4_sign 11 = .ok (.aload_n 0, 1) := by decide +kernel
theorem dX4_sign_12 : decode cX4_sign 12 = .ok (.getfield 19, 3) := by decide +kernel
theorem dX4_sign_15 : decode cX4_sign 15 = .ok (.aload_n 0, 1) := by decide +kernel
theorem dX4_sign_16 : decode cX4_sign 16 = .ok (.getfield 116, 3) := by decide +kernel
theorem dX4_sign_19 : decode cX4_sign 19 = .ok (.iaload, 1) := by decide +kernel
theorem dX4_sign_20 : decode cX4_sign 20 = .ok (.goto 4, 3) := by decide +kernel
theorem dX4_sign_23 : decode cX4_sign 23 = .ok (.iconst 0, 1) := by decide +kernel
theorem dX4_sign_24 : decode cX4_sign 24 = .ok (.ireturn, 1) := by decide +kernel
theorem dX4_readsNumber_0 : decode cX4_readsNumber 0 = .ok (.aload_n 0, 1) := by decide +kernel
theorem dX4_readsNumber_1 : decode cX4_readsNumber 1 = .ok (.aload_n 0, 1) := by decide +kernel
theorem dX4_readsNumber_2 : decode cX4_readsNumber 2 = .ok (.invokevirtual 119, 3) := by decide +kernel
theorem dX4_readsNumber_5 : decode cX4_readsNumber 5 = .ok (.bipush 48, 2) := by decide +kernel
theorem dX4_readsNumber_7 : decode cX4_readsNumber 7 = .ok (.bipush 57, 2) := by decide +kernel
theorem dX4_readsNumber_9 : decode cX4_readsNumber 9 = .ok (.invokestatic 33, 3) := by decide +kernel
theorem dX4_readsNumber_12 : decode cX4_readsNumber 12 = .ok (.putfield 122, 3) := by decide +kernel
theorem dX4_readsNumber_15 : decode cX4_readsNumber 15 = .ok (.aload_n 0, 1) := by decide +kernel
theorem dX4_readsNumber_16 : decode cX4_readsNumber 16 = .ok (.invokevirtual 119, 3) := by decide +kernel
theorem dX4_readsNumber_19 : decode cX4_readsNumber 19 = .ok (.bipush 48, 2) := by decide +kernel
theorem dX4_readsNumber_21 : decode cX4_readsNumber 21 = .ok (.isub, 1) := by decide +kernel
theorem dX4_readsNumber_22 : decode cX4_readsNumber 22 = .ok (.istore_n 1, 1) := by decide +kernel
theorem dX4_readsNumber_23 : decode cX4_readsNumber 23 = .ok (.aload_n 0, 1) := by decide +kernel
theorem dX4_readsNumber_24 : decode cX4_readsNumber 24 = .ok (.dup, 1) := by decide +kernel
theorem dX4_readsNumber_25 : decode cX4_readsNumber 25 = .ok (.getfield 116, 3) := by decide +kernel
theorem dX4_readsNumber_28 : decode cX4_readsNumber 28 = .ok (.aload_n 0, 1) := by decide +kernel
theorem dX4_readsNumber_29 : decode cX4_readsNumber 29 = .ok (.getfield 122, 3) := by decide +kernel
theorem dX4_readsNumber_32 : decode cX4_readsNumber 32 = .ok (.ifCond .eq 7, 3) := by decide +kernel
theorem dX4_readsNumber_35 : decode cX4_readsNumber 35 = .ok (.iconst 1, 1) := by decide +kernel
theorem dX4_readsNumber_36 : decode cX4_readsNumber 36 = .ok (.goto 4, 3) := by decide +kernel
theorem dX4_readsNumber_39 : decode cX4_readsNumber 39 = .ok (.iconst 0, 1) := by decide +kernel
theorem dX4_readsNumber_40 : decode cX4_readsNumber 40 = .ok (.iadd, 1) := by decide +kernel
theorem dX4_readsNumber_41 : decode cX4_readsNumber 41 = .ok (.putfield 116, 3) := by decide +kernel
theorem dX4_readsNumber_44 : decode cX4_readsNumber 44 = .ok (.aload_n 0, 1) := by decide +kernel
theorem dX4_readsNumber_45 : decode cX4_readsNumber 45 = .ok (.getfield 122, 3) := by decide +kernel
theorem dX4_readsNumber_48 : decode cX4_readsNumber 48 = .ok (.ifCond .eq 44, 3) := by decide +kernel
theorem dX4_readsNumber_51 : decode cX4_readsNumber 51 = .ok (.iload_n 1, 1) := by decide +kernel
theorem dX4_readsNumber_52 : decode cX4_readsNumber 52 = .ok (.ifCond .le 40, 3) := by decide +kernel
theorem dX4_readsNumber_55 : decode cX4_readsNumber 55 = .ok (.aload_n 0, 1) := by decide +kernel
theorem dX4_readsNumber_56 : decode cX4_readsNumber 56 = .ok (.invokevirtual 119, 3) := by decide +kernel
theorem dX4_readsNumber_59 : decode cX4_readsNumber 59 = .ok (.bipush 48, 2) := by decide +kernel
theorem dX4_readsNumber_61 : decode cX4_readsNumber 61 = .ok (.bipush 57, 2) := by decide +kernel
theorem dX4_readsNumber_63 : decode cX4_readsNumber 63 = .ok (.invokestatic 33, 3) := by decide +kernel
theorem dX4_readsNumber_66 : decode cX4_readsNumber 66 = .ok (.ifCond .eq 26, 3) := by decide +kernel
theorem dX4_readsNumber_69 : decode cX4_readsNumber 69 = .ok (.bipush 10, 2) := by decide +kernel
theorem dX4_readsNumber_71 : decode cX4_readsNumber 71 = .ok (.iload_n 1, 1) := by decide +kernel
theorem dX4_readsNumber_72 : decode cX4_readsNumber 72 = .ok (.imul, 1) := by decide +kernel
theorem dX4_readsNumber_73 : decode cX4_readsNumber 73 = .ok (.aload_n 0, 1) := by decide +kernel
theorem dX4_readsNumber_74 : decode cX4_readsNumber 74 = .ok (.invokevirtual 119, 3) := by decide +kernel
theorem dX4_readsNumber_77 : decode cX4_readsNumber 77 = .ok (.iadd, 1) := by decide +kernel
theorem dX4_readsNumber_78 : decode cX4_readsNumber 78 = .ok (.bipush 48, 2) := by decide +kernel
theorem dX4_readsNumber_80 : decode cX4_readsNumber 80 = .ok (.isub, 1) := by decide +kernel
theorem dX4_readsNumber_81 : decode cX4_readsNumber 81 = .ok (.istore_n 1, 1) := by decide +kernel
theorem dX4_readsNumber_82 : decode cX4_readsNumber 82 = .ok (.aload_n 0, 1) := by decide +kernel
theorem dX4_readsNumber_83 : decode cX4_readsNumber 83 = .ok (.dup, 1) := by decide +kernel
theorem dX4_readsNumber_84 : decode cX4_readsNumber 84 = .ok (.getfield 116, 3) := by decide +kernel
theorem dX4_readsNumber_87 : decode cX4_readsNumber 87 = .ok (.iconst 1, 1) := by decide +kernel
theorem dX4_readsNumber_88 : decode cX4_readsNumber 88 = .ok (.iadd, 1) := by decide +kernel
theorem dX4_readsNumber_89 : decode cX4_readsNumber 89 = .ok (.putfield 116, 3) := by decide +kernel
theorem dX4_readsNumber_92 : decode cX4_readsNumber 92 = .ok (.aload_n 0, 1) := by decide +kernel
theorem dX4_readsNumber_93 : decode cX4_readsNumber 93 = .ok (.getfield 122, 3) := by decide +kernel
theorem dX4_readsNumber_96 : decode cX4_readsNumber 96 = .ok (.ifCond .eq 23, 3) := by decide +kernel
theorem dX4_readsNumber_99 : decode cX4_readsNumber 99 = .ok (.aload_n 0, 1) := by decide +kernel
theorem dX4_readsNumber_100 : decode cX4_readsNumber 100 = .ok (.getfield 22, 3) := by decide +kernel
theorem dX4_readsNumber_103 : decode cX4_readsNumber 103 = .ok (.aload_n 0, 1) := by decide +kernel
theorem dX4_readsNumber_104 : decode cX4_readsNumber 104 = .ok (.getfield 126, 3) := by decide +kernel
theorem dX4_readsNumber_107 : decode cX4_readsNumber 107 = .ok (.iload_n 1, 1) := by decide +kernel
theorem dX4_readsNumber_108 : decode cX4_readsNumber 108 = .ok (.iastore, 1) := by decide +kernel
theorem dX4_readsNumber_109 : decode cX4_readsNumber 109 = .ok (.aload_n 0, 1) := by decide +kernel
theorem dX4_readsNumber_110 : decode cX4_readsNumber 110 = .ok (.dup, 1) := by decide +kernel
theorem dX4_readsNumber_111 : decode cX4_readsNumber 111 = .ok (.getfield 126, 3) := by decide +kernel
theorem dX4_readsNumber_114 : decode cX4_readsNumber 114 = .ok (.iconst 1, 1) := by decide +kernel
theorem dX4_readsNumber_115 : decode cX4_readsNumber 115 = .ok (.iadd, 1) := by decide +kernel
theorem dX4_readsNumber_116 : decode cX4_readsNumber 116 = .ok (.putfield 126, 3) := by decide +kernel
theorem dX4_readsNumber_119 : decode cX4_readsNumber 119 = .ok (.return_, 1) := by decide +kernel
theorem dX4_readsAll_0 : decode cX4_readsAll 0 = .ok (.aload_n 0, 1) := by decide +kernel
theorem dX4_readsAll_1 : decode cX4_readsAll 1 = .ok (.iconst 0, 1) := by decide +kernel
theorem dX4_readsAll_2 : decode cX4_readsAll 2 = .ok (.putfield 116, 3) := by decide +kernel
theorem dX4_readsAll_5 : decode cX4_readsAll 5 = .ok (.aload_n 0, 1) := by decide +kernel
theorem dX4_readsAll_6 : decode cX4_readsAll 6 = .ok (.iconst 0, 1) := by decide +kernel
theorem dX4_readsAll_7 : decode cX4_readsAll 7 = .ok (.putfield 126, 3) := by decide +kernel
theorem dX4_readsAll_10 : decode cX4_readsAll 10 = .ok (.aload_n 0, 1) := by decide +kernel
theorem dX4_readsAll_11 : decode cX4_readsAll 11 = .ok (.invokevirtual 129, 3) := by decide +kernel
theorem dX4_readsAll_14 : decode cX4_readsAll 14 = .ok (.aload_n 0, 1) := by decide +kernel
theorem dX4_readsAll_15 : decode cX4_readsAll 15 = .ok (.getfield 122, 3) := by decide +kernel
theorem dX4_readsAll_18 : decode cX4_readsAll 18 = .ok (.ifCond .eq 76, 3) := by decide +kernel
theorem dX4_readsAll_21 : decode cX4_readsAll 21 = .ok (.aload_n 0, 1) := by decide +kernel
theorem dX4_readsAll_22 : decode cX4_readsAll 22 = .ok (.getfield 116, 3) := by decide +kernel
theorem dX4_readsAll_25 : decode cX4_readsAll 25 = .ok (.aload_n 0, 1) := by decide +kernel
theorem dX4_readsAll_26 : decode cX4_readsAll 26 = .ok (.getfield 113, 3) := by decide +kernel
theorem dX4_readsAll_29 : decode cX4_readsAll 29 = .ok (.if_icmp .ge 65, 3) := by decide +kernel
theorem dX4_readsAll_32 : decode cX4_readsAll 32 = .ok (.aload_n 0, 1) := by decide +kernel
theorem dX4_readsAll_33 : decode cX4_readsAll 33 = .ok (.aload_n 0, 1) := by decide +kernel
theorem dX4_readsAll_34 : decode cX4_readsAll 34 = .ok (.invokevirtual 119, 3) := by decide +kernel
theorem dX4_readsAll_37 : decode cX4_readsAll 37 = .ok (.bipush 44, 2) := by decide +kernel
theorem dX4_readsAll_39 : decode cX4_readsAll 39 = .ok (.if_icmp .ne 16, 3) := by decide +kernel
theorem dX4_readsAll_42 : decode cX4_readsAll 42 = .ok (.aload_n 0, 1) := by decide +kernel
theorem dX4_readsAll_43 : decode cX4_readsAll 43 = .ok (.getfield 126, 3) := by decide +kernel
theorem dX4_readsAll_46 : decode cX4_readsAll 46 = .ok (.bipush 20, 2) := by decide +kernel
theorem dX4_readsAll_48 : decode cX4_readsAll 48 = .ok (.if_icmp .ge 7, 3) := by decide +kernel
theorem dX4_readsAll_51 : decode cX4_readsAll 51 = .ok (.iconst 1, 1) := by decide +kernel
theorem dX4_readsAll_52 : decode cX4_readsAll 52 = .ok (.goto 4, 3) := by decide +kernel
theorem dX4_readsAll_55 : decode cX4_readsAll 55 = .ok (.iconst 0, 1) := by decide +kernel
theorem dX4_readsAll_56 : decode cX4_readsAll 56 = .ok (.putfield 122, 3) := by decide +kernel
theorem dX4_readsAll_59 : decode cX4_readsAll 59 = .ok (.aload_n 0, 1) := by decide +kernel
theorem dX4_readsAll_60 : decode cX4_readsAll 60 = .ok (.dup, 1) := by decide +kernel
theorem dX4_readsAll_61 : decode cX4_readsAll 61 = .ok (.getfield 116, 3) := by decide +kernel
theorem dX4_readsAll_64 : decode cX4_readsAll 64 = .ok (.aload_n 0, 1) := by decide +kernel
theorem dX4_readsAll_65 : decode cX4_readsAll 65 = .ok (.getfield 122, 3) := by decide +kernel
theorem dX4_readsAll_68 : decode cX4_readsAll 68 = .ok (.ifCond .eq 7, 3) := by decide +kernel
theorem dX4_readsAll_71 : decode cX4_readsAll 71 = .ok (.iconst 1, 1) := by decide +kernel
theorem dX4_readsAll_72 : decode cX4_readsAll 72 = .ok (.goto 4, 3) := by decide +kernel
theorem dX4_readsAll_75 : decode cX4_readsAll 75 = .ok (.iconst 0, 1) := by decide +kernel
theorem dX4_readsAll_76 : decode cX4_readsAll 76 = .ok (.iadd, 1) := by decide +kernel
theorem dX4_readsAll_77 : decode cX4_readsAll 77 = .ok (.putfield 116, 3) := by decide +kernel
theorem dX4_readsAll_80 : decode cX4_readsAll 80 = .ok (.aload_n 0, 1) := by decide +kernel
theorem dX4_readsAll_81 : decode cX4_readsAll 81 = .ok (.getfield 122, 3) := by decide +kernel
theorem dX4_readsAll_84 : decode cX4_readsAll 84 = .ok (.ifCond .eq (-70), 3) := by decide +kernel
theorem dX4_readsAll_87 : decode cX4_readsAll 87 = .ok (.aload_n 0, 1) := by decide +kernel
theorem dX4_readsAll_88 : decode cX4_readsAll 88 = .ok (.invokevirtual 129, 3) := by decide +kernel
theorem dX4_readsAll_91 : decode cX4_readsAll 91 = .ok (.goto (-77), 3) := by decide +kernel
theorem dX4_readsAll_94 : decode cX4_readsAll 94 = .ok (.return_, 1) := by decide +kernel
theorem dX4_firstError_0 : decode cX4_firstError 0 = .ok (.aload_n 0, 1) := by decide +kernel
theorem dX4_firstError_1 : decode cX4_firstError 1 = .ok (.iconst 0, 1) := by decide +kernel
theorem dX4_firstError_2 : decode cX4_firstError 2 = .ok (.putfield 25, 3) := by decide +kernel
theorem dX4_firstError_5 : decode cX4_firstError 5 = .ok (.aload_n 0, 1) := by decide +kernel
theorem dX4_firstError_6 : decode cX4_firstError 6 = .ok (.invokevirtual 132, 3) := by decide +kernel
theorem dX4_firstError_9 : decode cX4_firstError 9 = .ok (.aload_n 0, 1) := by decide +kernel
theorem dX4_firstError_10 : decode cX4_firstError 10 = .ok (.getfield 116, 3) := by decide +kernel
theorem dX4_firstError_13 : decode cX4_firstError 13 = .ok (.ireturn, 1) := by decide +kernel
theorem dX4_delays_0 : decode cX4_delays 0 = .ok (.aload_n 0, 1) := by decide +kernel
theorem dX4_delays_1 : decode cX4_delays 1 = .ok (.iconst 0, 1) := by decide +kernel
theorem dX4_delays_2 : decode cX4_delays 2 = .ok (.putfield 25, 3) := by decide +kernel
theorem dX4_delays_5 : decode cX4_delays 5 = .ok (.iload_n 1, 1) := by decide +kernel
theorem dX4_delays_6 : decode cX4_delays 6 = .ok (.invokestatic 90, 3) := by decide +kernel
theorem dX4_delays_9 : decode cX4_delays 9 = .ok (.ifCond .ne 9, 3) := by decide +kernel
theorem dX4_delays_12 : decode cX4_delays 12 = .ok (.aload_n 0, 1) := by decide +kernel
theorem dX4_delays_13 : decode cX4_delays 13 = .ok (.iconst 1, 1) := by decide +kernel
theorem dX4_delays_14 : decode cX4_delays 14 = .ok (.invokevirtual 93, 3) := by decide +kernel
theorem dX4_delays_17 : decode cX4_delays 17 = .ok (.ireturn, 1) := by decide +kernel
theorem dX4_delays_18 : decode cX4_delays 18 = .ok (.aload_n 0, 1) := by decide +kernel
theorem dX4_delays_19 : decode cX4_delays 19 = .ok (.invokevirtual 132, 3) := by decide +kernel
theorem dX4_delays_22 : decode cX4_delays 22 = .ok (.aload_n 0, 1) := by decide +kernel
theorem dX4_delays_23 : decode cX4_delays 23 = .ok (.getfield 122, 3) := by decide +kernel
theorem dX4_delays_26 : decode cX4_delays 26 = .ok (.ifCond .ne 9, 3) := by decide +kernel
theorem dX4_delays_29 : decode cX4_delays 29 = .ok (.aload_n 0, 1) := by decide +kernel
theorem dX4_delays_30 : decode cX4_delays 30 = .ok (.iconst 2, 1) := by decide +kernel
theorem dX4_delays_31 : decode cX4_delays 31 = .ok (.invokevirtual 93, 3) := by decide +kernel
theorem dX4_delays_34 : decode cX4_delays 34 = .ok (.ireturn, 1) := by decide +kernel
theorem dX4_delays_35 : decode cX4_delays 35 = .ok (.aload_n 0, 1) := by decide +kernel
theorem dX4_delays_36 : decode cX4_delays 36 = .ok (.invokevirtual 96, 3) := by decide +kernel
theorem dX4_delays_39 : decode cX4_delays 39 = .ok (.aload_n 0, 1) := by decide +kernel
theorem dX4_delays_40 : decode cX4_delays 40 = .ok (.iconst 0, 1) := by decide +kernel
theorem dX4_delays_41 : decode cX4_delays 41 = .ok (.putfield 113, 3) := by decide +kernel
theorem dX4_delays_44 : decode cX4_delays 44 = .ok (.aload_n 0, 1) := by decide +kernel
theorem dX4_delays_45 : decode cX4_delays 45 = .ok (.iload_n 1, 1) := by decide +kernel
theorem dX4_delays_46 : decode cX4_delays 46 = .ok (.iconst 0, 1) := by decide +kernel
theorem dX4_delays_47 : decode cX4_delays 47 = .ok (.invokevirtual 40, 3) := by decide +kernel
theorem dX4_delays_50 : decode cX4_delays 50 = .ok (.istore_n 2, 1) := by decide +kernel
theorem dX4_delays_51 : decode cX4_delays 51 = .ok (.iconst 0, 1) := by decide +kernel
theorem dX4_delays_52 : decode cX4_delays 52 = .ok (.istore_n 3, 1) := by decide +kernel
theorem dX4_delays_53 : decode cX4_delays 53 = .ok (.iload_n 3, 1) := by decide +kernel
theorem dX4_delays_54 : decode cX4_delays 54 = .ok (.bipush 20, 2) := by decide +kernel
theorem dX4_delays_56 : decode cX4_delays 56 = .ok (.if_icmp .ge 36, 3) := by decide +kernel
theorem dX4_delays_59 : decode cX4_delays 59 = .ok (.aload_n 0, 1) := by decide +kernel
theorem dX4_delays_60 : decode cX4_delays 60 = .ok (.iload_n 1, 1) := by decide +kernel
theorem dX4_delays_61 : decode cX4_delays 61 = .ok (.bipush 12, 2) := by decide +kernel
theorem dX4_delays_63 : decode cX4_delays 63 = .ok (.iload_n 3, 1) := by decide +kernel
theorem dX4_delays_64 : decode cX4_delays 64 = .ok (.iadd, 1) := by decide +kernel
theorem dX4_delays_65 : decode cX4_delays 65 = .ok (.iload_n 3, 1) := by decide +kernel
theorem dX4_delays_66 : decode cX4_delays 66 = .ok (.aload_n 0, 1) := by decide +kernel
theorem dX4_delays_67 : decode cX4_delays 67 = .ok (.getfield 126, 3) := by decide +kernel
theorem dX4_delays_70 : decode cX4_delays 70 = .ok (.if_icmp .ge 12, 3) := by decide +kernel
theorem dX4_delays_73 : decode cX4_delays 73 = .ok (.aload_n 0, 1) := by decide +kernel
theorem dX4_delays_74 : decode cX4_delays 74 = .ok (.getfield 22, 3) := by decide +kernel
theorem dX4_delays_77 : decode cX4_delays 77 = .ok (.iload_n 3, 1) := by decide +kernel
theorem dX4_delays_78 : decode cX4_delays 78 = .ok (.iaload, 1) := by decide +kernel
theorem dX4_delays_79 : decode cX4_delays 79 = .ok (.goto 4, 3) := by decide +kernel
theorem dX4_delays_82 : decode cX4_delays 82 = .ok (.iconst 0, 1) := by decide +kernel
theorem dX4_delays_83 : decode cX4_delays 83 = .ok (.invokevirtual 29, 3) := by decide +kernel
theorem dX4_delays_86 : decode cX4_delays 86 = .ok (.iinc 3 1, 3) := by decide +kernel
theorem dX4_delays_89 : decode cX4_delays 89 = .ok (.goto (-36), 3) := by decide +kernel
theorem dX4_delays_92 : decode cX4_delays 92 = .ok (.aload_n 0, 1) := by decide +kernel
theorem dX4_delays_93 : decode cX4_delays 93 = .ok (.iload_n 1, 1) := by decide +kernel
theorem dX4_delays_94 : decode cX4_delays 94 = .ok (.iconst 0, 1) := by decide +kernel
theorem dX4_delays_95 : decode cX4_delays 95 = .ok (.aload_n 0, 1) := by decide +kernel
theorem dX4_delays_96 : decode cX4_delays 96 = .ok (.getfield 126, 3) := by decide +kernel
theorem dX4_delays_99 : decode cX4_delays 99 = .ok (.invokevirtual 29, 3) := by decide +kernel
theorem dX4_delays_102 : decode cX4_delays 102 = .ok (.aload_n 0, 1) := by decide +kernel
theorem dX4_delays_103 : decode cX4_delays 103 = .ok (.iload_n 1, 1) := by decide +kernel
theorem dX4_delays_104 : decode cX4_delays 104 = .ok (.iconst 1, 1) := by decide +kernel
theorem dX4_delays_105 : decode cX4_delays 105 = .ok (.iconst 0, 1) := by decide +kernel
theorem dX4_delays_106 : decode cX4_delays 106 = .ok (.invokevirtual 29, 3) := by decide +kernel
theorem dX4_delays_109 : decode cX4_delays 109 = .ok (.iload_n 2, 1) := by decide +kernel
theorem dX4_delays_110 : decode cX4_delays 110 = .ok (.ireturn, 1) := by decide +kernel
theorem dX4_undo_0 : decode cX4_undo 0 = .ok (.aload_n 0, 1) := by decide +kernel
theorem dX4_undo_1 : decode cX4_undo 1 = .ok (.iconst 0, 1) := by decide +kernel
theorem dX4_undo_2 : decode cX4_undo 2 = .ok (.putfield 25, 3) := by decide +kernel
theorem dX4_undo_5 : decode cX4_undo 5 = .ok (.aload_n 0, 1) := by decide +kernel
theorem dX4_undo_6 : decode cX4_undo 6 = .ok (.getfield 37, 3) := by decide +kernel
theorem dX4_undo_9 : decode cX4_undo 9 = .ok (.ifCond .ne 9, 3) := by decide +kernel
theorem dX4_undo_12 : decode cX4_undo 12 = .ok (.aload_n 0, 1) := by decide +kernel
theorem dX4_undo_13 : decode cX4_undo 13 = .ok (.iconst 1, 1) := by decide +kernel
theorem dX4_undo_14 : decode cX4_undo 14 = .ok (.invokevirtual 93, 3) := by decide +kernel
theorem dX4_undo_17 : decode cX4_undo 17 = .ok (.ireturn, 1) := by decide +kernel
theorem dX4_undo_18 : decode cX4_undo 18 = .ok (.aload_n 0, 1) := by decide +kernel
theorem dX4_undo_19 : decode cX4_undo 19 = .ok (.dup, 1) := by decide +kernel
theorem dX4_undo_20 : decode cX4_undo 20 = .ok (.getfield 37, 3) := by decide +kernel
theorem dX4_undo_23 : decode cX4_undo 23 = .ok (.iconst 1, 1) := by decide +kernel
theorem dX4_undo_24 : decode cX4_undo 24 = .ok (.isub, 1) := by decide +kernel
theorem dX4_undo_25 : decode cX4_undo 25 = .ok (.putfield 37, 3) := by decide +kernel
theorem dX4_undo_28 : decode cX4_undo 28 = .ok (.iconst 0, 1) := by decide +kernel
theorem dX4_undo_29 : decode cX4_undo 29 = .ok (.istore_n 1, 1) := by decide +kernel
theorem dX4_undo_30 : decode cX4_undo 30 = .ok (.iload_n 1, 1) := by decide +kernel
theorem dX4_undo_31 : decode cX4_undo 31 = .ok (.sipush 218, 3) := by decide +kernel
theorem dX4_undo_34 : decode cX4_undo 34 = .ok (.if_icmp .ge 30, 3) := by decide +kernel
theorem dX4_undo_37 : decode cX4_undo 37 = .ok (.aload_n 0, 1) := by decide +kernel
theorem dX4_undo_38 : decode cX4_undo 38 = .ok (.getfield 7, 3) := by decide +kernel
theorem dX4_undo_41 : decode cX4_undo 41 = .ok (.iload_n 1, 1) := by decide +kernel
theorem dX4_undo_42 : decode cX4_undo 42 = .ok (.aload_n 0, 1) := by decide +kernel
theorem dX4_undo_43 : decode cX4_undo 43 = .ok (.getfield 16, 3) := by decide +kernel
theorem dX4_undo_46 : decode cX4_undo 46 = .ok (.sipush 218, 3) := by decide +kernel
theorem dX4_undo_49 : decode cX4_undo 49 = .ok (.aload_n 0, 1) := by decide +kernel
theorem dX4_undo_50 : decode cX4_undo 50 = .ok (.getfield 37, 3) := by decide +kernel
theorem dX4_undo_53 : decode cX4_undo 53 = .ok (.imul, 1) := by decide +kernel
theorem dX4_undo_54 : decode cX4_undo 54 = .ok (.iload_n 1, 1) := by decide +kernel
theorem dX4_undo_55 : decode cX4_undo 55 = .ok (.iadd, 1) := by decide +kernel
theorem dX4_undo_56 : decode cX4_undo 56 = .ok (.iaload, 1) := by decide +kernel
theorem dX4_undo_57 : decode cX4_undo 57 = .ok (.iastore, 1) := by decide +kernel
theorem dX4_undo_58 : decode cX4_undo 58 = .ok (.iinc 1 1, 3) := by decide +kernel
theorem dX4_undo_61 : decode cX4_undo 61 = .ok (.goto (-31), 3) := by decide +kernel
theorem dX4_undo_64 : decode cX4_undo 64 = .ok (.aload_n 0, 1) := by decide +kernel
theorem dX4_undo_65 : decode cX4_undo 65 = .ok (.getfield 37, 3) := by decide +kernel
theorem dX4_undo_68 : decode cX4_undo 68 = .ok (.ireturn, 1) := by decide +kernel
theorem dX4_tellsStore_0 : decode cX4_tellsStore 0 = .ok (.iload_n 2, 1) := by decide +kernel
theorem dX4_tellsStore_1 : decode cX4_tellsStore 1 = .ok (.tableswitch 115 0 9 #[55, 62, 68, 74, 81, 89, 89, 89, 101, 107], 55) := by decide +kernel
theorem dX4_tellsStore_56 : decode cX4_tellsStore 56 = .ok (.aload_n 0, 1) := by decide +kernel
theorem dX4_tellsStore_57 : decode cX4_tellsStore 57 = .ok (.iload_n 1, 1) := by decide +kernel
theorem dX4_tellsStore_58 : decode cX4_tellsStore 58 = .ok (.iconst 2, 1) := by decide +kernel
theorem dX4_tellsStore_59 : decode cX4_tellsStore 59 = .ok (.invokevirtual 40, 3) := by decide +kernel
theorem dX4_tellsStore_62 : decode cX4_tellsStore 62 = .ok (.ireturn, 1) := by decide +kernel
theorem dX4_tellsStore_63 : decode cX4_tellsStore 63 = .ok (.aload_n 0, 1) := by decide +kernel
theorem dX4_tellsStore_64 : decode cX4_tellsStore 64 = .ok (.iload_n 1, 1) := by decide +kernel
theorem dX4_tellsStore_65 : decode cX4_tellsStore 65 = .ok (.invokevirtual 44, 3) := by decide +kernel
theorem dX4_tellsStore_68 : decode cX4_tellsStore 68 = .ok (.ireturn, 1) := by decide +kernel
theorem dX4_tellsStore_69 : decode cX4_tellsStore 69 = .ok (.aload_n 0, 1) := by decide +kernel
theorem dX4_tellsStore_70 : decode cX4_tellsStore 70 = .ok (.iload_n 1, 1) := by decide +kernel
theorem dX4_tellsStore_71 : decode cX4_tellsStore 71 = .ok (.invokevirtual 60, 3) := by decide +kernel
theorem dX4_tellsStore_74 : decode cX4_tellsStore 74 = .ok (.ireturn, 1) := by decide +kernel
theorem dX4_tellsStore_75 : decode cX4_tellsStore 75 = .ok (.aload_n 0, 1) := by decide +kernel
theorem dX4_tellsStore_76 : decode cX4_tellsStore 76 = .ok (.iload_n 1, 1) := by decide +kernel
theorem dX4_tellsStore_77 : decode cX4_tellsStore 77 = .ok (.iconst 5, 1) := by decide +kernel
theorem dX4_tellsStore_78 : decode cX4_tellsStore 78 = .ok (.invokevirtual 40, 3) := by decide +kernel
theorem dX4_tellsStore_81 : decode cX4_tellsStore 81 = .ok (.ireturn, 1) := by decide +kernel
theorem dX4_tellsStore_82 : decode cX4_tellsStore 82 = .ok (.aload_n 0, 1) := by decide +kernel
theorem dX4_tellsStore_83 : decode cX4_tellsStore 83 = .ok (.iload_n 1, 1) := by decide +kernel
theorem dX4_tellsStore_84 : decode cX4_tellsStore 84 = .ok (.bipush 6, 2) := by decide +kernel
theorem dX4_tellsStore_86 : decode cX4_tellsStore 86 = .ok (.invokevirtual 40, 3) := by decide +kernel
theorem dX4_tellsStore_89 : decode cX4_tellsStore 89 = .ok (.ireturn, 1) := by decide +kernel
theorem dX4_tellsStore_90 : decode cX4_tellsStore 90 = .ok (.aload_n 0, 1) := by decide +kernel
theorem dX4_tellsStore_91 : decode cX4_tellsStore 91 = .ok (.iload_n 1, 1) := by decide +kernel
theorem dX4_tellsStore_92 : decode cX4_tellsStore 92 = .ok (.bipush 7, 2) := by decide +kernel
theorem dX4_tellsStore_94 : decode cX4_tellsStore 94 = .ok (.iload_n 2, 1) := by decide +kernel
theorem dX4_tellsStore_95 : decode cX4_tellsStore 95 = .ok (.iadd, 1) := by decide +kernel
theorem dX4_tellsStore_96 : decode cX4_tellsStore 96 = .ok (.iconst 5, 1) := by decide +kernel
theorem dX4_tellsStore_97 : decode cX4_tellsStore 97 = .ok (.isub, 1) := by decide +kernel
theorem dX4_tellsStore_98 : decode cX4_tellsStore 98 = .ok (.invokevirtual 40, 3) := by decide +kernel
theorem dX4_tellsStore_101 : decode cX4_tellsStore 101 = .ok (.ireturn, 1) := by decide +kernel
theorem dX4_tellsStore_102 : decode cX4_tellsStore 102 = .ok (.aload_n 0, 1) := by decide +kernel
theorem dX4_tellsStore_103 : decode cX4_tellsStore 103 = .ok (.iload_n 1, 1) := by decide +kernel
theorem dX4_tellsStore_104 : decode cX4_tellsStore 104 = .ok (.invokevirtual 103, 3) := by decide +kernel
theorem dX4_tellsStore_107 : decode cX4_tellsStore 107 = .ok (.ireturn, 1) := by decide +kernel
theorem dX4_tellsStore_108 : decode cX4_tellsStore 108 = .ok (.aload_n 0, 1) := by decide +kernel
theorem dX4_tellsStore_109 : decode cX4_tellsStore 109 = .ok (.iload_n 1, 1) := by decide +kernel
theorem dX4_tellsStore_110 : decode cX4_tellsStore 110 = .ok (.bipush 10, 2) := by decide +kernel
theorem dX4_tellsStore_112 : decode cX4_tellsStore 112 = .ok (.invokevirtual 40, 3) := by decide +kernel
theorem dX4_tellsStore_115 : decode cX4_tellsStore 115 = .ok (.ireturn, 1) := by decide +kernel
theorem dX4_tellsStore_116 : decode cX4_tellsStore 116 = .ok (.aload_n 0, 1) := by decide +kernel
theorem dX4_tellsStore_117 : decode cX4_tellsStore 117 = .ok (.iload_n 1, 1) := by decide +kernel
theorem dX4_tellsStore_118 : decode cX4_tellsStore 118 = .ok (.bipush 12, 2) := by decide +kernel
theorem dX4_tellsStore_120 : decode cX4_tellsStore 120 = .ok (.aload_n 0, 1) := by decide +kernel
theorem dX4_tellsStore_121 : decode cX4_tellsStore 121 = .ok (.iload_n 1, 1) := by decide +kernel
theorem dX4_tellsStore_122 : decode cX4_tellsStore 122 = .ok (.iconst 1, 1) := by decide +kernel
theorem dX4_tellsStore_123 : decode cX4_tellsStore 123 = .ok (.invokevirtual 40, 3) := by decide +kernel
theorem dX4_tellsStore_126 : decode cX4_tellsStore 126 = .ok (.iadd, 1) := by decide +kernel
theorem dX4_tellsStore_127 : decode cX4_tellsStore 127 = .ok (.invokevirtual 40, 3) := by decide +kernel
theorem dX4_tellsStore_130 : decode cX4_tellsStore 130 = .ok (.ireturn, 1) := by decide +kernel
theorem dX4_store_0 : decode cX4_store 0 = .ok (.aload_n 0, 1) := by decide +kernel
theorem dX4_store_1 : decode cX4_store 1 = .ok (.iconst 0, 1) := by decide +kernel
theorem dX4_store_2 : decode cX4_store 2 = .ok (.putfield 25, 3) := by decide +kernel
theorem dX4_store_5 : decode cX4_store 5 = .ok (.iload_n 1, 1) := by decide +kernel
theorem dX4_store_6 : decode cX4_store 6 = .ok (.invokestatic 90, 3) := by decide +kernel
theorem dX4_store_9 : decode cX4_store 9 = .ok (.ifCond .ne 9, 3) := by decide +kernel
theorem dX4_store_12 : decode cX4_store 12 = .ok (.aload_n 0, 1) := by decide +kernel
theorem dX4_store_13 : decode cX4_store 13 = .ok (.iconst 1, 1) := by decide +kernel
theorem dX4_store_14 : decode cX4_store 14 = .ok (.invokevirtual 93, 3) := by decide +kernel
theorem dX4_store_17 : decode cX4_store 17 = .ok (.ireturn, 1) := by decide +kernel
theorem dX4_store_18 : decode cX4_store 18 = .ok (.iload_n 2, 1) := by decide +kernel
theorem dX4_store_19 : decode cX4_store 19 = .ok (.iconst 0, 1) := by decide +kernel
theorem dX4_store_20 : decode cX4_store 20 = .ok (.bipush 10, 2) := by decide +kernel
theorem dX4_store_22 : decode cX4_store 22 = .ok (.invokestatic 33, 3) := by decide +kernel
theorem dX4_store_25 : decode cX4_store 25 = .ok (.ifCond .eq 12, 3) := by decide +kernel
theorem dX4_store_28 : decode cX4_store 28 = .ok (.aload_n 0, 1) := by decide +kernel
theorem dX4_store_29 : decode cX4_store 29 = .ok (.iload_n 1, 1) := by decide +kernel
theorem dX4_store_30 : decode cX4_store 30 = .ok (.iload_n 2, 1) := by decide +kernel
theorem dX4_store_31 : decode cX4_store 31 = .ok (.invokevirtual 135, 3) := by decide +kernel
theorem dX4_store_34 : decode cX4_store 34 = .ok (.goto 8, 3) := by decide +kernel
theorem dX4_store_37 : decode cX4_store 37 = .ok (.aload_n 0, 1) := by decide +kernel
theorem dX4_store_38 : decode cX4_store 38 = .ok (.iconst 2, 1) := by decide +kernel
theorem dX4_store_39 : decode cX4_store 39 = .ok (.invokevirtual 93, 3) := by decide +kernel
theorem dX4_store_42 : decode cX4_store 42 = .ok (.ireturn, 1) := by decide +kernel
theorem dX4_delay_0 : decode cX4_delay 0 = .ok (.aload_n 0, 1) := by decide +kernel
theorem dX4_delay_1 : decode cX4_delay 1 = .ok (.iconst 0, 1) := by decide +kernel
theorem dX4_delay_2 : decode cX4_delay 2 = .ok (.putfield 25, 3) := by decide +kernel
theorem dX4_delay_5 : decode cX4_delay 5 = .ok (.iload_n 1, 1) := by decide +kernel
theorem dX4_delay_6 : decode cX4_delay 6 = .ok (.invokestatic 90, 3) := by decide +kernel
theorem dX4_delay_9 : decode cX4_delay 9 = .ok (.ifCond .ne 9, 3) := by decide +kernel
theorem dX4_delay_12 : decode cX4_delay 12 = .ok (.aload_n 0, 1) := by decide +kernel
theorem dX4_delay_13 : decode cX4_delay 13 = .ok (.iconst 1, 1) := by decide +kernel
theorem dX4_delay_14 : decode cX4_delay 14 = .ok (.invokevirtual 93, 3) := by decide +kernel
theorem dX4_delay_17 : decode cX4_delay 17 = .ok (.ireturn, 1) := by decide +kernel
theorem dX4_delay_18 : decode cX4_delay 18 = .ok (.iload_n 2, 1) := by decide +kernel
theorem dX4_delay_19 : decode cX4_delay 19 = .ok (.ifCond .ge 9, 3) := by decide +kernel
theorem dX4_delay_22 : decode cX4_delay 22 = .ok (.aload_n 0, 1) := by decide +kernel
theorem dX4_delay_23 : decode cX4_delay 23 = .ok (.iconst 2, 1) := by decide +kernel
theorem dX4_delay_24 : decode cX4_delay 24 = .ok (.invokevirtual 93, 3) := by decide +kernel
theorem dX4_delay_27 : decode cX4_delay 27 = .ok (.ireturn, 1) := by decide +kernel
theorem dX4_delay_28 : decode cX4_delay 28 = .ok (.iload_n 2, 1) := by decide +kernel
theorem dX4_delay_29 : decode cX4_delay 29 = .ok (.aload_n 0, 1) := by decide +kernel
theorem dX4_delay_30 : decode cX4_delay 30 = .ok (.iload_n 1, 1) := by decide +kernel
theorem dX4_delay_31 : decode cX4_delay 31 = .ok (.iconst 0, 1) := by decide +kernel
theorem dX4_delay_32 : decode cX4_delay 32 = .ok (.invokevirtual 40, 3) := by decide +kernel
theorem dX4_delay_35 : decode cX4_delay 35 = .ok (.if_icmp .ge 15, 3) := by decide +kernel
theorem dX4_delay_38 : decode cX4_delay 38 = .ok (.aload_n 0, 1) := by decide +kernel
theorem dX4_delay_39 : decode cX4_delay 39 = .ok (.iload_n 1, 1) := by decide +kernel
theorem dX4_delay_40 : decode cX4_delay 40 = .ok (.bipush 12, 2) := by decide +kernel
theorem dX4_delay_42 : decode cX4_delay 42 = .ok (.iload_n 2, 1) := by decide +kernel
theorem dX4_delay_43 : decode cX4_delay 43 = .ok (.iadd, 1) := by decide +kernel
theorem dX4_delay_44 : decode cX4_delay 44 = .ok (.invokevirtual 40, 3) := by decide +kernel
theorem dX4_delay_47 : decode cX4_delay 47 = .ok (.goto 4, 3) := by decide +kernel
theorem dX4_delay_50 : decode cX4_delay 50 = .ok (.iconst (-1), 1) := by decide +kernel
theorem dX4_delay_51 : decode cX4_delay 51 = .ok (.ireturn, 1) := by decide +kernel
theorem dX4_onWay_0 : decode cX4_onWay 0 = .ok (.aload_n 0, 1) := by decide +kernel
theorem dX4_onWay_1 : decode cX4_onWay 1 = .ok (.iconst 0, 1) := by decide +kernel
theorem dX4_onWay_2 : decode cX4_onWay 2 = .ok (.putfield 25, 3) := by decide +kernel
theorem dX4_onWay_5 : decode cX4_onWay 5 = .ok (.iload_n 1, 1) := by decide +kernel
theorem dX4_onWay_6 : decode cX4_onWay 6 = .ok (.ifCond .lt 12, 3) := by decide +kernel
theorem dX4_onWay_9 : decode cX4_onWay 9 = .ok (.iload_n 2, 1) := by decide +kernel
theorem dX4_onWay_10 : decode cX4_onWay 10 = .ok (.iconst 0, 1) := by decide +kernel
theorem dX4_onWay_11 : decode cX4_onWay 11 = .ok (.iconst 3, 1) := by decide +kernel
theorem dX4_onWay_12 : decode cX4_onWay 12 = .ok (.invokestatic 33, 3) := by decide +kernel
theorem dX4_onWay_15 : decode cX4_onWay 15 = .ok (.ifCond .ne 9, 3) := by decide +kernel
theorem dX4_onWay_18 : decode cX4_onWay 18 = .ok (.aload_n 0, 1) := by decide +kernel
theorem dX4_onWay_19 : decode cX4_onWay 19 = .ok (.iconst 1, 1) := by decide +kernel
theorem dX4_onWay_20 : decode cX4_onWay 20 = .ok (.invokevirtual 93, 3) := by decide +kernel
theorem dX4_onWay_23 : decode cX4_onWay 23 = .ok (.ireturn, 1) := by decide +kernel
theorem dX4_onWay_24 : decode cX4_onWay 24 = .ok (.iload_n 1, 1) := by decide +kernel
theorem dX4_onWay_25 : decode cX4_onWay 25 = .ok (.aload_n 0, 1) := by decide +kernel
theorem dX4_onWay_26 : decode cX4_onWay 26 = .ok (.getfield 7, 3) := by decide +kernel
theorem dX4_onWay_29 : decode cX4_onWay 29 = .ok (.bipush 9, 2) := by decide +kernel
theorem dX4_onWay_31 : decode cX4_onWay 31 = .ok (.iaload, 1) := by decide +kernel
theorem dX4_onWay_32 : decode cX4_onWay 32 = .ok (.if_icmp .ge 12, 3) := by decide +kernel
theorem dX4_onWay_35 : decode cX4_onWay 35 = .ok (.aload_n 0, 1) := by decide +kernel
theorem dX4_onWay_36 : decode cX4_onWay 36 = .ok (.iload_n 1, 1) := by decide +kernel
theorem dX4_onWay_37 : decode cX4_onWay 37 = .ok (.iload_n 2, 1) := by decide +kernel
theorem dX4_onWay_38 : decode cX4_onWay 38 = .ok (.invokevirtual 63, 3) := by decide +kernel
theorem dX4_onWay_41 : decode cX4_onWay 41 = .ok (.goto 4, 3) := by decide +kernel
theorem dX4_onWay_44 : decode cX4_onWay 44 = .ok (.iconst (-1), 1) := by decide +kernel
theorem dX4_onWay_45 : decode cX4_onWay 45 = .ok (.ireturn, 1) := by decide +kernel
theorem dX4_overStores_0 : decode cX4_overStores 0 = .ok (.iconst 0, 1) := by decide +kernel
theorem dX4_overStores_1 : decode cX4_overStores 1 = .ok (.istore_n 2, 1) := by decide +kernel
theorem dX4_overStores_2 : decode cX4_overStores 2 = .ok (.iconst 0, 1) := by decide +kernel
theorem dX4_overStores_3 : decode cX4_overStores 3 = .ok (.istore_n 3, 1) := by decide +kernel
theorem dX4_overStores_4 : decode cX4_overStores 4 = .ok (.iload_n 3, 1) := by decide +kernel
theorem dX4_overStores_5 : decode cX4_overStores 5 = .ok (.iconst 4, 1) := by decide +kernel
theorem dX4_overStores_6 : decode cX4_overStores 6 = .ok (.if_icmp .ge 52, 3) := by decide +kernel
theorem dX4_overStores_9 : decode cX4_overStores 9 = .ok (.iload_n 2, 1) := by decide +kernel
theorem dX4_overStores_10 : decode cX4_overStores 10 = .ok (.iload_n 1, 1) := by decide +kernel
theorem dX4_overStores_11 : decode cX4_overStores 11 = .ok (.bipush 6, 2) := by decide +kernel
theorem dX4_overStores_13 : decode cX4_overStores 13 = .ok (.if_icmp .ne 20, 3) := by decide +kernel
theorem dX4_overStores_16 : decode cX4_overStores 16 = .ok (.aload_n 0, 1) := by decide +kernel
theorem dX4_overStores_17 : decode cX4_overStores 17 = .ok (.iload_n 3, 1) := by decide +kernel
theorem dX4_overStores_18 : decode cX4_overStores 18 = .ok (.iconst 2, 1) := by decide +kernel
theorem dX4_overStores_19 : decode cX4_overStores 19 = .ok (.invokevirtual 40, 3) := by decide +kernel
theorem dX4_overStores_22 : decode cX4_overStores 22 = .ok (.ifCond .ne 7, 3) := by decide +kernel
theorem dX4_overStores_25 : decode cX4_overStores 25 = .ok (.iconst 1, 1) := by decide +kernel
theorem dX4_overStores_26 : decode cX4_overStores 26 = .ok (.goto 24, 3) := by decide +kernel
theorem dX4_overStores_29 : decode cX4_overStores 29 = .ok (.iconst 0, 1) := by decide +kernel
theorem dX4_overStores_30 : decode cX4_overStores 30 = .ok (.goto 20, 3) := by decide +kernel
theorem dX4_overStores_33 : decode cX4_overStores 33 = .ok (.aload_n 0, 1) := by decide +kernel
theorem dX4_overStores_34 : decode cX4_overStores 34 = .ok (.iload_n 3, 1) := by decide +kernel
theorem dX4_overStores_35 : decode cX4_overStores 35 = .ok (.iload_n 1, 1) := by decide +kernel
theorem dX4_overStores_36 : decode cX4_overStores 36 = .ok (.iconst 2, 1) := by decide +kernel
theorem dX4_overStores_37 : decode cX4_overStores 37 = .ok (.if_icmp .ne 8, 3) := by decide +kernel
theorem dX4_overStores_40 : decode cX4_overStores 40 = .ok (.bipush 7, 2) := by decide +kernel
theorem dX4_overStores_42 : decode cX4_overStores 42 = .ok (.goto 5, 3) := by decide +kernel
theorem dX4_overStores_45 : decode cX4_overStores 45 = .ok (.bipush 8, 2) := by decide +kernel
theorem dX4_overStores_47 : decode cX4_overStores 47 = .ok (.invokevirtual 40, 3) := by decide +kernel
theorem dX4_overStores_50 : decode cX4_overStores 50 = .ok (.iadd, 1) := by decide +kernel
theorem dX4_overStores_51 : decode cX4_overStores 51 = .ok (.istore_n 2, 1) := by decide +kernel
theorem dX4_overStores_52 : decode cX4_overStores 52 = .ok (.iinc 3 1, 3) := by decide +kernel
theorem dX4_overStores_55 : decode cX4_overStores 55 = .ok (.goto (-51), 3) := by decide +kernel
theorem dX4_overStores_58 : decode cX4_overStores 58 = .ok (.iload_n 2, 1) := by decide +kernel
theorem dX4_overStores_59 : decode cX4_overStores 59 = .ok (.ireturn, 1) := by decide +kernel
theorem dX4_counts_0 : decode cX4_counts 0 = .ok (.iload_n 1, 1) := by decide +kernel
theorem dX4_counts_1 : decode cX4_counts 1 = .ok (.tableswitch 92 0 7 #[47, 54, 62, 62, 68, 76, 62, 84], 47) := by decide +kernel
theorem dX4_counts_48 : decode cX4_counts 48 = .ok (.aload_n 0, 1) := by decide +kernel
theorem dX4_counts_49 : decode cX4_counts 49 = .ok (.getfield 7, 3) := by decide +kernel
theorem dX4_counts_52 : decode cX4_counts 52 = .ok (.iconst 5, 1) := by decide +kernel
theorem dX4_counts_53 : decode cX4_counts 53 = .ok (.iaload, 1) := by decide +kernel
theorem dX4_counts_54 : decode cX4_counts 54 = .ok (.ireturn, 1) := by decide +kernel
theorem dX4_counts_55 : decode cX4_counts 55 = .ok (.aload_n 0, 1) := by decide +kernel
theorem dX4_counts_56 : decode cX4_counts 56 = .ok (.getfield 7, 3) := by decide +kernel
theorem dX4_counts_59 : decode cX4_counts 59 = .ok (.bipush 9, 2) := by decide +kernel
theorem dX4_counts_61 : decode cX4_counts 61 = .ok (.iaload, 1) := by decide +kernel
theorem dX4_counts_62 : decode cX4_counts 62 = .ok (.ireturn, 1) := by decide +kernel
theorem dX4_counts_63 : decode cX4_counts 63 = .ok (.aload_n 0, 1) := by decide +kernel
theorem dX4_counts_64 : decode cX4_counts 64 = .ok (.iload_n 1, 1) := by decide +kernel
theorem dX4_counts_65 : decode cX4_counts 65 = .ok (.invokevirtual 138, 3) := by decide +kernel
theorem dX4_counts_68 : decode cX4_counts 68 = .ok (.ireturn, 1) := by decide +kernel
theorem dX4_counts_69 : decode cX4_counts 69 = .ok (.aload_n 0, 1) := by decide +kernel
theorem dX4_counts_70 : decode cX4_counts 70 = .ok (.getfield 7, 3) := by decide +kernel
theorem dX4_counts_73 : decode cX4_counts 73 = .ok (.bipush 6, 2) := by decide +kernel
theorem dX4_counts_75 : decode cX4_counts 75 = .ok (.iaload, 1) := by decide +kernel
theorem dX4_counts_76 : decode cX4_counts 76 = .ok (.ireturn, 1) := by decide +kernel
theorem dX4_counts_77 : decode cX4_counts 77 = .ok (.aload_n 0, 1) := by decide +kernel
theorem dX4_counts_78 : decode cX4_counts 78 = .ok (.getfield 7, 3) := by decide +kernel
theorem dX4_counts_81 : decode cX4_counts 81 = .ok (.bipush 7, 2) := by decide +kernel
theorem dX4_counts_83 : decode cX4_counts 83 = .ok (.iaload, 1) := by decide +kernel
theorem dX4_counts_84 : decode cX4_counts 84 = .ok (.ireturn, 1) := by decide +kernel
theorem dX4_counts_85 : decode cX4_counts 85 = .ok (.aload_n 0, 1) := by decide +kernel
theorem dX4_counts_86 : decode cX4_counts 86 = .ok (.getfield 7, 3) := by decide +kernel
theorem dX4_counts_89 : decode cX4_counts 89 = .ok (.bipush 8, 2) := by decide +kernel
theorem dX4_counts_91 : decode cX4_counts 91 = .ok (.iaload, 1) := by decide +kernel
theorem dX4_counts_92 : decode cX4_counts 92 = .ok (.ireturn, 1) := by decide +kernel
theorem dX4_counts_93 : decode cX4_counts 93 = .ok (.aload_n 0, 1) := by decide +kernel
theorem dX4_counts_94 : decode cX4_counts 94 = .ok (.getfield 37, 3) := by decide +kernel
theorem dX4_counts_97 : decode cX4_counts 97 = .ok (.ireturn, 1) := by decide +kernel
theorem dX4_count_0 : decode cX4_count 0 = .ok (.aload_n 0, 1) := by decide +kernel
theorem dX4_count_1 : decode cX4_count 1 = .ok (.iconst 0, 1) := by decide +kernel
theorem dX4_count_2 : decode cX4_count 2 = .ok (.putfield 25, 3) := by decide +kernel
theorem dX4_count_5 : decode cX4_count 5 = .ok (.iload_n 1, 1) := by decide +kernel
theorem dX4_count_6 : decode cX4_count 6 = .ok (.iconst 0, 1) := by decide +kernel
theorem dX4_count_7 : decode cX4_count 7 = .ok (.bipush 8, 2) := by decide +kernel
theorem dX4_count_9 : decode cX4_count 9 = .ok (.invokestatic 33, 3) := by decide +kernel
theorem dX4_count_12 : decode cX4_count 12 = .ok (.ifCond .eq 11, 3) := by decide +kernel
theorem dX4_count_15 : decode cX4_count 15 = .ok (.aload_n 0, 1) := by decide +kernel
theorem dX4_count_16 : decode cX4_count 16 = .ok (.iload_n 1, 1) := by decide +kernel
theorem dX4_count_17 : decode cX4_count 17 = .ok (.invokevirtual 141, 3) := by decide +kernel
theorem dX4_count_20 : decode cX4_count 20 = .ok (.goto 8, 3) := by decide +kernel
theorem dX4_count_23 : decode cX4_count 23 = .ok (.aload_n 0, 1) := by decide +kernel
theorem dX4_count_24 : decode cX4_count 24 = .ok (.iconst 1, 1) := by decide +kernel
theorem dX4_count_25 : decode cX4_count 25 = .ok (.invokevirtual 93, 3) := by decide +kernel
theorem dX4_count_28 : decode cX4_count 28 = .ok (.ireturn, 1) := by decide +kernel
theorem dX4_setting_0 : decode cX4_setting 0 = .ok (.aload_n 0, 1) := by decide +kernel
theorem dX4_setting_1 : decode cX4_setting 1 = .ok (.iconst 0, 1) := by decide +kernel
theorem dX4_setting_2 : decode cX4_setting 2 = .ok (.putfield 25, 3) := by decide +kernel
theorem dX4_setting_5 : decode cX4_setting 5 = .ok (.iload_n 1, 1) := by decide +kernel
theorem dX4_setting_6 : decode cX4_setting 6 = .ok (.iconst 0, 1) := by decide +kernel
theorem dX4_setting_7 : decode cX4_setting 7 = .ok (.iconst 4, 1) := by decide +kernel
theorem dX4_setting_8 : decode cX4_setting 8 = .ok (.invokestatic 33, 3) := by decide +kernel
theorem dX4_setting_11 : decode cX4_setting 11 = .ok (.ifCond .eq 12, 3) := by decide +kernel
theorem dX4_setting_14 : decode cX4_setting 14 = .ok (.aload_n 0, 1) := by decide +kernel
theorem dX4_setting_15 : decode cX4_setting 15 = .ok (.getfield 7, 3) := by decide +kernel
theorem dX4_setting_18 : decode cX4_setting 18 = .ok (.iload_n 1, 1) := by decide +kernel
theorem dX4_setting_19 : decode cX4_setting 19 = .ok (.iaload, 1) := by decide +kernel
theorem dX4_setting_20 : decode cX4_setting 20 = .ok (.goto 8, 3) := by decide +kernel
theorem dX4_setting_23 : decode cX4_setting 23 = .ok (.aload_n 0, 1) := by decide +kernel
theorem dX4_setting_24 : decode cX4_setting 24 = .ok (.iconst 1, 1) := by decide +kernel
theorem dX4_setting_25 : decode cX4_setting 25 = .ok (.invokevirtual 93, 3) := by decide +kernel
theorem dX4_setting_28 : decode cX4_setting 28 = .ok (.ireturn, 1) := by decide +kernel
theorem dX4_would_0 : decode cX4_would 0 = .ok (.aload_n 0, 1) := by decide +kernel
theorem dX4_would_1 : decode cX4_would 1 = .ok (.invokevirtual 144, 3) := by decide +kernel
theorem dX4_would_4 : decode cX4_would 4 = .ok (.aload_n 0, 1) := by decide +kernel
theorem dX4_would_5 : decode cX4_would 5 = .ok (.iload_n 1, 1) := by decide +kernel
theorem dX4_would_6 : decode cX4_would 6 = .ok (.iload_n 2, 1) := by decide +kernel
theorem dX4_would_7 : decode cX4_would 7 = .ok (.iload_n 3, 1) := by decide +kernel
theorem dX4_would_8 : decode cX4_would 8 = .ok (.invokevirtual 99, 3) := by decide +kernel
theorem dX4_would_11 : decode cX4_would 11 = .ok (.istore 5, 2) := by decide +kernel
theorem dX4_would_13 : decode cX4_would 13 = .ok (.aload_n 0, 1) := by decide +kernel
theorem dX4_would_14 : decode cX4_would 14 = .ok (.iload_n 1, 1) := by decide +kernel
theorem dX4_would_15 : decode cX4_would 15 = .ok (.bipush 8, 2) := by decide +kernel
theorem dX4_would_17 : decode cX4_would 17 = .ok (.invokevirtual 40, 3) := by decide +kernel
theorem dX4_would_20 : decode cX4_would 20 = .ok (.istore 6, 2) := by decide +kernel
theorem dX4_would_22 : decode cX4_would 22 = .ok (.aload_n 0, 1) := by decide +kernel
theorem dX4_would_23 : decode cX4_would 23 = .ok (.getfield 7, 3) := by decide +kernel
theorem dX4_would_26 : decode cX4_would 26 = .ok (.bipush 6, 2) := by decide +kernel
theorem dX4_would_28 : decode cX4_would 28 = .ok (.iaload, 1) := by decide +kernel
theorem dX4_would_29 : decode cX4_would 29 = .ok (.istore 7, 2) := by decide +kernel
theorem dX4_would_31 : decode cX4_would 31 = .ok (.aload_n 0, 1) := by decide +kernel
theorem dX4_would_32 : decode cX4_would 32 = .ok (.iload_n 1, 1) := by decide +kernel
theorem dX4_would_33 : decode cX4_would 33 = .ok (.iconst 2, 1) := by decide +kernel
theorem dX4_would_34 : decode cX4_would 34 = .ok (.invokevirtual 40, 3) := by decide +kernel
theorem dX4_would_37 : decode cX4_would 37 = .ok (.istore 8, 2) := by decide +kernel
theorem dX4_would_39 : decode cX4_would 39 = .ok (.aload_n 0, 1) := by decide +kernel
theorem dX4_would_40 : decode cX4_would 40 = .ok (.invokevirtual 147, 3) := by decide +kernel
theorem dX4_would_43 : decode cX4_would 43 = .ok (.iload 4, 2) := by decide +kernel
theorem dX4_would_45 : decode cX4_would 45 = .ok (.ifCond .ne 8, 3) := by decide +kernel
theorem dX4_would_48 : decode cX4_would 48 = .ok (.iload 5, 2) := by decide +kernel
theorem dX4_would_50 : decode cX4_would 50 = .ok (.goto 43, 3) := by decide +kernel
theorem dX4_would_53 : decode cX4_would 53 = .ok (.iload 4, 2) := by decide +kernel
theorem dX4_would_55 : decode cX4_would 55 = .ok (.iconst 1, 1) := by decide +kernel
theorem dX4_would_56 : decode cX4_would 56 = .ok (.if_icmp .ne 16, 3) := by decide +kernel
theorem dX4_would_59 : decode cX4_would 59 = .ok (.iload 6, 2) := by decide +kernel
theorem dX4_would_61 : decode cX4_would 61 = .ok (.aload_n 0, 1) := by decide +kernel
theorem dX4_would_62 : decode cX4_would 62 = .ok (.iload_n 1, 1) := by decide +kernel
theorem dX4_would_63 : decode cX4_would 63 = .ok (.bipush 8, 2) := by decide +kernel
theorem dX4_would_65 : decode cX4_would 65 = .ok (.invokevirtual 40, 3) := by decide +kernel
theorem dX4_would_68 : decode cX4_would 68 = .ok (.isub, 1) := by decide +kernel
theorem dX4_would_69 : decode cX4_would 69 = .ok (.goto 24, 3) := by decide +kernel
theorem dX4_would_72 : decode cX4_would 72 = .ok (.iload 4, 2) := by decide +kernel
theorem dX4_would_74 : decode cX4_would 74 = .ok (.iconst 2, 1) := by decide +kernel
theorem dX4_would_75 : decode cX4_would 75 = .ok (.if_icmp .ne 16, 3) := by decide +kernel
theorem dX4_would_78 : decode cX4_would 78 = .ok (.iload 7, 2) := by decide +kernel
theorem dX4_would_80 : decode cX4_would 80 = .ok (.aload_n 0, 1) := by decide +kernel
theorem dX4_would_81 : decode cX4_would 81 = .ok (.getfield 7, 3) := by decide +kernel
theorem dX4_would_84 : decode cX4_would 84 = .ok (.bipush 6, 2) := by decide +kernel
theorem dX4_would_86 : decode cX4_would 86 = .ok (.iaload, 1) := by decide +kernel
theorem dX4_would_87 : decode cX4_would 87 = .ok (.isub, 1) := by decide +kernel
theorem dX4_would_88 : decode cX4_would 88 = .ok (.goto 5, 3) := by decide +kernel
theorem dX4_would_91 : decode cX4_would 91 = .ok (.iload 8, 2) := by decide +kernel
theorem dX4_would_93 : decode cX4_would 93 = .ok (.ireturn, 1) := by decide +kernel
theorem dX4_ifCalled_0 : decode cX4_ifCalled 0 = .ok (.aload_n 0, 1) := by decide +kernel
theorem dX4_ifCalled_1 : decode cX4_ifCalled 1 = .ok (.iconst 0, 1) := by decide +kernel
theorem dX4_ifCalled_2 : decode cX4_ifCalled 2 = .ok (.putfield 25, 3) := by decide +kernel
theorem dX4_ifCalled_5 : decode cX4_ifCalled 5 = .ok (.iload_n 1, 1) := by decide +kernel
theorem dX4_ifCalled_6 : decode cX4_ifCalled 6 = .ok (.invokestatic 90, 3) := by decide +kernel
theorem dX4_ifCalled_9 : decode cX4_ifCalled 9 = .ok (.ifCond .ne 9, 3) := by decide +kernel
theorem dX4_ifCalled_12 : decode cX4_ifCalled 12 = .ok (.aload_n 0, 1) := by decide +kernel
theorem dX4_ifCalled_13 : decode cX4_ifCalled 13 = .ok (.iconst 1, 1) := by decide +kernel
theorem dX4_ifCalled_14 : decode cX4_ifCalled 14 = .ok (.invokevirtual 93, 3) := by decide +kernel
theorem dX4_ifCalled_17 : decode cX4_ifCalled 17 = .ok (.ireturn, 1) := by decide +kernel
theorem dX4_ifCalled_18 : decode cX4_ifCalled 18 = .ok (.iload_n 2, 1) := by decide +kernel
theorem dX4_ifCalled_19 : decode cX4_ifCalled 19 = .ok (.iconst 1, 1) := by decide +kernel
theorem dX4_ifCalled_20 : decode cX4_ifCalled 20 = .ok (.bipush 50, 2) := by decide +kernel
theorem dX4_ifCalled_22 : decode cX4_ifCalled 22 = .ok (.invokestatic 33, 3) := by decide +kernel
theorem dX4_ifCalled_25 : decode cX4_ifCalled 25 = .ok (.ifCond .eq 35, 3) := by decide +kernel
theorem dX4_ifCalled_28 : decode cX4_ifCalled 28 = .ok (.iload_n 3, 1) := by decide +kernel
theorem dX4_ifCalled_29 : decode cX4_ifCalled 29 = .ok (.iconst 0, 1) := by decide +kernel
theorem dX4_ifCalled_30 : decode cX4_ifCalled 30 = .ok (.bipush 50, 2) := by decide +kernel
theorem dX4_ifCalled_32 : decode cX4_ifCalled 32 = .ok (.invokestatic 33, 3) := by decide +kernel
theorem dX4_ifCalled_35 : decode cX4_ifCalled 35 = .ok (.ifCond .eq 25, 3) := by decide +kernel
theorem dX4_ifCalled_38 : decode cX4_ifCalled 38 = .ok (.iload 4, 2) := by decide +kernel
theorem dX4_ifCalled_40 : decode cX4_ifCalled 40 = .ok (.iconst 0, 1) := by decide +kernel
theorem dX4_ifCalled_41 : decode cX4_ifCalled 41 = .ok (.iconst 3, 1) := by decide +kernel
theorem dX4_ifCalled_42 : decode cX4_ifCalled 42 = .ok (.invokestatic 33, 3) := by decide +kernel
theorem dX4_ifCalled_45 : decode cX4_ifCalled 45 = .ok (.ifCond .eq 15, 3) := by decide +kernel
theorem dX4_ifCalled_48 : decode cX4_ifCalled 48 = .ok (.aload_n 0, 1) := by decide +kernel
theorem dX4_ifCalled_49 : decode cX4_ifCalled 49 = .ok (.iload_n 1, 1) := by decide +kernel
theorem dX4_ifCalled_50 : decode cX4_ifCalled 50 = .ok (.iload_n 2, 1) := by decide +kernel
theorem dX4_ifCalled_51 : decode cX4_ifCalled 51 = .ok (.iload_n 3, 1) := by decide +kernel
theorem dX4_ifCalled_52 : decode cX4_ifCalled 52 = .ok (.iload 4, 2) := by decide +kernel
theorem dX4_ifCalled_54 : decode cX4_ifCalled 54 = .ok (.invokevirtual 150, 3) := by decide +kernel
theorem dX4_ifCalled_57 : decode cX4_ifCalled 57 = .ok (.goto 8, 3) := by decide +kernel
theorem dX4_ifCalled_60 : decode cX4_ifCalled 60 = .ok (.aload_n 0, 1) := by decide +kernel
theorem dX4_ifCalled_61 : decode cX4_ifCalled 61 = .ok (.iconst 2, 1) := by decide +kernel
theorem dX4_ifCalled_62 : decode cX4_ifCalled 62 = .ok (.invokevirtual 93, 3) := by decide +kernel
theorem dX4_ifCalled_65 : decode cX4_ifCalled 65 = .ok (.ireturn, 1) := by decide +kernel
theorem dX4_untilFree_0 : decode cX4_untilFree 0 = .ok (.aload_n 0, 1) := by decide +kernel
theorem dX4_untilFree_1 : decode cX4_untilFree 1 = .ok (.invokevirtual 144, 3) := by decide +kernel
theorem dX4_untilFree_4 : decode cX4_untilFree 4 = .ok (.iconst 0, 1) := by decide +kernel
theorem dX4_untilFree_5 : decode cX4_untilFree 5 = .ok (.istore_n 2, 1) := by decide +kernel
theorem dX4_untilFree_6 : decode cX4_untilFree 6 = .ok (.iload_n 2, 1) := by decide +kernel
theorem dX4_untilFree_7 : decode cX4_untilFree 7 = .ok (.sipush 999, 3) := by decide +kernel
theorem dX4_untilFree_10 : decode cX4_untilFree 10 = .ok (.if_icmp .gt 22, 3) := by decide +kernel
theorem dX4_untilFree_13 : decode cX4_untilFree 13 = .ok (.aload_n 0, 1) := by decide +kernel
theorem dX4_untilFree_14 : decode cX4_untilFree 14 = .ok (.iload_n 1, 1) := by decide +kernel
theorem dX4_untilFree_15 : decode cX4_untilFree 15 = .ok (.invokevirtual 70, 3) := by decide +kernel
theorem dX4_untilFree_18 : decode cX4_untilFree 18 = .ok (.ifCond .eq 14, 3) := by decide +kernel
theorem dX4_untilFree_21 : decode cX4_untilFree 21 = .ok (.aload_n 0, 1) := by decide +kernel
theorem dX4_untilFree_22 : decode cX4_untilFree 22 = .ok (.invokevirtual 80, 3) := by decide +kernel
theorem dX4_untilFree_25 : decode cX4_untilFree 25 = .ok (.pop, 1) := by decide +kernel
theorem dX4_untilFree_26 : decode cX4_untilFree 26 = .ok (.iinc 2 1, 3) := by decide +kernel
theorem dX4_untilFree_29 : decode cX4_untilFree 29 = .ok (.goto (-23), 3) := by decide +kernel
theorem dX4_untilFree_32 : decode cX4_untilFree 32 = .ok (.aload_n 0, 1) := by decide +kernel
theorem dX4_untilFree_33 : decode cX4_untilFree 33 = .ok (.invokevirtual 147, 3) := by decide +kernel
theorem dX4_untilFree_36 : decode cX4_untilFree 36 = .ok (.iload_n 2, 1) := by decide +kernel
theorem dX4_untilFree_37 : decode cX4_untilFree 37 = .ok (.sipush 999, 3) := by decide +kernel
theorem dX4_untilFree_40 : decode cX4_untilFree 40 = .ok (.if_icmp .le 7, 3) := by decide +kernel
theorem dX4_untilFree_43 : decode cX4_untilFree 43 = .ok (.iconst (-1), 1) := by decide +kernel
theorem dX4_untilFree_44 : decode cX4_untilFree 44 = .ok (.goto 4, 3) := by decide +kernel
theorem dX4_untilFree_47 : decode cX4_untilFree 47 = .ok (.iload_n 2, 1) := by decide +kernel
theorem dX4_untilFree_48 : decode cX4_untilFree 48 = .ok (.ireturn, 1) := by decide +kernel
theorem dX4_freeIn_0 : decode cX4_freeIn 0 = .ok (.aload_n 0, 1) := by decide +kernel
theorem dX4_freeIn_1 : decode cX4_freeIn 1 = .ok (.iconst 0, 1) := by decide +kernel
theorem dX4_freeIn_2 : decode cX4_freeIn 2 = .ok (.putfield 25, 3) := by decide +kernel
theorem dX4_freeIn_5 : decode cX4_freeIn 5 = .ok (.iload_n 1, 1) := by decide +kernel
theorem dX4_freeIn_6 : decode cX4_freeIn 6 = .ok (.invokestatic 90, 3) := by decide +kernel
theorem dX4_freeIn_9 : decode cX4_freeIn 9 = .ok (.ifCond .eq 11, 3) := by decide +kernel
theorem dX4_freeIn_12 : decode cX4_freeIn 12 = .ok (.aload_n 0, 1) := by decide +kernel
theorem dX4_freeIn_13 : decode cX4_freeIn 13 = .ok (.iload_n 1, 1) := by decide +kernel
theorem dX4_freeIn_14 : decode cX4_freeIn 14 = .ok (.invokevirtual 154, 3) := by decide +kernel
theorem dX4_freeIn_17 : decode cX4_freeIn 17 = .ok (.goto 8, 3) := by decide +kernel
theorem dX4_freeIn_20 : decode cX4_freeIn 20 = .ok (.aload_n 0, 1) := by decide +kernel
theorem dX4_freeIn_21 : decode cX4_freeIn 21 = .ok (.iconst 1, 1) := by decide +kernel
theorem dX4_freeIn_22 : decode cX4_freeIn 22 = .ok (.invokevirtual 93, 3) := by decide +kernel
theorem dX4_freeIn_25 : decode cX4_freeIn 25 = .ok (.ireturn, 1) := by decide +kernel
theorem dX4_healthiest_0 : decode cX4_healthiest 0 = .ok (.aload_n 0, 1) := by decide +kernel
theorem dX4_healthiest_1 : decode cX4_healthiest 1 = .ok (.iconst 0, 1) := by decide +kernel
theorem dX4_healthiest_2 : decode cX4_healthiest 2 = .ok (.putfield 25, 3) := by decide +kernel
theorem dX4_healthiest_5 : decode cX4_healthiest 5 = .ok (.aload_n 0, 1) := by decide +kernel
theorem dX4_healthiest_6 : decode cX4_healthiest 6 = .ok (.invokevirtual 106, 3) := by decide +kernel
theorem dX4_healthiest_9 : decode cX4_healthiest 9 = .ok (.ireturn, 1) := by decide +kernel
theorem dX4_share_0 : decode cX4_share 0 = .ok (.aload_n 0, 1) := by decide +kernel
theorem dX4_share_1 : decode cX4_share 1 = .ok (.getfield 7, 3) := by decide +kernel
theorem dX4_share_4 : decode cX4_share 4 = .ok (.bipush 6, 2) := by decide +kernel
theorem dX4_share_6 : decode cX4_share 6 = .ok (.iaload, 1) := by decide +kernel
theorem dX4_share_7 : decode cX4_share 7 = .ok (.aload_n 0, 1) := by decide +kernel
theorem dX4_share_8 : decode cX4_share 8 = .ok (.getfield 7, 3) := by decide +kernel
theorem dX4_share_11 : decode cX4_share 11 = .ok (.bipush 7, 2) := by decide +kernel
theorem dX4_share_13 : decode cX4_share 13 = .ok (.iaload, 1) := by decide +kernel
theorem dX4_share_14 : decode cX4_share 14 = .ok (.iadd, 1) := by decide +kernel
theorem dX4_share_15 : decode cX4_share 15 = .ok (.istore_n 1, 1) := by decide +kernel
theorem dX4_share_16 : decode cX4_share 16 = .ok (.iload_n 1, 1) := by decide +kernel
theorem dX4_share_17 : decode cX4_share 17 = .ok (.ifCond .ne 7, 3) := by decide +kernel
theorem dX4_share_20 : decode cX4_share 20 = .ok (.dconst 1, 1) := by decide +kernel
theorem dX4_share_21 : decode cX4_share 21 = .ok (.goto 14, 3) := by decide +kernel
theorem dX4_share_24 : decode cX4_share 24 = .ok (.aload_n 0, 1) := by decide +kernel
theorem dX4_share_25 : decode cX4_share 25 = .ok (.getfield 7, 3) := by decide +kernel
theorem dX4_share_28 : decode cX4_share 28 = .ok (.bipush 7, 2) := by decide +kernel
theorem dX4_share_30 : decode cX4_share 30 = .ok (.iaload, 1) := by decide +kernel
theorem dX4_share_31 : decode cX4_share 31 = .ok (.i2d, 1) := by decide +kernel
theorem dX4_share_32 : decode cX4_share 32 = .ok (.iload_n 1, 1) := by decide +kernel
theorem dX4_share_33 : decode cX4_share 33 = .ok (.i2d, 1) := by decide +kernel
theorem dX4_share_34 : decode cX4_share 34 = .ok (.ddiv, 1) := by decide +kernel
theorem dX4_share_35 : decode cX4_share 35 = .ok (.dreturn, 1) := by decide +kernel
theorem dX4_health_0 : decode cX4_health 0 = .ok (.aload_n 0, 1) := by decide +kernel
theorem dX4_health_1 : decode cX4_health 1 = .ok (.iconst 0, 1) := by decide +kernel
theorem dX4_health_2 : decode cX4_health 2 = .ok (.putfield 25, 3) := by decide +kernel
theorem dX4_health_5 : decode cX4_health 5 = .ok (.aload_n 0, 1) := by decide +kernel
theorem dX4_health_6 : decode cX4_health 6 = .ok (.invokevirtual 157, 3) := by decide +kernel
theorem dX4_health_9 : decode cX4_health 9 = .ok (.dreturn, 1) := by decide +kernel
theorem dX4_hashes_0 : decode cX4_hashes 0 = .ok (.aload_n 0, 1) := by decide +kernel
theorem dX4_hashes_1 : decode cX4_hashes 1 = .ok (.ldc2_w 161, 3) := by decide +kernel
theorem dX4_hashes_4 : decode cX4_hashes 4 = .ok (.aload_n 0, 1) := by decide +kernel
theorem dX4_hashes_5 : decode cX4_hashes 5 = .ok (.getfield 163, 3) := by decide +kernel
theorem dX4_hashes_8 : decode cX4_hashes 8 = .ok (.lmul, 1) := by decide +kernel
theorem dX4_hashes_9 : decode cX4_hashes 9 = .ok (.lload_n 1, 1) := by decide +kernel
theorem dX4_hashes_10 : decode cX4_hashes 10 = .ok (.ladd, 1) := by decide +kernel
theorem dX4_hashes_11 : decode cX4_hashes 11 = .ok (.putfield 163, 3) := by decide +kernel
theorem dX4_hashes_14 : decode cX4_hashes 14 = .ok (.return_, 1) := by decide +kernel
theorem dX4_digest_0 : decode cX4_digest 0 = .ok (.aload_n 0, 1) := by decide +kernel
theorem dX4_digest_1 : decode cX4_digest 1 = .ok (.iconst 0, 1) := by decide +kernel
theorem dX4_digest_2 : decode cX4_digest 2 = .ok (.putfield 25, 3) := by decide +kernel
theorem dX4_digest_5 : decode cX4_digest 5 = .ok (.aload_n 0, 1) := by decide +kernel
theorem dX4_digest_6 : decode cX4_digest 6 = .ok (.ldc2_w 167, 3) := by decide +kernel
theorem dX4_digest_9 : decode cX4_digest 9 = .ok (.putfield 163, 3) := by decide +kernel
theorem dX4_digest_12 : decode cX4_digest 12 = .ok (.iconst 0, 1) := by decide +kernel
theorem dX4_digest_13 : decode cX4_digest 13 = .ok (.istore_n 1, 1) := by decide +kernel
theorem dX4_digest_14 : decode cX4_digest 14 = .ok (.iload_n 1, 1) := by decide +kernel
theorem dX4_digest_15 : decode cX4_digest 15 = .ok (.bipush 9, 2) := by decide +kernel
theorem dX4_digest_17 : decode cX4_digest 17 = .ok (.if_icmp .ge 19, 3) := by decide +kernel
theorem dX4_digest_20 : decode cX4_digest 20 = .ok (.aload_n 0, 1) := by decide +kernel
theorem dX4_digest_21 : decode cX4_digest 21 = .ok (.aload_n 0, 1) := by decide +kernel
theorem dX4_digest_22 : decode cX4_digest 22 = .ok (.iload_n 1, 1) := by decide +kernel
theorem dX4_digest_23 : decode cX4_digest 23 = .ok (.invokevirtual 141, 3) := by decide +kernel
theorem dX4_digest_26 : decode cX4_digest 26 = .ok (.i2l, 1) := by decide +kernel
theorem dX4_digest_27 : decode cX4_digest 27 = .ok (.invokevirtual 169, 3) := by decide +kernel
theorem dX4_digest_30 : decode cX4_digest 30 = .ok (.iinc 1 1, 3) := by decide +kernel
theorem dX4_digest_33 : decode cX4_digest 33 = .ok (.goto (-19), 3) := by decide +kernel
theorem dX4_digest_36 : decode cX4_digest 36 = .ok (.iconst 0, 1) := by decide +kernel
theorem dX4_digest_37 : decode cX4_digest 37 = .ok (.istore_n 1, 1) := by decide +kernel
theorem dX4_digest_38 : decode cX4_digest 38 = .ok (.iload_n 1, 1) := by decide +kernel
theorem dX4_digest_39 : decode cX4_digest 39 = .ok (.iconst 5, 1) := by decide +kernel
theorem dX4_digest_40 : decode cX4_digest 40 = .ok (.if_icmp .ge 20, 3) := by decide +kernel
theorem dX4_digest_43 : decode cX4_digest 43 = .ok (.aload_n 0, 1) := by decide +kernel
theorem dX4_digest_44 : decode cX4_digest 44 = .ok (.aload_n 0, 1) := by decide +kernel
theorem dX4_digest_45 : decode cX4_digest 45 = .ok (.getfield 7, 3) := by decide +kernel
theorem dX4_digest_48 : decode cX4_digest 48 = .ok (.iload_n 1, 1) := by decide +kernel
theorem dX4_digest_49 : decode cX4_digest 49 = .ok (.iaload, 1) := by decide +kernel
theorem dX4_digest_50 : decode cX4_digest 50 = .ok (.i2l, 1) := by decide +kernel
theorem dX4_digest_51 : decode cX4_digest 51 = .ok (.invokevirtual 169, 3) := by decide +kernel
theorem dX4_digest_54 : decode cX4_digest 54 = .ok (.iinc 1 1, 3) := by decide +kernel
theorem dX4_digest_57 : decode cX4_digest 57 = .ok (.goto (-19), 3) := by decide +kernel
theorem dX4_digest_60 : decode cX4_digest 60 = .ok (.iconst 0, 1) := by decide +kernel
theorem dX4_digest_61 : decode cX4_digest 61 = .ok (.istore_n 1, 1) := by decide +kernel
theorem dX4_digest_62 : decode cX4_digest 62 = .ok (.iload_n 1, 1) := by decide +kernel
theorem dX4_digest_63 : decode cX4_digest 63 = .ok (.iconst 4, 1) := by decide +kernel
theorem dX4_digest_64 : decode cX4_digest 64 = .ok (.if_icmp .ge 103, 3) := by decide +kernel
theorem dX4_digest_67 : decode cX4_digest 67 = .ok (.iconst 0, 1) := by decide +kernel
theorem dX4_digest_68 : decode cX4_digest 68 = .ok (.istore_n 2, 1) := by decide +kernel
theorem dX4_digest_69 : decode cX4_digest 69 = .ok (.iload_n 2, 1) := by decide +kernel
theorem dX4_digest_70 : decode cX4_digest 70 = .ok (.bipush 11, 2) := by decide +kernel
theorem dX4_digest_72 : decode cX4_digest 72 = .ok (.if_icmp .ge 20, 3) := by decide +kernel
theorem dX4_digest_75 : decode cX4_digest 75 = .ok (.aload_n 0, 1) := by decide +kernel
theorem dX4_digest_76 : decode cX4_digest 76 = .ok (.aload_n 0, 1) := by decide +kernel
theorem dX4_digest_77 : decode cX4_digest 77 = .ok (.iload_n 1, 1) := by decide +kernel
theorem dX4_digest_78 : decode cX4_digest 78 = .ok (.iload_n 2, 1) := by decide +kernel
theorem dX4_digest_79 : decode cX4_digest 79 = .ok (.invokevirtual 135, 3) := by decide +kernel
theorem dX4_digest_82 : decode cX4_digest 82 = .ok (.i2l, 1) := by decide +kernel
theorem dX4_digest_83 : decode cX4_digest 83 = .ok (.invokevirtual 169, 3) := by decide +kernel
theorem dX4_digest_86 : decode cX4_digest 86 = .ok (.iinc 2 1, 3) := by decide +kernel
theorem dX4_digest_89 : decode cX4_digest 89 = .ok (.goto (-20), 3) := by decide +kernel
theorem dX4_digest_92 : decode cX4_digest 92 = .ok (.iconst 0, 1) := by decide +kernel
theorem dX4_digest_93 : decode cX4_digest 93 = .ok (.istore_n 2, 1) := by decide +kernel
theorem dX4_digest_94 : decode cX4_digest 94 = .ok (.iload_n 2, 1) := by decide +kernel
theorem dX4_digest_95 : decode cX4_digest 95 = .ok (.aload_n 0, 1) := by decide +kernel
theorem dX4_digest_96 : decode cX4_digest 96 = .ok (.iload_n 1, 1) := by decide +kernel
theorem dX4_digest_97 : decode cX4_digest 97 = .ok (.iconst 0, 1) := by decide +kernel
theorem dX4_digest_98 : decode cX4_digest 98 = .ok (.invokevirtual 40, 3) := by decide +kernel
theorem dX4_digest_101 : decode cX4_digest 101 = .ok (.if_icmp .ge 23, 3) := by decide +kernel
theorem dX4_digest_104 : decode cX4_digest 104 = .ok (.aload_n 0, 1) := by decide +kernel
theorem dX4_digest_105 : decode cX4_digest 105 = .ok (.aload_n 0, 1) := by decide +kernel
theorem dX4_digest_106 : decode cX4_digest 106 = .ok (.iload_n 1, 1) := by decide +kernel
theorem dX4_digest_107 : decode cX4_digest 107 = .ok (.bipush 12, 2) := by decide +kernel
theorem dX4_digest_109 : decode cX4_digest 109 = .ok (.iload_n 2, 1) := by decide +kernel
theorem dX4_digest_110 : decode cX4_digest 110 = .ok (.iadd, 1) := by decide +kernel
theorem dX4_digest_111 : decode cX4_digest 111 = .ok (.invokevirtual 40, 3) := by decide +kernel
theorem dX4_digest_114 : decode cX4_digest 114 = .ok (.i2l, 1) := by decide +kernel
theorem dX4_digest_115 : decode cX4_digest 115 = .ok (.invokevirtual 169, 3) := by decide +kernel
theorem dX4_digest_118 : decode cX4_digest 118 = .ok (.iinc 2 1, 3) := by decide +kernel
theorem dX4_digest_121 : decode cX4_digest 121 = .ok (.goto (-27), 3) := by decide +kernel
theorem dX4_digest_124 : decode cX4_digest 124 = .ok (.aload_n 0, 1) := by decide +kernel
theorem dX4_digest_125 : decode cX4_digest 125 = .ok (.aload_n 0, 1) := by decide +kernel
theorem dX4_digest_126 : decode cX4_digest 126 = .ok (.iload_n 1, 1) := by decide +kernel
theorem dX4_digest_127 : decode cX4_digest 127 = .ok (.invokevirtual 154, 3) := by decide +kernel
theorem dX4_digest_130 : decode cX4_digest 130 = .ok (.i2l, 1) := by decide +kernel
theorem dX4_digest_131 : decode cX4_digest 131 = .ok (.invokevirtual 169, 3) := by decide +kernel
theorem dX4_digest_134 : decode cX4_digest 134 = .ok (.iconst 0, 1) := by decide +kernel
theorem dX4_digest_135 : decode cX4_digest 135 = .ok (.istore_n 2, 1) := by decide +kernel
theorem dX4_digest_136 : decode cX4_digest 136 = .ok (.iload_n 2, 1) := by decide +kernel
theorem dX4_digest_137 : decode cX4_digest 137 = .ok (.iconst 4, 1) := by decide +kernel
theorem dX4_digest_138 : decode cX4_digest 138 = .ok (.if_icmp .ge 23, 3) := by decide +kernel
theorem dX4_digest_141 : decode cX4_digest 141 = .ok (.aload_n 0, 1) := by decide +kernel
theorem dX4_digest_142 : decode cX4_digest 142 = .ok (.aload_n 0, 1) := by decide +kernel
theorem dX4_digest_143 : decode cX4_digest 143 = .ok (.iload_n 1, 1) := by decide +kernel
theorem dX4_digest_144 : decode cX4_digest 144 = .ok (.bipush 6, 2) := by decide +kernel
theorem dX4_digest_146 : decode cX4_digest 146 = .ok (.iconst 3, 1) := by decide +kernel
theorem dX4_digest_147 : decode cX4_digest 147 = .ok (.iload_n 2, 1) := by decide +kernel
theorem dX4_digest_148 : decode cX4_digest 148 = .ok (.invokevirtual 150, 3) := by decide +kernel
theorem dX4_digest_151 : decode cX4_digest 151 = .ok (.i2l, 1) := by decide +kernel
theorem dX4_digest_152 : decode cX4_digest 152 = .ok (.invokevirtual 169, 3) := by decide +kernel
theorem dX4_digest_155 : decode cX4_digest 155 = .ok (.iinc 2 1, 3) := by decide +kernel
theorem dX4_digest_158 : decode cX4_digest 158 = .ok (.goto (-22), 3) := by decide +kernel
theorem dX4_digest_161 : decode cX4_digest 161 = .ok (.iinc 1 1, 3) := by decide +kernel
theorem dX4_digest_164 : decode cX4_digest 164 = .ok (.goto (-102), 3) := by decide +kernel
theorem dX4_digest_167 : decode cX4_digest 167 = .ok (.iconst 0, 1) := by decide +kernel
theorem dX4_digest_168 : decode cX4_digest 168 = .ok (.istore_n 1, 1) := by decide +kernel
theorem dX4_digest_169 : decode cX4_digest 169 = .ok (.iload_n 1, 1) := by decide +kernel
theorem dX4_digest_170 : decode cX4_digest 170 = .ok (.iconst 4, 1) := by decide +kernel
theorem dX4_digest_171 : decode cX4_digest 171 = .ok (.aload_n 0, 1) := by decide +kernel
theorem dX4_digest_172 : decode cX4_digest 172 = .ok (.getfield 7, 3) := by decide +kernel
theorem dX4_digest_175 : decode cX4_digest 175 = .ok (.bipush 9, 2) := by decide +kernel
theorem dX4_digest_177 : decode cX4_digest 177 = .ok (.iaload, 1) := by decide +kernel
theorem dX4_digest_178 : decode cX4_digest 178 = .ok (.imul, 1) := by decide +kernel
theorem dX4_digest_179 : decode cX4_digest 179 = .ok (.if_icmp .ge 24, 3) := by decide +kernel
theorem dX4_digest_182 : decode cX4_digest 182 = .ok (.aload_n 0, 1) := by decide +kernel
theorem dX4_digest_183 : decode cX4_digest 183 = .ok (.aload_n 0, 1) := by decide +kernel
theorem dX4_digest_184 : decode cX4_digest 184 = .ok (.iload_n 1, 1) := by decide +kernel
theorem dX4_digest_185 : decode cX4_digest 185 = .ok (.iconst 4, 1) := by decide +kernel
theorem dX4_digest_186 : decode cX4_digest 186 = .ok (.idiv, 1) := by decide +kernel
theorem dX4_digest_187 : decode cX4_digest 187 = .ok (.iload_n 1, 1) := by decide +kernel
theorem dX4_digest_188 : decode cX4_digest 188 = .ok (.iconst 4, 1) := by decide +kernel
theorem dX4_digest_189 : decode cX4_digest 189 = .ok (.irem, 1) := by decide +kernel
theorem dX4_digest_190 : decode cX4_digest 190 = .ok (.invokevirtual 63, 3) := by decide +kernel
theorem dX4_digest_193 : decode cX4_digest 193 = .ok (.i2l, 1) := by decide +kernel
theorem dX4_digest_194 : decode cX4_digest 194 = .ok (.invokevirtual 169, 3) := by decide +kernel
theorem dX4_digest_197 : decode cX4_digest 197 = .ok (.iinc 1 1, 3) := by decide +kernel
theorem dX4_digest_200 : decode cX4_digest 200 = .ok (.goto (-31), 3) := by decide +kernel
theorem dX4_digest_203 : decode cX4_digest 203 = .ok (.aload_n 0, 1) := by decide +kernel
theorem dX4_digest_204 : decode cX4_digest 204 = .ok (.aload_n 0, 1) := by decide +kernel
theorem dX4_digest_205 : decode cX4_digest 205 = .ok (.invokevirtual 106, 3) := by decide +kernel
theorem dX4_digest_208 : decode cX4_digest 208 = .ok (.i2l, 1) := by decide +kernel
theorem dX4_digest_209 : decode cX4_digest 209 = .ok (.invokevirtual 169, 3) := by decide +kernel
theorem dX4_digest_212 : decode cX4_digest 212 = .ok (.aload_n 0, 1) := by decide +kernel
theorem dX4_digest_213 : decode cX4_digest 213 = .ok (.aload_n 0, 1) := by decide +kernel
theorem dX4_digest_214 : decode cX4_digest 214 = .ok (.invokevirtual 157, 3) := by decide +kernel
theorem dX4_digest_217 : decode cX4_digest 217 = .ok (.invokestatic 173, 3) := by decide +kernel
theorem dX4_digest_220 : decode cX4_digest 220 = .ok (.invokevirtual 169, 3) := by decide +kernel
theorem dX4_digest_223 : decode cX4_digest 223 = .ok (.aload_n 0, 1) := by decide +kernel
theorem dX4_digest_224 : decode cX4_digest 224 = .ok (.aload_n 0, 1) := by decide +kernel
theorem dX4_digest_225 : decode cX4_digest 225 = .ok (.getfield 113, 3) := by decide +kernel
theorem dX4_digest_228 : decode cX4_digest 228 = .ok (.i2l, 1) := by decide +kernel
theorem dX4_digest_229 : decode cX4_digest 229 = .ok (.invokevirtual 169, 3) := by decide +kernel
theorem dX4_digest_232 : decode cX4_digest 232 = .ok (.iconst 0, 1) := by decide +kernel
theorem dX4_digest_233 : decode cX4_digest 233 = .ok (.istore_n 1, 1) := by decide +kernel
theorem dX4_digest_234 : decode cX4_digest 234 = .ok (.iload_n 1, 1) := by decide +kernel
theorem dX4_digest_235 : decode cX4_digest 235 = .ok (.aload_n 0, 1) := by decide +kernel
theorem dX4_digest_236 : decode cX4_digest 236 = .ok (.getfield 113, 3) := by decide +kernel
theorem dX4_digest_239 : decode cX4_digest 239 = .ok (.if_icmp .ge 20, 3) := by decide +kernel
theorem dX4_digest_242 : decode cX4_digest 242 = .ok (.aload_n 0, 1) := by decide +kernel
theorem dX4_digest_243 : decode cX4_digest 243 = .ok (.aload_n 0, 1) := by decide +kernel
theorem dX4_digest_244 : decode cX4_digest 244 = .ok (.getfield 19, 3) := by decide +kernel
theorem dX4_digest_247 : decode cX4_digest 247 = .ok (.iload_n 1, 1) := by decide +kernel
theorem dX4_digest_248 : decode cX4_digest 248 = .ok (.iaload, 1) := by decide +kernel
theorem dX4_digest_249 : decode cX4_digest 249 = .ok (.i2l, 1) := by decide +kernel
theorem dX4_digest_250 : decode cX4_digest 250 = .ok (.invokevirtual 169, 3) := by decide +kernel
theorem dX4_digest_253 : decode cX4_digest 253 = .ok (.iinc 1 1, 3) := by decide +kernel
theorem dX4_digest_256 : decode cX4_digest 256 = .ok (.goto (-22), 3) := by decide +kernel
theorem dX4_digest_259 : decode cX4_digest 259 = .ok (.aload_n 0, 1) := by decide +kernel
theorem dX4_digest_260 : decode cX4_digest 260 = .ok (.getfield 163, 3) := by decide +kernel
theorem dX4_digest_263 : decode cX4_digest 263 = .ok (.lreturn, 1) := by decide +kernel
end
section
/-! WHAT A STATE IS, AND WHAT CALLS DO TO IT -/
/-- a call on its way: 0 its store, 1 ticks to go, 2 its delay, 3 a trial, 4 the closing -/
abbrev Cl : Type := Nat → Nat
/-- a store: 0 many, 1 next, 2 breaker, 3 bits, 4 outcomes, 5 still, 6 last, 7 through, 8 refused, 9 bad, 10 cuts, 11 closings, 12.. the row -/
abbrev Rw : Type := Nat → Nat
/-- 0..4 settings, 5 ticks, 6 bad, 7 good, 8 trials; the calls on their way; the stores -/
abbrev AA : Type := (Nat → Nat) × List Cl × (Nat → Rw)
def u1 (f : Nat → Nat) (k v : Nat) : Nat → Nat := fun j => if j = k then v else f j
theorem u1_s {f : Nat → Nat} {k v : Nat} : u1 f k v k = v := if_pos rfl
theorem u1_n {f : Nat → Nat} {k v j : Nat} (h : j ≠ k) : u1 f k v j = f j := if_neg h
def sT (T : Nat → Rw) (st : Nat) (t : Rw) : Nat → Rw := fun s => if s = st then t else T s
theorem sT_s {T : Nat → Rw} {st : Nat} {t : Rw} : sT T st t st = t := if_pos rfl
theorem sT_n {T : Nat → Rw} {st s : Nat} {t : Rw} (h : s ≠ st) : sT T st t s = T s := if_neg h
/-- how many of the lowest n bits are set -/
def bits (b : Nat) : Nat → Nat
  | 0 => 0
  | n + 1 => bits b n + b / 2 ^ n % 2
def inWinR (g : Nat → Nat) (t : Rw) : Nat := if t 2 = 0 then min (t 4) (g 1) else 0
def badWinR (g : Nat → Nat) (t : Rw) : Nat := bits (t 3) (inWinR g t)
def cutR (n : Nat) (t : Rw) : Rw := fun k => if k = 2 then 1 else if k = 3 then 0 else if k = 4 then 0 else if k = 5 then n else if k = 6 then n else if k = 10 then t 10 + 1 else t k
def closeR (t : Rw) : Rw := fun k => if k = 2 then 0 else if k = 3 then 0 else if k = 4 then 0 else if k = 5 then 0 else if k = 6 then 0 else if k = 11 then t 11 + 1 else t k
def noteR (b : Nat) (t : Rw) : Rw := fun k => if k = 3 then (2 * t 3 + b) % 65536 else if k = 4 then min (t 4 + 1) 16 else t k
/-- 1 for a bad delay, else 0 -/
def badN (g : Nat → Nat) (d : Nat) : Nat := if d = 0 ∨ g 0 < d then 1 else 0
def winR (g : Nat → Nat) (t : Rw) : Rw := if inWinR g t = g 1 ∧ g 2 ≤ badWinR g t then cutR (g 3) t else t
def outR (g : Nat → Nat) (d tr since : Nat) (t : Rw) : Rw :=
  if tr = 1 then (if badN g d = 1 then cutR (min (2 * t 6) (g 4)) (u1 t 9 (t 9 + badN g d)) else closeR (u1 t 9 (t 9 + badN g d)))
  else if t 2 = 0 ∧ t 11 = since then winR g (noteR (badN g d) (u1 t 9 (t 9 + badN g d)))
  else u1 t 9 (t 9 + badN g d)
def outG (g : Nat → Nat) (d : Nat) : Nat → Nat := u1 (u1 g 6 (g 6 + badN g d)) 7 (g 7 + (1 - badN g d))
def outA (a : AA) (st d tr since : Nat) : AA := (outG a.1 d, a.2.1, sT a.2.2 st (outR a.1 d tr since (a.2.2 st)))
def decC (c : Cl) : Cl := u1 c 1 (c 1 - 1)
/-- those with none to go are answered, in order; which are kept -/
def ansG : List Cl → (Nat → Nat) × (Nat → Rw) → (Nat → Nat) × (Nat → Rw)
  | [], x => x
  | c :: cs, x => if c 1 = 0 then ansG cs (outG x.1 (c 2), sT x.2 (c 0) (outR x.1 (c 2) (c 3) (c 4) (x.2 (c 0)))) else ansG cs x
def keptL (cs : List Cl) : List Cl := cs.filter (fun c => !(c 1 == 0))
def waitR (t : Rw) : Rw := if t 2 = 1 then u1 (u1 t 5 (t 5 - 1)) 2 (if t 5 - 1 = 0 then 2 else 1) else t
def tickA (a : AA) : AA :=
  let x := ansG (a.2.1.map decC) (a.1, a.2.2)
  (u1 x.1 5 (x.1 5 + 1), keptL (a.2.1.map decC), fun s => if s < 4 then waitR (x.2 s) else x.2 s)
def tickN (a : AA) : Nat := a.2.1.length - (keptL (a.2.1.map decC)).length
def ticksA : Nat → AA → AA
  | 0, a => a
  | n + 1, a => ticksA n (tickA a)
def ticksN : Nat → AA → Nat
  | 0, _ => 0
  | n + 1, a => tickN a + ticksN n (tickA a)
def hasTr (a : AA) (st : Nat) : Bool := a.2.1.any (fun c => c 0 == st && c 3 == 1)
def refd (a : AA) (st : Nat) : Bool := a.2.2 st 2 == 1 || (a.2.2 st 2 == 2 && hasTr a st)
def mkC (st d tr since : Nat) : Cl := fun k => if k = 0 then st else if k = 1 then d else if k = 2 then d else if k = 3 then tr else since
/-- what a call that is let through does ahead of its outcome -/
def thruR (t : Rw) : Rw := u1 (u1 t 1 ((t 1 + 1) % t 0)) 7 (t 7 + 1)
def trN (a : AA) (st : Nat) : Nat := if a.2.2 st 2 = 2 then 1 else 0
def callA (a : AA) (st : Nat) : AA :=
  if refd a st = true then (a.1, a.2.1, sT a.2.2 st (u1 (a.2.2 st) 8 (a.2.2 st 8 + 1)))
  else if a.2.2 st (12 + a.2.2 st 1) = 0 then outA (u1 a.1 8 (a.1 8 + trN a st), a.2.1, sT a.2.2 st (thruR (a.2.2 st))) st 0 (trN a st) (a.2.2 st 11)
  else (u1 a.1 8 (a.1 8 + trN a st), a.2.1 ++ [mkC st (a.2.2 st (12 + a.2.2 st 1)) (trN a st) (a.2.2 st 11)], sT a.2.2 st (thruR (a.2.2 st)))
def callN (a : AA) (st : Nat) : Nat := if refd a st = true then 0 else trN a st + 1
/-- calls with ticks behind each one, up to the first that would be let through without room -/
def oftenA (st ticks : Nat) : Nat → AA → AA
  | 0, a => a
  | n + 1, a => if a.2.1.length = 16 ∧ refd a st = false then a else oftenA st ticks n (ticksA ticks (callA a st))
def oftenN (st ticks : Nat) : Nat → AA → Nat
  | 0, _ => 0
  | n + 1, a => if a.2.1.length = 16 ∧ refd a st = false then 0 else (if 0 < callN a st then 1 else 0) + oftenN st ticks n (ticksA ticks (callA a st))
def onWayN (a : AA) (st : Nat) : Nat := a.2.1.countP (fun c => c 0 == st)
/-- the healthiest of the first n stores -/
def bestN (a : AA) : Nat → Option Nat
  | 0 => none
  | n + 1 => if a.2.2 n 2 = 0 then
      (match bestN a n with
       | none => some n
       | some b => if badWinR a.1 (a.2.2 n) < badWinR a.1 (a.2.2 b) ∨ (badWinR a.1 (a.2.2 n) = badWinR a.1 (a.2.2 b) ∧ onWayN a n < onWayN a b) then some n else some b)
    else bestN a n
/-- the trial's flag of every call of a store is taken away -/
def clrC (st : Nat) (c : Cl) : Cl := if c 0 = st then u1 c 3 0 else c
def shutA (a : AA) (st : Nat) : AA := (a.1, a.2.1.map (clrC st), sT a.2.2 st (closeR (a.2.2 st)))
end
section
/-! rows over small naturals, and what a call leaves -/
section NROWS
variable {G : GG} {y : YY} {Z : ZT} {Q : RT → Sg → Prop} {pc : Nat} {ls ls' : List (Nat × Value)} {st rest : List Value} {σ : Sg} {K : Nat → Option (Nat × Nat)} {R : Nat → Nat → Value} {I : Nat → Nat → Int32} {J : Nat → Nat → Int64} {z cu su : Nat}
theorem aw_iaddN {a b : Nat} (hd : decode y.2.1 pc = .ok (.iadd, 1)) (kk : AW G y Z (pc + 1) ls (.int (nI (a + b)) :: st) σ cu su) : AW G y Z pc ls (.int (nI b) :: .int (nI a) :: st) σ cu su := aw_iadd hd (aw_top (nI_add a b) kk)
theorem aw_imulN {a b : Nat} (hd : decode y.2.1 pc = .ok (.imul, 1)) (kk : AW G y Z (pc + 1) ls (.int (nI (a * b)) :: st) σ cu su) : AW G y Z pc ls (.int (nI b) :: .int (nI a) :: st) σ cu su := aw_imul hd (aw_top (pk_mul a b) kk)
theorem aw_isubN {a b : Nat} (hd : decode y.2.1 pc = .ok (.isub, 1)) (h : b ≤ a) (kk : AW G y Z (pc + 1) ls (.int (nI (a - b)) :: st) σ cu su) : AW G y Z pc ls (.int (nI b) :: .int (nI a) :: st) σ cu su := aw_isub hd (aw_top (pk_sub h) kk)
theorem aw_iremN {a b : Nat} (hd : decode y.2.1 pc = .ok (.irem, 1)) (ha : a < 2 ^ 31) (h0 : 0 < b) (hb : b < 2 ^ 31) (kk : AW G y Z (pc + 1) ls (.int (nI (a % b)) :: st) σ cu su) : AW G y Z pc ls (.int (nI b) :: .int (nI a) :: st) σ cu su := aw_irem hd (nI_ne0 h0 hb) (aw_top (pk_rem ha h0 hb) kk)
theorem aw_idivN {a b : Nat} (hd : decode y.2.1 pc = .ok (.idiv, 1)) (ha : a < 2 ^ 31) (h0 : 0 < b) (hb : b < 2 ^ 31) (kk : AW G y Z (pc + 1) ls (.int (nI (a / b)) :: st) σ cu su) : AW G y Z pc ls (.int (nI b) :: .int (nI a) :: st) σ cu su := aw_idiv hd (nI_ne0 h0 hb) (aw_top (pk_div ha h0 hb) kk)
theorem aw_iincN {i k a : Nat} {n : Int} (hd : decode y.2.1 pc = .ok (.iinc i n, 3)) (h : lget ls i = some (.int (nI a))) (hk : Int32.ofInt n = nI k) (hn : i < y.2.2.1) (hl : lset ls i (.int (nI (a + k))) = ls') (kk : AW G y Z (pc + 3) ls' st σ cu su) : AW G y Z pc ls st σ cu su := aw_iinc hd h (by rw [hk]; exact nI_add a k) hn hl kk
theorem aw_icmp_geN {a b : Nat} {off : Int} {tgt : Nat} (hd : decode y.2.1 pc = .ok (.if_icmp .ge off, 3)) (ht : (pc : Int) + off = (tgt : Int)) (ha : a < 2 ^ 31) (hb : b < 2 ^ 31) (kt : b ≤ a → AW G y Z tgt ls st σ cu su) (kf : a < b → AW G y Z (pc + 3) ls st σ cu su) : AW G y Z pc ls (.int (nI b) :: .int (nI a) :: st) σ cu su :=
  aw_icmp_ge hd ht (fun h => kt ((nI_leI hb ha).mp h)) (fun h => kf (Nat.not_le.mp fun q => h ((nI_leI hb ha).mpr q)))
theorem aw_icmp_ltN {a b : Nat} {off : Int} {tgt : Nat} (hd : decode y.2.1 pc = .ok (.if_icmp .lt off, 3)) (ht : (pc : Int) + off = (tgt : Int)) (ha : a < 2 ^ 31) (hb : b < 2 ^ 31) (kt : a < b → AW G y Z tgt ls st σ cu su) (kf : b ≤ a → AW G y Z (pc + 3) ls st σ cu su) : AW G y Z pc ls (.int (nI b) :: .int (nI a) :: st) σ cu su :=
  aw_icmp_lt hd ht (fun h => kt ((nI_ltI ha hb).mp h)) (fun h => kf (Nat.not_lt.mp fun q => h ((nI_ltI ha hb).mpr q)))
theorem aw_icmp_gtN {a b : Nat} {off : Int} {tgt : Nat} (hd : decode y.2.1 pc = .ok (.if_icmp .gt off, 3)) (ht : (pc : Int) + off = (tgt : Int)) (ha : a < 2 ^ 31) (hb : b < 2 ^ 31) (kt : b < a → AW G y Z tgt ls st σ cu su) (kf : a ≤ b → AW G y Z (pc + 3) ls st σ cu su) : AW G y Z pc ls (.int (nI b) :: .int (nI a) :: st) σ cu su :=
  aw_icmp_gt hd ht (fun h => kt ((nI_ltI hb ha).mp h)) (fun h => kf (Nat.not_lt.mp fun q => h ((nI_ltI hb ha).mpr q)))
theorem aw_icmp_leN {a b : Nat} {off : Int} {tgt : Nat} (hd : decode y.2.1 pc = .ok (.if_icmp .le off, 3)) (ht : (pc : Int) + off = (tgt : Int)) (ha : a < 2 ^ 31) (hb : b < 2 ^ 31) (kt : a ≤ b → AW G y Z tgt ls st σ cu su) (kf : b < a → AW G y Z (pc + 3) ls st σ cu su) : AW G y Z pc ls (.int (nI b) :: .int (nI a) :: st) σ cu su :=
  aw_icmp_le hd ht (fun h => kt ((nI_leI ha hb).mp h)) (fun h => kf (Nat.not_le.mp fun q => h ((nI_leI ha hb).mpr q)))
theorem aw_icmp_eqN {a b : Nat} {off : Int} {tgt : Nat} (hd : decode y.2.1 pc = .ok (.if_icmp .eq off, 3)) (ht : (pc : Int) + off = (tgt : Int)) (ha : a < 2 ^ 31) (hb : b < 2 ^ 31) (kt : a = b → AW G y Z tgt ls st σ cu su) (kf : a ≠ b → AW G y Z (pc + 3) ls st σ cu su) : AW G y Z pc ls (.int (nI b) :: .int (nI a) :: st) σ cu su :=
  aw_icmp_eq hd ht (fun h => kt ((nI_eq ha hb).mp h)) (fun h => kf (fun q => h ((nI_eq ha hb).mpr q)))
theorem aw_icmp_neN {a b : Nat} {off : Int} {tgt : Nat} (hd : decode y.2.1 pc = .ok (.if_icmp .ne off, 3)) (ht : (pc : Int) + off = (tgt : Int)) (ha : a < 2 ^ 31) (hb : b < 2 ^ 31) (kt : a ≠ b → AW G y Z tgt ls st σ cu su) (kf : a = b → AW G y Z (pc + 3) ls st σ cu su) : AW G y Z pc ls (.int (nI b) :: .int (nI a) :: st) σ cu su :=
  aw_icmp_ne hd ht (fun h => kt (fun q => h ((nI_eq ha hb).mpr q))) (fun h => kf ((nI_eq ha hb).mp h))
theorem nI_z {a : Nat} (ha : a < 2 ^ 31) : nI a = 0 ↔ a = 0 := nI_eq (b := 0) ha (by decide)
theorem aw_if_eqN {a : Nat} {off : Int} {tgt : Nat} (hd : decode y.2.1 pc = .ok (.ifCond .eq off, 3)) (ht : (pc : Int) + off = (tgt : Int)) (ha : a < 2 ^ 31) (kt : a = 0 → AW G y Z tgt ls st σ cu su) (kf : a ≠ 0 → AW G y Z (pc + 3) ls st σ cu su) : AW G y Z pc ls (.int (nI a) :: st) σ cu su :=
  aw_if_eq hd ht (fun h => kt ((nI_z ha).mp h)) (fun h => kf (fun q => h ((nI_z ha).mpr q)))
theorem aw_if_neN {a : Nat} {off : Int} {tgt : Nat} (hd : decode y.2.1 pc = .ok (.ifCond .ne off, 3)) (ht : (pc : Int) + off = (tgt : Int)) (ha : a < 2 ^ 31) (kt : a ≠ 0 → AW G y Z tgt ls st σ cu su) (kf : a = 0 → AW G y Z (pc + 3) ls st σ cu su) : AW G y Z pc ls (.int (nI a) :: st) σ cu su :=
  aw_if_ne hd ht (fun h => kt (fun q => h ((nI_z ha).mpr q))) (fun h => kf ((nI_z ha).mp h))
theorem aw_if_gtN {a : Nat} {off : Int} {tgt : Nat} (hd : decode y.2.1 pc = .ok (.ifCond .gt off, 3)) (ht : (pc : Int) + off = (tgt : Int)) (ha : a < 2 ^ 31) (kt : 0 < a → AW G y Z tgt ls st σ cu su) (kf : a = 0 → AW G y Z (pc + 3) ls st σ cu su) : AW G y Z pc ls (.int (nI a) :: st) σ cu su :=
  aw_if_gt hd ht (fun h => kt ((nI_ltI (a := 0) (by decide) ha).mp h)) (fun h => kf (by
    rcases Nat.eq_zero_or_pos a with q | q
    · exact q
    · exact absurd ((nI_ltI (a := 0) (by decide) ha).mpr q) h))
theorem aw_if_leN {a : Nat} {off : Int} {tgt : Nat} (hd : decode y.2.1 pc = .ok (.ifCond .le off, 3)) (ht : (pc : Int) + off = (tgt : Int)) (ha : a < 2 ^ 31) (kt : a = 0 → AW G y Z tgt ls st σ cu su) (kf : 0 < a → AW G y Z (pc + 3) ls st σ cu su) : AW G y Z pc ls (.int (nI a) :: st) σ cu su :=
  aw_if_le hd ht (fun h => kt (by
    rcases Nat.eq_zero_or_pos a with q | q
    · exact q
    · exact absurd h (nI_nle q ha))) (fun h => kf (by
    rcases Nat.eq_zero_or_pos a with q | q
    · subst q; exact absurd (Int32.le_refl 0) h
    · exact q))
theorem aw_if_geN {a : Nat} {off : Int} {tgt : Nat} (hd : decode y.2.1 pc = .ok (.ifCond .ge off, 3)) (ht : (pc : Int) + off = (tgt : Int)) (ha : a < 2 ^ 31) (kt : AW G y Z tgt ls st σ cu su) : AW G y Z pc ls (.int (nI a) :: st) σ cu su :=
  aw_if_ge hd ht (fun _ => kt) (fun h => absurd (nI_pos' ha) h)
theorem aw_if_ltN {a : Nat} {off : Int} {tgt : Nat} (hd : decode y.2.1 pc = .ok (.ifCond .lt off, 3)) (ht : (pc : Int) + off = (tgt : Int)) (ha : a < 2 ^ 31) (kf : AW G y Z (pc + 3) ls st σ cu su) : AW G y Z pc ls (.int (nI a) :: st) σ cu su :=
  aw_if_lt hd ht (fun h => absurd h (nI_pos ha)) (fun _ => kf)
/-- a condition that lays one of two numbers -/
theorem aw_dia {a c1 c0 tgt jn : Nat} {x : Int32} {off off2 n1 n0 : Int} (hd : decode y.2.1 pc = .ok (.ifCond .eq off, 3)) (ht : (pc : Int) + off = (tgt : Int)) (d1 : decode y.2.1 (pc + 3) = .ok (.iconst n1, 1)) (h1 : Int32.ofInt n1 = nI c1) (d2 : decode y.2.1 (pc + 4) = .ok (.goto off2, 3)) (ht2 : ((pc + 4 : Nat) : Int) + off2 = (jn : Int)) (d3 : decode y.2.1 tgt = .ok (.iconst n0, 1)) (h0 : Int32.ofInt n0 = nI c0) (hj : tgt + 1 = jn) (ha : a < 2 ^ 31) (hx : nI (if a = 0 then c0 else c1) = x)
    (kk : AW G y Z jn ls (.int x :: st) σ cu su) : AW G y Z pc ls (.int (nI a) :: st) σ cu su := by
  refine aw_if_eqN hd ht ha (fun h => ?_) (fun h => ?_)
  · rw [if_pos h] at hx
    refine aw_iconst d3 h0 ?_
    rw [hj, hx]; exact kk
  · rw [if_neg h] at hx
    refine aw_iconst d1 h1 ?_
    refine aw_goto d2 ht2 ?_
    rw [hx]; exact kk
/-- the locals by their places -/
theorem aw_pick (ks : List Nat) (hl : lv_pick ls ks = ls') (kk : AW G y Z pc ls' st σ cu su) : AW G y Z pc ls st σ cu su := by
  intro p e s m args below meth c H locs lsa C V S L
  exact kk p e s m args below meth c H locs lsa C V S (lv_sub L ks hl)
/-- it answers v and changes nothing -/
def Rd (σ : Sg) (v : Value) : RT → Sg → Prop := fun r σ' => r = .inl (some v) ∧ σ' = σ
/-- it answers v, and the ints are as P says -/
def Up (K : Nat → Option (Nat × Nat)) (R : Nat → Nat → Value) (J : Nat → Nat → Int64) (z : Nat) (v : Option Value) (P : (Nat → Nat → Int32) → Prop) : RT → Sg → Prop := fun r σ' => r = .inl v ∧ ∃ I', σ' = (K, R, I', J, z) ∧ P I'
theorem Rd.nx {v : Value} {E : String} {σ' : Sg} : ¬ Rd σ v (.inr E) σ' := fun h => by cases h.1
theorem Up.nx {v : Option Value} {P : (Nat → Nat → Int32) → Prop} {E : String} {σ' : Sg} : ¬ Up K R J z v P (.inr E) σ' := fun h => by cases h.1
theorem aw_vRd {yc : YY} {idx n o c nn : Nat} {As : List Value} {v : Value} (hd : decode y.2.1 pc = .ok (.invokevirtual idx, 3)) (cv : CV y.1.cls idx yc n) (cr : CR yc y) (hk : σ.1 o = some (c, nn)) (hcl : ∃ r : vw_C, vwCl[c]? = some r ∧ r.1 = yc.1.cls) (hr : Run G yc (.ref (G.1 o) :: As) σ (Rd σ v)) (hst : st = As.reverse ++ .ref (G.1 o) :: rest) (hn : As.length = n) (hrest : (rest.map fun v => v.category).sum ≤ 8) (h0 : yc.2.2.2.2.1.cells = 0 ∧ yc.2.2.2.2.1.slots = 0) (hroom : cu ≤ y.2.2.2.2.1.cells ∧ su ≤ y.2.2.2.2.1.slots)
    (kk : AW G y Z (pc + 3) ls (v :: rest) σ cu su) : AW G y Z pc ls st σ cu su :=
  aw_invV hd cv cr hk hcl hst hn hrest (by rw [h0.1, h0.2]; exact hroom) hr (fun E σ' h => absurd h Rd.nx) (fun w σ' h => by
    obtain ⟨h1, rfl⟩ := h
    cases h1
    rw [h0.1, h0.2]; exact kk)
theorem aw_vUp {yc : YY} {idx n o c nn : Nat} {As : List Value} {v : Value} {P : (Nat → Nat → Int32) → Prop} (hd : decode y.2.1 pc = .ok (.invokevirtual idx, 3)) (cv : CV y.1.cls idx yc n) (cr : CR yc y) (hk : K o = some (c, nn)) (hcl : ∃ r : vw_C, vwCl[c]? = some r ∧ r.1 = yc.1.cls) (hr : Run G yc (.ref (G.1 o) :: As) (K, R, I, J, z) (Up K R J z (some v) P)) (hst : st = As.reverse ++ .ref (G.1 o) :: rest) (hn : As.length = n) (hrest : (rest.map fun v => v.category).sum ≤ 8) (h0 : yc.2.2.2.2.1.cells = 0 ∧ yc.2.2.2.2.1.slots = 0) (hroom : cu ≤ y.2.2.2.2.1.cells ∧ su ≤ y.2.2.2.2.1.slots)
    (kk : ∀ I' : Nat → Nat → Int32, P I' → AW G y Z (pc + 3) ls (v :: rest) (K, R, I', J, z) cu su) : AW G y Z pc ls st (K, R, I, J, z) cu su :=
  aw_invV hd cv cr hk hcl hst hn hrest (by rw [h0.1, h0.2]; exact hroom) hr (fun E σ' h => absurd h Up.nx) (fun w σ' h => by
    obtain ⟨h1, I', rfl, hP⟩ := h
    cases h1
    rw [h0.1, h0.2]; exact kk I' hP)
theorem aw_vUp0 {yc : YY} {idx n o c nn : Nat} {As : List Value} {P : (Nat → Nat → Int32) → Prop} (hd : decode y.2.1 pc = .ok (.invokevirtual idx, 3)) (cv : CV y.1.cls idx yc n) (cr : CR yc y) (hk : K o = some (c, nn)) (hcl : ∃ r : vw_C, vwCl[c]? = some r ∧ r.1 = yc.1.cls) (hr : Run G yc (.ref (G.1 o) :: As) (K, R, I, J, z) (Up K R J z none P)) (hst : st = As.reverse ++ .ref (G.1 o) :: rest) (hn : As.length = n) (hrest : (rest.map fun v => v.category).sum ≤ 8) (h0 : yc.2.2.2.2.1.cells = 0 ∧ yc.2.2.2.2.1.slots = 0) (hroom : cu ≤ y.2.2.2.2.1.cells ∧ su ≤ y.2.2.2.2.1.slots)
    (kk : ∀ I' : Nat → Nat → Int32, P I' → AW G y Z (pc + 3) ls rest (K, R, I', J, z) cu su) : AW G y Z pc ls st (K, R, I, J, z) cu su :=
  aw_invV hd cv cr hk hcl hst hn hrest (by rw [h0.1, h0.2]; exact hroom) hr (fun E σ' h => absurd h Up.nx) (fun w σ' h => by
    obtain ⟨h1, I', rfl, hP⟩ := h
    cases h1
    rw [h0.1, h0.2]; exact kk I' hP)
theorem aw_sRd {yc : YY} {idx n : Nat} {As : List Value} {v : Value} (hd : decode y.2.1 pc = .ok (.invokestatic idx, 3)) (cv : CS y.1.cls idx yc n) (cr : CR yc y) (hr : Run G yc As σ (Rd σ v)) (hst : st = As.reverse ++ rest) (hn : As.length = n) (hrest : (rest.map fun v => v.category).sum ≤ 8) (h0 : yc.2.2.2.2.1.cells = 0 ∧ yc.2.2.2.2.1.slots = 0) (hroom : cu ≤ y.2.2.2.2.1.cells ∧ su ≤ y.2.2.2.2.1.slots)
    (kk : AW G y Z (pc + 3) ls (v :: rest) σ cu su) : AW G y Z pc ls st σ cu su :=
  aw_invS hd cv cr hst hn hrest (by rw [h0.1, h0.2]; exact hroom) hr (fun E σ' h => absurd h Rd.nx) (fun w σ' h => by
    obtain ⟨h1, rfl⟩ := h
    cases h1
    rw [h0.1, h0.2]; exact kk)
theorem aw_sUp0 {yc : YY} {idx n : Nat} {As : List Value} {P : (Nat → Nat → Int32) → Prop} (hd : decode y.2.1 pc = .ok (.invokestatic idx, 3)) (cv : CS y.1.cls idx yc n) (cr : CR yc y) (hr : Run G yc As (K, R, I, J, z) (Up K R J z none P)) (hst : st = As.reverse ++ rest) (hn : As.length = n) (hrest : (rest.map fun v => v.category).sum ≤ 8) (h0 : yc.2.2.2.2.1.cells = 0 ∧ yc.2.2.2.2.1.slots = 0) (hroom : cu ≤ y.2.2.2.2.1.cells ∧ su ≤ y.2.2.2.2.1.slots)
    (kk : ∀ I' : Nat → Nat → Int32, P I' → AW G y Z (pc + 3) ls rest (K, R, I', J, z) cu su) : AW G y Z pc ls st (K, R, I, J, z) cu su :=
  aw_invS hd cv cr hst hn hrest (by rw [h0.1, h0.2]; exact hroom) hr (fun E σ' h => absurd h Up.nx) (fun w σ' h => by
    obtain ⟨h1, I', rfl, hP⟩ := h
    cases h1
    rw [h0.1, h0.2]; exact kk I' hP)
end NROWS
end
section
/-! THE REFERENCE, its smallest methods -/
/-- the reference's object: 140, its arrays behind it -/
def LM (G : GG) (K : Nat → Option (Nat × Nat)) (R : Nat → Nat → Value) : Prop :=
  K 140 = some (4, 12) ∧ R 140 1 = .ref (G.1 141) ∧ K 141 = some (10, 218) ∧ R 140 2 = .ref (G.1 142) ∧ K 142 = some (10, 218) ∧ R 140 3 = .ref (G.1 143) ∧ K 143 = some (10, 1308) ∧ R 140 5 = .ref (G.1 144) ∧ K 144 = some (10, 60) ∧ R 140 9 = .ref (G.1 145) ∧ K 145 = some (10, 20)
/-- 218 ints hold the state a -/
def RM (f : Nat → Int32) (a : AA) : Prop :=
  (∀ k, k < 9 → f k = nI (a.1 k)) ∧ f 9 = nI a.2.1.length ∧ (∀ (p : Nat) (c : Cl), a.2.1[p]? = some c → ∀ w, w < 5 → f (10 + 5 * p + w) = nI (c w)) ∧ (∀ st, st < 4 → ∀ w, w < 32 → f (90 + 32 * st + w) = nI (a.2.2 st w))
/-- other cells stay -/
def FrO (o : Nat) (I I' : Nat → Nat → Int32) : Prop := ∀ q, q ≠ o → I' q = I q
theorem FrO.rf {o : Nat} {I : Nat → Nat → Int32} : FrO o I I := fun _ _ => rfl
theorem FrO.tr {o : Nat} {I I' I'' : Nat → Nat → Int32} (h : FrO o I I') (h' : FrO o I' I'') : FrO o I I'' := fun q hq => (h' q hq).trans (h q hq)
theorem FrO.up {o k : Nat} {x : Int32} {I : Nat → Nat → Int32} : FrO o I (up2 I o k x) := fun q hq => by funext j; simp [up2, hq]
theorem up2_o {I : Nat → Nat → Int32} {o k j : Nat} {x : Int32} : up2 I o k x o j = if j = k then x else I o j := by simp [up2]
section MODEL1
variable {G : GG} {K : Nat → Option (Nat × Nat)} {R : Nat → Nat → Value} {I : Nat → Nat → Int32} {J : Nat → Nat → Int64} {z : Nat} {σ : Sg} {a : AA}
theorem in_t {v l m : Int32} (h1 : ¬ v < l) (h2 : ¬ m < v) : (Sum.inl (some (Value.int (nI 1))) : RT) = Sum.inl (some (Value.int (nI (if l ≤ v ∧ v ≤ m then 1 else 0)))) := by rw [if_pos ⟨Int32.not_lt.mp h1, Int32.not_lt.mp h2⟩]
theorem in_f1 {v l m : Int32} (h : v < l) : (Sum.inl (some (Value.int (nI 0))) : RT) = Sum.inl (some (Value.int (nI (if l ≤ v ∧ v ≤ m then 1 else 0)))) := by rw [if_neg (fun q => Int32.not_lt.mpr q.1 h)]
theorem in_f2 {v l m : Int32} (h : m < v) : (Sum.inl (some (Value.int (nI 0))) : RT) = Sum.inl (some (Value.int (nI (if l ≤ v ∧ v ≤ m then 1 else 0)))) := by rw [if_neg (fun q => Int32.not_lt.mpr q.2 h)]
theorem r_in (v l m : Int32) : Run G YX4_in [.int v, .int l, .int m] σ (Rd σ (.int (nI (if l ≤ v ∧ v ≤ m then 1 else 0)))) := by
  refine run_of (ls := [(0, .int v), (1, .int l), (2, .int m)]) (by decide +kernel) rfl rfl (Nat.le_of_ble_eq_true rfl) ?_
  refine aw_iload_n dX4_in_0 rfl ?_
  refine aw_iload_n dX4_in_1 rfl ?_
  refine aw_icmp_lt (tgt := 14) dX4_in_2 (by decide) (fun hc2 => ?_) (fun hc2 => ?_)
  · refine aw_iconst (v := nI 0) dX4_in_14 rfl ?_
    exact aw_zret dX4_in_15 rfl rfl (Nat.zero_le _) (Nat.zero_le _) ⟨by first | exact in_f1 hc2 | exact in_f2 hc7 | exact in_t hc2 hc7, rfl⟩
  · refine aw_iload_n dX4_in_5 rfl ?_
    refine aw_iload_n dX4_in_6 rfl ?_
    refine aw_icmp_gt (tgt := 14) dX4_in_7 (by decide) (fun hc7 => ?_) (fun hc7 => ?_)
    · refine aw_iconst (v := nI 0) dX4_in_14 rfl ?_
      exact aw_zret dX4_in_15 rfl rfl (Nat.zero_le _) (Nat.zero_le _) ⟨by first | exact in_f1 hc2 | exact in_f2 hc7 | exact in_t hc2 hc7, rfl⟩
    · refine aw_iconst (v := nI 1) dX4_in_10 rfl ?_
      refine aw_goto (tgt := 15) dX4_in_11 (by decide) ?_
      exact aw_zret dX4_in_15 rfl rfl (Nat.zero_le _) (Nat.zero_le _) ⟨by first | exact in_f1 hc2 | exact in_f2 hc7 | exact in_t hc2 hc7, rfl⟩
theorem r_isStore (v : Int32) : Run G YX4_isStore [.int v] σ (Rd σ (.int (nI (if nI 0 ≤ v ∧ v ≤ nI 3 then 1 else 0)))) := by
  refine run_of (ls := [(0, .int v)]) (by decide +kernel) rfl rfl (Nat.le_of_ble_eq_true rfl) ?_
  refine aw_iload_n dX4_isStore_0 rfl ?_
  refine aw_iconst (v := nI 0) dX4_isStore_1 rfl ?_
  refine aw_iconst (v := nI 3) dX4_isStore_2 rfl ?_
  refine aw_sRd dX4_isStore_3 cvX4_33 ⟨Nat.le_of_ble_eq_true rfl, Nat.le_of_ble_eq_true rfl⟩ (r_in v (nI 0) (nI 3)) rfl rfl (by decide) ⟨rfl, rfl⟩ ⟨Nat.zero_le _, Nat.zero_le _⟩ ?_
  exact aw_zret dX4_isStore_6 rfl (by split <;> rfl) (Nat.zero_le _) (Nat.zero_le _) ⟨rfl, rfl⟩
theorem r_of (hL : LM G K R) (hM : RM (I 141) a) {st w : Nat} (hst : st < 4) (hw : w < 32) : Run G YX4_of [.ref (G.1 140), .int (nI st), .int (nI w)] (K, R, I, J, z) (Rd (K, R, I, J, z) (.int (nI (a.2.2 st w)))) := by
  obtain ⟨hk0, hr1, hk1, hr2, hk2, hr3, hk3, hr5, hk5, hr9, hk9⟩ := hL
  refine run_of (ls := [(0, .ref (G.1 140)), (1, .int (nI st)), (2, .int (nI w))]) (by decide +kernel) rfl rfl (Nat.le_of_ble_eq_true rfl) ?_
  refine aw_aload_n dX4_of_0 rfl ?_
  refine aw_getR dX4_of_1 flX4_7 rfl (by assumption) (by assumption) ?_
  refine aw_bipush (v := nI 90) dX4_of_4 rfl ?_
  refine aw_bipush (v := nI 32) dX4_of_6 rfl ?_
  refine aw_iload_n dX4_of_8 rfl ?_
  first | refine aw_imulN dX4_of_9 ?_ | refine aw_imul dX4_of_9 ?_
  first | refine aw_iaddN dX4_of_10 ?_ | refine aw_iadd dX4_of_10 ?_
  refine aw_iload_n dX4_of_11 rfl ?_
  first | refine aw_iaddN dX4_of_12 ?_ | refine aw_iadd dX4_of_12 ?_
  refine aw_iald dX4_of_13 (by assumption) (by omega) rfl (by omega) (hM.2.2.2 st hst w hw) ?_
  exact aw_iret dX4_of_14 rfl (Nat.zero_le _) (Nat.zero_le _) ⟨rfl, rfl⟩
theorem r_callOf (hL : LM G K R) (hM : RM (I 141) a) {p w : Nat} {c : Cl} (hp : a.2.1[p]? = some c) (h16 : a.2.1.length ≤ 16) (hw : w < 5) : Run G YX4_callOf [.ref (G.1 140), .int (nI p), .int (nI w)] (K, R, I, J, z) (Rd (K, R, I, J, z) (.int (nI (c w)))) := by
  obtain ⟨hk0, hr1, hk1, hr2, hk2, hr3, hk3, hr5, hk5, hr9, hk9⟩ := hL
  have hpl := (List.getElem?_eq_some_iff.mp hp).1
  refine run_of (ls := [(0, .ref (G.1 140)), (1, .int (nI p)), (2, .int (nI w))]) (by decide +kernel) rfl rfl (Nat.le_of_ble_eq_true rfl) ?_
  refine aw_aload_n dX4_callOf_0 rfl ?_
  refine aw_getR dX4_callOf_1 flX4_7 rfl (by assumption) (by assumption) ?_
  refine aw_bipush (v := nI 10) dX4_callOf_4 rfl ?_
  refine aw_iconst (v := nI 5) dX4_callOf_6 rfl ?_
  refine aw_iload_n dX4_callOf_7 rfl ?_
  first | refine aw_imulN dX4_callOf_8 ?_ | refine aw_imul dX4_callOf_8 ?_
  first | refine aw_iaddN dX4_callOf_9 ?_ | refine aw_iadd dX4_callOf_9 ?_
  refine aw_iload_n dX4_callOf_10 rfl ?_
  first | refine aw_iaddN dX4_callOf_11 ?_ | refine aw_iadd dX4_callOf_11 ?_
  refine aw_iald dX4_callOf_12 (by assumption) (by omega) rfl (by omega) (hM.2.2.1 p c hp w hw) ?_
  exact aw_iret dX4_callOf_13 rfl (Nat.zero_le _) (Nat.zero_le _) ⟨rfl, rfl⟩
theorem RM_lay {f f' : Nat → Int32} {a : AA} {st w v : Nat} (hM : RM f a) (hst : st < 4) (hw : w < 32) (hf : ∀ j, f' j = if j = 90 + 32 * st + w then nI v else f j) (h16 : a.2.1.length ≤ 16) : RM f' (a.1, a.2.1, sT a.2.2 st (u1 (a.2.2 st) w v)) := by
  obtain ⟨h1, h2, h3, h4⟩ := hM
  refine ⟨fun k hk => ?_, ?_, fun p c hp w' hw' => ?_, fun s hs w' hw' => ?_⟩
  · rw [hf, if_neg (by omega)]; exact h1 k hk
  · rw [hf, if_neg (by omega)]; exact h2
  · have hpl := (List.getElem?_eq_some_iff.mp hp).1
    rw [hf, if_neg (by simp only at hpl; omega)]; exact h3 p c hp w' hw'
  · rw [hf]
    by_cases e : s = st
    · subst e
      show _ = nI (sT a.2.2 s _ s w')
      rw [sT_s]
      by_cases e2 : w' = w
      · subst e2; rw [if_pos rfl, u1_s]
      · rw [if_neg (by omega), u1_n e2]; exact h4 s hs w' hw'
    · rw [if_neg (by omega)]
      show _ = nI (sT a.2.2 st _ s w')
      rw [sT_n e]; exact h4 s hs w' hw'
theorem RM_g {f f' : Nat → Int32} {a : AA} {k v : Nat} (hM : RM f a) (hk : k < 9) (hf : ∀ j, f' j = if j = k then nI v else f j) : RM f' (u1 a.1 k v, a.2.1, a.2.2) := by
  obtain ⟨h1, h2, h3, h4⟩ := hM
  refine ⟨fun j hj => ?_, ?_, fun p c hp w' hw' => ?_, fun s hs w' hw' => ?_⟩
  · rw [hf]
    by_cases e : j = k
    · subst e; rw [if_pos rfl]; show _ = nI (u1 a.1 j v j); rw [u1_s]
    · rw [if_neg e]; show _ = nI (u1 a.1 k v j); rw [u1_n e]; exact h1 j hj
  · rw [hf, if_neg (by omega)]; exact h2
  · rw [hf, if_neg (by omega)]; exact h3 p c hp w' hw'
  · rw [hf, if_neg (by omega)]; exact h4 s hs w' hw'
theorem r_lay (hL : LM G K R) (hM : RM (I 141) a) (h16 : a.2.1.length ≤ 16) {st w v : Nat} (hst : st < 4) (hw : w < 32) : Run G YX4_lay [.ref (G.1 140), .int (nI st), .int (nI w), .int (nI v)] (K, R, I, J, z) (Up K R J z none (fun I' => RM (I' 141) (a.1, a.2.1, sT a.2.2 st (u1 (a.2.2 st) w v)) ∧ FrO 141 I I')) := by
  obtain ⟨hk0, hr1, hk1, hr2, hk2, hr3, hk3, hr5, hk5, hr9, hk9⟩ := hL
  refine run_of (ls := [(0, .ref (G.1 140)), (1, .int (nI st)), (2, .int (nI w)), (3, .int (nI v))]) (by decide +kernel) rfl rfl (Nat.le_of_ble_eq_true rfl) ?_
  refine aw_aload_n dX4_lay_0 rfl ?_
  refine aw_getR dX4_lay_1 flX4_7 rfl (by assumption) (by assumption) ?_
  refine aw_bipush (v := nI 90) dX4_lay_4 rfl ?_
  refine aw_bipush (v := nI 32) dX4_lay_6 rfl ?_
  refine aw_iload_n dX4_lay_8 rfl ?_
  first | refine aw_imulN dX4_lay_9 ?_ | refine aw_imul dX4_lay_9 ?_
  first | refine aw_iaddN dX4_lay_10 ?_ | refine aw_iadd dX4_lay_10 ?_
  refine aw_iload_n dX4_lay_11 rfl ?_
  first | refine aw_iaddN dX4_lay_12 ?_ | refine aw_iadd dX4_lay_12 ?_
  refine aw_iload_n dX4_lay_13 rfl ?_
  refine aw_iast dX4_lay_14 (by assumption) (by omega) (by omega) rfl (by omega) ?_
  exact aw_vret dX4_lay_15 rfl (Nat.zero_le _) (Nat.zero_le _) ⟨rfl, _, rfl, RM_lay hM hst hw (fun j => up2_o) h16, FrO.up⟩
theorem r_adds (hL : LM G K R) (hM : RM (I 141) a) (h16 : a.2.1.length ≤ 16) {st w : Nat} (hst : st < 4) (hw : w < 32) : Run G YX4_adds [.ref (G.1 140), .int (nI st), .int (nI w)] (K, R, I, J, z) (Up K R J z none (fun I' => RM (I' 141) (a.1, a.2.1, sT a.2.2 st (u1 (a.2.2 st) w (a.2.2 st w + 1))) ∧ FrO 141 I I')) := by
  obtain ⟨hk0, hr1, hk1, hr2, hk2, hr3, hk3, hr5, hk5, hr9, hk9⟩ := hL
  refine run_of (ls := [(0, .ref (G.1 140)), (1, .int (nI st)), (2, .int (nI w))]) (by decide +kernel) rfl rfl (Nat.le_of_ble_eq_true rfl) ?_
  refine aw_aload_n dX4_adds_0 rfl ?_
  refine aw_getR dX4_adds_1 flX4_7 rfl (by assumption) (by assumption) ?_
  refine aw_bipush (v := nI 90) dX4_adds_4 rfl ?_
  refine aw_bipush (v := nI 32) dX4_adds_6 rfl ?_
  refine aw_iload_n dX4_adds_8 rfl ?_
  first | refine aw_imulN dX4_adds_9 ?_ | refine aw_imul dX4_adds_9 ?_
  first | refine aw_iaddN dX4_adds_10 ?_ | refine aw_iadd dX4_adds_10 ?_
  refine aw_iload_n dX4_adds_11 rfl ?_
  first | refine aw_iaddN dX4_adds_12 ?_ | refine aw_iadd dX4_adds_12 ?_
  refine aw_dup2 dX4_adds_13 rfl rfl ?_
  refine aw_iald dX4_adds_14 (by assumption) (by omega) rfl (by omega) (hM.2.2.2 st hst w hw) ?_
  refine aw_iconst (v := nI 1) dX4_adds_15 rfl ?_
  first | refine aw_iaddN dX4_adds_16 ?_ | refine aw_iadd dX4_adds_16 ?_
  refine aw_iast dX4_adds_17 (by assumption) (by omega) (by omega) rfl (by omega) ?_
  exact aw_vret dX4_adds_18 rfl (Nat.zero_le _) (Nat.zero_le _) ⟨rfl, _, rfl, RM_lay hM hst hw (fun j => up2_o) h16, FrO.up⟩
theorem r_thrown {t : Nat} (hL : LM G K R) (ht : I 140 0 = nI t) : Run G YX4_thrown [.ref (G.1 140)] (K, R, I, J, z) (Rd (K, R, I, J, z) (.int (nI t))) := by
  obtain ⟨hk0, hr1, hk1, hr2, hk2, hr3, hk3, hr5, hk5, hr9, hk9⟩ := hL
  refine run_of (ls := [(0, .ref (G.1 140))]) (by decide +kernel) rfl rfl (Nat.le_of_ble_eq_true rfl) ?_
  refine aw_aload_n dX4_thrown_0 rfl ?_
  refine aw_getI dX4_thrown_1 flX4_25 rfl (by assumption) ht ?_
  exact aw_iret dX4_thrown_4 rfl (Nat.zero_le _) (Nat.zero_le _) ⟨rfl, rfl⟩
theorem r_fails (hL : LM G K R) (c : Int32) : Run G YX4_fails [.ref (G.1 140), .int c] (K, R, I, J, z) (Up K R J z (some (.int (nI 0))) (fun I' => I' = up2 I 140 0 c)) := by
  obtain ⟨hk0, hr1, hk1, hr2, hk2, hr3, hk3, hr5, hk5, hr9, hk9⟩ := hL
  refine run_of (ls := [(0, .ref (G.1 140)), (1, .int c)]) (by decide +kernel) rfl rfl (Nat.le_of_ble_eq_true rfl) ?_
  refine aw_aload_n dX4_fails_0 rfl ?_
  refine aw_iload_n dX4_fails_1 rfl ?_
  refine aw_putI dX4_fails_2 flX4_25 rfl (by intro r hr; cases hr; rfl) (by assumption) (by omega) rfl rfl ?_
  refine aw_iconst (v := nI 0) dX4_fails_5 rfl ?_
  exact aw_iret dX4_fails_6 rfl (Nat.zero_le _) (Nat.zero_le _) ⟨rfl, _, rfl, rfl⟩
end MODEL1
end
section
/-! WHAT HOLDS OF EVERY STATE -/
def RK (b : Nat) (t : Rw) : Prop :=
  1 ≤ t 0 ∧ t 0 ≤ 20 ∧ t 1 < t 0 ∧ t 2 ≤ 2 ∧ t 3 < 2 ^ t 4 ∧ t 4 ≤ 16 ∧ (t 2 = 1 ↔ 1 ≤ t 5) ∧ t 5 ≤ t 6 ∧ t 6 ≤ 999 ∧ (t 2 = 0 → t 6 = 0) ∧ (t 2 ≠ 0 → 1 ≤ t 6 ∧ t 3 = 0 ∧ t 4 = 0) ∧ t 11 ≤ b ∧ ∀ j, j < 20 → t (12 + j) ≤ 99
def SK (g : Nat → Nat) : Prop := (1 ≤ g 0 ∧ g 0 ≤ 99) ∧ (2 ≤ g 1 ∧ g 1 ≤ 16) ∧ (1 ≤ g 2 ∧ g 2 ≤ 16) ∧ (1 ≤ g 3 ∧ g 3 ≤ 99) ∧ (1 ≤ g 4 ∧ g 4 ≤ 999)
def CK (b : Nat) (T : Nat → Rw) (c : Cl) : Prop := c 0 < 4 ∧ c 1 ≤ 99 ∧ 1 ≤ c 2 ∧ c 2 ≤ 99 ∧ c 3 ≤ 1 ∧ c 4 ≤ b ∧ (c 3 = 1 → T (c 0) 2 = 2)
def isT (st : Nat) (c : Cl) : Bool := c 0 == st && c 3 == 1
/-- m: outcomes and calls on their way; k: closings by hand -/
def IV (m k : Nat) (a : AA) : Prop :=
  SK a.1 ∧ a.2.1.length ≤ 16 ∧ (∀ c ∈ a.2.1, CK (a.1 6 + a.1 7 + k) a.2.2 c) ∧ (∀ st, a.2.1.countP (isT st) ≤ 1) ∧ (∀ st, st < 4 → RK (a.1 6 + a.1 7 + k) (a.2.2 st)) ∧
  a.1 6 = a.2.2 0 9 + a.2.2 1 9 + a.2.2 2 9 + a.2.2 3 9 ∧ a.1 6 + a.1 7 + a.2.1.length ≤ m
theorem RK.up {b b' : Nat} {t : Rw} (h : RK b t) (hb : b ≤ b') : RK b' t := by
  obtain ⟨h0, h1, h2, h3, h4, h5, h6, h7, h8, h9, h10, h11, h12⟩ := h
  exact ⟨h0, h1, h2, h3, h4, h5, h6, h7, h8, h9, h10, by omega, h12⟩
theorem RK.u9 {b v : Nat} {t : Rw} (h : RK b t) : RK b (u1 t 9 v) := by
  obtain ⟨h0, h1, h2, h3, h4, h5, h6, h7, h8, h9, h10, h11, h12⟩ := h
  refine ⟨h0, h1, h2, h3, h4, h5, h6, h7, h8, h9, h10, h11, fun j hj => ?_⟩
  rw [u1_n (by omega)]; exact h12 j hj
theorem RK.cut {b n : Nat} {t : Rw} (h : RK b t) (hn : 1 ≤ n) (hn2 : n ≤ 999) : RK b (cutR n t) := by
  obtain ⟨h0, h1, h2, h3, h4, h5, h6, h7, h8, h9, h10, h11, h12⟩ := h
  refine ⟨h0, h1, h2, by simp [cutR], by simp [cutR], by simp [cutR], by simp [cutR]; omega, by simp [cutR], by simpa [cutR] using hn2, by simp [cutR], by simp [cutR]; omega, by simpa [cutR] using h11, fun j hj => ?_⟩
  have : cutR n t (12 + j) = t (12 + j) := by
    unfold cutR
    rw [if_neg (by omega), if_neg (by omega), if_neg (by omega), if_neg (by omega), if_neg (by omega), if_neg (by omega)]
  rw [this]; exact h12 j hj
theorem RK.close {b : Nat} {t : Rw} (h : RK b t) : RK (b + 1) (closeR t) := by
  obtain ⟨h0, h1, h2, h3, h4, h5, h6, h7, h8, h9, h10, h11, h12⟩ := h
  refine ⟨h0, h1, h2, by simp [closeR], by simp [closeR], by simp [closeR], by simp [closeR], by simp [closeR], by simp [closeR], by simp [closeR], by simp [closeR], by simpa [closeR] using h11, fun j hj => ?_⟩
  have : closeR t (12 + j) = t (12 + j) := by
    unfold closeR
    rw [if_neg (by omega), if_neg (by omega), if_neg (by omega), if_neg (by omega), if_neg (by omega), if_neg (by omega)]
  rw [this]; exact h12 j hj
theorem badN_le (g : Nat → Nat) (d : Nat) : badN g d ≤ 1 := by unfold badN; split <;> omega
theorem RK.note {b e : Nat} {t : Rw} (h : RK b t) (he : e ≤ 1) (h0t : t 2 = 0) : RK b (noteR e t) := by
  obtain ⟨h0, h1, h2, h3, h4, h5, h6, h7, h8, h9, h10, h11, h12⟩ := h
  refine ⟨h0, h1, h2, h3, ?_, by simp [noteR]; omega, h6, h7, h8, h9, fun q => absurd h0t q, h11, fun j hj => ?_⟩
  · show (2 * t 3 + e) % 65536 < 2 ^ (min (t 4 + 1) 16)
    rcases Nat.lt_or_ge (t 4) 16 with q | q
    · rw [Nat.min_eq_left (by omega), Nat.pow_succ]
      have := Nat.mod_le (2 * t 3 + e) 65536
      omega
    · rw [Nat.min_eq_right (by omega)]
      exact Nat.mod_lt _ (by decide)
  · have : noteR e t (12 + j) = t (12 + j) := by
      unfold noteR
      rw [if_neg (by omega), if_neg (by omega)]
    rw [this]; exact h12 j hj
theorem RK.win {b : Nat} {g : Nat → Nat} {t : Rw} (hg : SK g) (h : RK b t) : RK b (winR g t) := by
  unfold winR
  split
  · exact h.cut hg.2.2.2.1.1 (by have := hg.2.2.2.1.2; omega)
  · exact h
theorem RK.out {b d tr since : Nat} {g : Nat → Nat} {t : Rw} (hg : SK g) (h : RK b t) (htr : tr = 1 → t 2 = 2) : RK (b + 1) (outR g d tr since t) := by
  unfold outR
  have h9 := h.u9 (v := t 9 + badN g d)
  split
  · next e =>
    have h2 := htr e
    have h6 : 1 ≤ t 6 := (h.2.2.2.2.2.2.2.2.2.2.1 (by omega)).1
    split
    · exact ((h9.cut (n := min (2 * t 6) (g 4)) (by have := hg.2.2.2.2.1; omega) (by have := hg.2.2.2.2.2; omega))).up (Nat.le_succ _)
    · exact h9.close
  · split
    · next e => exact ((h9.note (badN_le g d) e.1).win hg).up (Nat.le_succ _)
    · exact h9.up (Nat.le_succ _)
theorem cutR_9 {n : Nat} {t : Rw} : cutR n t 9 = t 9 := rfl
theorem closeR_9 {t : Rw} : closeR t 9 = t 9 := rfl
theorem outR_9 {g : Nat → Nat} {d tr since : Nat} {t : Rw} : outR g d tr since t 9 = t 9 + badN g d := by
  unfold outR winR
  split
  · split <;> rfl
  · split
    · split <;> rfl
    · rfl
theorem outR_2 {g : Nat → Nat} {d tr since : Nat} {t : Rw} (h : tr ≠ 1) (h2 : t 2 ≠ 0) : outR g d tr since t 2 = t 2 := by
  unfold outR
  rw [if_neg h, if_neg (fun q => h2 q.1)]
  rfl
theorem outG_67 (g : Nat → Nat) (d : Nat) : outG g d 6 + outG g d 7 = g 6 + g 7 + 1 := by
  have := badN_le g d
  simp [outG, u1]; omega
theorem SK.out {g : Nat → Nat} {d : Nat} (h : SK g) : SK (outG g d) := h
theorem sum9 {T : Nat → Rw} {st : Nat} {t : Rw} (hst : st < 4) (v : Nat) (ht : t 9 = T st 9 + v) : sT T st t 0 9 + sT T st t 1 9 + sT T st t 2 9 + sT T st t 3 9 = T 0 9 + T 1 9 + T 2 9 + T 3 9 + v := by
  rcases (show st = 0 ∨ st = 1 ∨ st = 2 ∨ st = 3 by omega) with rfl | rfl | rfl | rfl <;> simp [sT, ht] <;> omega
/-- an outcome that comes for a store -/
theorem IV.out {m k : Nat} {a : AA} {st d tr since : Nat} (h : IV m k a) (hst : st < 4) (htr : tr = 1 → a.2.2 st 2 = 2 ∧ a.2.1.countP (isT st) = 0) : IV (m + 1) k (outA a st d tr since) := by
  obtain ⟨h1, h2, h3, h4, h5, h6, h7⟩ := h
  have h67 := outG_67 a.1 d
  refine ⟨h1.out, h2, fun c hc => ?_, h4, fun s hs => ?_, ?_, ?_⟩
  · obtain ⟨c0, c1, c2, c2', c3, c4, c5⟩ := h3 c hc
    refine ⟨c0, c1, c2, c2', c3, by show c 4 ≤ outG a.1 d 6 + outG a.1 d 7 + k; omega, fun e => ?_⟩
    show sT a.2.2 st _ (c 0) 2 = 2
    by_cases e0 : c 0 = st
    · rw [e0, sT_s]
      have h22 := c5 e
      rw [e0] at h22
      by_cases et : tr = 1
      · have h0 := (htr et).2
        rw [List.countP_eq_zero] at h0
        exact absurd (show isT st c = true by simp [isT, e0, e]) (by simpa using h0 c hc)
      · rw [outR_2 et (by omega)]; exact h22
    · rw [sT_n e0]; exact c5 e
  · show RK (outG a.1 d 6 + outG a.1 d 7 + k) (sT a.2.2 st _ s)
    rw [show outG a.1 d 6 + outG a.1 d 7 + k = a.1 6 + a.1 7 + k + 1 by omega]
    by_cases e : s = st
    · subst e; rw [sT_s]; exact RK.out h1 (h5 s hs) (fun q => (htr q).1)
    · rw [sT_n e]; exact (h5 s hs).up (Nat.le_succ _)
  · show outG a.1 d 6 = _
    have := sum9 (T := a.2.2) (st := st) (t := outR a.1 d tr since (a.2.2 st)) hst (badN a.1 d) outR_9
    show outG a.1 d 6 = sT a.2.2 st _ 0 9 + sT a.2.2 st _ 1 9 + sT a.2.2 st _ 2 9 + sT a.2.2 st _ 3 9
    rw [this, ← h6]
    simp [outG, u1]
  · show outG a.1 d 6 + outG a.1 d 7 + a.2.1.length ≤ m + 1
    omega
/-- one call fewer on its way -/
theorem IV.rem {m k : Nat} {g : Nat → Nat} {T : Nat → Rw} {L1 L2 : List Cl} {c : Cl} (h : IV (m + 1) k (g, L1 ++ c :: L2, T)) : IV m k (g, L1 ++ L2, T) := by
  obtain ⟨h1, h2, h3, h4, h5, h6, h7⟩ := h
  have hl : (L1 ++ c :: L2).length = (L1 ++ L2).length + 1 := by simp [Nat.add_assoc]
  refine ⟨h1, ?_, fun c' hc => h3 c' ?_, fun st => ?_, h5, h6, ?_⟩
  · show (L1 ++ L2).length ≤ 16
    have : (L1 ++ c :: L2).length ≤ 16 := h2
    omega
  · rcases List.mem_append.mp hc with q | q
    · exact List.mem_append_left _ q
    · exact List.mem_append_right _ (List.mem_cons_of_mem _ q)
  · have := h4 st
    simp only [List.countP_append, List.countP_cons] at this ⊢
    omega
  · show g 6 + g 7 + (L1 ++ L2).length ≤ m
    have : g 6 + g 7 + (L1 ++ c :: L2).length ≤ m + 1 := h7
    omega
/-- a call is answered -/
theorem IV.ans {m k : Nat} {g : Nat → Nat} {T : Nat → Rw} {L1 L2 : List Cl} {c : Cl} (h : IV m k (g, L1 ++ c :: L2, T)) : IV m k (outA (g, L1 ++ L2, T) (c 0) (c 2) (c 3) (c 4)) := by
  have hm : ∃ n, m = n + 1 := by
    have h7 : g 6 + g 7 + (L1 ++ c :: L2).length ≤ m := h.2.2.2.2.2.2
    have hl : (L1 ++ c :: L2).length = (L1 ++ L2).length + 1 := by simp [Nat.add_assoc]
    exact ⟨m - 1, by omega⟩
  obtain ⟨n, rfl⟩ := hm
  have hc := h.2.2.1 c (List.mem_append_right _ List.mem_cons_self)
  refine (IV.rem h).out hc.1 (fun e => ⟨hc.2.2.2.2.2.2 e, ?_⟩)
  have h4 := h.2.2.2.1 (c 0)
  have hT : isT (c 0) c = true := by simp [isT, e]
  simp only [List.countP_append, List.countP_cons, hT] at h4
  show (L1 ++ L2).countP (isT (c 0)) = 0
  rw [List.countP_append]
  simp only [if_true] at h4
  omega
end
section
/-! THE REFERENCE: windows, outcomes -/
theorem sh_and : ∀ k, k < 32 → ((nI k &&& 31).toBitVec.smod 32).toNat = k := by decide
theorem shr1 {b k : Nat} (hb : b < 2 ^ 31) (hk : k < 32) : (nI b >>> (nI k &&& 31)) &&& nI 1 = nI (b / 2 ^ k % 2) := by
  rw [pk_shrN hb _ k (sh_and k hk), pk_andN (Nat.lt_trans (Nat.lt_of_le_of_lt (Nat.div_le_self _ _) hb) (by decide)) 1 (by decide)]
theorem ior_nI (a b : Nat) : nI a ||| nI b = nI (a ||| b) := by
  apply Int32.toBitVec_inj.mp
  show BitVec.ofNat 32 a ||| BitVec.ofNat 32 b = BitVec.ofNat 32 (a ||| b)
  rw [BitVec.ofNat_or]
theorem note_nI {b e : Nat} (hb : b < 65536) (he : e ≤ 1) : ((nI b <<< (nI 1 &&& 31)) ||| nI e) &&& 65535 = nI ((2 * b + e) % 65536) := by
  rw [pk_shlN _ 1 (by decide) (by omega), ior_nI]
  have h : b * 2 ^ 1 ||| e = 2 * b + e := by
    have := Nat.shiftLeft_add_eq_or_of_lt (a := b) (b := e) (i := 1) (by omega)
    rw [Nat.shiftLeft_eq] at this
    rw [← this]; omega
  rw [h]
  exact pk_andN (by omega) 16 (by decide)
section MODEL2
variable {G : GG} {K : Nat → Option (Nat × Nat)} {R : Nat → Nat → Value} {I : Nat → Nat → Int32} {J : Nat → Nat → Int64} {z : Nat} {σ : Sg} {a : AA} {m k : Nat}
theorem p2_16 {n : Nat} (h : n ≤ 16) : 2 ^ n ≤ 65536 := Nat.pow_le_pow_right (by decide) h
theorem bits_le (b : Nat) : ∀ n, bits b n ≤ n
  | 0 => Nat.le_refl 0
  | n + 1 => by
    have := bits_le b n
    show bits b n + b / 2 ^ n % 2 ≤ n + 1
    have := Nat.mod_lt (b / 2 ^ n) (show 0 < 2 by decide)
    omega
theorem r_inWindow (hL : LM G K R) (hM : RM (I 141) a) {st b : Nat} (hst : st < 4) (hg : SK a.1) (ht : RK b (a.2.2 st)) : Run G YX4_inWindow [.ref (G.1 140), .int (nI st)] (K, R, I, J, z) (Rd (K, R, I, J, z) (.int (nI (inWinR a.1 (a.2.2 st))))) := by
  obtain ⟨hk0, hr1, hk1, hr2, hk2, hr3, hk3, hr5, hk5, hr9, hk9⟩ := hL
  have h4 := ht.2.2.2.2.2.1
  have h2 := ht.2.2.2.1
  have hg1 := hg.2.1
  have hL : LM G K R := ⟨hk0, hr1, hk1, hr2, hk2, hr3, hk3, hr5, hk5, hr9, hk9⟩
  refine run_of (ls := [(0, .ref (G.1 140)), (1, .int (nI st))]) (by decide +kernel) rfl rfl (Nat.le_of_ble_eq_true rfl) ?_
  refine aw_aload_n dX4_inWindow_0 rfl ?_
  refine aw_iload_n dX4_inWindow_1 rfl ?_
  refine aw_iconst (v := nI 4) dX4_inWindow_2 rfl ?_
  refine aw_vRd dX4_inWindow_3 cvX4_40 ⟨Nat.le_of_ble_eq_true rfl, Nat.le_of_ble_eq_true rfl⟩ (by assumption) ⟨_, rfl, rfl⟩ (r_of (w := 4) hL hM hst (by decide)) rfl rfl (Nat.le_of_ble_eq_true rfl) ⟨rfl, rfl⟩ ⟨Nat.zero_le _, Nat.zero_le _⟩ ?_
  refine aw_istore_n (ls' := [(2, _), (0, _), (1, _)]) dX4_inWindow_6 (by decide) rfl ?_
  refine aw_aload_n dX4_inWindow_7 rfl ?_
  refine aw_iload_n dX4_inWindow_8 rfl ?_
  refine aw_iconst (v := nI 2) dX4_inWindow_9 rfl ?_
  refine aw_vRd dX4_inWindow_10 cvX4_40 ⟨Nat.le_of_ble_eq_true rfl, Nat.le_of_ble_eq_true rfl⟩ (by assumption) ⟨_, rfl, rfl⟩ (r_of (w := 2) hL hM hst (by decide)) rfl rfl (Nat.le_of_ble_eq_true rfl) ⟨rfl, rfl⟩ ⟨Nat.zero_le _, Nat.zero_le _⟩ ?_
  refine aw_if_eqN (tgt := 20) dX4_inWindow_13 (by decide) (by omega) (fun hc13 => ?_) (fun hc13 => ?_)
  · refine aw_iload_n dX4_inWindow_20 rfl ?_
    refine aw_aload_n dX4_inWindow_21 rfl ?_
    refine aw_getR dX4_inWindow_22 flX4_7 rfl (by assumption) (by assumption) ?_
    refine aw_iconst (v := nI 1) dX4_inWindow_25 rfl ?_
    refine aw_iald dX4_inWindow_26 (by assumption) (by omega) rfl (by omega) (hM.1 1 (by decide)) ?_
    refine aw_icmp_geN (tgt := 34) dX4_inWindow_27 (by decide) (by omega) (by omega) (fun hc27 => ?_) (fun hc27 => ?_)
    · refine aw_aload_n dX4_inWindow_34 rfl ?_
      refine aw_getR dX4_inWindow_35 flX4_7 rfl (by assumption) (by assumption) ?_
      refine aw_iconst (v := nI 1) dX4_inWindow_38 rfl ?_
      refine aw_iald dX4_inWindow_39 (by assumption) (by omega) rfl (by omega) (hM.1 1 (by decide)) ?_
      exact aw_iret dX4_inWindow_40 rfl (Nat.zero_le _) (Nat.zero_le _) ⟨by first | rw [inWinR, if_neg hc13] | rw [inWinR, if_pos hc13, Nat.min_eq_left (Nat.le_of_lt hc27)] | rw [inWinR, if_pos hc13, Nat.min_eq_right hc27], rfl⟩
    · refine aw_iload_n dX4_inWindow_30 rfl ?_
      refine aw_goto (tgt := 40) dX4_inWindow_31 (by decide) ?_
      exact aw_iret dX4_inWindow_40 rfl (Nat.zero_le _) (Nat.zero_le _) ⟨by first | rw [inWinR, if_neg hc13] | rw [inWinR, if_pos hc13, Nat.min_eq_left (Nat.le_of_lt hc27)] | rw [inWinR, if_pos hc13, Nat.min_eq_right hc27], rfl⟩
  · refine aw_iconst (v := nI 0) dX4_inWindow_16 rfl ?_
    refine aw_goto (tgt := 40) dX4_inWindow_17 (by decide) ?_
    exact aw_iret dX4_inWindow_40 rfl (Nat.zero_le _) (Nat.zero_le _) ⟨by first | rw [inWinR, if_neg hc13] | rw [inWinR, if_pos hc13, Nat.min_eq_left (Nat.le_of_lt hc27)] | rw [inWinR, if_pos hc13, Nat.min_eq_right hc27], rfl⟩
theorem r_badInWindow (hL : LM G K R) (hM : RM (I 141) a) {st b : Nat} (hst : st < 4) (hg : SK a.1) (ht : RK b (a.2.2 st)) : Run G YX4_badInWindow [.ref (G.1 140), .int (nI st)] (K, R, I, J, z) (Rd (K, R, I, J, z) (.int (nI (badWinR a.1 (a.2.2 st))))) := by
  obtain ⟨hk0, hr1, hk1, hr2, hk2, hr3, hk3, hr5, hk5, hr9, hk9⟩ := hL
  have hL : LM G K R := ⟨hk0, hr1, hk1, hr2, hk2, hr3, hk3, hr5, hk5, hr9, hk9⟩
  have h4 := ht.2.2.2.2.2.1
  have h3 : a.2.2 st 3 < 65536 := Nat.lt_of_lt_of_le ht.2.2.2.2.1 (p2_16 h4)
  have hw : inWinR a.1 (a.2.2 st) ≤ 16 := by unfold inWinR; split <;> omega
  generalize hW : inWinR a.1 (a.2.2 st) = w at hw
  have hbw : badWinR a.1 (a.2.2 st) = bits (a.2.2 st 3) w := by unfold badWinR; rw [hW]
  have loop : ∀ (d k : Nat), w - k = d → k ≤ w → AW G YX4_badInWindow (MZ G YX4_badInWindow (Rd (K, R, I, J, z) (.int (nI (badWinR a.1 (a.2.2 st)))))) 4 [(0, .ref (G.1 140)), (1, .int (nI st)), (2, .int (nI (bits (a.2.2 st 3) k))), (3, .int (nI k))] [] (K, R, I, J, z) 0 0 := by
    intro d
    induction d using Nat.strongRecOn with
    | _ d ih =>
    intro k hd hkw
    refine aw_iload_n dX4_badInWindow_4 rfl ?_
    refine aw_aload_n dX4_badInWindow_5 rfl ?_
    refine aw_iload_n dX4_badInWindow_6 rfl ?_
    refine aw_vRd dX4_badInWindow_7 cvX4_44 ⟨Nat.le_of_ble_eq_true rfl, Nat.le_of_ble_eq_true rfl⟩ (by assumption) ⟨_, rfl, rfl⟩ (r_inWindow hL hM hst hg ht) rfl rfl (Nat.le_of_ble_eq_true rfl) ⟨rfl, rfl⟩ ⟨Nat.zero_le _, Nat.zero_le _⟩ ?_
    rw [hW]
    refine aw_icmp_geN (tgt := 32) dX4_badInWindow_10 (by decide) (by omega) (by omega) (fun hc10 => ?_) (fun hc10 => ?_)
    · refine aw_iload_n dX4_badInWindow_32 rfl ?_
      exact aw_iret dX4_badInWindow_33 rfl (Nat.zero_le _) (Nat.zero_le _) ⟨by rw [hbw, show k = w by omega], rfl⟩
    · refine aw_iload_n dX4_badInWindow_13 rfl ?_
      refine aw_aload_n dX4_badInWindow_14 rfl ?_
      refine aw_iload_n dX4_badInWindow_15 rfl ?_
      refine aw_iconst (v := nI 3) dX4_badInWindow_16 rfl ?_
      refine aw_vRd dX4_badInWindow_17 cvX4_40 ⟨Nat.le_of_ble_eq_true rfl, Nat.le_of_ble_eq_true rfl⟩ (by assumption) ⟨_, rfl, rfl⟩ (r_of (w := 3) hL hM hst (by decide)) rfl rfl (Nat.le_of_ble_eq_true rfl) ⟨rfl, rfl⟩ ⟨Nat.zero_le _, Nat.zero_le _⟩ ?_
      refine aw_iload_n dX4_badInWindow_20 rfl ?_
      refine aw_ishr dX4_badInWindow_21 ?_
      refine aw_iconst (v := nI 1) dX4_badInWindow_22 rfl ?_
      refine aw_iand dX4_badInWindow_23 ?_
      refine aw_top (x' := nI (a.2.2 st 3 / 2 ^ k % 2)) (shr1 (by omega) (by omega)) ?_
      first | refine aw_iaddN dX4_badInWindow_24 ?_ | refine aw_iadd dX4_badInWindow_24 ?_
      refine aw_istore_n (ls' := [(2, _), (0, _), (1, _), (3, _)]) dX4_badInWindow_25 (by decide) rfl ?_
      refine aw_iincN (k := 1) (ls' := [(3, _), (2, _), (0, _), (1, _)]) dX4_badInWindow_26 rfl rfl (by decide) rfl ?_
      refine aw_goto (tgt := 4) dX4_badInWindow_29 (by decide) ?_
      exact aw_pick [2, 3, 1, 0] rfl (ih (w - (k + 1)) (by omega) (k + 1) rfl (by omega))
  refine run_of (ls := [(0, .ref (G.1 140)), (1, .int (nI st))]) (by decide +kernel) rfl rfl (Nat.le_of_ble_eq_true rfl) ?_
  refine aw_iconst (v := nI 0) dX4_badInWindow_0 rfl ?_
  refine aw_istore_n (ls' := [(2, _), (0, _), (1, _)]) dX4_badInWindow_1 (by decide) rfl ?_
  refine aw_iconst (v := nI 0) dX4_badInWindow_2 rfl ?_
  refine aw_istore_n (ls' := [(3, _), (2, _), (0, _), (1, _)]) dX4_badInWindow_3 (by decide) rfl ?_
  exact aw_pick [2, 3, 1, 0] rfl (loop w 0 rfl (Nat.zero_le _))
theorem sT_sT {T : Nat → Rw} {st : Nat} {t t' : Rw} : sT (sT T st t) st t' = sT T st t' := by
  funext s; unfold sT; split <;> rfl
theorem cutR_eq (n : Nat) (t : Rw) : u1 (u1 (u1 (u1 (u1 (u1 t 2 1) 3 0) 4 0) 5 n) 6 n) 10 (t 10 + 1) = cutR n t := by
  funext k; simp only [u1, cutR]
  by_cases h2 : k = 2
  · subst h2; simp
  by_cases h3 : k = 3
  · subst h3; simp
  by_cases h4 : k = 4
  · subst h4; simp
  by_cases h5 : k = 5
  · subst h5; simp
  by_cases h6 : k = 6
  · subst h6; simp
  simp [h2, h3, h4, h5, h6]
theorem closeR_eq (t : Rw) : u1 (u1 (u1 (u1 (u1 (u1 t 2 0) 3 0) 4 0) 5 0) 6 0) 11 (t 11 + 1) = closeR t := by
  funext k; simp only [u1, closeR]
  by_cases h2 : k = 2
  · subst h2; simp
  by_cases h3 : k = 3
  · subst h3; simp
  by_cases h4 : k = 4
  · subst h4; simp
  by_cases h5 : k = 5
  · subst h5; simp
  by_cases h6 : k = 6
  · subst h6; simp
  simp [h2, h3, h4, h5, h6]
theorem r_cutsOff (hL : LM G K R) (hM : RM (I 141) a) (h16 : a.2.1.length ≤ 16) {st n : Nat} (hst : st < 4) : Run G YX4_cutsOff [.ref (G.1 140), .int (nI st), .int (nI n)] (K, R, I, J, z) (Up K R J z none (fun I' => RM (I' 141) (a.1, a.2.1, sT a.2.2 st (cutR n (a.2.2 st))) ∧ FrO 141 I I')) := by
  obtain ⟨hk0, hr1, hk1, hr2, hk2, hr3, hk3, hr5, hk5, hr9, hk9⟩ := hL
  have hL : LM G K R := ⟨hk0, hr1, hk1, hr2, hk2, hr3, hk3, hr5, hk5, hr9, hk9⟩
  refine run_of (ls := [(0, .ref (G.1 140)), (1, .int (nI st)), (2, .int (nI n))]) (by decide +kernel) rfl rfl (Nat.le_of_ble_eq_true rfl) ?_
  refine aw_aload_n dX4_cutsOff_0 rfl ?_
  refine aw_iload_n dX4_cutsOff_1 rfl ?_
  refine aw_iconst (v := nI 2) dX4_cutsOff_2 rfl ?_
  refine aw_iconst (v := nI 1) dX4_cutsOff_3 rfl ?_
  refine aw_vUp0 dX4_cutsOff_4 cvX4_29 ⟨Nat.le_of_ble_eq_true rfl, Nat.le_of_ble_eq_true rfl⟩ (by assumption) ⟨_, rfl, rfl⟩ (r_lay (w := 2) (v := 1) hL hM h16 hst (by decide)) rfl rfl (Nat.le_of_ble_eq_true rfl) ⟨rfl, rfl⟩ ⟨Nat.zero_le _, Nat.zero_le _⟩ (fun I4 hP4 => ?_)
  refine aw_aload_n dX4_cutsOff_7 rfl ?_
  refine aw_iload_n dX4_cutsOff_8 rfl ?_
  refine aw_iconst (v := nI 3) dX4_cutsOff_9 rfl ?_
  refine aw_iconst (v := nI 0) dX4_cutsOff_10 rfl ?_
  refine aw_vUp0 dX4_cutsOff_11 cvX4_29 ⟨Nat.le_of_ble_eq_true rfl, Nat.le_of_ble_eq_true rfl⟩ (by assumption) ⟨_, rfl, rfl⟩ (r_lay (w := 3) (v := 0) hL hP4.1 h16 hst (by decide)) rfl rfl (Nat.le_of_ble_eq_true rfl) ⟨rfl, rfl⟩ ⟨Nat.zero_le _, Nat.zero_le _⟩ (fun I11 hP11 => ?_)
  refine aw_aload_n dX4_cutsOff_14 rfl ?_
  refine aw_iload_n dX4_cutsOff_15 rfl ?_
  refine aw_iconst (v := nI 4) dX4_cutsOff_16 rfl ?_
  refine aw_iconst (v := nI 0) dX4_cutsOff_17 rfl ?_
  refine aw_vUp0 dX4_cutsOff_18 cvX4_29 ⟨Nat.le_of_ble_eq_true rfl, Nat.le_of_ble_eq_true rfl⟩ (by assumption) ⟨_, rfl, rfl⟩ (r_lay (w := 4) (v := 0) hL hP11.1 h16 hst (by decide)) rfl rfl (Nat.le_of_ble_eq_true rfl) ⟨rfl, rfl⟩ ⟨Nat.zero_le _, Nat.zero_le _⟩ (fun I18 hP18 => ?_)
  refine aw_aload_n dX4_cutsOff_21 rfl ?_
  refine aw_iload_n dX4_cutsOff_22 rfl ?_
  refine aw_iconst (v := nI 5) dX4_cutsOff_23 rfl ?_
  refine aw_iload_n dX4_cutsOff_24 rfl ?_
  refine aw_vUp0 dX4_cutsOff_25 cvX4_29 ⟨Nat.le_of_ble_eq_true rfl, Nat.le_of_ble_eq_true rfl⟩ (by assumption) ⟨_, rfl, rfl⟩ (r_lay (w := 5) (v := n) hL hP18.1 h16 hst (by decide)) rfl rfl (Nat.le_of_ble_eq_true rfl) ⟨rfl, rfl⟩ ⟨Nat.zero_le _, Nat.zero_le _⟩ (fun I25 hP25 => ?_)
  refine aw_aload_n dX4_cutsOff_28 rfl ?_
  refine aw_iload_n dX4_cutsOff_29 rfl ?_
  refine aw_bipush (v := nI 6) dX4_cutsOff_30 rfl ?_
  refine aw_iload_n dX4_cutsOff_32 rfl ?_
  refine aw_vUp0 dX4_cutsOff_33 cvX4_29 ⟨Nat.le_of_ble_eq_true rfl, Nat.le_of_ble_eq_true rfl⟩ (by assumption) ⟨_, rfl, rfl⟩ (r_lay (w := 6) (v := n) hL hP25.1 h16 hst (by decide)) rfl rfl (Nat.le_of_ble_eq_true rfl) ⟨rfl, rfl⟩ ⟨Nat.zero_le _, Nat.zero_le _⟩ (fun I33 hP33 => ?_)
  refine aw_aload_n dX4_cutsOff_36 rfl ?_
  refine aw_iload_n dX4_cutsOff_37 rfl ?_
  refine aw_bipush (v := nI 10) dX4_cutsOff_38 rfl ?_
  refine aw_vUp0 dX4_cutsOff_40 cvX4_48 ⟨Nat.le_of_ble_eq_true rfl, Nat.le_of_ble_eq_true rfl⟩ (by assumption) ⟨_, rfl, rfl⟩ (r_adds (w := 10) hL hP33.1 h16 hst (by decide)) rfl rfl (Nat.le_of_ble_eq_true rfl) ⟨rfl, rfl⟩ ⟨Nat.zero_le _, Nat.zero_le _⟩ (fun I40 hP40 => ?_)
  exact aw_vret dX4_cutsOff_43 rfl (Nat.zero_le _) (Nat.zero_le _) ⟨rfl, I40, rfl, by have h := hP40.1; simp only [sT_sT, sT_s] at h; rw [← cutR_eq n (a.2.2 st)]; exact h, hP4.2.tr (hP11.2.tr (hP18.2.tr (hP25.2.tr (hP33.2.tr hP40.2))))⟩
theorem r_closes (hL : LM G K R) (hM : RM (I 141) a) (h16 : a.2.1.length ≤ 16) {st : Nat} (hst : st < 4) : Run G YX4_closes [.ref (G.1 140), .int (nI st)] (K, R, I, J, z) (Up K R J z none (fun I' => RM (I' 141) (a.1, a.2.1, sT a.2.2 st (closeR (a.2.2 st))) ∧ FrO 141 I I')) := by
  obtain ⟨hk0, hr1, hk1, hr2, hk2, hr3, hk3, hr5, hk5, hr9, hk9⟩ := hL
  have hL : LM G K R := ⟨hk0, hr1, hk1, hr2, hk2, hr3, hk3, hr5, hk5, hr9, hk9⟩
  refine run_of (ls := [(0, .ref (G.1 140)), (1, .int (nI st))]) (by decide +kernel) rfl rfl (Nat.le_of_ble_eq_true rfl) ?_
  refine aw_aload_n dX4_closes_0 rfl ?_
  refine aw_iload_n dX4_closes_1 rfl ?_
  refine aw_iconst (v := nI 2) dX4_closes_2 rfl ?_
  refine aw_iconst (v := nI 0) dX4_closes_3 rfl ?_
  refine aw_vUp0 dX4_closes_4 cvX4_29 ⟨Nat.le_of_ble_eq_true rfl, Nat.le_of_ble_eq_true rfl⟩ (by assumption) ⟨_, rfl, rfl⟩ (r_lay (w := 2) (v := 0) hL hM h16 hst (by decide)) rfl rfl (Nat.le_of_ble_eq_true rfl) ⟨rfl, rfl⟩ ⟨Nat.zero_le _, Nat.zero_le _⟩ (fun I4 hP4 => ?_)
  refine aw_aload_n dX4_closes_7 rfl ?_
  refine aw_iload_n dX4_closes_8 rfl ?_
  refine aw_iconst (v := nI 3) dX4_closes_9 rfl ?_
  refine aw_iconst (v := nI 0) dX4_closes_10 rfl ?_
  refine aw_vUp0 dX4_closes_11 cvX4_29 ⟨Nat.le_of_ble_eq_true rfl, Nat.le_of_ble_eq_true rfl⟩ (by assumption) ⟨_, rfl, rfl⟩ (r_lay (w := 3) (v := 0) hL hP4.1 h16 hst (by decide)) rfl rfl (Nat.le_of_ble_eq_true rfl) ⟨rfl, rfl⟩ ⟨Nat.zero_le _, Nat.zero_le _⟩ (fun I11 hP11 => ?_)
  refine aw_aload_n dX4_closes_14 rfl ?_
  refine aw_iload_n dX4_closes_15 rfl ?_
  refine aw_iconst (v := nI 4) dX4_closes_16 rfl ?_
  refine aw_iconst (v := nI 0) dX4_closes_17 rfl ?_
  refine aw_vUp0 dX4_closes_18 cvX4_29 ⟨Nat.le_of_ble_eq_true rfl, Nat.le_of_ble_eq_true rfl⟩ (by assumption) ⟨_, rfl, rfl⟩ (r_lay (w := 4) (v := 0) hL hP11.1 h16 hst (by decide)) rfl rfl (Nat.le_of_ble_eq_true rfl) ⟨rfl, rfl⟩ ⟨Nat.zero_le _, Nat.zero_le _⟩ (fun I18 hP18 => ?_)
  refine aw_aload_n dX4_closes_21 rfl ?_
  refine aw_iload_n dX4_closes_22 rfl ?_
  refine aw_iconst (v := nI 5) dX4_closes_23 rfl ?_
  refine aw_iconst (v := nI 0) dX4_closes_24 rfl ?_
  refine aw_vUp0 dX4_closes_25 cvX4_29 ⟨Nat.le_of_ble_eq_true rfl, Nat.le_of_ble_eq_true rfl⟩ (by assumption) ⟨_, rfl, rfl⟩ (r_lay (w := 5) (v := 0) hL hP18.1 h16 hst (by decide)) rfl rfl (Nat.le_of_ble_eq_true rfl) ⟨rfl, rfl⟩ ⟨Nat.zero_le _, Nat.zero_le _⟩ (fun I25 hP25 => ?_)
  refine aw_aload_n dX4_closes_28 rfl ?_
  refine aw_iload_n dX4_closes_29 rfl ?_
  refine aw_bipush (v := nI 6) dX4_closes_30 rfl ?_
  refine aw_iconst (v := nI 0) dX4_closes_32 rfl ?_
  refine aw_vUp0 dX4_closes_33 cvX4_29 ⟨Nat.le_of_ble_eq_true rfl, Nat.le_of_ble_eq_true rfl⟩ (by assumption) ⟨_, rfl, rfl⟩ (r_lay (w := 6) (v := 0) hL hP25.1 h16 hst (by decide)) rfl rfl (Nat.le_of_ble_eq_true rfl) ⟨rfl, rfl⟩ ⟨Nat.zero_le _, Nat.zero_le _⟩ (fun I33 hP33 => ?_)
  refine aw_aload_n dX4_closes_36 rfl ?_
  refine aw_iload_n dX4_closes_37 rfl ?_
  refine aw_bipush (v := nI 11) dX4_closes_38 rfl ?_
  refine aw_vUp0 dX4_closes_40 cvX4_48 ⟨Nat.le_of_ble_eq_true rfl, Nat.le_of_ble_eq_true rfl⟩ (by assumption) ⟨_, rfl, rfl⟩ (r_adds (w := 11) hL hP33.1 h16 hst (by decide)) rfl rfl (Nat.le_of_ble_eq_true rfl) ⟨rfl, rfl⟩ ⟨Nat.zero_le _, Nat.zero_le _⟩ (fun I40 hP40 => ?_)
  exact aw_vret dX4_closes_43 rfl (Nat.zero_le _) (Nat.zero_le _) ⟨rfl, I40, rfl, by have h := hP40.1; simp only [sT_sT, sT_s] at h; rw [← closeR_eq (a.2.2 st)]; exact h, hP4.2.tr (hP11.2.tr (hP18.2.tr (hP25.2.tr (hP33.2.tr hP40.2))))⟩
end MODEL2
end
section
/-! THE REFERENCE: an outcome comes -/
theorem noteR_eq (e : Nat) (t : Rw) : u1 (u1 t 3 ((2 * t 3 + e) % 65536)) 4 (min (t 4 + 1) 16) = noteR e t := by
  funext k; simp only [u1, noteR]
  by_cases h3 : k = 3
  · subst h3; simp
  simp [h3]
theorem out_cut {a : AA} {st d tr since : Nat} (h1 : tr = 1) (h2 : badN a.1 d = 1) : outA a st d tr since = (outG a.1 d, a.2.1, sT a.2.2 st (cutR (min (2 * a.2.2 st 6) (a.1 4)) (u1 (a.2.2 st) 9 (a.2.2 st 9 + badN a.1 d)))) := by
  unfold outA outR; rw [if_pos h1, if_pos h2]
theorem out_close {a : AA} {st d tr since : Nat} (h1 : tr = 1) (h2 : badN a.1 d ≠ 1) : outA a st d tr since = (outG a.1 d, a.2.1, sT a.2.2 st (closeR (u1 (a.2.2 st) 9 (a.2.2 st 9 + badN a.1 d)))) := by
  unfold outA outR; rw [if_pos h1, if_neg h2]
theorem out_win {a : AA} {st d tr since : Nat} (h1 : tr ≠ 1) (h2 : a.2.2 st 2 = 0) (h3 : a.2.2 st 11 = since) : outA a st d tr since = (outG a.1 d, a.2.1, sT a.2.2 st (winR a.1 (noteR (badN a.1 d) (u1 (a.2.2 st) 9 (a.2.2 st 9 + badN a.1 d))))) := by
  unfold outA outR; rw [if_neg h1, if_pos ⟨h2, h3⟩]
theorem out_no {a : AA} {st d tr since : Nat} (h1 : tr ≠ 1) (h2 : ¬ (a.2.2 st 2 = 0 ∧ a.2.2 st 11 = since)) : outA a st d tr since = (outG a.1 d, a.2.1, sT a.2.2 st (u1 (a.2.2 st) 9 (a.2.2 st 9 + badN a.1 d))) := by
  unfold outA outR; rw [if_neg h1, if_neg h2]
section MODEL3
variable {G : GG} {K : Nat → Option (Nat × Nat)} {R : Nat → Nat → Value} {I : Nat → Nat → Int32} {J : Nat → Nat → Int64} {z : Nat} {σ : Sg} {a : AA} {m k : Nat}
theorem r_ofv {v : Nat} (hL : LM G K R) (hM : RM (I 141) a) {st w : Nat} (hst : st < 4) (hw : w < 32) (hv : a.2.2 st w = v) : Run G YX4_of [.ref (G.1 140), .int (nI st), .int (nI w)] (K, R, I, J, z) (Rd (K, R, I, J, z) (.int (nI v))) := by
  subst hv; exact r_of hL hM hst hw
theorem r_inWindowv {v : Nat} (hL : LM G K R) (hM : RM (I 141) a) {st b : Nat} (hst : st < 4) (hg : SK a.1) (ht : RK b (a.2.2 st)) (hv : inWinR a.1 (a.2.2 st) = v) : Run G YX4_inWindow [.ref (G.1 140), .int (nI st)] (K, R, I, J, z) (Rd (K, R, I, J, z) (.int (nI v))) := by
  subst hv; exact r_inWindow hL hM hst hg ht
theorem r_badInWindowv {v : Nat} (hL : LM G K R) (hM : RM (I 141) a) {st b : Nat} (hst : st < 4) (hg : SK a.1) (ht : RK b (a.2.2 st)) (hv : badWinR a.1 (a.2.2 st) = v) : Run G YX4_badInWindow [.ref (G.1 140), .int (nI st)] (K, R, I, J, z) (Rd (K, R, I, J, z) (.int (nI v))) := by
  subst hv; exact r_badInWindow hL hM hst hg ht
theorem cO_no {f : Nat → Int32} {st d tr since e : Nat} (he : e = badN a.1 d) (h1 : tr ≠ 1) (h2 : ¬ (a.2.2 st 2 = 0 ∧ a.2.2 st 11 = since)) (h : RM f (outG a.1 d, a.2.1, sT a.2.2 st (u1 (a.2.2 st) 9 (a.2.2 st 9 + e)))) : RM f (outA a st d tr since) := by
  rw [out_no h1 h2, ← he]; exact h
theorem cO_cut {f : Nat → Int32} {st d tr since e n : Nat} (he : e = badN a.1 d) (h1 : tr = 1) (h2 : e = 1) (hn : 2 * a.2.2 st 6 < a.1 4 ∧ n = 2 * a.2.2 st 6 ∨ a.1 4 ≤ 2 * a.2.2 st 6 ∧ n = a.1 4) (h : RM f (outG a.1 d, a.2.1, sT (sT a.2.2 st (u1 (a.2.2 st) 9 (a.2.2 st 9 + e))) st (cutR n (sT a.2.2 st (u1 (a.2.2 st) 9 (a.2.2 st 9 + e)) st)))) : RM f (outA a st d tr since) := by
  rw [out_cut h1 (he ▸ h2), ← he, show min (2 * a.2.2 st 6) (a.1 4) = n by omega]
  rw [sT_sT, sT_s] at h; exact h
theorem cO_close {f : Nat → Int32} {st d tr since e : Nat} (he : e = badN a.1 d) (he1 : e ≤ 1) (h1 : tr = 1) (h2 : e = 0) (h : RM f (outG a.1 d, a.2.1, sT (sT a.2.2 st (u1 (a.2.2 st) 9 (a.2.2 st 9 + e))) st (closeR (sT a.2.2 st (u1 (a.2.2 st) 9 (a.2.2 st 9 + e)) st)))) : RM f (outA a st d tr since) := by
  rw [out_close h1 (by omega), ← he]
  rw [sT_sT, sT_s] at h; exact h
theorem cO_w1 {f : Nat → Int32} {st d tr since e n : Nat} (he : e = badN a.1 d) (h1 : tr ≠ 1) (h2 : a.2.2 st 2 = 0) (h3 : a.2.2 st 11 = since) (hw : inWinR a.1 (noteR e (u1 (a.2.2 st) 9 (a.2.2 st 9 + e))) = a.1 1) (hb : a.1 2 ≤ badWinR a.1 (noteR e (u1 (a.2.2 st) 9 (a.2.2 st 9 + e)))) (hn : n = a.1 3)
    (h : RM f (outG a.1 d, a.2.1, sT (sT a.2.2 st (noteR e (u1 (a.2.2 st) 9 (a.2.2 st 9 + e)))) st (cutR n (sT a.2.2 st (noteR e (u1 (a.2.2 st) 9 (a.2.2 st 9 + e))) st)))) : RM f (outA a st d tr since) := by
  rw [out_win h1 h2 h3, ← he, winR, if_pos ⟨hw, hb⟩]
  rw [sT_sT, sT_s, hn] at h; exact h
theorem cO_w2 {f : Nat → Int32} {st d tr since e : Nat} (he : e = badN a.1 d) (h1 : tr ≠ 1) (h2 : a.2.2 st 2 = 0) (h3 : a.2.2 st 11 = since) (hn : ¬ (inWinR a.1 (noteR e (u1 (a.2.2 st) 9 (a.2.2 st 9 + e))) = a.1 1 ∧ a.1 2 ≤ badWinR a.1 (noteR e (u1 (a.2.2 st) 9 (a.2.2 st 9 + e)))))
    (h : RM f (outG a.1 d, a.2.1, sT a.2.2 st (noteR e (u1 (a.2.2 st) 9 (a.2.2 st 9 + e))))) : RM f (outA a st d tr since) := by
  rw [out_win h1 h2 h3, ← he, winR, if_neg hn]
  exact h
theorem ldX4_59 : Cond.constant RX4 59 65535 ∈ gT := gT_ix 787 (by decide +kernel) rfl
theorem r_comesOut (hL : LM G K R) (hM : RM (I 141) a) (h16 : a.2.1.length ≤ 16) {st d tr since b : Nat} (hst : st < 4) (hg : SK a.1) (ht : RK b (a.2.2 st)) (hd : d ≤ 99) (htr : tr ≤ 1) (hs : since ≤ 1000000000) (hb : b ≤ 1000000000) : Run G YX4_comesOut [.ref (G.1 140), .int (nI st), .int (nI d), .int (nI tr), .int (nI since)] (K, R, I, J, z) (Up K R J z none (fun I' => RM (I' 141) (outA a st d tr since) ∧ FrO 141 I I')) := by
  obtain ⟨hk0, hr1, hk1, hr2, hk2, hr3, hk3, hr5, hk5, hr9, hk9⟩ := hL
  have hL : LM G K R := ⟨hk0, hr1, hk1, hr2, hk2, hr3, hk3, hr5, hk5, hr9, hk9⟩
  obtain ⟨e, he⟩ : ∃ e, e = badN a.1 d := ⟨_, rfl⟩
  have he1 : e ≤ 1 := by rw [he]; exact badN_le _ _
  have h6 : a.2.2 st 6 ≤ 999 := ht.2.2.2.2.2.2.2.2.1
  have h4 : a.2.2 st 4 ≤ 16 := ht.2.2.2.2.2.1
  have h3 : a.2.2 st 3 < 65536 := Nat.lt_of_lt_of_le ht.2.2.2.2.1 (p2_16 h4)
  have h11 : a.2.2 st 11 ≤ b := ht.2.2.2.2.2.2.2.2.2.2.2.1
  have h2 : a.2.2 st 2 ≤ 2 := ht.2.2.2.1
  have hg4 : a.1 4 ≤ 999 := hg.2.2.2.2.2
  have hg1 : a.1 1 ≤ 16 := hg.2.1.2
  have hg2 : a.1 2 ≤ 16 := hg.2.2.1.2
  have hg0 : a.1 0 ≤ 99 := hg.1.2
  have key : AW G YX4_comesOut (MZ G YX4_comesOut (Up K R J z none (fun I' => RM (I' 141) (outA a st d tr since) ∧ FrO 141 I I'))) 19 [(0, .ref (G.1 140)), (1, .int (nI st)), (2, .int (nI d)), (3, .int (nI tr)), (4, .int (nI since))] [.int (nI e)] (K, R, I, J, z) 0 0 := by
    refine aw_istore (ls' := [(5, _), (0, _), (1, _), (2, _), (3, _), (4, _)]) dX4_comesOut_19 (by decide) rfl ?_
    refine aw_aload_n dX4_comesOut_21 rfl ?_
    refine aw_getR dX4_comesOut_22 flX4_7 rfl (by assumption) (by assumption) ?_
    refine aw_bipush (v := nI 6) dX4_comesOut_25 rfl ?_
    refine aw_dup2 dX4_comesOut_27 rfl rfl ?_
    refine aw_iald dX4_comesOut_28 (by assumption) (by omega) rfl (by omega) (hM.1 6 (by decide)) ?_
    refine aw_iload dX4_comesOut_29 rfl ?_
    refine aw_dia (tgt := 38) (jn := 39) (c1 := 1) (c0 := 0) dX4_comesOut_31 (by decide) dX4_comesOut_34 rfl dX4_comesOut_35 (by decide) dX4_comesOut_38 rfl rfl (by omega) (by rcases (show e = 0 ∨ e = 1 by omega) with h | h <;> rw [h] <;> rfl : nI (if e = 0 then 0 else 1) = nI e) ?_
    first | refine aw_iaddN dX4_comesOut_39 ?_ | refine aw_iadd dX4_comesOut_39 ?_
    refine aw_iast dX4_comesOut_40 (by assumption) (by omega) (by omega) rfl (by omega) ?_
    have hM1 : RM (up2 I 141 6 (nI (a.1 6 + e)) 141) (u1 a.1 6 (a.1 6 + e), a.2.1, a.2.2) := RM_g hM (by decide) (fun j => up2_o)
    have hF1 : FrO 141 I (up2 I 141 6 (nI (a.1 6 + e))) := FrO.up
    generalize up2 I 141 6 (nI (a.1 6 + e)) = I1 at hM1 hF1 ⊢
    refine aw_aload_n dX4_comesOut_41 rfl ?_
    refine aw_getR dX4_comesOut_42 flX4_7 rfl (by assumption) (by assumption) ?_
    refine aw_bipush (v := nI 7) dX4_comesOut_45 rfl ?_
    refine aw_dup2 dX4_comesOut_47 rfl rfl ?_
    refine aw_iald dX4_comesOut_48 (by assumption) (by omega) rfl (by omega) (show _ = nI (a.1 7) from hM1.1 7 (by decide)) ?_
    refine aw_iload dX4_comesOut_49 rfl ?_
    refine aw_dia (tgt := 58) (jn := 59) (c1 := 0) (c0 := 1) dX4_comesOut_51 (by decide) dX4_comesOut_54 rfl dX4_comesOut_55 (by decide) dX4_comesOut_58 rfl rfl (by omega) (by rcases (show e = 0 ∨ e = 1 by omega) with h | h <;> rw [h] <;> rfl : nI (if e = 0 then 1 else 0) = nI (1 - e)) ?_
    first | refine aw_iaddN dX4_comesOut_59 ?_ | refine aw_iadd dX4_comesOut_59 ?_
    refine aw_iast dX4_comesOut_60 (by assumption) (by omega) (by omega) rfl (by omega) ?_
    have hM2 : RM (up2 I1 141 7 (nI (a.1 7 + (1 - e))) 141) (outG a.1 d, a.2.1, a.2.2) := by
      have := RM_g (f' := up2 I1 141 7 (nI (a.1 7 + (1 - e))) 141) hM1 (k := 7) (v := a.1 7 + (1 - e)) (by decide) (fun j => up2_o)
      rw [he] at this ⊢
      exact this
    have hF2 : FrO 141 I (up2 I1 141 7 (nI (a.1 7 + (1 - e)))) := hF1.tr FrO.up
    generalize up2 I1 141 7 (nI (a.1 7 + (1 - e))) = I2 at hM2 hF2 ⊢
    refine aw_aload_n dX4_comesOut_61 rfl ?_
    refine aw_iload_n dX4_comesOut_62 rfl ?_
    refine aw_bipush (v := nI 9) dX4_comesOut_63 rfl ?_
    refine aw_aload_n dX4_comesOut_65 rfl ?_
    refine aw_iload_n dX4_comesOut_66 rfl ?_
    refine aw_bipush (v := nI 9) dX4_comesOut_67 rfl ?_
    refine aw_vRd dX4_comesOut_69 cvX4_40 ⟨Nat.le_of_ble_eq_true rfl, Nat.le_of_ble_eq_true rfl⟩ (by assumption) ⟨_, rfl, rfl⟩ (r_ofv (w := 9) (v := a.2.2 st 9) hL hM2 hst (by decide) rfl) rfl rfl (Nat.le_of_ble_eq_true rfl) ⟨rfl, rfl⟩ ⟨Nat.zero_le _, Nat.zero_le _⟩ ?_
    refine aw_iload dX4_comesOut_72 rfl ?_
    refine aw_dia (tgt := 81) (jn := 82) (c1 := 1) (c0 := 0) dX4_comesOut_74 (by decide) dX4_comesOut_77 rfl dX4_comesOut_78 (by decide) dX4_comesOut_81 rfl rfl (by omega) (by rcases (show e = 0 ∨ e = 1 by omega) with h | h <;> rw [h] <;> rfl : nI (if e = 0 then 0 else 1) = nI e) ?_
    first | refine aw_iaddN dX4_comesOut_82 ?_ | refine aw_iadd dX4_comesOut_82 ?_
    refine aw_vUp0 dX4_comesOut_83 cvX4_29 ⟨Nat.le_of_ble_eq_true rfl, Nat.le_of_ble_eq_true rfl⟩ (by assumption) ⟨_, rfl, rfl⟩ (r_lay (w := 9) hL hM2 h16 hst (by decide)) rfl rfl (Nat.le_of_ble_eq_true rfl) ⟨rfl, rfl⟩ ⟨Nat.zero_le _, Nat.zero_le _⟩ (fun I83 hP83 => ?_)
    have hM3 : RM (I83 141) (outG a.1 d, a.2.1, sT a.2.2 st (u1 (a.2.2 st) 9 (a.2.2 st 9 + e))) := hP83.1
    have hF3 : FrO 141 I I83 := hF2.tr hP83.2
    refine aw_iload_n dX4_comesOut_86 rfl ?_
    refine aw_if_eqN (tgt := 136) dX4_comesOut_87 (by decide) (by omega) (fun hc87 => ?_) (fun hc87 => ?_)
    · refine aw_iload_n dX4_comesOut_136 rfl ?_
      refine aw_if_eqN (tgt := 148) dX4_comesOut_137 (by decide) (by omega) (fun hc137 => ?_) (fun hc137 => ?_)
      · refine aw_aload_n dX4_comesOut_148 rfl ?_
        refine aw_iload_n dX4_comesOut_149 rfl ?_
        refine aw_iconst (v := nI 2) dX4_comesOut_150 rfl ?_
        refine aw_vRd dX4_comesOut_151 cvX4_40 ⟨Nat.le_of_ble_eq_true rfl, Nat.le_of_ble_eq_true rfl⟩ (by assumption) ⟨_, rfl, rfl⟩ (r_ofv (w := 2) (v := a.2.2 st 2) hL hP83.1 hst (by decide) (by simp [sT_s, u1])) rfl rfl (Nat.le_of_ble_eq_true rfl) ⟨rfl, rfl⟩ ⟨Nat.zero_le _, Nat.zero_le _⟩ ?_
        refine aw_if_neN (tgt := 266) dX4_comesOut_154 (by decide) (by omega) (fun hc154 => ?_) (fun hc154 => ?_)
        · refine aw_vret dX4_comesOut_266 rfl (Nat.zero_le _) (Nat.zero_le _) ?_
          first
          | exact ⟨rfl, I130, rfl, cO_cut he (by omega) (by omega) (by omega) hP130.1, hF3.tr hP130.2⟩
          | exact ⟨rfl, I142, rfl, cO_close he he1 (by omega) (by omega) hP142.1, hF3.tr hP142.2⟩
          | exact ⟨rfl, I263, rfl, cO_w1 he (by omega) (by omega) (by omega) hc238 hc252 rfl hP263.1, hF4.tr hP263.2⟩
          | exact ⟨rfl, I224, rfl, cO_w2 he (by omega) (by omega) (by omega) (fun q => by have := q.2; omega) hM4, hF4⟩
          | exact ⟨rfl, I224, rfl, cO_w2 he (by omega) (by omega) (by omega) (fun q => hc238 q.1) hM4, hF4⟩
          | exact ⟨rfl, I83, rfl, cO_no he (by omega) (fun q => by omega) hM3, hF3⟩
        · refine aw_aload_n dX4_comesOut_157 rfl ?_
          refine aw_iload_n dX4_comesOut_158 rfl ?_
          refine aw_bipush (v := nI 11) dX4_comesOut_159 rfl ?_
          refine aw_vRd dX4_comesOut_161 cvX4_40 ⟨Nat.le_of_ble_eq_true rfl, Nat.le_of_ble_eq_true rfl⟩ (by assumption) ⟨_, rfl, rfl⟩ (r_ofv (w := 11) (v := a.2.2 st 11) hL hP83.1 hst (by decide) (by simp [sT_s, u1])) rfl rfl (Nat.le_of_ble_eq_true rfl) ⟨rfl, rfl⟩ ⟨Nat.zero_le _, Nat.zero_le _⟩ ?_
          refine aw_iload dX4_comesOut_164 rfl ?_
          refine aw_icmp_neN (tgt := 266) dX4_comesOut_166 (by decide) (by omega) (by omega) (fun hc166 => ?_) (fun hc166 => ?_)
          · refine aw_vret dX4_comesOut_266 rfl (Nat.zero_le _) (Nat.zero_le _) ?_
            first
            | exact ⟨rfl, I130, rfl, cO_cut he (by omega) (by omega) (by omega) hP130.1, hF3.tr hP130.2⟩
            | exact ⟨rfl, I142, rfl, cO_close he he1 (by omega) (by omega) hP142.1, hF3.tr hP142.2⟩
            | exact ⟨rfl, I263, rfl, cO_w1 he (by omega) (by omega) (by omega) hc238 hc252 rfl hP263.1, hF4.tr hP263.2⟩
            | exact ⟨rfl, I224, rfl, cO_w2 he (by omega) (by omega) (by omega) (fun q => by have := q.2; omega) hM4, hF4⟩
            | exact ⟨rfl, I224, rfl, cO_w2 he (by omega) (by omega) (by omega) (fun q => hc238 q.1) hM4, hF4⟩
            | exact ⟨rfl, I83, rfl, cO_no he (by omega) (fun q => by omega) hM3, hF3⟩
          · refine aw_aload_n dX4_comesOut_169 rfl ?_
            refine aw_iload_n dX4_comesOut_170 rfl ?_
            refine aw_iconst (v := nI 3) dX4_comesOut_171 rfl ?_
            refine aw_aload_n dX4_comesOut_172 rfl ?_
            refine aw_iload_n dX4_comesOut_173 rfl ?_
            refine aw_iconst (v := nI 3) dX4_comesOut_174 rfl ?_
            refine aw_vRd dX4_comesOut_175 cvX4_40 ⟨Nat.le_of_ble_eq_true rfl, Nat.le_of_ble_eq_true rfl⟩ (by assumption) ⟨_, rfl, rfl⟩ (r_ofv (w := 3) (v := a.2.2 st 3) hL hP83.1 hst (by decide) (by simp [sT_s, u1])) rfl rfl (Nat.le_of_ble_eq_true rfl) ⟨rfl, rfl⟩ ⟨Nat.zero_le _, Nat.zero_le _⟩ ?_
            refine aw_iconst (v := nI 1) dX4_comesOut_178 rfl ?_
            refine aw_ishl dX4_comesOut_179 ?_
            refine aw_iload dX4_comesOut_180 rfl ?_
            refine aw_dia (tgt := 189) (jn := 190) (c1 := 1) (c0 := 0) dX4_comesOut_182 (by decide) dX4_comesOut_185 rfl dX4_comesOut_186 (by decide) dX4_comesOut_189 rfl rfl (by omega) (by rcases (show e = 0 ∨ e = 1 by omega) with h | h <;> rw [h] <;> rfl : nI (if e = 0 then 0 else 1) = nI e) ?_
            refine aw_ior dX4_comesOut_190 ?_
            refine aw_ldc dX4_comesOut_191 (v := 65535) ldX4_59 ?_
            refine aw_iand dX4_comesOut_193 ?_
            refine aw_top (note_nI h3 he1) ?_
            refine aw_vUp0 dX4_comesOut_194 cvX4_29 ⟨Nat.le_of_ble_eq_true rfl, Nat.le_of_ble_eq_true rfl⟩ (by assumption) ⟨_, rfl, rfl⟩ (r_lay (w := 3) (v := (2 * a.2.2 st 3 + e) % 65536) hL hM3 h16 hst (by decide)) rfl rfl (Nat.le_of_ble_eq_true rfl) ⟨rfl, rfl⟩ ⟨Nat.zero_le _, Nat.zero_le _⟩ (fun I194 hP194 => ?_)
            refine aw_aload_n dX4_comesOut_197 rfl ?_
            refine aw_iload_n dX4_comesOut_198 rfl ?_
            refine aw_iconst (v := nI 4) dX4_comesOut_199 rfl ?_
            refine aw_aload_n dX4_comesOut_200 rfl ?_
            refine aw_iload_n dX4_comesOut_201 rfl ?_
            refine aw_iconst (v := nI 4) dX4_comesOut_202 rfl ?_
            refine aw_vRd dX4_comesOut_203 cvX4_40 ⟨Nat.le_of_ble_eq_true rfl, Nat.le_of_ble_eq_true rfl⟩ (by assumption) ⟨_, rfl, rfl⟩ (r_ofv (w := 4) (v := a.2.2 st 4) hL hP194.1 hst (by decide) (by simp [sT_s, u1])) rfl rfl (Nat.le_of_ble_eq_true rfl) ⟨rfl, rfl⟩ ⟨Nat.zero_le _, Nat.zero_le _⟩ ?_
            refine aw_bipush (v := nI 16) dX4_comesOut_206 rfl ?_
            refine aw_icmp_geN (tgt := 222) dX4_comesOut_208 (by decide) (by omega) (by omega) (fun hc208 => ?_) (fun hc208 => ?_)
            · refine aw_bipush (v := nI 16) dX4_comesOut_222 rfl ?_
              refine aw_vUp0 dX4_comesOut_224 cvX4_29 ⟨Nat.le_of_ble_eq_true rfl, Nat.le_of_ble_eq_true rfl⟩ (by assumption) ⟨_, rfl, rfl⟩ (r_lay (w := 4) hL hP194.1 h16 hst (by decide)) rfl rfl (Nat.le_of_ble_eq_true rfl) ⟨rfl, rfl⟩ ⟨Nat.zero_le _, Nat.zero_le _⟩ (fun I224 hP224 => ?_)
              have hM4 : RM (I224 141) (outG a.1 d, a.2.1, sT a.2.2 st (noteR e (u1 (a.2.2 st) 9 (a.2.2 st 9 + e)))) := by
                have h := hP224.1
                simp only [sT_sT, sT_s] at h
                rw [← noteR_eq]
                first
                | (rw [show min (u1 (a.2.2 st) 9 (a.2.2 st 9 + e) 4 + 1) 16 = 16 from Nat.min_eq_right (by show 16 ≤ a.2.2 st 4 + 1; omega)]; exact h)
                | (rw [show min (u1 (a.2.2 st) 9 (a.2.2 st 9 + e) 4 + 1) 16 = a.2.2 st 4 + 1 from Nat.min_eq_left (by show a.2.2 st 4 + 1 ≤ 16; omega)]; exact h)
              have hF4 : FrO 141 I I224 := hF3.tr (hP194.2.tr hP224.2)
              have hg9 : SK (outG a.1 d) := hg.out
              have ht4 : RK b (sT a.2.2 st (noteR e (u1 (a.2.2 st) 9 (a.2.2 st 9 + e))) st) := by
                rw [sT_s]; exact RK.note ht.u9 he1 (by show a.2.2 st 2 = 0; omega)
              have hiw : inWinR a.1 (noteR e (u1 (a.2.2 st) 9 (a.2.2 st 9 + e))) ≤ 16 := by
                unfold inWinR; split
                · omega
                · omega
              have hbw : badWinR a.1 (noteR e (u1 (a.2.2 st) 9 (a.2.2 st 9 + e))) ≤ 16 := Nat.le_trans (bits_le _ _) hiw
              refine aw_aload_n dX4_comesOut_227 rfl ?_
              refine aw_iload_n dX4_comesOut_228 rfl ?_
              refine aw_vRd dX4_comesOut_229 cvX4_44 ⟨Nat.le_of_ble_eq_true rfl, Nat.le_of_ble_eq_true rfl⟩ (by assumption) ⟨_, rfl, rfl⟩ (r_inWindowv (v := inWinR a.1 (noteR e (u1 (a.2.2 st) 9 (a.2.2 st 9 + e)))) hL hM4 hst hg9 ht4 (show inWinR (outG a.1 d) (sT a.2.2 st (noteR e (u1 (a.2.2 st) 9 (a.2.2 st 9 + e))) st) = _ from by rw [sT_s]; rfl)) rfl rfl (Nat.le_of_ble_eq_true rfl) ⟨rfl, rfl⟩ ⟨Nat.zero_le _, Nat.zero_le _⟩ ?_
              refine aw_aload_n dX4_comesOut_232 rfl ?_
              refine aw_getR dX4_comesOut_233 flX4_7 rfl (by assumption) (by assumption) ?_
              refine aw_iconst (v := nI 1) dX4_comesOut_236 rfl ?_
              refine aw_iald dX4_comesOut_237 (by assumption) (by omega) rfl (by omega) (show _ = nI (a.1 1) from hM4.1 1 (by decide)) ?_
              refine aw_icmp_neN (tgt := 266) dX4_comesOut_238 (by decide) (by omega) (by omega) (fun hc238 => ?_) (fun hc238 => ?_)
              · refine aw_vret dX4_comesOut_266 rfl (Nat.zero_le _) (Nat.zero_le _) ?_
                first
                | exact ⟨rfl, I130, rfl, cO_cut he (by omega) (by omega) (by omega) hP130.1, hF3.tr hP130.2⟩
                | exact ⟨rfl, I142, rfl, cO_close he he1 (by omega) (by omega) hP142.1, hF3.tr hP142.2⟩
                | exact ⟨rfl, I263, rfl, cO_w1 he (by omega) (by omega) (by omega) hc238 hc252 rfl hP263.1, hF4.tr hP263.2⟩
                | exact ⟨rfl, I224, rfl, cO_w2 he (by omega) (by omega) (by omega) (fun q => by have := q.2; omega) hM4, hF4⟩
                | exact ⟨rfl, I224, rfl, cO_w2 he (by omega) (by omega) (by omega) (fun q => hc238 q.1) hM4, hF4⟩
                | exact ⟨rfl, I83, rfl, cO_no he (by omega) (fun q => by omega) hM3, hF3⟩
              · refine aw_aload_n dX4_comesOut_241 rfl ?_
                refine aw_iload_n dX4_comesOut_242 rfl ?_
                refine aw_vRd dX4_comesOut_243 cvX4_60 ⟨Nat.le_of_ble_eq_true rfl, Nat.le_of_ble_eq_true rfl⟩ (by assumption) ⟨_, rfl, rfl⟩ (r_badInWindowv (v := badWinR a.1 (noteR e (u1 (a.2.2 st) 9 (a.2.2 st 9 + e)))) hL hM4 hst hg9 ht4 (show badWinR (outG a.1 d) (sT a.2.2 st (noteR e (u1 (a.2.2 st) 9 (a.2.2 st 9 + e))) st) = _ from by rw [sT_s]; rfl)) rfl rfl (Nat.le_of_ble_eq_true rfl) ⟨rfl, rfl⟩ ⟨Nat.zero_le _, Nat.zero_le _⟩ ?_
                refine aw_aload_n dX4_comesOut_246 rfl ?_
                refine aw_getR dX4_comesOut_247 flX4_7 rfl (by assumption) (by assumption) ?_
                refine aw_iconst (v := nI 2) dX4_comesOut_250 rfl ?_
                refine aw_iald dX4_comesOut_251 (by assumption) (by omega) rfl (by omega) (show _ = nI (a.1 2) from hM4.1 2 (by decide)) ?_
                refine aw_icmp_ltN (tgt := 266) dX4_comesOut_252 (by decide) (by omega) (by omega) (fun hc252 => ?_) (fun hc252 => ?_)
                · refine aw_vret dX4_comesOut_266 rfl (Nat.zero_le _) (Nat.zero_le _) ?_
                  first
                  | exact ⟨rfl, I130, rfl, cO_cut he (by omega) (by omega) (by omega) hP130.1, hF3.tr hP130.2⟩
                  | exact ⟨rfl, I142, rfl, cO_close he he1 (by omega) (by omega) hP142.1, hF3.tr hP142.2⟩
                  | exact ⟨rfl, I263, rfl, cO_w1 he (by omega) (by omega) (by omega) hc238 hc252 rfl hP263.1, hF4.tr hP263.2⟩
                  | exact ⟨rfl, I224, rfl, cO_w2 he (by omega) (by omega) (by omega) (fun q => by have := q.2; omega) hM4, hF4⟩
                  | exact ⟨rfl, I224, rfl, cO_w2 he (by omega) (by omega) (by omega) (fun q => hc238 q.1) hM4, hF4⟩
                  | exact ⟨rfl, I83, rfl, cO_no he (by omega) (fun q => by omega) hM3, hF3⟩
                · refine aw_aload_n dX4_comesOut_255 rfl ?_
                  refine aw_iload_n dX4_comesOut_256 rfl ?_
                  refine aw_aload_n dX4_comesOut_257 rfl ?_
                  refine aw_getR dX4_comesOut_258 flX4_7 rfl (by assumption) (by assumption) ?_
                  refine aw_iconst (v := nI 3) dX4_comesOut_261 rfl ?_
                  refine aw_iald dX4_comesOut_262 (by assumption) (by omega) rfl (by omega) (show _ = nI (a.1 3) from hM4.1 3 (by decide)) ?_
                  refine aw_vUp0 dX4_comesOut_263 cvX4_52 ⟨Nat.le_of_ble_eq_true rfl, Nat.le_of_ble_eq_true rfl⟩ (by assumption) ⟨_, rfl, rfl⟩ (r_cutsOff hL hM4 h16 hst) rfl rfl (Nat.le_of_ble_eq_true rfl) ⟨rfl, rfl⟩ ⟨Nat.zero_le _, Nat.zero_le _⟩ (fun I263 hP263 => ?_)
                  refine aw_vret dX4_comesOut_266 rfl (Nat.zero_le _) (Nat.zero_le _) ?_
                  first
                  | exact ⟨rfl, I130, rfl, cO_cut he (by omega) (by omega) (by omega) hP130.1, hF3.tr hP130.2⟩
                  | exact ⟨rfl, I142, rfl, cO_close he he1 (by omega) (by omega) hP142.1, hF3.tr hP142.2⟩
                  | exact ⟨rfl, I263, rfl, cO_w1 he (by omega) (by omega) (by omega) hc238 hc252 rfl hP263.1, hF4.tr hP263.2⟩
                  | exact ⟨rfl, I224, rfl, cO_w2 he (by omega) (by omega) (by omega) (fun q => by have := q.2; omega) hM4, hF4⟩
                  | exact ⟨rfl, I224, rfl, cO_w2 he (by omega) (by omega) (by omega) (fun q => hc238 q.1) hM4, hF4⟩
                  | exact ⟨rfl, I83, rfl, cO_no he (by omega) (fun q => by omega) hM3, hF3⟩
            · refine aw_aload_n dX4_comesOut_211 rfl ?_
              refine aw_iload_n dX4_comesOut_212 rfl ?_
              refine aw_iconst (v := nI 4) dX4_comesOut_213 rfl ?_
              refine aw_vRd dX4_comesOut_214 cvX4_40 ⟨Nat.le_of_ble_eq_true rfl, Nat.le_of_ble_eq_true rfl⟩ (by assumption) ⟨_, rfl, rfl⟩ (r_ofv (w := 4) (v := a.2.2 st 4) hL hP194.1 hst (by decide) (by simp [sT_s, u1])) rfl rfl (Nat.le_of_ble_eq_true rfl) ⟨rfl, rfl⟩ ⟨Nat.zero_le _, Nat.zero_le _⟩ ?_
              refine aw_iconst (v := nI 1) dX4_comesOut_217 rfl ?_
              first | refine aw_iaddN dX4_comesOut_218 ?_ | refine aw_iadd dX4_comesOut_218 ?_
              refine aw_goto (tgt := 224) dX4_comesOut_219 (by decide) ?_
              refine aw_vUp0 dX4_comesOut_224 cvX4_29 ⟨Nat.le_of_ble_eq_true rfl, Nat.le_of_ble_eq_true rfl⟩ (by assumption) ⟨_, rfl, rfl⟩ (r_lay (w := 4) hL hP194.1 h16 hst (by decide)) rfl rfl (Nat.le_of_ble_eq_true rfl) ⟨rfl, rfl⟩ ⟨Nat.zero_le _, Nat.zero_le _⟩ (fun I224 hP224 => ?_)
              have hM4 : RM (I224 141) (outG a.1 d, a.2.1, sT a.2.2 st (noteR e (u1 (a.2.2 st) 9 (a.2.2 st 9 + e)))) := by
                have h := hP224.1
                simp only [sT_sT, sT_s] at h
                rw [← noteR_eq]
                first
                | (rw [show min (u1 (a.2.2 st) 9 (a.2.2 st 9 + e) 4 + 1) 16 = 16 from Nat.min_eq_right (by show 16 ≤ a.2.2 st 4 + 1; omega)]; exact h)
                | (rw [show min (u1 (a.2.2 st) 9 (a.2.2 st 9 + e) 4 + 1) 16 = a.2.2 st 4 + 1 from Nat.min_eq_left (by show a.2.2 st 4 + 1 ≤ 16; omega)]; exact h)
              have hF4 : FrO 141 I I224 := hF3.tr (hP194.2.tr hP224.2)
              have hg9 : SK (outG a.1 d) := hg.out
              have ht4 : RK b (sT a.2.2 st (noteR e (u1 (a.2.2 st) 9 (a.2.2 st 9 + e))) st) := by
                rw [sT_s]; exact RK.note ht.u9 he1 (by show a.2.2 st 2 = 0; omega)
              have hiw : inWinR a.1 (noteR e (u1 (a.2.2 st) 9 (a.2.2 st 9 + e))) ≤ 16 := by
                unfold inWinR; split
                · omega
                · omega
              have hbw : badWinR a.1 (noteR e (u1 (a.2.2 st) 9 (a.2.2 st 9 + e))) ≤ 16 := Nat.le_trans (bits_le _ _) hiw
              refine aw_aload_n dX4_comesOut_227 rfl ?_
              refine aw_iload_n dX4_comesOut_228 rfl ?_
              refine aw_vRd dX4_comesOut_229 cvX4_44 ⟨Nat.le_of_ble_eq_true rfl, Nat.le_of_ble_eq_true rfl⟩ (by assumption) ⟨_, rfl, rfl⟩ (r_inWindowv (v := inWinR a.1 (noteR e (u1 (a.2.2 st) 9 (a.2.2 st 9 + e)))) hL hM4 hst hg9 ht4 (show inWinR (outG a.1 d) (sT a.2.2 st (noteR e (u1 (a.2.2 st) 9 (a.2.2 st 9 + e))) st) = _ from by rw [sT_s]; rfl)) rfl rfl (Nat.le_of_ble_eq_true rfl) ⟨rfl, rfl⟩ ⟨Nat.zero_le _, Nat.zero_le _⟩ ?_
              refine aw_aload_n dX4_comesOut_232 rfl ?_
              refine aw_getR dX4_comesOut_233 flX4_7 rfl (by assumption) (by assumption) ?_
              refine aw_iconst (v := nI 1) dX4_comesOut_236 rfl ?_
              refine aw_iald dX4_comesOut_237 (by assumption) (by omega) rfl (by omega) (show _ = nI (a.1 1) from hM4.1 1 (by decide)) ?_
              refine aw_icmp_neN (tgt := 266) dX4_comesOut_238 (by decide) (by omega) (by omega) (fun hc238 => ?_) (fun hc238 => ?_)
              · refine aw_vret dX4_comesOut_266 rfl (Nat.zero_le _) (Nat.zero_le _) ?_
                first
                | exact ⟨rfl, I130, rfl, cO_cut he (by omega) (by omega) (by omega) hP130.1, hF3.tr hP130.2⟩
                | exact ⟨rfl, I142, rfl, cO_close he he1 (by omega) (by omega) hP142.1, hF3.tr hP142.2⟩
                | exact ⟨rfl, I263, rfl, cO_w1 he (by omega) (by omega) (by omega) hc238 hc252 rfl hP263.1, hF4.tr hP263.2⟩
                | exact ⟨rfl, I224, rfl, cO_w2 he (by omega) (by omega) (by omega) (fun q => by have := q.2; omega) hM4, hF4⟩
                | exact ⟨rfl, I224, rfl, cO_w2 he (by omega) (by omega) (by omega) (fun q => hc238 q.1) hM4, hF4⟩
                | exact ⟨rfl, I83, rfl, cO_no he (by omega) (fun q => by omega) hM3, hF3⟩
              · refine aw_aload_n dX4_comesOut_241 rfl ?_
                refine aw_iload_n dX4_comesOut_242 rfl ?_
                refine aw_vRd dX4_comesOut_243 cvX4_60 ⟨Nat.le_of_ble_eq_true rfl, Nat.le_of_ble_eq_true rfl⟩ (by assumption) ⟨_, rfl, rfl⟩ (r_badInWindowv (v := badWinR a.1 (noteR e (u1 (a.2.2 st) 9 (a.2.2 st 9 + e)))) hL hM4 hst hg9 ht4 (show badWinR (outG a.1 d) (sT a.2.2 st (noteR e (u1 (a.2.2 st) 9 (a.2.2 st 9 + e))) st) = _ from by rw [sT_s]; rfl)) rfl rfl (Nat.le_of_ble_eq_true rfl) ⟨rfl, rfl⟩ ⟨Nat.zero_le _, Nat.zero_le _⟩ ?_
                refine aw_aload_n dX4_comesOut_246 rfl ?_
                refine aw_getR dX4_comesOut_247 flX4_7 rfl (by assumption) (by assumption) ?_
                refine aw_iconst (v := nI 2) dX4_comesOut_250 rfl ?_
                refine aw_iald dX4_comesOut_251 (by assumption) (by omega) rfl (by omega) (show _ = nI (a.1 2) from hM4.1 2 (by decide)) ?_
                refine aw_icmp_ltN (tgt := 266) dX4_comesOut_252 (by decide) (by omega) (by omega) (fun hc252 => ?_) (fun hc252 => ?_)
                · refine aw_vret dX4_comesOut_266 rfl (Nat.zero_le _) (Nat.zero_le _) ?_
                  first
                  | exact ⟨rfl, I130, rfl, cO_cut he (by omega) (by omega) (by omega) hP130.1, hF3.tr hP130.2⟩
                  | exact ⟨rfl, I142, rfl, cO_close he he1 (by omega) (by omega) hP142.1, hF3.tr hP142.2⟩
                  | exact ⟨rfl, I263, rfl, cO_w1 he (by omega) (by omega) (by omega) hc238 hc252 rfl hP263.1, hF4.tr hP263.2⟩
                  | exact ⟨rfl, I224, rfl, cO_w2 he (by omega) (by omega) (by omega) (fun q => by have := q.2; omega) hM4, hF4⟩
                  | exact ⟨rfl, I224, rfl, cO_w2 he (by omega) (by omega) (by omega) (fun q => hc238 q.1) hM4, hF4⟩
                  | exact ⟨rfl, I83, rfl, cO_no he (by omega) (fun q => by omega) hM3, hF3⟩
                · refine aw_aload_n dX4_comesOut_255 rfl ?_
                  refine aw_iload_n dX4_comesOut_256 rfl ?_
                  refine aw_aload_n dX4_comesOut_257 rfl ?_
                  refine aw_getR dX4_comesOut_258 flX4_7 rfl (by assumption) (by assumption) ?_
                  refine aw_iconst (v := nI 3) dX4_comesOut_261 rfl ?_
                  refine aw_iald dX4_comesOut_262 (by assumption) (by omega) rfl (by omega) (show _ = nI (a.1 3) from hM4.1 3 (by decide)) ?_
                  refine aw_vUp0 dX4_comesOut_263 cvX4_52 ⟨Nat.le_of_ble_eq_true rfl, Nat.le_of_ble_eq_true rfl⟩ (by assumption) ⟨_, rfl, rfl⟩ (r_cutsOff hL hM4 h16 hst) rfl rfl (Nat.le_of_ble_eq_true rfl) ⟨rfl, rfl⟩ ⟨Nat.zero_le _, Nat.zero_le _⟩ (fun I263 hP263 => ?_)
                  refine aw_vret dX4_comesOut_266 rfl (Nat.zero_le _) (Nat.zero_le _) ?_
                  first
                  | exact ⟨rfl, I130, rfl, cO_cut he (by omega) (by omega) (by omega) hP130.1, hF3.tr hP130.2⟩
                  | exact ⟨rfl, I142, rfl, cO_close he he1 (by omega) (by omega) hP142.1, hF3.tr hP142.2⟩
                  | exact ⟨rfl, I263, rfl, cO_w1 he (by omega) (by omega) (by omega) hc238 hc252 rfl hP263.1, hF4.tr hP263.2⟩
                  | exact ⟨rfl, I224, rfl, cO_w2 he (by omega) (by omega) (by omega) (fun q => by have := q.2; omega) hM4, hF4⟩
                  | exact ⟨rfl, I224, rfl, cO_w2 he (by omega) (by omega) (by omega) (fun q => hc238 q.1) hM4, hF4⟩
                  | exact ⟨rfl, I83, rfl, cO_no he (by omega) (fun q => by omega) hM3, hF3⟩
      · refine aw_aload_n dX4_comesOut_140 rfl ?_
        refine aw_iload_n dX4_comesOut_141 rfl ?_
        refine aw_vUp0 dX4_comesOut_142 cvX4_55 ⟨Nat.le_of_ble_eq_true rfl, Nat.le_of_ble_eq_true rfl⟩ (by assumption) ⟨_, rfl, rfl⟩ (r_closes hL hM3 h16 hst) rfl rfl (Nat.le_of_ble_eq_true rfl) ⟨rfl, rfl⟩ ⟨Nat.zero_le _, Nat.zero_le _⟩ (fun I142 hP142 => ?_)
        refine aw_goto (tgt := 266) dX4_comesOut_145 (by decide) ?_
        refine aw_vret dX4_comesOut_266 rfl (Nat.zero_le _) (Nat.zero_le _) ?_
        first
        | exact ⟨rfl, I130, rfl, cO_cut he (by omega) (by omega) (by omega) hP130.1, hF3.tr hP130.2⟩
        | exact ⟨rfl, I142, rfl, cO_close he he1 (by omega) (by omega) hP142.1, hF3.tr hP142.2⟩
        | exact ⟨rfl, I263, rfl, cO_w1 he (by omega) (by omega) (by omega) hc238 hc252 rfl hP263.1, hF4.tr hP263.2⟩
        | exact ⟨rfl, I224, rfl, cO_w2 he (by omega) (by omega) (by omega) (fun q => by have := q.2; omega) hM4, hF4⟩
        | exact ⟨rfl, I224, rfl, cO_w2 he (by omega) (by omega) (by omega) (fun q => hc238 q.1) hM4, hF4⟩
        | exact ⟨rfl, I83, rfl, cO_no he (by omega) (fun q => by omega) hM3, hF3⟩
    · refine aw_iload dX4_comesOut_90 rfl ?_
      refine aw_if_eqN (tgt := 136) dX4_comesOut_92 (by decide) (by omega) (fun hc92 => ?_) (fun hc92 => ?_)
      · refine aw_iload_n dX4_comesOut_136 rfl ?_
        refine aw_if_eqN (tgt := 148) dX4_comesOut_137 (by decide) (by omega) (fun hc137 => ?_) (fun hc137 => ?_)
        · refine aw_aload_n dX4_comesOut_148 rfl ?_
          refine aw_iload_n dX4_comesOut_149 rfl ?_
          refine aw_iconst (v := nI 2) dX4_comesOut_150 rfl ?_
          refine aw_vRd dX4_comesOut_151 cvX4_40 ⟨Nat.le_of_ble_eq_true rfl, Nat.le_of_ble_eq_true rfl⟩ (by assumption) ⟨_, rfl, rfl⟩ (r_ofv (w := 2) (v := a.2.2 st 2) hL hP83.1 hst (by decide) (by simp [sT_s, u1])) rfl rfl (Nat.le_of_ble_eq_true rfl) ⟨rfl, rfl⟩ ⟨Nat.zero_le _, Nat.zero_le _⟩ ?_
          refine aw_if_neN (tgt := 266) dX4_comesOut_154 (by decide) (by omega) (fun hc154 => ?_) (fun hc154 => ?_)
          · refine aw_vret dX4_comesOut_266 rfl (Nat.zero_le _) (Nat.zero_le _) ?_
            first
            | exact ⟨rfl, I130, rfl, cO_cut he (by omega) (by omega) (by omega) hP130.1, hF3.tr hP130.2⟩
            | exact ⟨rfl, I142, rfl, cO_close he he1 (by omega) (by omega) hP142.1, hF3.tr hP142.2⟩
            | exact ⟨rfl, I263, rfl, cO_w1 he (by omega) (by omega) (by omega) hc238 hc252 rfl hP263.1, hF4.tr hP263.2⟩
            | exact ⟨rfl, I224, rfl, cO_w2 he (by omega) (by omega) (by omega) (fun q => by have := q.2; omega) hM4, hF4⟩
            | exact ⟨rfl, I224, rfl, cO_w2 he (by omega) (by omega) (by omega) (fun q => hc238 q.1) hM4, hF4⟩
            | exact ⟨rfl, I83, rfl, cO_no he (by omega) (fun q => by omega) hM3, hF3⟩
          · refine aw_aload_n dX4_comesOut_157 rfl ?_
            refine aw_iload_n dX4_comesOut_158 rfl ?_
            refine aw_bipush (v := nI 11) dX4_comesOut_159 rfl ?_
            refine aw_vRd dX4_comesOut_161 cvX4_40 ⟨Nat.le_of_ble_eq_true rfl, Nat.le_of_ble_eq_true rfl⟩ (by assumption) ⟨_, rfl, rfl⟩ (r_ofv (w := 11) (v := a.2.2 st 11) hL hP83.1 hst (by decide) (by simp [sT_s, u1])) rfl rfl (Nat.le_of_ble_eq_true rfl) ⟨rfl, rfl⟩ ⟨Nat.zero_le _, Nat.zero_le _⟩ ?_
            refine aw_iload dX4_comesOut_164 rfl ?_
            refine aw_icmp_neN (tgt := 266) dX4_comesOut_166 (by decide) (by omega) (by omega) (fun hc166 => ?_) (fun hc166 => ?_)
            · refine aw_vret dX4_comesOut_266 rfl (Nat.zero_le _) (Nat.zero_le _) ?_
              first
              | exact ⟨rfl, I130, rfl, cO_cut he (by omega) (by omega) (by omega) hP130.1, hF3.tr hP130.2⟩
              | exact ⟨rfl, I142, rfl, cO_close he he1 (by omega) (by omega) hP142.1, hF3.tr hP142.2⟩
              | exact ⟨rfl, I263, rfl, cO_w1 he (by omega) (by omega) (by omega) hc238 hc252 rfl hP263.1, hF4.tr hP263.2⟩
              | exact ⟨rfl, I224, rfl, cO_w2 he (by omega) (by omega) (by omega) (fun q => by have := q.2; omega) hM4, hF4⟩
              | exact ⟨rfl, I224, rfl, cO_w2 he (by omega) (by omega) (by omega) (fun q => hc238 q.1) hM4, hF4⟩
              | exact ⟨rfl, I83, rfl, cO_no he (by omega) (fun q => by omega) hM3, hF3⟩
            · refine aw_aload_n dX4_comesOut_169 rfl ?_
              refine aw_iload_n dX4_comesOut_170 rfl ?_
              refine aw_iconst (v := nI 3) dX4_comesOut_171 rfl ?_
              refine aw_aload_n dX4_comesOut_172 rfl ?_
              refine aw_iload_n dX4_comesOut_173 rfl ?_
              refine aw_iconst (v := nI 3) dX4_comesOut_174 rfl ?_
              refine aw_vRd dX4_comesOut_175 cvX4_40 ⟨Nat.le_of_ble_eq_true rfl, Nat.le_of_ble_eq_true rfl⟩ (by assumption) ⟨_, rfl, rfl⟩ (r_ofv (w := 3) (v := a.2.2 st 3) hL hP83.1 hst (by decide) (by simp [sT_s, u1])) rfl rfl (Nat.le_of_ble_eq_true rfl) ⟨rfl, rfl⟩ ⟨Nat.zero_le _, Nat.zero_le _⟩ ?_
              refine aw_iconst (v := nI 1) dX4_comesOut_178 rfl ?_
              refine aw_ishl dX4_comesOut_179 ?_
              refine aw_iload dX4_comesOut_180 rfl ?_
              refine aw_dia (tgt := 189) (jn := 190) (c1 := 1) (c0 := 0) dX4_comesOut_182 (by decide) dX4_comesOut_185 rfl dX4_comesOut_186 (by decide) dX4_comesOut_189 rfl rfl (by omega) (by rcases (show e = 0 ∨ e = 1 by omega) with h | h <;> rw [h] <;> rfl : nI (if e = 0 then 0 else 1) = nI e) ?_
              refine aw_ior dX4_comesOut_190 ?_
              refine aw_ldc dX4_comesOut_191 (v := 65535) ldX4_59 ?_
              refine aw_iand dX4_comesOut_193 ?_
              refine aw_top (note_nI h3 he1) ?_
              refine aw_vUp0 dX4_comesOut_194 cvX4_29 ⟨Nat.le_of_ble_eq_true rfl, Nat.le_of_ble_eq_true rfl⟩ (by assumption) ⟨_, rfl, rfl⟩ (r_lay (w := 3) (v := (2 * a.2.2 st 3 + e) % 65536) hL hM3 h16 hst (by decide)) rfl rfl (Nat.le_of_ble_eq_true rfl) ⟨rfl, rfl⟩ ⟨Nat.zero_le _, Nat.zero_le _⟩ (fun I194 hP194 => ?_)
              refine aw_aload_n dX4_comesOut_197 rfl ?_
              refine aw_iload_n dX4_comesOut_198 rfl ?_
              refine aw_iconst (v := nI 4) dX4_comesOut_199 rfl ?_
              refine aw_aload_n dX4_comesOut_200 rfl ?_
              refine aw_iload_n dX4_comesOut_201 rfl ?_
              refine aw_iconst (v := nI 4) dX4_comesOut_202 rfl ?_
              refine aw_vRd dX4_comesOut_203 cvX4_40 ⟨Nat.le_of_ble_eq_true rfl, Nat.le_of_ble_eq_true rfl⟩ (by assumption) ⟨_, rfl, rfl⟩ (r_ofv (w := 4) (v := a.2.2 st 4) hL hP194.1 hst (by decide) (by simp [sT_s, u1])) rfl rfl (Nat.le_of_ble_eq_true rfl) ⟨rfl, rfl⟩ ⟨Nat.zero_le _, Nat.zero_le _⟩ ?_
              refine aw_bipush (v := nI 16) dX4_comesOut_206 rfl ?_
              refine aw_icmp_geN (tgt := 222) dX4_comesOut_208 (by decide) (by omega) (by omega) (fun hc208 => ?_) (fun hc208 => ?_)
              · refine aw_bipush (v := nI 16) dX4_comesOut_222 rfl ?_
                refine aw_vUp0 dX4_comesOut_224 cvX4_29 ⟨Nat.le_of_ble_eq_true rfl, Nat.le_of_ble_eq_true rfl⟩ (by assumption) ⟨_, rfl, rfl⟩ (r_lay (w := 4) hL hP194.1 h16 hst (by decide)) rfl rfl (Nat.le_of_ble_eq_true rfl) ⟨rfl, rfl⟩ ⟨Nat.zero_le _, Nat.zero_le _⟩ (fun I224 hP224 => ?_)
                have hM4 : RM (I224 141) (outG a.1 d, a.2.1, sT a.2.2 st (noteR e (u1 (a.2.2 st) 9 (a.2.2 st 9 + e)))) := by
                  have h := hP224.1
                  simp only [sT_sT, sT_s] at h
                  rw [← noteR_eq]
                  first
                  | (rw [show min (u1 (a.2.2 st) 9 (a.2.2 st 9 + e) 4 + 1) 16 = 16 from Nat.min_eq_right (by show 16 ≤ a.2.2 st 4 + 1; omega)]; exact h)
                  | (rw [show min (u1 (a.2.2 st) 9 (a.2.2 st 9 + e) 4 + 1) 16 = a.2.2 st 4 + 1 from Nat.min_eq_left (by show a.2.2 st 4 + 1 ≤ 16; omega)]; exact h)
                have hF4 : FrO 141 I I224 := hF3.tr (hP194.2.tr hP224.2)
                have hg9 : SK (outG a.1 d) := hg.out
                have ht4 : RK b (sT a.2.2 st (noteR e (u1 (a.2.2 st) 9 (a.2.2 st 9 + e))) st) := by
                  rw [sT_s]; exact RK.note ht.u9 he1 (by show a.2.2 st 2 = 0; omega)
                have hiw : inWinR a.1 (noteR e (u1 (a.2.2 st) 9 (a.2.2 st 9 + e))) ≤ 16 := by
                  unfold inWinR; split
                  · omega
                  · omega
                have hbw : badWinR a.1 (noteR e (u1 (a.2.2 st) 9 (a.2.2 st 9 + e))) ≤ 16 := Nat.le_trans (bits_le _ _) hiw
                refine aw_aload_n dX4_comesOut_227 rfl ?_
                refine aw_iload_n dX4_comesOut_228 rfl ?_
                refine aw_vRd dX4_comesOut_229 cvX4_44 ⟨Nat.le_of_ble_eq_true rfl, Nat.le_of_ble_eq_true rfl⟩ (by assumption) ⟨_, rfl, rfl⟩ (r_inWindowv (v := inWinR a.1 (noteR e (u1 (a.2.2 st) 9 (a.2.2 st 9 + e)))) hL hM4 hst hg9 ht4 (show inWinR (outG a.1 d) (sT a.2.2 st (noteR e (u1 (a.2.2 st) 9 (a.2.2 st 9 + e))) st) = _ from by rw [sT_s]; rfl)) rfl rfl (Nat.le_of_ble_eq_true rfl) ⟨rfl, rfl⟩ ⟨Nat.zero_le _, Nat.zero_le _⟩ ?_
                refine aw_aload_n dX4_comesOut_232 rfl ?_
                refine aw_getR dX4_comesOut_233 flX4_7 rfl (by assumption) (by assumption) ?_
                refine aw_iconst (v := nI 1) dX4_comesOut_236 rfl ?_
                refine aw_iald dX4_comesOut_237 (by assumption) (by omega) rfl (by omega) (show _ = nI (a.1 1) from hM4.1 1 (by decide)) ?_
                refine aw_icmp_neN (tgt := 266) dX4_comesOut_238 (by decide) (by omega) (by omega) (fun hc238 => ?_) (fun hc238 => ?_)
                · refine aw_vret dX4_comesOut_266 rfl (Nat.zero_le _) (Nat.zero_le _) ?_
                  first
                  | exact ⟨rfl, I130, rfl, cO_cut he (by omega) (by omega) (by omega) hP130.1, hF3.tr hP130.2⟩
                  | exact ⟨rfl, I142, rfl, cO_close he he1 (by omega) (by omega) hP142.1, hF3.tr hP142.2⟩
                  | exact ⟨rfl, I263, rfl, cO_w1 he (by omega) (by omega) (by omega) hc238 hc252 rfl hP263.1, hF4.tr hP263.2⟩
                  | exact ⟨rfl, I224, rfl, cO_w2 he (by omega) (by omega) (by omega) (fun q => by have := q.2; omega) hM4, hF4⟩
                  | exact ⟨rfl, I224, rfl, cO_w2 he (by omega) (by omega) (by omega) (fun q => hc238 q.1) hM4, hF4⟩
                  | exact ⟨rfl, I83, rfl, cO_no he (by omega) (fun q => by omega) hM3, hF3⟩
                · refine aw_aload_n dX4_comesOut_241 rfl ?_
                  refine aw_iload_n dX4_comesOut_242 rfl ?_
                  refine aw_vRd dX4_comesOut_243 cvX4_60 ⟨Nat.le_of_ble_eq_true rfl, Nat.le_of_ble_eq_true rfl⟩ (by assumption) ⟨_, rfl, rfl⟩ (r_badInWindowv (v := badWinR a.1 (noteR e (u1 (a.2.2 st) 9 (a.2.2 st 9 + e)))) hL hM4 hst hg9 ht4 (show badWinR (outG a.1 d) (sT a.2.2 st (noteR e (u1 (a.2.2 st) 9 (a.2.2 st 9 + e))) st) = _ from by rw [sT_s]; rfl)) rfl rfl (Nat.le_of_ble_eq_true rfl) ⟨rfl, rfl⟩ ⟨Nat.zero_le _, Nat.zero_le _⟩ ?_
                  refine aw_aload_n dX4_comesOut_246 rfl ?_
                  refine aw_getR dX4_comesOut_247 flX4_7 rfl (by assumption) (by assumption) ?_
                  refine aw_iconst (v := nI 2) dX4_comesOut_250 rfl ?_
                  refine aw_iald dX4_comesOut_251 (by assumption) (by omega) rfl (by omega) (show _ = nI (a.1 2) from hM4.1 2 (by decide)) ?_
                  refine aw_icmp_ltN (tgt := 266) dX4_comesOut_252 (by decide) (by omega) (by omega) (fun hc252 => ?_) (fun hc252 => ?_)
                  · refine aw_vret dX4_comesOut_266 rfl (Nat.zero_le _) (Nat.zero_le _) ?_
                    first
                    | exact ⟨rfl, I130, rfl, cO_cut he (by omega) (by omega) (by omega) hP130.1, hF3.tr hP130.2⟩
                    | exact ⟨rfl, I142, rfl, cO_close he he1 (by omega) (by omega) hP142.1, hF3.tr hP142.2⟩
                    | exact ⟨rfl, I263, rfl, cO_w1 he (by omega) (by omega) (by omega) hc238 hc252 rfl hP263.1, hF4.tr hP263.2⟩
                    | exact ⟨rfl, I224, rfl, cO_w2 he (by omega) (by omega) (by omega) (fun q => by have := q.2; omega) hM4, hF4⟩
                    | exact ⟨rfl, I224, rfl, cO_w2 he (by omega) (by omega) (by omega) (fun q => hc238 q.1) hM4, hF4⟩
                    | exact ⟨rfl, I83, rfl, cO_no he (by omega) (fun q => by omega) hM3, hF3⟩
                  · refine aw_aload_n dX4_comesOut_255 rfl ?_
                    refine aw_iload_n dX4_comesOut_256 rfl ?_
                    refine aw_aload_n dX4_comesOut_257 rfl ?_
                    refine aw_getR dX4_comesOut_258 flX4_7 rfl (by assumption) (by assumption) ?_
                    refine aw_iconst (v := nI 3) dX4_comesOut_261 rfl ?_
                    refine aw_iald dX4_comesOut_262 (by assumption) (by omega) rfl (by omega) (show _ = nI (a.1 3) from hM4.1 3 (by decide)) ?_
                    refine aw_vUp0 dX4_comesOut_263 cvX4_52 ⟨Nat.le_of_ble_eq_true rfl, Nat.le_of_ble_eq_true rfl⟩ (by assumption) ⟨_, rfl, rfl⟩ (r_cutsOff hL hM4 h16 hst) rfl rfl (Nat.le_of_ble_eq_true rfl) ⟨rfl, rfl⟩ ⟨Nat.zero_le _, Nat.zero_le _⟩ (fun I263 hP263 => ?_)
                    refine aw_vret dX4_comesOut_266 rfl (Nat.zero_le _) (Nat.zero_le _) ?_
                    first
                    | exact ⟨rfl, I130, rfl, cO_cut he (by omega) (by omega) (by omega) hP130.1, hF3.tr hP130.2⟩
                    | exact ⟨rfl, I142, rfl, cO_close he he1 (by omega) (by omega) hP142.1, hF3.tr hP142.2⟩
                    | exact ⟨rfl, I263, rfl, cO_w1 he (by omega) (by omega) (by omega) hc238 hc252 rfl hP263.1, hF4.tr hP263.2⟩
                    | exact ⟨rfl, I224, rfl, cO_w2 he (by omega) (by omega) (by omega) (fun q => by have := q.2; omega) hM4, hF4⟩
                    | exact ⟨rfl, I224, rfl, cO_w2 he (by omega) (by omega) (by omega) (fun q => hc238 q.1) hM4, hF4⟩
                    | exact ⟨rfl, I83, rfl, cO_no he (by omega) (fun q => by omega) hM3, hF3⟩
              · refine aw_aload_n dX4_comesOut_211 rfl ?_
                refine aw_iload_n dX4_comesOut_212 rfl ?_
                refine aw_iconst (v := nI 4) dX4_comesOut_213 rfl ?_
                refine aw_vRd dX4_comesOut_214 cvX4_40 ⟨Nat.le_of_ble_eq_true rfl, Nat.le_of_ble_eq_true rfl⟩ (by assumption) ⟨_, rfl, rfl⟩ (r_ofv (w := 4) (v := a.2.2 st 4) hL hP194.1 hst (by decide) (by simp [sT_s, u1])) rfl rfl (Nat.le_of_ble_eq_true rfl) ⟨rfl, rfl⟩ ⟨Nat.zero_le _, Nat.zero_le _⟩ ?_
                refine aw_iconst (v := nI 1) dX4_comesOut_217 rfl ?_
                first | refine aw_iaddN dX4_comesOut_218 ?_ | refine aw_iadd dX4_comesOut_218 ?_
                refine aw_goto (tgt := 224) dX4_comesOut_219 (by decide) ?_
                refine aw_vUp0 dX4_comesOut_224 cvX4_29 ⟨Nat.le_of_ble_eq_true rfl, Nat.le_of_ble_eq_true rfl⟩ (by assumption) ⟨_, rfl, rfl⟩ (r_lay (w := 4) hL hP194.1 h16 hst (by decide)) rfl rfl (Nat.le_of_ble_eq_true rfl) ⟨rfl, rfl⟩ ⟨Nat.zero_le _, Nat.zero_le _⟩ (fun I224 hP224 => ?_)
                have hM4 : RM (I224 141) (outG a.1 d, a.2.1, sT a.2.2 st (noteR e (u1 (a.2.2 st) 9 (a.2.2 st 9 + e)))) := by
                  have h := hP224.1
                  simp only [sT_sT, sT_s] at h
                  rw [← noteR_eq]
                  first
                  | (rw [show min (u1 (a.2.2 st) 9 (a.2.2 st 9 + e) 4 + 1) 16 = 16 from Nat.min_eq_right (by show 16 ≤ a.2.2 st 4 + 1; omega)]; exact h)
                  | (rw [show min (u1 (a.2.2 st) 9 (a.2.2 st 9 + e) 4 + 1) 16 = a.2.2 st 4 + 1 from Nat.min_eq_left (by show a.2.2 st 4 + 1 ≤ 16; omega)]; exact h)
                have hF4 : FrO 141 I I224 := hF3.tr (hP194.2.tr hP224.2)
                have hg9 : SK (outG a.1 d) := hg.out
                have ht4 : RK b (sT a.2.2 st (noteR e (u1 (a.2.2 st) 9 (a.2.2 st 9 + e))) st) := by
                  rw [sT_s]; exact RK.note ht.u9 he1 (by show a.2.2 st 2 = 0; omega)
                have hiw : inWinR a.1 (noteR e (u1 (a.2.2 st) 9 (a.2.2 st 9 + e))) ≤ 16 := by
                  unfold inWinR; split
                  · omega
                  · omega
                have hbw : badWinR a.1 (noteR e (u1 (a.2.2 st) 9 (a.2.2 st 9 + e))) ≤ 16 := Nat.le_trans (bits_le _ _) hiw
                refine aw_aload_n dX4_comesOut_227 rfl ?_
                refine aw_iload_n dX4_comesOut_228 rfl ?_
                refine aw_vRd dX4_comesOut_229 cvX4_44 ⟨Nat.le_of_ble_eq_true rfl, Nat.le_of_ble_eq_true rfl⟩ (by assumption) ⟨_, rfl, rfl⟩ (r_inWindowv (v := inWinR a.1 (noteR e (u1 (a.2.2 st) 9 (a.2.2 st 9 + e)))) hL hM4 hst hg9 ht4 (show inWinR (outG a.1 d) (sT a.2.2 st (noteR e (u1 (a.2.2 st) 9 (a.2.2 st 9 + e))) st) = _ from by rw [sT_s]; rfl)) rfl rfl (Nat.le_of_ble_eq_true rfl) ⟨rfl, rfl⟩ ⟨Nat.zero_le _, Nat.zero_le _⟩ ?_
                refine aw_aload_n dX4_comesOut_232 rfl ?_
                refine aw_getR dX4_comesOut_233 flX4_7 rfl (by assumption) (by assumption) ?_
                refine aw_iconst (v := nI 1) dX4_comesOut_236 rfl ?_
                refine aw_iald dX4_comesOut_237 (by assumption) (by omega) rfl (by omega) (show _ = nI (a.1 1) from hM4.1 1 (by decide)) ?_
                refine aw_icmp_neN (tgt := 266) dX4_comesOut_238 (by decide) (by omega) (by omega) (fun hc238 => ?_) (fun hc238 => ?_)
                · refine aw_vret dX4_comesOut_266 rfl (Nat.zero_le _) (Nat.zero_le _) ?_
                  first
                  | exact ⟨rfl, I130, rfl, cO_cut he (by omega) (by omega) (by omega) hP130.1, hF3.tr hP130.2⟩
                  | exact ⟨rfl, I142, rfl, cO_close he he1 (by omega) (by omega) hP142.1, hF3.tr hP142.2⟩
                  | exact ⟨rfl, I263, rfl, cO_w1 he (by omega) (by omega) (by omega) hc238 hc252 rfl hP263.1, hF4.tr hP263.2⟩
                  | exact ⟨rfl, I224, rfl, cO_w2 he (by omega) (by omega) (by omega) (fun q => by have := q.2; omega) hM4, hF4⟩
                  | exact ⟨rfl, I224, rfl, cO_w2 he (by omega) (by omega) (by omega) (fun q => hc238 q.1) hM4, hF4⟩
                  | exact ⟨rfl, I83, rfl, cO_no he (by omega) (fun q => by omega) hM3, hF3⟩
                · refine aw_aload_n dX4_comesOut_241 rfl ?_
                  refine aw_iload_n dX4_comesOut_242 rfl ?_
                  refine aw_vRd dX4_comesOut_243 cvX4_60 ⟨Nat.le_of_ble_eq_true rfl, Nat.le_of_ble_eq_true rfl⟩ (by assumption) ⟨_, rfl, rfl⟩ (r_badInWindowv (v := badWinR a.1 (noteR e (u1 (a.2.2 st) 9 (a.2.2 st 9 + e)))) hL hM4 hst hg9 ht4 (show badWinR (outG a.1 d) (sT a.2.2 st (noteR e (u1 (a.2.2 st) 9 (a.2.2 st 9 + e))) st) = _ from by rw [sT_s]; rfl)) rfl rfl (Nat.le_of_ble_eq_true rfl) ⟨rfl, rfl⟩ ⟨Nat.zero_le _, Nat.zero_le _⟩ ?_
                  refine aw_aload_n dX4_comesOut_246 rfl ?_
                  refine aw_getR dX4_comesOut_247 flX4_7 rfl (by assumption) (by assumption) ?_
                  refine aw_iconst (v := nI 2) dX4_comesOut_250 rfl ?_
                  refine aw_iald dX4_comesOut_251 (by assumption) (by omega) rfl (by omega) (show _ = nI (a.1 2) from hM4.1 2 (by decide)) ?_
                  refine aw_icmp_ltN (tgt := 266) dX4_comesOut_252 (by decide) (by omega) (by omega) (fun hc252 => ?_) (fun hc252 => ?_)
                  · refine aw_vret dX4_comesOut_266 rfl (Nat.zero_le _) (Nat.zero_le _) ?_
                    first
                    | exact ⟨rfl, I130, rfl, cO_cut he (by omega) (by omega) (by omega) hP130.1, hF3.tr hP130.2⟩
                    | exact ⟨rfl, I142, rfl, cO_close he he1 (by omega) (by omega) hP142.1, hF3.tr hP142.2⟩
                    | exact ⟨rfl, I263, rfl, cO_w1 he (by omega) (by omega) (by omega) hc238 hc252 rfl hP263.1, hF4.tr hP263.2⟩
                    | exact ⟨rfl, I224, rfl, cO_w2 he (by omega) (by omega) (by omega) (fun q => by have := q.2; omega) hM4, hF4⟩
                    | exact ⟨rfl, I224, rfl, cO_w2 he (by omega) (by omega) (by omega) (fun q => hc238 q.1) hM4, hF4⟩
                    | exact ⟨rfl, I83, rfl, cO_no he (by omega) (fun q => by omega) hM3, hF3⟩
                  · refine aw_aload_n dX4_comesOut_255 rfl ?_
                    refine aw_iload_n dX4_comesOut_256 rfl ?_
                    refine aw_aload_n dX4_comesOut_257 rfl ?_
                    refine aw_getR dX4_comesOut_258 flX4_7 rfl (by assumption) (by assumption) ?_
                    refine aw_iconst (v := nI 3) dX4_comesOut_261 rfl ?_
                    refine aw_iald dX4_comesOut_262 (by assumption) (by omega) rfl (by omega) (show _ = nI (a.1 3) from hM4.1 3 (by decide)) ?_
                    refine aw_vUp0 dX4_comesOut_263 cvX4_52 ⟨Nat.le_of_ble_eq_true rfl, Nat.le_of_ble_eq_true rfl⟩ (by assumption) ⟨_, rfl, rfl⟩ (r_cutsOff hL hM4 h16 hst) rfl rfl (Nat.le_of_ble_eq_true rfl) ⟨rfl, rfl⟩ ⟨Nat.zero_le _, Nat.zero_le _⟩ (fun I263 hP263 => ?_)
                    refine aw_vret dX4_comesOut_266 rfl (Nat.zero_le _) (Nat.zero_le _) ?_
                    first
                    | exact ⟨rfl, I130, rfl, cO_cut he (by omega) (by omega) (by omega) hP130.1, hF3.tr hP130.2⟩
                    | exact ⟨rfl, I142, rfl, cO_close he he1 (by omega) (by omega) hP142.1, hF3.tr hP142.2⟩
                    | exact ⟨rfl, I263, rfl, cO_w1 he (by omega) (by omega) (by omega) hc238 hc252 rfl hP263.1, hF4.tr hP263.2⟩
                    | exact ⟨rfl, I224, rfl, cO_w2 he (by omega) (by omega) (by omega) (fun q => by have := q.2; omega) hM4, hF4⟩
                    | exact ⟨rfl, I224, rfl, cO_w2 he (by omega) (by omega) (by omega) (fun q => hc238 q.1) hM4, hF4⟩
                    | exact ⟨rfl, I83, rfl, cO_no he (by omega) (fun q => by omega) hM3, hF3⟩
        · refine aw_aload_n dX4_comesOut_140 rfl ?_
          refine aw_iload_n dX4_comesOut_141 rfl ?_
          refine aw_vUp0 dX4_comesOut_142 cvX4_55 ⟨Nat.le_of_ble_eq_true rfl, Nat.le_of_ble_eq_true rfl⟩ (by assumption) ⟨_, rfl, rfl⟩ (r_closes hL hM3 h16 hst) rfl rfl (Nat.le_of_ble_eq_true rfl) ⟨rfl, rfl⟩ ⟨Nat.zero_le _, Nat.zero_le _⟩ (fun I142 hP142 => ?_)
          refine aw_goto (tgt := 266) dX4_comesOut_145 (by decide) ?_
          refine aw_vret dX4_comesOut_266 rfl (Nat.zero_le _) (Nat.zero_le _) ?_
          first
          | exact ⟨rfl, I130, rfl, cO_cut he (by omega) (by omega) (by omega) hP130.1, hF3.tr hP130.2⟩
          | exact ⟨rfl, I142, rfl, cO_close he he1 (by omega) (by omega) hP142.1, hF3.tr hP142.2⟩
          | exact ⟨rfl, I263, rfl, cO_w1 he (by omega) (by omega) (by omega) hc238 hc252 rfl hP263.1, hF4.tr hP263.2⟩
          | exact ⟨rfl, I224, rfl, cO_w2 he (by omega) (by omega) (by omega) (fun q => by have := q.2; omega) hM4, hF4⟩
          | exact ⟨rfl, I224, rfl, cO_w2 he (by omega) (by omega) (by omega) (fun q => hc238 q.1) hM4, hF4⟩
          | exact ⟨rfl, I83, rfl, cO_no he (by omega) (fun q => by omega) hM3, hF3⟩
      · refine aw_iconst (v := nI 2) dX4_comesOut_95 rfl ?_
        refine aw_aload_n dX4_comesOut_96 rfl ?_
        refine aw_iload_n dX4_comesOut_97 rfl ?_
        refine aw_bipush (v := nI 6) dX4_comesOut_98 rfl ?_
        refine aw_vRd dX4_comesOut_100 cvX4_40 ⟨Nat.le_of_ble_eq_true rfl, Nat.le_of_ble_eq_true rfl⟩ (by assumption) ⟨_, rfl, rfl⟩ (r_ofv (w := 6) (v := a.2.2 st 6) hL hP83.1 hst (by decide) (by simp [sT_s, u1])) rfl rfl (Nat.le_of_ble_eq_true rfl) ⟨rfl, rfl⟩ ⟨Nat.zero_le _, Nat.zero_le _⟩ ?_
        first | refine aw_imulN dX4_comesOut_103 ?_ | refine aw_imul dX4_comesOut_103 ?_
        refine aw_istore (ls' := [(6, _), (5, _), (0, _), (1, _), (2, _), (3, _), (4, _)]) dX4_comesOut_104 (by decide) rfl ?_
        refine aw_aload_n dX4_comesOut_106 rfl ?_
        refine aw_iload_n dX4_comesOut_107 rfl ?_
        refine aw_iload dX4_comesOut_108 rfl ?_
        refine aw_aload_n dX4_comesOut_110 rfl ?_
        refine aw_getR dX4_comesOut_111 flX4_7 rfl (by assumption) (by assumption) ?_
        refine aw_iconst (v := nI 4) dX4_comesOut_114 rfl ?_
        refine aw_iald dX4_comesOut_115 (by assumption) (by omega) rfl (by omega) (show _ = nI (a.1 4) from hM3.1 4 (by decide)) ?_
        refine aw_icmp_geN (tgt := 124) dX4_comesOut_116 (by decide) (by omega) (by omega) (fun hc116 => ?_) (fun hc116 => ?_)
        · refine aw_aload_n dX4_comesOut_124 rfl ?_
          refine aw_getR dX4_comesOut_125 flX4_7 rfl (by assumption) (by assumption) ?_
          refine aw_iconst (v := nI 4) dX4_comesOut_128 rfl ?_
          refine aw_iald dX4_comesOut_129 (by assumption) (by omega) rfl (by omega) (show _ = nI (a.1 4) from hM3.1 4 (by decide)) ?_
          refine aw_vUp0 dX4_comesOut_130 cvX4_52 ⟨Nat.le_of_ble_eq_true rfl, Nat.le_of_ble_eq_true rfl⟩ (by assumption) ⟨_, rfl, rfl⟩ (r_cutsOff hL hM3 h16 hst) rfl rfl (Nat.le_of_ble_eq_true rfl) ⟨rfl, rfl⟩ ⟨Nat.zero_le _, Nat.zero_le _⟩ (fun I130 hP130 => ?_)
          refine aw_goto (tgt := 266) dX4_comesOut_133 (by decide) ?_
          refine aw_vret dX4_comesOut_266 rfl (Nat.zero_le _) (Nat.zero_le _) ?_
          first
          | exact ⟨rfl, I130, rfl, cO_cut he (by omega) (by omega) (by omega) hP130.1, hF3.tr hP130.2⟩
          | exact ⟨rfl, I142, rfl, cO_close he he1 (by omega) (by omega) hP142.1, hF3.tr hP142.2⟩
          | exact ⟨rfl, I263, rfl, cO_w1 he (by omega) (by omega) (by omega) hc238 hc252 rfl hP263.1, hF4.tr hP263.2⟩
          | exact ⟨rfl, I224, rfl, cO_w2 he (by omega) (by omega) (by omega) (fun q => by have := q.2; omega) hM4, hF4⟩
          | exact ⟨rfl, I224, rfl, cO_w2 he (by omega) (by omega) (by omega) (fun q => hc238 q.1) hM4, hF4⟩
          | exact ⟨rfl, I83, rfl, cO_no he (by omega) (fun q => by omega) hM3, hF3⟩
        · refine aw_iload dX4_comesOut_119 rfl ?_
          refine aw_goto (tgt := 130) dX4_comesOut_121 (by decide) ?_
          refine aw_vUp0 dX4_comesOut_130 cvX4_52 ⟨Nat.le_of_ble_eq_true rfl, Nat.le_of_ble_eq_true rfl⟩ (by assumption) ⟨_, rfl, rfl⟩ (r_cutsOff hL hM3 h16 hst) rfl rfl (Nat.le_of_ble_eq_true rfl) ⟨rfl, rfl⟩ ⟨Nat.zero_le _, Nat.zero_le _⟩ (fun I130 hP130 => ?_)
          refine aw_goto (tgt := 266) dX4_comesOut_133 (by decide) ?_
          refine aw_vret dX4_comesOut_266 rfl (Nat.zero_le _) (Nat.zero_le _) ?_
          first
          | exact ⟨rfl, I130, rfl, cO_cut he (by omega) (by omega) (by omega) hP130.1, hF3.tr hP130.2⟩
          | exact ⟨rfl, I142, rfl, cO_close he he1 (by omega) (by omega) hP142.1, hF3.tr hP142.2⟩
          | exact ⟨rfl, I263, rfl, cO_w1 he (by omega) (by omega) (by omega) hc238 hc252 rfl hP263.1, hF4.tr hP263.2⟩
          | exact ⟨rfl, I224, rfl, cO_w2 he (by omega) (by omega) (by omega) (fun q => by have := q.2; omega) hM4, hF4⟩
          | exact ⟨rfl, I224, rfl, cO_w2 he (by omega) (by omega) (by omega) (fun q => hc238 q.1) hM4, hF4⟩
          | exact ⟨rfl, I83, rfl, cO_no he (by omega) (fun q => by omega) hM3, hF3⟩
  refine run_of (ls := [(0, .ref (G.1 140)), (1, .int (nI st)), (2, .int (nI d)), (3, .int (nI tr)), (4, .int (nI since))]) (by decide +kernel) rfl rfl (Nat.le_of_ble_eq_true rfl) ?_
  refine aw_iload_n dX4_comesOut_0 rfl ?_
  refine aw_if_eqN (tgt := 14) dX4_comesOut_1 (by decide) (by omega) (fun hc1 => ?_) (fun hc1 => ?_)
  · refine aw_iconst (v := nI 1) dX4_comesOut_14 rfl ?_
    refine aw_goto (tgt := 19) dX4_comesOut_15 (by decide) ?_
    first
    | exact aw_top (congrArg nI (by rw [he]; unfold badN; first | rw [if_pos (by omega)] | rw [if_neg (by omega)])) key
  · refine aw_iload_n dX4_comesOut_4 rfl ?_
    refine aw_aload_n dX4_comesOut_5 rfl ?_
    refine aw_getR dX4_comesOut_6 flX4_7 rfl (by assumption) (by assumption) ?_
    refine aw_iconst (v := nI 0) dX4_comesOut_9 rfl ?_
    refine aw_iald dX4_comesOut_10 (by assumption) (by omega) rfl (by omega) (hM.1 0 (by decide)) ?_
    refine aw_icmp_leN (tgt := 18) dX4_comesOut_11 (by decide) (by omega) (by omega) (fun hc11 => ?_) (fun hc11 => ?_)
    · refine aw_iconst (v := nI 0) dX4_comesOut_18 rfl ?_
      first
      | exact aw_top (congrArg nI (by rw [he]; unfold badN; first | rw [if_pos (by omega)] | rw [if_neg (by omega)])) key
    · refine aw_iconst (v := nI 1) dX4_comesOut_14 rfl ?_
      refine aw_goto (tgt := 19) dX4_comesOut_15 (by decide) ?_
      first
      | exact aw_top (congrArg nI (by rw [he]; unfold badN; first | rw [if_pos (by omega)] | rw [if_neg (by omega)])) key
end MODEL3
end
section
/-! THE REFERENCE: trials, refusals, calls -/
def b2 (b : Bool) : Nat := if b = true then 1 else 0
theorem b2_le (b : Bool) : b2 b ≤ 1 := by unfold b2; split <;> omega
theorem b2_t {b : Bool} (h : b = true) : b2 b = 1 := if_pos h
theorem b2_f {b : Bool} (h : b = false) : b2 b = 0 := by subst h; rfl
theorem b2_0 {b : Bool} : b2 b = 0 ↔ b = false := by cases b <;> simp [b2]
theorem any_take {α : Type} {L : List α} {k : Nat} {c : α} (p : α → Bool) (h : L[k]? = some c) : (L.take (k + 1)).any p = ((L.take k).any p || p c) := by
  rw [List.take_add_one, h]; simp
theorem dia01 {e : Nat} (h : e ≤ 1) : nI (if e = 0 then 0 else 1) = nI e := by rcases (show e = 0 ∨ e = 1 by omega) with h | h <;> rw [h] <;> rfl
theorem dia10 {e : Nat} (h : e ≤ 1) : nI (if e = 0 then 1 else 0) = nI (1 - e) := by rcases (show e = 0 ∨ e = 1 by omega) with h | h <;> rw [h] <;> rfl
theorem nar01 {e : Nat} (h : e ≤ 1) : narrow .boolean (.int (nI e)) = .int (nI e) := by rcases (show e = 0 ∨ e = 1 by omega) with h | h <;> rw [h] <;> rfl
theorem rf1 {a : AA} {st : Nat} (h : a.2.2 st 2 = 1) : 1 = b2 (refd a st) := by rw [b2_t]; simp [refd, h]
theorem rf2 {a : AA} {st : Nat} (h : a.2.2 st 2 ≠ 1) (h' : a.2.2 st 2 ≠ 2) : 0 = b2 (refd a st) := by rw [b2_f]; simp [refd, h, h']
theorem rf3 {a : AA} {st : Nat} (h : a.2.2 st 2 = 2) : b2 (hasTr a st) = b2 (refd a st) := congrArg b2 (by simp [refd, h])
theorem at1 {A : Bool} {st : Nat} {c : Cl} (h : b2 A ≠ 0) : 1 = b2 (A || isT st c) := by
  cases A with
  | false => exact absurd rfl h
  | true => rfl
theorem at2 {A : Bool} {st : Nat} {c : Cl} (h : c 0 = st) (h' : c 3 = 1) : 1 = b2 (A || isT st c) := by rw [b2_t]; simp [isT, h, h']
theorem at3 {A : Bool} {st : Nat} {c : Cl} (h : b2 A = 0) (h' : c 0 ≠ st) : 0 = b2 (A || isT st c) := by rw [b2_0.mp h, b2_f]; simp [isT, h']
theorem at4 {A : Bool} {st : Nat} {c : Cl} (h : b2 A = 0) (h' : c 3 ≠ 1) : 0 = b2 (A || isT st c) := by rw [b2_0.mp h, b2_f]; simp [isT, h']
section MODEL4
variable {G : GG} {K : Nat → Option (Nat × Nat)} {R : Nat → Nat → Value} {I : Nat → Nat → Int32} {J : Nat → Nat → Int64} {z : Nat} {σ : Sg} {a : AA} {m k : Nat}
theorem r_callOfv {v : Nat} (hL : LM G K R) (hM : RM (I 141) a) {p w : Nat} {c : Cl} (hp : a.2.1[p]? = some c) (h16 : a.2.1.length ≤ 16) (hw : w < 5) (hv : c w = v) : Run G YX4_callOf [.ref (G.1 140), .int (nI p), .int (nI w)] (K, R, I, J, z) (Rd (K, R, I, J, z) (.int (nI v))) := by
  subst hv; exact r_callOf hL hM hp h16 hw
theorem r_hasTrial (hL : LM G K R) (hM : RM (I 141) a) {st : Nat} (hst : st < 4) (h16 : a.2.1.length ≤ 16) (hC : ∀ c ∈ a.2.1, c 0 < 4 ∧ c 3 ≤ 1) : Run G YX4_hasTrial [.ref (G.1 140), .int (nI st)] (K, R, I, J, z) (Rd (K, R, I, J, z) (.int (nI (b2 (hasTr a st))))) := by
  obtain ⟨hk0, hr1, hk1, hr2, hk2, hr3, hk3, hr5, hk5, hr9, hk9⟩ := hL
  have hL : LM G K R := ⟨hk0, hr1, hk1, hr2, hk2, hr3, hk3, hr5, hk5, hr9, hk9⟩
  have loop : ∀ (d k : Nat), a.2.1.length - k = d → k ≤ a.2.1.length → AW G YX4_hasTrial (MZ G YX4_hasTrial (Rd (K, R, I, J, z) (.int (nI (b2 (hasTr a st)))))) 4 [(0, .ref (G.1 140)), (1, .int (nI st)), (2, .int (nI (b2 ((a.2.1.take k).any (isT st))))), (3, .int (nI k))] [] (K, R, I, J, z) 0 0 := by
    intro d
    induction d using Nat.strongRecOn with
    | _ d ih =>
    intro k hd hkl
    have hb := b2_le ((a.2.1.take k).any (isT st))
    refine aw_iload_n dX4_hasTrial_4 rfl ?_
    refine aw_aload_n dX4_hasTrial_5 rfl ?_
    refine aw_getR dX4_hasTrial_6 flX4_7 rfl (by assumption) (by assumption) ?_
    refine aw_bipush (v := nI 9) dX4_hasTrial_9 rfl ?_
    refine aw_iald dX4_hasTrial_11 (by assumption) (by omega) rfl (by omega) hM.2.1 ?_
    refine aw_icmp_geN (tgt := 51) dX4_hasTrial_12 (by decide) (by omega) (by omega) (fun hc12 => ?_) (fun hc12 => ?_)
    · refine aw_iload_n dX4_hasTrial_51 rfl ?_
      exact aw_zret dX4_hasTrial_52 rfl (nar01 hb) (Nat.zero_le _) (Nat.zero_le _) ⟨by rw [show k = a.2.1.length by omega, List.take_length]; rfl, rfl⟩
    · obtain ⟨c, hc⟩ : ∃ c, a.2.1[k]? = some c := ⟨_, List.getElem?_eq_getElem (by omega)⟩
      obtain ⟨hc0, hc3⟩ := hC c (List.mem_of_getElem? hc)
      refine aw_iload_n dX4_hasTrial_15 rfl ?_
      refine aw_if_neN (tgt := 39) dX4_hasTrial_16 (by decide) (by omega) (fun hc16 => ?_) (fun hc16 => ?_)
      · refine aw_iconst (v := nI 1) dX4_hasTrial_39 rfl ?_
        refine aw_goto (tgt := 44) dX4_hasTrial_40 (by decide) ?_
        refine aw_top (x' := nI (b2 ((a.2.1.take (k + 1)).any (isT st)))) (congrArg nI ?_) ?_
        · rw [any_take _ hc]
          first
          | exact at1 hc16
          | exact at2 hc26 hc36
          | exact at3 hc16 hc26
          | exact at4 hc16 hc36
        refine aw_istore_n (ls' := [(2, _), (0, _), (1, _), (3, _)]) dX4_hasTrial_44 (by decide) rfl ?_
        refine aw_iincN (k := 1) (ls' := [(3, _), (2, _), (0, _), (1, _)]) dX4_hasTrial_45 rfl rfl (by decide) rfl ?_
        refine aw_goto (tgt := 4) dX4_hasTrial_48 (by decide) ?_
        exact aw_pick [2, 3, 1, 0] rfl (ih (a.2.1.length - (k + 1)) (by omega) (k + 1) rfl (by omega))
      · refine aw_aload_n dX4_hasTrial_19 rfl ?_
        refine aw_iload_n dX4_hasTrial_20 rfl ?_
        refine aw_iconst (v := nI 0) dX4_hasTrial_21 rfl ?_
        refine aw_vRd dX4_hasTrial_22 cvX4_63 ⟨Nat.le_of_ble_eq_true rfl, Nat.le_of_ble_eq_true rfl⟩ (by assumption) ⟨_, rfl, rfl⟩ (r_callOfv (w := 0) (v := c 0) hL hM hc h16 (by decide) rfl) rfl rfl (Nat.le_of_ble_eq_true rfl) ⟨rfl, rfl⟩ ⟨Nat.zero_le _, Nat.zero_le _⟩ ?_
        refine aw_iload_n dX4_hasTrial_25 rfl ?_
        refine aw_icmp_neN (tgt := 43) dX4_hasTrial_26 (by decide) (by omega) (by omega) (fun hc26 => ?_) (fun hc26 => ?_)
        · refine aw_iconst (v := nI 0) dX4_hasTrial_43 rfl ?_
          refine aw_top (x' := nI (b2 ((a.2.1.take (k + 1)).any (isT st)))) (congrArg nI ?_) ?_
          · rw [any_take _ hc]
            first
            | exact at1 hc16
            | exact at2 hc26 hc36
            | exact at3 hc16 hc26
            | exact at4 hc16 hc36
          refine aw_istore_n (ls' := [(2, _), (0, _), (1, _), (3, _)]) dX4_hasTrial_44 (by decide) rfl ?_
          refine aw_iincN (k := 1) (ls' := [(3, _), (2, _), (0, _), (1, _)]) dX4_hasTrial_45 rfl rfl (by decide) rfl ?_
          refine aw_goto (tgt := 4) dX4_hasTrial_48 (by decide) ?_
          exact aw_pick [2, 3, 1, 0] rfl (ih (a.2.1.length - (k + 1)) (by omega) (k + 1) rfl (by omega))
        · refine aw_aload_n dX4_hasTrial_29 rfl ?_
          refine aw_iload_n dX4_hasTrial_30 rfl ?_
          refine aw_iconst (v := nI 3) dX4_hasTrial_31 rfl ?_
          refine aw_vRd dX4_hasTrial_32 cvX4_63 ⟨Nat.le_of_ble_eq_true rfl, Nat.le_of_ble_eq_true rfl⟩ (by assumption) ⟨_, rfl, rfl⟩ (r_callOfv (w := 3) (v := c 3) hL hM hc h16 (by decide) rfl) rfl rfl (Nat.le_of_ble_eq_true rfl) ⟨rfl, rfl⟩ ⟨Nat.zero_le _, Nat.zero_le _⟩ ?_
          refine aw_iconst (v := nI 1) dX4_hasTrial_35 rfl ?_
          refine aw_icmp_neN (tgt := 43) dX4_hasTrial_36 (by decide) (by omega) (by omega) (fun hc36 => ?_) (fun hc36 => ?_)
          · refine aw_iconst (v := nI 0) dX4_hasTrial_43 rfl ?_
            refine aw_top (x' := nI (b2 ((a.2.1.take (k + 1)).any (isT st)))) (congrArg nI ?_) ?_
            · rw [any_take _ hc]
              first
              | exact at1 hc16
              | exact at2 hc26 hc36
              | exact at3 hc16 hc26
              | exact at4 hc16 hc36
            refine aw_istore_n (ls' := [(2, _), (0, _), (1, _), (3, _)]) dX4_hasTrial_44 (by decide) rfl ?_
            refine aw_iincN (k := 1) (ls' := [(3, _), (2, _), (0, _), (1, _)]) dX4_hasTrial_45 rfl rfl (by decide) rfl ?_
            refine aw_goto (tgt := 4) dX4_hasTrial_48 (by decide) ?_
            exact aw_pick [2, 3, 1, 0] rfl (ih (a.2.1.length - (k + 1)) (by omega) (k + 1) rfl (by omega))
          · refine aw_iconst (v := nI 1) dX4_hasTrial_39 rfl ?_
            refine aw_goto (tgt := 44) dX4_hasTrial_40 (by decide) ?_
            refine aw_top (x' := nI (b2 ((a.2.1.take (k + 1)).any (isT st)))) (congrArg nI ?_) ?_
            · rw [any_take _ hc]
              first
              | exact at1 hc16
              | exact at2 hc26 hc36
              | exact at3 hc16 hc26
              | exact at4 hc16 hc36
            refine aw_istore_n (ls' := [(2, _), (0, _), (1, _), (3, _)]) dX4_hasTrial_44 (by decide) rfl ?_
            refine aw_iincN (k := 1) (ls' := [(3, _), (2, _), (0, _), (1, _)]) dX4_hasTrial_45 rfl rfl (by decide) rfl ?_
            refine aw_goto (tgt := 4) dX4_hasTrial_48 (by decide) ?_
            exact aw_pick [2, 3, 1, 0] rfl (ih (a.2.1.length - (k + 1)) (by omega) (k + 1) rfl (by omega))
  refine run_of (ls := [(0, .ref (G.1 140)), (1, .int (nI st))]) (by decide +kernel) rfl rfl (Nat.le_of_ble_eq_true rfl) ?_
  refine aw_iconst (v := nI 0) dX4_hasTrial_0 rfl ?_
  refine aw_istore_n (ls' := [(2, _), (0, _), (1, _)]) dX4_hasTrial_1 (by decide) rfl ?_
  refine aw_iconst (v := nI 0) dX4_hasTrial_2 rfl ?_
  refine aw_istore_n (ls' := [(3, _), (2, _), (0, _), (1, _)]) dX4_hasTrial_3 (by decide) rfl ?_
  exact aw_pick [2, 3, 1, 0] rfl (loop a.2.1.length 0 rfl (Nat.zero_le _))
theorem r_isRefused (hL : LM G K R) (hM : RM (I 141) a) {st b : Nat} (hst : st < 4) (h16 : a.2.1.length ≤ 16) (hC : ∀ c ∈ a.2.1, c 0 < 4 ∧ c 3 ≤ 1) (ht : RK b (a.2.2 st)) : Run G YX4_isRefused [.ref (G.1 140), .int (nI st)] (K, R, I, J, z) (Rd (K, R, I, J, z) (.int (nI (b2 (refd a st))))) := by
  obtain ⟨hk0, hr1, hk1, hr2, hk2, hr3, hk3, hr5, hk5, hr9, hk9⟩ := hL
  have hL : LM G K R := ⟨hk0, hr1, hk1, hr2, hk2, hr3, hk3, hr5, hk5, hr9, hk9⟩
  have h2 : a.2.2 st 2 ≤ 2 := ht.2.2.2.1
  have hb := b2_le (hasTr a st)
  refine run_of (ls := [(0, .ref (G.1 140)), (1, .int (nI st))]) (by decide +kernel) rfl rfl (Nat.le_of_ble_eq_true rfl) ?_
  refine aw_aload_n dX4_isRefused_0 rfl ?_
  refine aw_iload_n dX4_isRefused_1 rfl ?_
  refine aw_iconst (v := nI 2) dX4_isRefused_2 rfl ?_
  refine aw_vRd dX4_isRefused_3 cvX4_40 ⟨Nat.le_of_ble_eq_true rfl, Nat.le_of_ble_eq_true rfl⟩ (by assumption) ⟨_, rfl, rfl⟩ (r_of (w := 2) hL hM hst (by decide)) rfl rfl (Nat.le_of_ble_eq_true rfl) ⟨rfl, rfl⟩ ⟨Nat.zero_le _, Nat.zero_le _⟩ ?_
  refine aw_iconst (v := nI 1) dX4_isRefused_6 rfl ?_
  refine aw_icmp_eqN (tgt := 28) dX4_isRefused_7 (by decide) (by omega) (by omega) (fun hc7 => ?_) (fun hc7 => ?_)
  · refine aw_iconst (v := nI 1) dX4_isRefused_28 rfl ?_
    refine aw_goto (tgt := 33) dX4_isRefused_29 (by decide) ?_
    exact aw_zret dX4_isRefused_33 rfl (by first | rfl | exact nar01 hb) (Nat.zero_le _) (Nat.zero_le _) ⟨by
  first
  | exact congrArg (fun n => (Sum.inl (some (Value.int (nI n))) : RT)) (rf1 hc7)
  | exact congrArg (fun n => (Sum.inl (some (Value.int (nI n))) : RT)) (rf2 hc7 hc17)
  | exact congrArg (fun n => (Sum.inl (some (Value.int (nI n))) : RT)) (rf3 hc17), rfl⟩
  · refine aw_aload_n dX4_isRefused_10 rfl ?_
    refine aw_iload_n dX4_isRefused_11 rfl ?_
    refine aw_iconst (v := nI 2) dX4_isRefused_12 rfl ?_
    refine aw_vRd dX4_isRefused_13 cvX4_40 ⟨Nat.le_of_ble_eq_true rfl, Nat.le_of_ble_eq_true rfl⟩ (by assumption) ⟨_, rfl, rfl⟩ (r_of (w := 2) hL hM hst (by decide)) rfl rfl (Nat.le_of_ble_eq_true rfl) ⟨rfl, rfl⟩ ⟨Nat.zero_le _, Nat.zero_le _⟩ ?_
    refine aw_iconst (v := nI 2) dX4_isRefused_16 rfl ?_
    refine aw_icmp_neN (tgt := 32) dX4_isRefused_17 (by decide) (by omega) (by omega) (fun hc17 => ?_) (fun hc17 => ?_)
    · refine aw_iconst (v := nI 0) dX4_isRefused_32 rfl ?_
      exact aw_zret dX4_isRefused_33 rfl (by first | rfl | exact nar01 hb) (Nat.zero_le _) (Nat.zero_le _) ⟨by
  first
  | exact congrArg (fun n => (Sum.inl (some (Value.int (nI n))) : RT)) (rf1 hc7)
  | exact congrArg (fun n => (Sum.inl (some (Value.int (nI n))) : RT)) (rf2 hc7 hc17)
  | exact congrArg (fun n => (Sum.inl (some (Value.int (nI n))) : RT)) (rf3 hc17), rfl⟩
    · refine aw_aload_n dX4_isRefused_20 rfl ?_
      refine aw_iload_n dX4_isRefused_21 rfl ?_
      refine aw_vRd dX4_isRefused_22 cvX4_66 ⟨Nat.le_of_ble_eq_true rfl, Nat.le_of_ble_eq_true rfl⟩ (by assumption) ⟨_, rfl, rfl⟩ (r_hasTrial hL hM hst h16 hC) rfl rfl (Nat.le_of_ble_eq_true rfl) ⟨rfl, rfl⟩ ⟨Nat.zero_le _, Nat.zero_le _⟩ ?_
      refine aw_dia (tgt := 32) (jn := 33) (c1 := 1) (c0 := 0) dX4_isRefused_25 (by decide) dX4_isRefused_28 rfl dX4_isRefused_29 (by decide) dX4_isRefused_32 rfl rfl (by omega) (dia01 hb) ?_
      exact aw_zret dX4_isRefused_33 rfl (by first | rfl | exact nar01 hb) (Nat.zero_le _) (Nat.zero_le _) ⟨by
  first
  | exact congrArg (fun n => (Sum.inl (some (Value.int (nI n))) : RT)) (rf1 hc7)
  | exact congrArg (fun n => (Sum.inl (some (Value.int (nI n))) : RT)) (rf2 hc7 hc17)
  | exact congrArg (fun n => (Sum.inl (some (Value.int (nI n))) : RT)) (rf3 hc17), rfl⟩
end MODEL4
end
section
/-! THE REFERENCE: a call -/
/-- behind the calls on their way anything may lie -/
theorem RM_sl {f f' : Nat → Int32} {a : AA} {i : Nat} {v : Int32} (hM : RM f a) (hi : 10 + 5 * a.2.1.length ≤ i) (hi2 : i < 90) (hf : ∀ j, f' j = if j = i then v else f j) : RM f' a := by
  obtain ⟨h1, h2, h3, h4⟩ := hM
  refine ⟨fun k hk => ?_, ?_, fun p c hp w hw => ?_, fun s hs w hw => ?_⟩
  · rw [hf, if_neg (by omega)]; exact h1 k hk
  · rw [hf, if_neg (by omega)]; exact h2
  · have hpl := (List.getElem?_eq_some_iff.mp hp).1
    rw [hf, if_neg (by omega)]; exact h3 p c hp w hw
  · rw [hf, if_neg (by omega)]; exact h4 s hs w hw
theorem RM_push {f f' : Nat → Int32} {a : AA} {c : Cl} (hM : RM f a) (hl : a.2.1.length < 16) (hc : ∀ w, w < 5 → f (10 + 5 * a.2.1.length + w) = nI (c w)) (hf : ∀ j, f' j = if j = 9 then nI (a.2.1.length + 1) else f j) : RM f' (a.1, a.2.1 ++ [c], a.2.2) := by
  obtain ⟨h1, h2, h3, h4⟩ := hM
  refine ⟨fun k hk => ?_, ?_, fun p c' hp w hw => ?_, fun s hs w hw => ?_⟩
  · rw [hf, if_neg (by omega)]; exact h1 k hk
  · rw [hf, if_pos rfl]; simp
  · rw [hf, if_neg (by omega)]
    have hp : (a.2.1 ++ [c])[p]? = some c' := hp
    by_cases e : p < a.2.1.length
    · rw [List.getElem?_append_left e] at hp
      exact h3 p c' hp w hw
    · rw [List.getElem?_append_right (by omega)] at hp
      have hz : p - a.2.1.length < 1 := (List.getElem?_eq_some_iff.mp hp).1
      have hpe : p = a.2.1.length := by omega
      subst hpe
      rw [Nat.sub_self] at hp
      cases hp
      exact hc w hw
  · rw [hf, if_neg (by omega)]; exact h4 s hs w hw
theorem callA_r {a : AA} {st : Nat} (h : refd a st = true) : callA a st = (a.1, a.2.1, sT a.2.2 st (u1 (a.2.2 st) 8 (a.2.2 st 8 + 1))) := by unfold callA; rw [if_pos h]
theorem callA_0 {a : AA} {st : Nat} (h : refd a st = false) (hd : a.2.2 st (12 + a.2.2 st 1) = 0) : callA a st = outA (u1 a.1 8 (a.1 8 + trN a st), a.2.1, sT a.2.2 st (thruR (a.2.2 st))) st 0 (trN a st) (a.2.2 st 11) := by
  unfold callA; rw [if_neg (by simp [h]), if_pos hd]
theorem callA_1 {a : AA} {st : Nat} (h : refd a st = false) (hd : a.2.2 st (12 + a.2.2 st 1) ≠ 0) : callA a st = (u1 a.1 8 (a.1 8 + trN a st), a.2.1 ++ [mkC st (a.2.2 st (12 + a.2.2 st 1)) (trN a st) (a.2.2 st 11)], sT a.2.2 st (thruR (a.2.2 st))) := by
  unfold callA; rw [if_neg (by simp [h]), if_neg hd]
theorem callN_r {a : AA} {st : Nat} (h : refd a st = true) : callN a st = 0 := by unfold callN; rw [if_pos h]
theorem callN_t {a : AA} {st : Nat} (h : refd a st = false) : callN a st = trN a st + 1 := by unfold callN; rw [if_neg (by simp [h])]
theorem trN_le (a : AA) (st : Nat) : trN a st ≤ 1 := by unfold trN; split <;> omega
theorem RK.thru {b : Nat} {t : Rw} (h : RK b t) : RK b (thruR t) := by
  obtain ⟨h0, h1, h2, h3, h4, h5, h6, h7, h8, h9, h10, h11, h12⟩ := h
  refine ⟨h0, h1, Nat.mod_lt _ h0, h3, h4, h5, h6, h7, h8, h9, h10, h11, fun j hj => ?_⟩
  show u1 (u1 t 1 _) 7 _ (12 + j) ≤ 99
  rw [u1_n (by omega), u1_n (by omega)]; exact h12 j hj
theorem cN_eq {a : AA} {st : Nat} (h : refd a st = false) : (if trN a st = 0 then 1 else 2) = callN a st := by
  rw [callN_t h]
  have := trN_le a st
  rcases (show trN a st = 0 ∨ trN a st = 1 by omega) with q | q <;> rw [q] <;> rfl
section MODEL5
variable {G : GG} {K : Nat → Option (Nat × Nat)} {R : Nat → Nat → Value} {I : Nat → Nat → Int32} {J : Nat → Nat → Int64} {z : Nat} {σ : Sg} {a : AA} {m k : Nat}
theorem r_calls (hL : LM G K R) (hM : RM (I 141) a) {st b : Nat} (hst : st < 4) (hg : SK a.1) (h16 : a.2.1.length ≤ 16) (hroom : refd a st = true ∨ a.2.1.length < 16) (hC : ∀ c ∈ a.2.1, c 0 < 4 ∧ c 3 ≤ 1) (ht : RK b (a.2.2 st)) (hb : b ≤ 1000000000) : Run G YX4_calls [.ref (G.1 140), .int (nI st)] (K, R, I, J, z) (Up K R J z (some (.int (nI (callN a st)))) (fun I' => RM (I' 141) (callA a st) ∧ FrO 141 I I')) := by
  obtain ⟨hk0, hr1, hk1, hr2, hk2, hr3, hk3, hr5, hk5, hr9, hk9⟩ := hL
  have hL : LM G K R := ⟨hk0, hr1, hk1, hr2, hk2, hr3, hk3, hr5, hk5, hr9, hk9⟩
  have h2 : a.2.2 st 2 ≤ 2 := ht.2.2.2.1
  have h0 : 1 ≤ a.2.2 st 0 := ht.1
  have h0' : a.2.2 st 0 ≤ 20 := ht.2.1
  have h1 : a.2.2 st 1 < a.2.2 st 0 := ht.2.2.1
  have h11 : a.2.2 st 11 ≤ b := ht.2.2.2.2.2.2.2.2.2.2.2.1
  have hdel : a.2.2 st (12 + a.2.2 st 1) ≤ 99 := ht.2.2.2.2.2.2.2.2.2.2.2.2 _ (by omega)
  have hb1 := b2_le (refd a st)
  have htr := trN_le a st
  have key : refd a st = false → AW G YX4_calls (MZ G YX4_calls (Up K R J z (some (.int (nI (callN a st)))) (fun I' => RM (I' 141) (callA a st) ∧ FrO 141 I I'))) 33 [(0, .ref (G.1 140)), (1, .int (nI st)), (2, .int (nI (trN a st)))] [] (K, R, I, J, z) 0 0 := by
    intro hrf
    have hl : a.2.1.length < 16 := by
      rcases hroom with q | q
      · rw [hrf] at q; cases q
      · exact q
    refine aw_aload_n dX4_calls_33 rfl ?_
    refine aw_iload_n dX4_calls_34 rfl ?_
    refine aw_bipush (v := nI 12) dX4_calls_35 rfl ?_
    refine aw_aload_n dX4_calls_37 rfl ?_
    refine aw_iload_n dX4_calls_38 rfl ?_
    refine aw_iconst (v := nI 1) dX4_calls_39 rfl ?_
    refine aw_vRd dX4_calls_40 cvX4_40 ⟨Nat.le_of_ble_eq_true rfl, Nat.le_of_ble_eq_true rfl⟩ (by assumption) ⟨_, rfl, rfl⟩ (r_of (w := 1) hL hM hst (by decide)) rfl rfl (Nat.le_of_ble_eq_true rfl) ⟨rfl, rfl⟩ ⟨Nat.zero_le _, Nat.zero_le _⟩ ?_
    first | refine aw_iaddN dX4_calls_43 ?_ | refine aw_iadd dX4_calls_43 ?_
    refine aw_vRd dX4_calls_44 cvX4_40 ⟨Nat.le_of_ble_eq_true rfl, Nat.le_of_ble_eq_true rfl⟩ (by assumption) ⟨_, rfl, rfl⟩ (r_of (w := 12 + a.2.2 st 1) hL hM hst (by omega)) rfl rfl (Nat.le_of_ble_eq_true rfl) ⟨rfl, rfl⟩ ⟨Nat.zero_le _, Nat.zero_le _⟩ ?_
    refine aw_istore_n (ls' := [(3, _), (0, _), (1, _), (2, _)]) dX4_calls_47 (by decide) rfl ?_
    refine aw_aload_n dX4_calls_48 rfl ?_
    refine aw_iload_n dX4_calls_49 rfl ?_
    refine aw_iconst (v := nI 1) dX4_calls_50 rfl ?_
    refine aw_aload_n dX4_calls_51 rfl ?_
    refine aw_iload_n dX4_calls_52 rfl ?_
    refine aw_iconst (v := nI 1) dX4_calls_53 rfl ?_
    refine aw_vRd dX4_calls_54 cvX4_40 ⟨Nat.le_of_ble_eq_true rfl, Nat.le_of_ble_eq_true rfl⟩ (by assumption) ⟨_, rfl, rfl⟩ (r_of (w := 1) hL hM hst (by decide)) rfl rfl (Nat.le_of_ble_eq_true rfl) ⟨rfl, rfl⟩ ⟨Nat.zero_le _, Nat.zero_le _⟩ ?_
    refine aw_iconst (v := nI 1) dX4_calls_57 rfl ?_
    first | refine aw_iaddN dX4_calls_58 ?_ | refine aw_iadd dX4_calls_58 ?_
    refine aw_aload_n dX4_calls_59 rfl ?_
    refine aw_iload_n dX4_calls_60 rfl ?_
    refine aw_iconst (v := nI 0) dX4_calls_61 rfl ?_
    refine aw_vRd dX4_calls_62 cvX4_40 ⟨Nat.le_of_ble_eq_true rfl, Nat.le_of_ble_eq_true rfl⟩ (by assumption) ⟨_, rfl, rfl⟩ (r_of (w := 0) hL hM hst (by decide)) rfl rfl (Nat.le_of_ble_eq_true rfl) ⟨rfl, rfl⟩ ⟨Nat.zero_le _, Nat.zero_le _⟩ ?_
    refine aw_iremN dX4_calls_65 (by omega) (by omega) (by omega) ?_
    refine aw_vUp0 dX4_calls_66 cvX4_29 ⟨Nat.le_of_ble_eq_true rfl, Nat.le_of_ble_eq_true rfl⟩ (by assumption) ⟨_, rfl, rfl⟩ (r_lay (w := 1) hL hM h16 hst (by decide)) rfl rfl (Nat.le_of_ble_eq_true rfl) ⟨rfl, rfl⟩ ⟨Nat.zero_le _, Nat.zero_le _⟩ (fun I66 hP66 => ?_)
    refine aw_aload_n dX4_calls_69 rfl ?_
    refine aw_iload_n dX4_calls_70 rfl ?_
    refine aw_bipush (v := nI 7) dX4_calls_71 rfl ?_
    refine aw_vUp0 dX4_calls_73 cvX4_48 ⟨Nat.le_of_ble_eq_true rfl, Nat.le_of_ble_eq_true rfl⟩ (by assumption) ⟨_, rfl, rfl⟩ (r_adds (w := 7) hL hP66.1 h16 hst (by decide)) rfl rfl (Nat.le_of_ble_eq_true rfl) ⟨rfl, rfl⟩ ⟨Nat.zero_le _, Nat.zero_le _⟩ (fun I73 hP73 => ?_)
    have hM7 : RM (I73 141) (a.1, a.2.1, sT a.2.2 st (thruR (a.2.2 st))) := by
      have h := hP73.1
      simp only [sT_sT, sT_s] at h
      exact h
    have hF7 : FrO 141 I I73 := hP66.2.tr hP73.2
    refine aw_aload_n dX4_calls_76 rfl ?_
    refine aw_getR dX4_calls_77 flX4_7 rfl (by assumption) (by assumption) ?_
    refine aw_bipush (v := nI 8) dX4_calls_80 rfl ?_
    refine aw_dup2 dX4_calls_82 rfl rfl ?_
    refine aw_iald dX4_calls_83 (by assumption) (by omega) rfl (by omega) (hM7.1 8 (by decide)) ?_
    refine aw_iload_n dX4_calls_84 rfl ?_
    refine aw_dia (tgt := 92) (jn := 93) (c1 := 1) (c0 := 0) dX4_calls_85 (by decide) dX4_calls_88 rfl dX4_calls_89 (by decide) dX4_calls_92 rfl rfl (by omega) (dia01 htr) ?_
    first | refine aw_iaddN dX4_calls_93 ?_ | refine aw_iadd dX4_calls_93 ?_
    refine aw_iast dX4_calls_94 (by assumption) (by omega) (by omega) rfl (by omega) ?_
    have hM8 : RM (up2 I73 141 8 (nI (a.1 8 + trN a st)) 141) (u1 a.1 8 (a.1 8 + trN a st), a.2.1, sT a.2.2 st (thruR (a.2.2 st))) := RM_g hM7 (by decide) (fun j => up2_o)
    have hF8 : FrO 141 I (up2 I73 141 8 (nI (a.1 8 + trN a st))) := hF7.tr FrO.up
    generalize up2 I73 141 8 (nI (a.1 8 + trN a st)) = I8 at hM8 hF8 ⊢
    have hg8 : SK (u1 a.1 8 (a.1 8 + trN a st)) := hg
    have ht8 : RK b (sT a.2.2 st (thruR (a.2.2 st)) st) := by rw [sT_s]; exact ht.thru
    have hrow11 : sT a.2.2 st (thruR (a.2.2 st)) st 11 = a.2.2 st 11 := by rw [sT_s]; rfl
    refine aw_iload_n dX4_calls_95 rfl ?_
    refine aw_if_neN (tgt := 116) dX4_calls_96 (by decide) (by omega) (fun hc96 => ?_) (fun hc96 => ?_)
    · refine aw_bipush (v := nI 10) dX4_calls_116 rfl ?_
      refine aw_iconst (v := nI 5) dX4_calls_118 rfl ?_
      refine aw_aload_n dX4_calls_119 rfl ?_
      refine aw_getR dX4_calls_120 flX4_7 rfl (by assumption) (by assumption) ?_
      refine aw_bipush (v := nI 9) dX4_calls_123 rfl ?_
      refine aw_iald dX4_calls_125 (by assumption) (by omega) rfl (by omega) (show _ = nI a.2.1.length from hM8.2.1) ?_
      first | refine aw_imulN dX4_calls_126 ?_ | refine aw_imul dX4_calls_126 ?_
      first | refine aw_iaddN dX4_calls_127 ?_ | refine aw_iadd dX4_calls_127 ?_
      refine aw_istore (ls' := [(4, _), (3, _), (0, _), (1, _), (2, _)]) dX4_calls_128 (by decide) rfl ?_
      refine aw_aload_n dX4_calls_130 rfl ?_
      refine aw_getR dX4_calls_131 flX4_7 rfl (by assumption) (by assumption) ?_
      refine aw_iload dX4_calls_134 rfl ?_
      refine aw_iconst (v := nI 0) dX4_calls_136 rfl ?_
      first | refine aw_iaddN dX4_calls_137 ?_ | refine aw_iadd dX4_calls_137 ?_
      refine aw_iload_n dX4_calls_138 rfl ?_
      refine aw_iast dX4_calls_139 (by assumption) (by omega) (by omega) rfl (by omega) ?_
      refine aw_aload_n dX4_calls_140 rfl ?_
      refine aw_getR dX4_calls_141 flX4_7 rfl (by assumption) (by assumption) ?_
      refine aw_iload dX4_calls_144 rfl ?_
      refine aw_iconst (v := nI 1) dX4_calls_146 rfl ?_
      first | refine aw_iaddN dX4_calls_147 ?_ | refine aw_iadd dX4_calls_147 ?_
      refine aw_iload_n dX4_calls_148 rfl ?_
      refine aw_iast dX4_calls_149 (by assumption) (by omega) (by omega) rfl (by omega) ?_
      refine aw_aload_n dX4_calls_150 rfl ?_
      refine aw_getR dX4_calls_151 flX4_7 rfl (by assumption) (by assumption) ?_
      refine aw_iload dX4_calls_154 rfl ?_
      refine aw_iconst (v := nI 2) dX4_calls_156 rfl ?_
      first | refine aw_iaddN dX4_calls_157 ?_ | refine aw_iadd dX4_calls_157 ?_
      refine aw_iload_n dX4_calls_158 rfl ?_
      refine aw_iast dX4_calls_159 (by assumption) (by omega) (by omega) rfl (by omega) ?_
      refine aw_aload_n dX4_calls_160 rfl ?_
      refine aw_getR dX4_calls_161 flX4_7 rfl (by assumption) (by assumption) ?_
      refine aw_iload dX4_calls_164 rfl ?_
      refine aw_iconst (v := nI 3) dX4_calls_166 rfl ?_
      first | refine aw_iaddN dX4_calls_167 ?_ | refine aw_iadd dX4_calls_167 ?_
      refine aw_iload_n dX4_calls_168 rfl ?_
      refine aw_dia (tgt := 176) (jn := 177) (c1 := 1) (c0 := 0) dX4_calls_169 (by decide) dX4_calls_172 rfl dX4_calls_173 (by decide) dX4_calls_176 rfl rfl (by omega) (dia01 htr) ?_
      refine aw_iast dX4_calls_177 (by assumption) (by omega) (by omega) rfl (by omega) ?_
      have q1 := RM_sl (f' := up2 I8 141 (10 + 5 * a.2.1.length + 0) (nI st) 141) hM8 (by show 10 + 5 * a.2.1.length ≤ _; omega) (by omega) (fun j => up2_o)
      have q2 := RM_sl (f' := up2 (up2 I8 141 (10 + 5 * a.2.1.length + 0) (nI st)) 141 (10 + 5 * a.2.1.length + 1) (nI (a.2.2 st (12 + a.2.2 st 1))) 141) q1 (by show 10 + 5 * a.2.1.length ≤ _; omega) (by omega) (fun j => up2_o)
      have q3 := RM_sl (f' := up2 (up2 (up2 I8 141 (10 + 5 * a.2.1.length + 0) (nI st)) 141 (10 + 5 * a.2.1.length + 1) (nI (a.2.2 st (12 + a.2.2 st 1)))) 141 (10 + 5 * a.2.1.length + 2) (nI (a.2.2 st (12 + a.2.2 st 1))) 141) q2 (by show 10 + 5 * a.2.1.length ≤ _; omega) (by omega) (fun j => up2_o)
      have hM9 := RM_sl (f' := up2 (up2 (up2 (up2 I8 141 (10 + 5 * a.2.1.length + 0) (nI st)) 141 (10 + 5 * a.2.1.length + 1) (nI (a.2.2 st (12 + a.2.2 st 1)))) 141 (10 + 5 * a.2.1.length + 2) (nI (a.2.2 st (12 + a.2.2 st 1)))) 141 (10 + 5 * a.2.1.length + 3) (nI (trN a st)) 141) q3 (by show 10 + 5 * a.2.1.length ≤ _; omega) (by omega) (fun j => up2_o)
      have hw9 : ∀ w, w < 4 → up2 (up2 (up2 (up2 I8 141 (10 + 5 * a.2.1.length + 0) (nI st)) 141 (10 + 5 * a.2.1.length + 1) (nI (a.2.2 st (12 + a.2.2 st 1)))) 141 (10 + 5 * a.2.1.length + 2) (nI (a.2.2 st (12 + a.2.2 st 1)))) 141 (10 + 5 * a.2.1.length + 3) (nI (trN a st)) 141 (10 + 5 * a.2.1.length + w) = nI (mkC st (a.2.2 st (12 + a.2.2 st 1)) (trN a st) (a.2.2 st 11) w) := by
        intro w hw
        rcases (show w = 0 ∨ w = 1 ∨ w = 2 ∨ w = 3 by omega) with rfl | rfl | rfl | rfl <;> simp [up2, mkC]
      have hF9 : FrO 141 I (up2 (up2 (up2 (up2 I8 141 (10 + 5 * a.2.1.length + 0) (nI st)) 141 (10 + 5 * a.2.1.length + 1) (nI (a.2.2 st (12 + a.2.2 st 1)))) 141 (10 + 5 * a.2.1.length + 2) (nI (a.2.2 st (12 + a.2.2 st 1)))) 141 (10 + 5 * a.2.1.length + 3) (nI (trN a st))) := hF8.tr (FrO.up.tr (FrO.up.tr (FrO.up.tr FrO.up)))
      generalize up2 (up2 (up2 (up2 I8 141 (10 + 5 * a.2.1.length + 0) (nI st)) 141 (10 + 5 * a.2.1.length + 1) (nI (a.2.2 st (12 + a.2.2 st 1)))) 141 (10 + 5 * a.2.1.length + 2) (nI (a.2.2 st (12 + a.2.2 st 1)))) 141 (10 + 5 * a.2.1.length + 3) (nI (trN a st)) = I9 at hM9 hw9 hF9 ⊢
      clear q1 q2 q3
      refine aw_aload_n dX4_calls_178 rfl ?_
      refine aw_getR dX4_calls_179 flX4_7 rfl (by assumption) (by assumption) ?_
      refine aw_iload dX4_calls_182 rfl ?_
      refine aw_iconst (v := nI 4) dX4_calls_184 rfl ?_
      first | refine aw_iaddN dX4_calls_185 ?_ | refine aw_iadd dX4_calls_185 ?_
      refine aw_aload_n dX4_calls_186 rfl ?_
      refine aw_iload_n dX4_calls_187 rfl ?_
      refine aw_bipush (v := nI 11) dX4_calls_188 rfl ?_
      refine aw_vRd dX4_calls_190 cvX4_40 ⟨Nat.le_of_ble_eq_true rfl, Nat.le_of_ble_eq_true rfl⟩ (by assumption) ⟨_, rfl, rfl⟩ (r_ofv (w := 11) (v := a.2.2 st 11) hL hM9 hst (by decide) hrow11) rfl rfl (Nat.le_of_ble_eq_true rfl) ⟨rfl, rfl⟩ ⟨Nat.zero_le _, Nat.zero_le _⟩ ?_
      refine aw_iast dX4_calls_193 (by assumption) (by omega) (by omega) rfl (by omega) ?_
      have hM10 := RM_sl (f' := up2 I9 141 (10 + 5 * a.2.1.length + 4) (nI (a.2.2 st 11)) 141) hM9 (by show 10 + 5 * a.2.1.length ≤ _; omega) (by omega) (fun j => up2_o)
      have hw10 : ∀ w, w < 5 → up2 I9 141 (10 + 5 * a.2.1.length + 4) (nI (a.2.2 st 11)) 141 (10 + 5 * a.2.1.length + w) = nI (mkC st (a.2.2 st (12 + a.2.2 st 1)) (trN a st) (a.2.2 st 11) w) := by
        intro w hw
        rw [up2_o]
        by_cases e : w = 4
        · subst e; rw [if_pos rfl]; rfl
        · rw [if_neg (by omega)]; exact hw9 w (by omega)
      have hF10 : FrO 141 I (up2 I9 141 (10 + 5 * a.2.1.length + 4) (nI (a.2.2 st 11))) := hF9.tr FrO.up
      generalize up2 I9 141 (10 + 5 * a.2.1.length + 4) (nI (a.2.2 st 11)) = I10 at hM10 hw10 hF10 ⊢
      refine aw_aload_n dX4_calls_194 rfl ?_
      refine aw_getR dX4_calls_195 flX4_7 rfl (by assumption) (by assumption) ?_
      refine aw_bipush (v := nI 9) dX4_calls_198 rfl ?_
      refine aw_dup2 dX4_calls_200 rfl rfl ?_
      refine aw_iald dX4_calls_201 (by assumption) (by omega) rfl (by omega) (show _ = nI a.2.1.length from hM10.2.1) ?_
      refine aw_iconst (v := nI 1) dX4_calls_202 rfl ?_
      first | refine aw_iaddN dX4_calls_203 ?_ | refine aw_iadd dX4_calls_203 ?_
      refine aw_iast dX4_calls_204 (by assumption) (by omega) (by omega) rfl (by omega) ?_
      refine aw_iload_n dX4_calls_205 rfl ?_
      refine aw_dia (tgt := 213) (jn := 214) (c1 := 2) (c0 := 1) dX4_calls_206 (by decide) dX4_calls_209 rfl dX4_calls_210 (by decide) dX4_calls_213 rfl rfl (by omega) rfl ?_
      refine aw_iret dX4_calls_214 rfl (Nat.zero_le _) (Nat.zero_le _) ?_
      first
      | exact ⟨congrArg (fun n => (Sum.inl (some (Value.int (nI n))) : RT)) (cN_eq hrf), _, rfl, by rw [callA_1 hrf hc96]; exact RM_push hM10 hl hw10 (fun j => up2_o), hF10.tr FrO.up⟩
      | exact ⟨congrArg (fun n => (Sum.inl (some (Value.int (nI n))) : RT)) (cN_eq hrf), I110, rfl, by rw [callA_0 hrf hc96]; exact hP110.1, hF8.tr hP110.2⟩
    · refine aw_aload_n dX4_calls_99 rfl ?_
      refine aw_iload_n dX4_calls_100 rfl ?_
      refine aw_iconst (v := nI 0) dX4_calls_101 rfl ?_
      refine aw_iload_n dX4_calls_102 rfl ?_
      refine aw_aload_n dX4_calls_103 rfl ?_
      refine aw_iload_n dX4_calls_104 rfl ?_
      refine aw_bipush (v := nI 11) dX4_calls_105 rfl ?_
      refine aw_vRd dX4_calls_107 cvX4_40 ⟨Nat.le_of_ble_eq_true rfl, Nat.le_of_ble_eq_true rfl⟩ (by assumption) ⟨_, rfl, rfl⟩ (r_ofv (w := 11) (v := a.2.2 st 11) hL hM8 hst (by decide) hrow11) rfl rfl (Nat.le_of_ble_eq_true rfl) ⟨rfl, rfl⟩ ⟨Nat.zero_le _, Nat.zero_le _⟩ ?_
      refine aw_vUp0 dX4_calls_110 cvX4_73 ⟨Nat.le_of_ble_eq_true rfl, Nat.le_of_ble_eq_true rfl⟩ (by assumption) ⟨_, rfl, rfl⟩ (r_comesOut (b := b) (d := 0) (tr := trN a st) (since := a.2.2 st 11) hL hM8 h16 hst hg8 ht8 (by decide) htr (by omega) hb) rfl rfl (Nat.le_of_ble_eq_true rfl) ⟨rfl, rfl⟩ ⟨Nat.zero_le _, Nat.zero_le _⟩ (fun I110 hP110 => ?_)
      refine aw_goto (tgt := 205) dX4_calls_113 (by decide) ?_
      refine aw_iload_n dX4_calls_205 rfl ?_
      refine aw_dia (tgt := 213) (jn := 214) (c1 := 2) (c0 := 1) dX4_calls_206 (by decide) dX4_calls_209 rfl dX4_calls_210 (by decide) dX4_calls_213 rfl rfl (by omega) rfl ?_
      refine aw_iret dX4_calls_214 rfl (Nat.zero_le _) (Nat.zero_le _) ?_
      first
      | exact ⟨congrArg (fun n => (Sum.inl (some (Value.int (nI n))) : RT)) (cN_eq hrf), _, rfl, by rw [callA_1 hrf hc96]; exact RM_push hM10 hl hw10 (fun j => up2_o), hF10.tr FrO.up⟩
      | exact ⟨congrArg (fun n => (Sum.inl (some (Value.int (nI n))) : RT)) (cN_eq hrf), I110, rfl, by rw [callA_0 hrf hc96]; exact hP110.1, hF8.tr hP110.2⟩
  refine run_of (ls := [(0, .ref (G.1 140)), (1, .int (nI st))]) (by decide +kernel) rfl rfl (Nat.le_of_ble_eq_true rfl) ?_
  refine aw_aload_n dX4_calls_0 rfl ?_
  refine aw_iload_n dX4_calls_1 rfl ?_
  refine aw_vRd dX4_calls_2 cvX4_70 ⟨Nat.le_of_ble_eq_true rfl, Nat.le_of_ble_eq_true rfl⟩ (by assumption) ⟨_, rfl, rfl⟩ (r_isRefused hL hM hst h16 hC ht) rfl rfl (Nat.le_of_ble_eq_true rfl) ⟨rfl, rfl⟩ ⟨Nat.zero_le _, Nat.zero_le _⟩ ?_
  refine aw_if_eqN (tgt := 17) dX4_calls_5 (by decide) (by omega) (fun hc5 => ?_) (fun hc5 => ?_)
  · refine aw_aload_n dX4_calls_17 rfl ?_
    refine aw_iload_n dX4_calls_18 rfl ?_
    refine aw_iconst (v := nI 2) dX4_calls_19 rfl ?_
    refine aw_vRd dX4_calls_20 cvX4_40 ⟨Nat.le_of_ble_eq_true rfl, Nat.le_of_ble_eq_true rfl⟩ (by assumption) ⟨_, rfl, rfl⟩ (r_of (w := 2) hL hM hst (by decide)) rfl rfl (Nat.le_of_ble_eq_true rfl) ⟨rfl, rfl⟩ ⟨Nat.zero_le _, Nat.zero_le _⟩ ?_
    refine aw_iconst (v := nI 2) dX4_calls_23 rfl ?_
    refine aw_icmp_neN (tgt := 31) dX4_calls_24 (by decide) (by omega) (by omega) (fun hc24 => ?_) (fun hc24 => ?_)
    · refine aw_iconst (v := nI 0) dX4_calls_31 rfl ?_
      refine aw_top (x' := nI (trN a st)) (congrArg nI (by unfold trN; first | rw [if_pos hc24] | rw [if_neg hc24])) ?_
      refine aw_istore_n (ls' := [(2, _), (0, _), (1, _)]) dX4_calls_32 (by decide) rfl ?_
      exact aw_pick [1, 2, 0] rfl (key (b2_0.mp hc5))
    · refine aw_iconst (v := nI 1) dX4_calls_27 rfl ?_
      refine aw_goto (tgt := 32) dX4_calls_28 (by decide) ?_
      refine aw_top (x' := nI (trN a st)) (congrArg nI (by unfold trN; first | rw [if_pos hc24] | rw [if_neg hc24])) ?_
      refine aw_istore_n (ls' := [(2, _), (0, _), (1, _)]) dX4_calls_32 (by decide) rfl ?_
      exact aw_pick [1, 2, 0] rfl (key (b2_0.mp hc5))
  · refine aw_aload_n dX4_calls_8 rfl ?_
    refine aw_iload_n dX4_calls_9 rfl ?_
    refine aw_bipush (v := nI 8) dX4_calls_10 rfl ?_
    refine aw_vUp0 dX4_calls_12 cvX4_48 ⟨Nat.le_of_ble_eq_true rfl, Nat.le_of_ble_eq_true rfl⟩ (by assumption) ⟨_, rfl, rfl⟩ (r_adds (w := 8) hL hM h16 hst (by decide)) rfl rfl (Nat.le_of_ble_eq_true rfl) ⟨rfl, rfl⟩ ⟨Nat.zero_le _, Nat.zero_le _⟩ (fun I12 hP12 => ?_)
    refine aw_iconst (v := nI 0) dX4_calls_15 rfl ?_
    have hrf : refd a st = true := by
      cases hq : refd a st
      · exact absurd (b2_f hq) hc5
      · rfl
    exact aw_iret dX4_calls_16 rfl (Nat.zero_le _) (Nat.zero_le _) ⟨congrArg (fun n => (Sum.inl (some (Value.int (nI n))) : RT)) (callN_r hrf).symm, I12, rfl, by rw [callA_r hrf]; exact hP12.1, hP12.2⟩
end MODEL5
end
section
/-! THE REFERENCE: a call is dropped -/
theorem RM_drop {f f' : Nat → Int32} {g : Nat → Nat} {T : Nat → Rw} {L1 L2 : List Cl} {c : Cl} (hM : RM f (g, L1 ++ c :: L2, T)) (h16 : (L1 ++ c :: L2).length ≤ 16) (hf : ∀ j, f' j = if 10 + 5 * L1.length ≤ j ∧ j < 10 + 5 * (L1 ++ L2).length then f (j + 5) else if j = 9 then nI (L1 ++ L2).length else f j) : RM f' (g, L1 ++ L2, T) := by
  obtain ⟨h1, h2, h3, h4⟩ := hM
  have hl : (L1 ++ c :: L2).length = (L1 ++ L2).length + 1 := by simp [Nat.add_assoc]
  have hl1 : L1.length ≤ (L1 ++ L2).length := by simp
  refine ⟨fun k hk => ?_, ?_, fun p c' hp w hw => ?_, fun s hs w hw => ?_⟩
  · rw [hf, if_neg (by omega), if_neg (by omega)]; exact h1 k hk
  · rw [hf, if_neg (by omega), if_pos rfl]
  · have hp : (L1 ++ L2)[p]? = some c' := hp
    have hpl := (List.getElem?_eq_some_iff.mp hp).1
    by_cases e : p < L1.length
    · rw [hf, if_neg (by omega), if_neg (by omega)]
      refine h3 p c' ?_ w hw
      show (L1 ++ c :: L2)[p]? = some c'
      rw [List.getElem?_append_left e] at hp ⊢; exact hp
    · rw [hf, if_pos (by omega)]
      have h := h3 (p + 1) c' (by
        show (L1 ++ c :: L2)[p + 1]? = some c'
        rw [List.getElem?_append_right (by omega)] at hp ⊢
        rw [show p + 1 - L1.length = (p - L1.length) + 1 by omega, List.getElem?_cons_succ]; exact hp) w hw
      rw [show 10 + 5 * p + w + 5 = 10 + 5 * (p + 1) + w by omega]; exact h
  · rw [hf, if_neg (by omega), if_neg (by omega)]; exact h4 s hs w hw
section MODEL6
variable {G : GG} {K : Nat → Option (Nat × Nat)} {R : Nat → Nat → Value} {I : Nat → Nat → Int32} {J : Nat → Nat → Int64} {z : Nat} {σ : Sg} {a : AA} {m k : Nat}
theorem r_drops (hL : LM G K R) {g : Nat → Nat} {T : Nat → Rw} {L1 L2 : List Cl} {c : Cl} {p : Nat} (hp : p = L1.length) (hM : RM (I 141) (g, L1 ++ c :: L2, T)) (h16 : (L1 ++ c :: L2).length ≤ 16) : Run G YX4_drops [.ref (G.1 140), .int (nI p)] (K, R, I, J, z) (Up K R J z none (fun I' => RM (I' 141) (g, L1 ++ L2, T) ∧ FrO 141 I I')) := by
  obtain ⟨hk0, hr1, hk1, hr2, hk2, hr3, hk3, hr5, hk5, hr9, hk9⟩ := hL
  have hL : LM G K R := ⟨hk0, hr1, hk1, hr2, hk2, hr3, hk3, hr5, hk5, hr9, hk9⟩
  have hl : (L1 ++ c :: L2).length = (L1 ++ L2).length + 1 := by simp [Nat.add_assoc]
  have hl1 : L1.length ≤ (L1 ++ L2).length := by simp
  generalize hn : (L1 ++ L2).length = n at hl hl1
  have loop2 : ∀ (d q : Nat) (I1 : Nat → Nat → Int32), 5 - q = d → q ≤ 5 → RM (I1 141) (g, L1 ++ L2, T) → FrO 141 I I1 → AW G YX4_drops (MZ G YX4_drops (Up K R J z none (fun I' => RM (I' 141) (g, L1 ++ L2, T) ∧ FrO 141 I I'))) 56 [(0, .ref (G.1 140)), (2, .int (nI q))] [] (K, R, I1, J, z) 0 0 := by
    intro d
    induction d using Nat.strongRecOn with
    | _ d ih =>
    intro q I1 hd hq hM1 hF1
    refine aw_iload_n dX4_drops_56 rfl ?_
    refine aw_iconst (v := nI 5) dX4_drops_57 rfl ?_
    refine aw_icmp_geN (tgt := 87) dX4_drops_58 (by decide) (by omega) (by omega) (fun hc58 => ?_) (fun hc58 => ?_)
    · exact aw_vret dX4_drops_87 rfl (Nat.zero_le _) (Nat.zero_le _) ⟨rfl, I1, rfl, hM1, hF1⟩
    · refine aw_aload_n dX4_drops_61 rfl ?_
      refine aw_getR dX4_drops_62 flX4_7 rfl (by assumption) (by assumption) ?_
      refine aw_bipush (v := nI 10) dX4_drops_65 rfl ?_
      refine aw_iconst (v := nI 5) dX4_drops_67 rfl ?_
      refine aw_aload_n dX4_drops_68 rfl ?_
      refine aw_getR dX4_drops_69 flX4_7 rfl (by assumption) (by assumption) ?_
      refine aw_bipush (v := nI 9) dX4_drops_72 rfl ?_
      refine aw_iald dX4_drops_74 (by assumption) (by omega) rfl (by omega) (show _ = nI n from hn ▸ hM1.2.1) ?_
      first | refine aw_imulN dX4_drops_75 ?_ | refine aw_imul dX4_drops_75 ?_
      first | refine aw_iaddN dX4_drops_76 ?_ | refine aw_iadd dX4_drops_76 ?_
      refine aw_iload_n dX4_drops_77 rfl ?_
      first | refine aw_iaddN dX4_drops_78 ?_ | refine aw_iadd dX4_drops_78 ?_
      refine aw_iconst (v := nI 0) dX4_drops_79 rfl ?_
      refine aw_iast dX4_drops_80 (by assumption) (by omega) (by omega) rfl (by omega) ?_
      refine aw_iincN (k := 1) (ls' := [(2, _), (0, _)]) dX4_drops_81 rfl rfl (by decide) rfl ?_
      refine aw_goto (tgt := 56) dX4_drops_84 (by decide) ?_
      exact aw_pick [1, 0] rfl (ih (5 - (q + 1)) (by omega) (q + 1) _ rfl (by omega) (RM_sl hM1 (i := 10 + 5 * n + q) (by show 10 + 5 * (L1 ++ L2).length ≤ _; omega) (by omega) (fun j => up2_o)) (hF1.tr FrO.up))
  have loop1 : ∀ (d q : Nat) (I1 : Nat → Nat → Int32), 5 * n - q = d → 5 * p ≤ q → q ≤ 5 * n → (∀ j, I1 141 j = if 10 + 5 * p ≤ j ∧ j < 10 + q then I 141 (j + 5) else if j = 9 then nI n else I 141 j) → FrO 141 I I1 → AW G YX4_drops (MZ G YX4_drops (Up K R J z none (fun I' => RM (I' 141) (g, L1 ++ L2, T) ∧ FrO 141 I I'))) 15 [(0, .ref (G.1 140)), (2, .int (nI q))] [] (K, R, I1, J, z) 0 0 := by
    intro d
    induction d using Nat.strongRecOn with
    | _ d ih =>
    intro q I1 hd hq1 hq2 hI1 hF1
    refine aw_iload_n dX4_drops_15 rfl ?_
    refine aw_iconst (v := nI 5) dX4_drops_16 rfl ?_
    refine aw_aload_n dX4_drops_17 rfl ?_
    refine aw_getR dX4_drops_18 flX4_7 rfl (by assumption) (by assumption) ?_
    refine aw_bipush (v := nI 9) dX4_drops_21 rfl ?_
    refine aw_iald dX4_drops_23 (by assumption) (by omega) rfl (by omega) (show _ = nI n by rw [hI1, if_neg (by omega), if_pos rfl]) ?_
    first | refine aw_imulN dX4_drops_24 ?_ | refine aw_imul dX4_drops_24 ?_
    refine aw_icmp_geN (tgt := 54) dX4_drops_25 (by decide) (by omega) (by omega) (fun hc25 => ?_) (fun hc25 => ?_)
    · refine aw_iconst (v := nI 0) dX4_drops_54 rfl ?_
      refine aw_istore_n (ls' := [(2, _), (0, _)]) dX4_drops_55 (by decide) rfl ?_
      exact aw_pick [1, 0] rfl (loop2 5 0 I1 rfl (by omega) (RM_drop hM h16 (fun j => by rw [hI1, ← hp, hn, show q = 5 * n by omega])) hF1)
    · refine aw_aload_n dX4_drops_28 rfl ?_
      refine aw_getR dX4_drops_29 flX4_7 rfl (by assumption) (by assumption) ?_
      refine aw_bipush (v := nI 10) dX4_drops_32 rfl ?_
      refine aw_iload_n dX4_drops_34 rfl ?_
      first | refine aw_iaddN dX4_drops_35 ?_ | refine aw_iadd dX4_drops_35 ?_
      refine aw_aload_n dX4_drops_36 rfl ?_
      refine aw_getR dX4_drops_37 flX4_7 rfl (by assumption) (by assumption) ?_
      refine aw_bipush (v := nI 10) dX4_drops_40 rfl ?_
      refine aw_iload_n dX4_drops_42 rfl ?_
      first | refine aw_iaddN dX4_drops_43 ?_ | refine aw_iadd dX4_drops_43 ?_
      refine aw_iconst (v := nI 5) dX4_drops_44 rfl ?_
      first | refine aw_iaddN dX4_drops_45 ?_ | refine aw_iadd dX4_drops_45 ?_
      refine aw_iald dX4_drops_46 (by assumption) (by omega) rfl (by omega) (show _ = I 141 (10 + q + 5) by rw [hI1, if_neg (by omega), if_neg (by omega)]) ?_
      refine aw_iast dX4_drops_47 (by assumption) (by omega) (by omega) rfl (by omega) ?_
      refine aw_iincN (k := 1) (ls' := [(2, _), (0, _)]) dX4_drops_48 rfl rfl (by decide) rfl ?_
      refine aw_goto (tgt := 15) dX4_drops_51 (by decide) ?_
      exact aw_pick [1, 0] rfl (ih (5 * n - (q + 1)) (by omega) (q + 1) _ rfl (by omega) (by omega) (fun j => by
        rw [up2_o]
        by_cases e : j = 10 + q
        · subst e; rw [if_pos rfl, if_pos (by omega)]
        · rw [if_neg e, hI1]
          by_cases e2 : 10 + 5 * p ≤ j ∧ j < 10 + q
          · rw [if_pos e2, if_pos (by omega)]
          · rw [if_neg e2, if_neg (c := 10 + 5 * p ≤ j ∧ j < 10 + (q + 1)) (by omega)]) (hF1.tr FrO.up))
  refine run_of (ls := [(0, .ref (G.1 140)), (1, .int (nI p))]) (by decide +kernel) rfl rfl (Nat.le_of_ble_eq_true rfl) ?_
  refine aw_aload_n dX4_drops_0 rfl ?_
  refine aw_getR dX4_drops_1 flX4_7 rfl (by assumption) (by assumption) ?_
  refine aw_bipush (v := nI 9) dX4_drops_4 rfl ?_
  refine aw_dup2 dX4_drops_6 rfl rfl ?_
  refine aw_iald dX4_drops_7 (by assumption) (by omega) rfl (by omega) (show _ = nI (n + 1) from hl ▸ hM.2.1) ?_
  refine aw_iconst (v := nI 1) dX4_drops_8 rfl ?_
  first | refine aw_isubN dX4_drops_9 (by omega) ?_ | refine aw_isub dX4_drops_9 ?_
  refine aw_iast dX4_drops_10 (by assumption) (by omega) (by omega) rfl (by omega) ?_
  refine aw_iconst (v := nI 5) dX4_drops_11 rfl ?_
  refine aw_iload_n dX4_drops_12 rfl ?_
  first | refine aw_imulN dX4_drops_13 ?_ | refine aw_imul dX4_drops_13 ?_
  refine aw_istore_n (ls' := [(2, _), (0, _), (1, _)]) dX4_drops_14 (by decide) rfl ?_
  exact aw_pick [1, 0] rfl (loop1 (5 * n - 5 * p) (5 * p) _ rfl (by omega) (by omega) (fun j => by
    rw [up2_o, if_neg (c := 10 + 5 * p ≤ j ∧ j < 10 + 5 * p) (by omega)]; rfl) FrO.up)
end MODEL6
end
section
/-! THE REFERENCE: a tick -/
/-- the first n calls have one tick less to go -/
def decF (n : Nat) (L : List Cl) : List Cl := (L.take n).map decC ++ L.drop n
theorem decF_0 (L : List Cl) : decF 0 L = L := by simp [decF]
theorem decF_all (L : List Cl) : decF L.length L = L.map decC := by simp [decF]
theorem decF_len (n : Nat) (L : List Cl) : (decF n L).length = L.length := by simp [decF]; omega
theorem decF_at {n : Nat} {L : List Cl} {p : Nat} {c : Cl} (h : L[p]? = some c) : (decF n L)[p]? = some (if p < n then decC c else c) := by
  have hp := (List.getElem?_eq_some_iff.mp h).1
  unfold decF
  by_cases e : p < n
  · rw [if_pos e, List.getElem?_append_left (by simp; omega), List.getElem?_map, List.getElem?_take_of_lt e, h]; rfl
  · rw [if_neg e, List.getElem?_append_right (by simp; omega)]
    simp only [List.length_map, List.length_take, List.getElem?_drop]
    rw [show n + (p - min n L.length) = p by omega]; exact h
theorem decF_at' {n : Nat} {L : List Cl} {p : Nat} {c : Cl} (h : (decF n L)[p]? = some c) : ∃ c0, L[p]? = some c0 ∧ c = if p < n then decC c0 else c0 := by
  have hp := (List.getElem?_eq_some_iff.mp h).1
  rw [decF_len] at hp
  have h1 := decF_at (n := n) (List.getElem?_eq_getElem hp)
  exact ⟨_, List.getElem?_eq_getElem hp, Option.some.inj (h.symm.trans h1)⟩
theorem RM_dec {f f' : Nat → Int32} {g : Nat → Nat} {T : Nat → Rw} {L : List Cl} {n : Nat} {c : Cl} (hM : RM f (g, decF n L, T)) (h16 : L.length ≤ 16) (hc : L[n]? = some c) (hf : ∀ j, f' j = if j = 10 + 5 * n + 1 then nI (c 1 - 1) else f j) : RM f' (g, decF (n + 1) L, T) := by
  have hn := (List.getElem?_eq_some_iff.mp hc).1
  obtain ⟨h1, h2, h3, h4⟩ := hM
  refine ⟨fun k hk => ?_, ?_, fun p c' hp w hw => ?_, fun s hs w hw => ?_⟩
  · rw [hf, if_neg (by omega)]; exact h1 k hk
  · rw [hf, if_neg (by omega), h2]; show nI (decF n L).length = nI (decF (n + 1) L).length; rw [decF_len, decF_len]
  · obtain ⟨c0, hc0, rfl⟩ := decF_at' hp
    have hpl := (List.getElem?_eq_some_iff.mp hc0).1
    have h := h3 p _ (decF_at (n := n) hc0) w hw
    rw [hf]
    by_cases e : p = n
    · subst e
      cases Option.some.inj (hc0.symm.trans hc)
      rw [show (if p < p + 1 then decC c else c) = decC c from if_pos (by omega)]
      rw [show (if p < p then decC c else c) = c from if_neg (by omega)] at h
      by_cases ew : w = 1
      · subst ew; rw [if_pos rfl]; show _ = nI (u1 c 1 _ 1); rw [u1_s]
      · rw [if_neg (by omega), h]; show _ = nI (u1 c 1 _ w); rw [u1_n ew]
    · rw [if_neg (by omega), h]
      by_cases e2 : p < n
      · rw [if_pos e2, if_pos (by omega)]
      · rw [if_neg e2, if_neg (by omega)]
  · rw [hf, if_neg (by omega)]; exact h4 s hs w hw
/-- the first n stores have waited -/
def waitF (n : Nat) (T : Nat → Rw) : Nat → Rw := fun s => if s < n then waitR (T s) else T s
theorem waitF_0 (T : Nat → Rw) : waitF 0 T = T := by funext s; unfold waitF; rw [if_neg (by omega)]
theorem waitF_s (n : Nat) (T : Nat → Rw) : sT (waitF n T) n (waitR (T n)) = waitF (n + 1) T := by
  funext s; unfold sT waitF
  by_cases e : s = n
  · subst e; rw [if_pos rfl, if_pos (by omega)]
  · rw [if_neg e]
    by_cases e2 : s < n
    · rw [if_pos e2, if_pos (by omega)]
    · rw [if_neg e2, if_neg (by omega)]
theorem waitF_n {n s : Nat} (T : Nat → Rw) (h : n ≤ s) : waitF n T s = T s := by unfold waitF; rw [if_neg (by omega)]
theorem keptL_nil : keptL [] = [] := rfl
theorem keptL_0 {c : Cl} {L : List Cl} (h : c 1 = 0) : keptL (c :: L) = keptL L := by simp [keptL, h]
theorem keptL_1 {c : Cl} {L : List Cl} (h : c 1 ≠ 0) : keptL (c :: L) = c :: keptL L := by simp [keptL, h]
theorem keptL_le (L : List Cl) : (keptL L).length ≤ L.length := List.length_filter_le _ _
theorem ansG_0 {c : Cl} {L : List Cl} {x : (Nat → Nat) × (Nat → Rw)} (h : c 1 = 0) : ansG (c :: L) x = ansG L (outG x.1 (c 2), sT x.2 (c 0) (outR x.1 (c 2) (c 3) (c 4) (x.2 (c 0)))) := by rw [ansG, if_pos h]
theorem ansG_1 {c : Cl} {L : List Cl} {x : (Nat → Nat) × (Nat → Rw)} (h : c 1 ≠ 0) : ansG (c :: L) x = ansG L x := by rw [ansG, if_neg h]
/-- the invariant only wants ticks to go to be small -/
theorem IV.sub {m k : Nat} {g : Nat → Nat} {T : Nat → Rw} {L L' : List Cl} (h : IV m k (g, L, T)) (hl : L'.length = L.length) (hc : ∀ (p : Nat) (c : Cl), L'[p]? = some c → ∃ c0 v, L[p]? = some c0 ∧ v ≤ 99 ∧ c = u1 c0 1 v) : IV m k (g, L', T) := by
  obtain ⟨h1, h2, h3, h4, h5, h6, h7⟩ := h
  have hmap : ∀ st, L'.countP (isT st) = L.countP (isT st) := by
    intro st
    have : L'.map (isT st) = L.map (isT st) := by
      apply List.ext_getElem?
      intro p
      rw [List.getElem?_map, List.getElem?_map]
      cases hp : L'[p]? with
      | none =>
        have : L[p]? = none := by rw [List.getElem?_eq_none_iff] at hp ⊢; omega
        rw [this]
      | some c =>
        obtain ⟨c0, v, q1, -, rfl⟩ := hc p c hp
        rw [q1]
        rfl
    rw [List.countP_eq_length_filter, List.countP_eq_length_filter]
    have e : ∀ M : List Cl, (M.filter (isT st)).length = ((M.map (isT st)).filter (fun b => b)).length := by
      intro M; rw [List.filter_map, List.length_map]; rfl
    rw [e, e, this]
  refine ⟨h1, by show L'.length ≤ 16; rw [hl]; exact h2, fun c hcm => ?_, fun st => by show L'.countP (isT st) ≤ 1; rw [hmap]; exact h4 st, h5, h6, by show g 6 + g 7 + L'.length ≤ m; rw [hl]; exact h7⟩
  obtain ⟨p, hp⟩ := List.getElem?_of_mem hcm
  obtain ⟨c0, v, q1, q2, rfl⟩ := hc p c hp
  obtain ⟨e0, e1, e2, e3, e4, e5, e6⟩ := h3 c0 (List.mem_of_getElem? q1)
  exact ⟨e0, q2, e2, e3, e4, e5, e6⟩
theorem IV.dec {m k : Nat} {g : Nat → Nat} {T : Nat → Rw} {L : List Cl} (n : Nat) (h : IV m k (g, L, T)) : IV m k (g, decF n L, T) := by
  refine h.sub (decF_len n L) (fun p c hp => ?_)
  obtain ⟨c0, q1, rfl⟩ := decF_at' hp
  have hc0 := (h.2.2.1 c0 (List.mem_of_getElem? q1)).2.1
  by_cases e : p < n
  · exact ⟨c0, c0 1 - 1, q1, by omega, if_pos e⟩
  · refine ⟨c0, c0 1, q1, hc0, ?_⟩
    rw [if_neg e]
    funext j; unfold u1; split
    · next e => rw [e]
    · rfl
theorem IV.b {m k : Nat} {a : AA} (h : IV m k a) : a.1 6 + a.1 7 + k ≤ m + k := by have := h.2.2.2.2.2.2; omega
theorem RK.wait {b : Nat} {t : Rw} (h : RK b t) : RK b (waitR t) := by
  unfold waitR
  split
  · next e =>
    obtain ⟨h0, h1, h2, h3, h4, h5, h6, h7, h8, h9, h10, h11, h12⟩ := h
    refine ⟨h0, h1, h2, ?_, h4, h5, ?_, ?_, h8, ?_, fun _ => h10 (by omega), h11, fun j hj => ?_⟩
    · show (if t 5 - 1 = 0 then 2 else 1) ≤ 2
      split <;> omega
    · show (if t 5 - 1 = 0 then 2 else 1) = 1 ↔ 1 ≤ t 5 - 1
      split <;> omega
    · show t 5 - 1 ≤ t 6
      omega
    · show (if t 5 - 1 = 0 then 2 else 1) = 0 → _
      split <;> omega
    · rw [u1_n (by omega), u1_n (by omega)]; exact h12 j hj
  · exact h
theorem waitR_9 {t : Rw} : waitR t 9 = t 9 := by unfold waitR; split <;> rfl
theorem waitR_2 {t : Rw} (h : t 2 = 2) : waitR t 2 = 2 := by unfold waitR; rw [if_neg (by omega)]; exact h
theorem IV.wait {m k v : Nat} {g : Nat → Nat} {L : List Cl} {T : Nat → Rw} (h : IV m k (g, L, T)) : IV m k (u1 g 5 v, L, waitF 4 T) := by
  obtain ⟨h1, h2, h3, h4, h5, h6, h7⟩ := h
  have hw : ∀ s, s < 4 → waitF 4 T s = waitR (T s) := fun s hs => if_pos hs
  refine ⟨h1, h2, fun c hc => ?_, h4, fun st hst => ?_, ?_, h7⟩
  · obtain ⟨e0, e1, e2, e3, e4, e5, e6⟩ := h3 c hc
    refine ⟨e0, e1, e2, e3, e4, e5, fun e => ?_⟩
    show waitF 4 T (c 0) 2 = 2
    rw [hw _ e0]; exact waitR_2 (e6 e)
  · show RK (g 6 + g 7 + k) (waitF 4 T st)
    rw [hw st hst]; exact (h5 st hst).wait
  · show g 6 = waitF 4 T 0 9 + waitF 4 T 1 9 + waitF 4 T 2 9 + waitF 4 T 3 9
    rw [hw 0 (by decide), hw 1 (by decide), hw 2 (by decide), hw 3 (by decide), waitR_9, waitR_9, waitR_9, waitR_9]; exact h6
theorem IV.ansG {m k : Nat} : ∀ (L K : List Cl) (g : Nat → Nat) (T : Nat → Rw), IV m k (g, K ++ L, T) → IV m k ((ansG L (g, T)).1, K ++ keptL L, (ansG L (g, T)).2)
  | [], K, g, T, h => h
  | c :: L, K, g, T, h => by
    by_cases e : c 1 = 0
    · rw [ansG_0 e, keptL_0 e]
      exact IV.ansG L K _ _ h.ans
    · rw [ansG_1 e, keptL_1 e]
      have := IV.ansG L (K ++ [c]) g T (by rw [List.append_assoc]; exact h)
      rw [List.append_assoc] at this; exact this
theorem tickA_eq (a : AA) : tickA a = (u1 (ansG (a.2.1.map decC) (a.1, a.2.2)).1 5 ((ansG (a.2.1.map decC) (a.1, a.2.2)).1 5 + 1), keptL (a.2.1.map decC), waitF 4 (ansG (a.2.1.map decC) (a.1, a.2.2)).2) := rfl
theorem IV.tick {m k : Nat} {a : AA} (h : IV m k a) : IV m k (tickA a) := by
  have h1 : IV m k (a.1, decF a.2.1.length a.2.1, a.2.2) := IV.dec _ h
  rw [decF_all] at h1
  have h2 := IV.ansG (a.2.1.map decC) [] a.1 a.2.2 h1
  exact h2.wait
/-- every call on its way has a tick to go -/
def L1 (a : AA) : Prop := ∀ c ∈ a.2.1, 1 ≤ c 1
theorem L1.tick {a : AA} : L1 (tickA a) := by
  intro c hc
  have hc : c ∈ keptL (a.2.1.map decC) := hc
  have := (List.mem_filter.mp hc).2
  simp at this
  omega
section MODEL7
variable {G : GG} {K : Nat → Option (Nat × Nat)} {R : Nat → Nat → Value} {I : Nat → Nat → Int32} {J : Nat → Nat → Int64} {z : Nat} {σ : Sg} {a : AA} {m k : Nat}
theorem tk_1 {f : Nat → Int32} {g : Nat → Nat} {L : List Cl} {T : Nat → Rw} {q v : Nat} (hv : T q 5 - 1 = 0 ∧ v = 2 ∨ T q 5 - 1 ≠ 0 ∧ v = 1) (h : T q 2 = 1) (hM : RM f (g, L, sT (sT (waitF q T) q (u1 (waitF q T q) 5 (T q 5 - 1))) q (u1 (sT (waitF q T) q (u1 (waitF q T q) 5 (T q 5 - 1)) q) 2 v))) : RM f (g, L, waitF (q + 1) T) := by
  rw [sT_sT, sT_s, waitF_n T (Nat.le_refl q)] at hM
  rw [← waitF_s, waitR, if_pos h]
  rcases hv with ⟨h1, rfl⟩ | ⟨h1, rfl⟩
  · rw [if_pos h1]; exact hM
  · rw [if_neg h1]; exact hM
theorem tk_0 {f : Nat → Int32} {g : Nat → Nat} {L : List Cl} {T : Nat → Rw} {q : Nat} (h : T q 2 ≠ 1) (hM : RM f (g, L, waitF q T)) : RM f (g, L, waitF (q + 1) T) := by
  rw [← waitF_s, waitR, if_neg h]
  have : sT (waitF q T) q (T q) = waitF q T := by
    funext s; unfold sT; split
    · next e => subst e; rw [waitF_n T (Nat.le_refl s)]
    · rfl
  rw [this]; exact hM
theorem r_tick (hL : LM G K R) (hM : RM (I 141) a) (hI : IV m k a) (hl1 : L1 a) (hmk : m + k ≤ 1000000000) : Run G YX4_tick [.ref (G.1 140)] (K, R, I, J, z) (Up K R J z (some (.int (nI (tickN a)))) (fun I' => RM (I' 141) (tickA a) ∧ FrO 141 I I')) := by
  obtain ⟨hk0, hr1, hk1, hr2, hk2, hr3, hk3, hr5, hk5, hr9, hk9⟩ := hL
  have hL : LM G K R := ⟨hk0, hr1, hk1, hr2, hk2, hr3, hk3, hr5, hk5, hr9, hk9⟩
  have h16 := hI.2.1
  have hkl := keptL_le (a.2.1.map decC)
  rw [List.length_map] at hkl
  have loop3 : ∀ (d q : Nat) (I1 : Nat → Nat → Int32) (g : Nat → Nat) (T : Nat → Rw) (L : List Cl), 4 - q = d → q ≤ 4 → L.length ≤ 16 → (∀ st, st < 4 → RK (m + k) (T st)) → RM (I1 141) (g, L, waitF q T) → FrO 141 I I1 → tickA a = (u1 g 5 (g 5 + 1), L, waitF 4 T) → AW G YX4_tick (MZ G YX4_tick (Up K R J z (some (.int (nI (tickN a)))) (fun I' => RM (I' 141) (tickA a) ∧ FrO 141 I I'))) 130 [(0, .ref (G.1 140)), (1, .int (nI (tickN a))), (3, .int (nI q))] [] (K, R, I1, J, z) 0 0 := by
    intro d
    induction d using Nat.strongRecOn with
    | _ d ih =>
    intro q I1 g T L hd hq hl16 hT hM1 hF1 hta
    refine aw_iload_n dX4_tick_130 rfl ?_
    refine aw_iconst (v := nI 4) dX4_tick_131 rfl ?_
    refine aw_icmp_geN (tgt := 185) dX4_tick_132 (by decide) (by omega) (by omega) (fun hc132 => ?_) (fun hc132 => ?_)
    · refine aw_aload_n dX4_tick_185 rfl ?_
      refine aw_getR dX4_tick_186 flX4_7 rfl (by assumption) (by assumption) ?_
      refine aw_iconst (v := nI 5) dX4_tick_189 rfl ?_
      refine aw_dup2 dX4_tick_190 rfl rfl ?_
      refine aw_iald dX4_tick_191 (by assumption) (by omega) rfl (by omega) (hM1.1 5 (by decide)) ?_
      refine aw_iconst (v := nI 1) dX4_tick_192 rfl ?_
      first | refine aw_iaddN dX4_tick_193 ?_ | refine aw_iadd dX4_tick_193 ?_
      refine aw_iast dX4_tick_194 (by assumption) (by omega) (by omega) rfl (by omega) ?_
      refine aw_iload_n dX4_tick_195 rfl ?_
      exact aw_iret dX4_tick_196 rfl (Nat.zero_le _) (Nat.zero_le _) ⟨rfl, _, rfl, by
  rw [hta]
  rw [show q = 4 by omega] at hM1
  exact RM_g hM1 (by decide) (fun j => up2_o), hF1.tr FrO.up⟩
    · have hRq := hT q (by omega)
      have hq2 : T q 2 ≤ 2 := hRq.2.2.2.1
      have hq5 : T q 5 ≤ T q 6 := hRq.2.2.2.2.2.2.2.1
      have hq6 : T q 6 ≤ 999 := hRq.2.2.2.2.2.2.2.2.1
      have hq15 := hRq.2.2.2.2.2.2.1
      refine aw_aload_n dX4_tick_135 rfl ?_
      refine aw_iload_n dX4_tick_136 rfl ?_
      refine aw_iconst (v := nI 2) dX4_tick_137 rfl ?_
      refine aw_vRd dX4_tick_138 cvX4_40 ⟨Nat.le_of_ble_eq_true rfl, Nat.le_of_ble_eq_true rfl⟩ (by assumption) ⟨_, rfl, rfl⟩ (r_ofv (w := 2) (v := T q 2) hL hM1 (by omega) (by decide) (by show waitF q T q 2 = _; rw [waitF_n T (Nat.le_refl q)])) rfl rfl (Nat.le_of_ble_eq_true rfl) ⟨rfl, rfl⟩ ⟨Nat.zero_le _, Nat.zero_le _⟩ ?_
      refine aw_iconst (v := nI 1) dX4_tick_141 rfl ?_
      refine aw_icmp_neN (tgt := 179) dX4_tick_142 (by decide) (by omega) (by omega) (fun hc142 => ?_) (fun hc142 => ?_)
      · refine aw_iincN (k := 1) (ls' := [(3, _), (0, _), (1, _)]) dX4_tick_179 rfl rfl (by decide) rfl ?_
        refine aw_goto (tgt := 130) dX4_tick_182 (by decide) ?_
        first
        | exact aw_pick [1, 2, 0] rfl (ih (4 - (q + 1)) (by omega) (q + 1) I176 g T L rfl (by omega) hl16 hT (tk_1 (by first | exact Or.inl ⟨hc168, rfl⟩ | exact Or.inr ⟨hc168, rfl⟩) hc142 hP176.1) (hF1.tr (hP156.2.tr hP176.2)) hta)
        | exact aw_pick [1, 2, 0] rfl (ih (4 - (q + 1)) (by omega) (q + 1) I1 g T L rfl (by omega) hl16 hT (tk_0 hc142 hM1) hF1 hta)
      · refine aw_aload_n dX4_tick_145 rfl ?_
        refine aw_iload_n dX4_tick_146 rfl ?_
        refine aw_iconst (v := nI 5) dX4_tick_147 rfl ?_
        refine aw_aload_n dX4_tick_148 rfl ?_
        refine aw_iload_n dX4_tick_149 rfl ?_
        refine aw_iconst (v := nI 5) dX4_tick_150 rfl ?_
        refine aw_vRd dX4_tick_151 cvX4_40 ⟨Nat.le_of_ble_eq_true rfl, Nat.le_of_ble_eq_true rfl⟩ (by assumption) ⟨_, rfl, rfl⟩ (r_ofv (w := 5) (v := T q 5) hL hM1 (by omega) (by decide) (by show waitF q T q 5 = _; rw [waitF_n T (Nat.le_refl q)])) rfl rfl (Nat.le_of_ble_eq_true rfl) ⟨rfl, rfl⟩ ⟨Nat.zero_le _, Nat.zero_le _⟩ ?_
        refine aw_iconst (v := nI 1) dX4_tick_154 rfl ?_
        first | refine aw_isubN dX4_tick_155 (by omega) ?_ | refine aw_isub dX4_tick_155 ?_
        refine aw_vUp0 dX4_tick_156 cvX4_29 ⟨Nat.le_of_ble_eq_true rfl, Nat.le_of_ble_eq_true rfl⟩ (by assumption) ⟨_, rfl, rfl⟩ (r_lay (w := 5) hL hM1 hl16 (by omega) (by decide)) rfl rfl (Nat.le_of_ble_eq_true rfl) ⟨rfl, rfl⟩ ⟨Nat.zero_le _, Nat.zero_le _⟩ (fun I156 hP156 => ?_)
        refine aw_aload_n dX4_tick_159 rfl ?_
        refine aw_iload_n dX4_tick_160 rfl ?_
        refine aw_iconst (v := nI 2) dX4_tick_161 rfl ?_
        refine aw_aload_n dX4_tick_162 rfl ?_
        refine aw_iload_n dX4_tick_163 rfl ?_
        refine aw_iconst (v := nI 5) dX4_tick_164 rfl ?_
        refine aw_vRd dX4_tick_165 cvX4_40 ⟨Nat.le_of_ble_eq_true rfl, Nat.le_of_ble_eq_true rfl⟩ (by assumption) ⟨_, rfl, rfl⟩ (r_ofv (w := 5) (v := T q 5 - 1) hL hP156.1 (by omega) (by decide) (by show sT _ q _ q 5 = _; rw [sT_s, u1_s])) rfl rfl (Nat.le_of_ble_eq_true rfl) ⟨rfl, rfl⟩ ⟨Nat.zero_le _, Nat.zero_le _⟩ ?_
        refine aw_if_neN (tgt := 175) dX4_tick_168 (by decide) (by omega) (fun hc168 => ?_) (fun hc168 => ?_)
        · refine aw_iconst (v := nI 1) dX4_tick_175 rfl ?_
          refine aw_vUp0 dX4_tick_176 cvX4_29 ⟨Nat.le_of_ble_eq_true rfl, Nat.le_of_ble_eq_true rfl⟩ (by assumption) ⟨_, rfl, rfl⟩ (r_lay (w := 2) hL hP156.1 hl16 (by omega) (by decide)) rfl rfl (Nat.le_of_ble_eq_true rfl) ⟨rfl, rfl⟩ ⟨Nat.zero_le _, Nat.zero_le _⟩ (fun I176 hP176 => ?_)
          refine aw_iincN (k := 1) (ls' := [(3, _), (0, _), (1, _)]) dX4_tick_179 rfl rfl (by decide) rfl ?_
          refine aw_goto (tgt := 130) dX4_tick_182 (by decide) ?_
          first
          | exact aw_pick [1, 2, 0] rfl (ih (4 - (q + 1)) (by omega) (q + 1) I176 g T L rfl (by omega) hl16 hT (tk_1 (by first | exact Or.inl ⟨hc168, rfl⟩ | exact Or.inr ⟨hc168, rfl⟩) hc142 hP176.1) (hF1.tr (hP156.2.tr hP176.2)) hta)
          | exact aw_pick [1, 2, 0] rfl (ih (4 - (q + 1)) (by omega) (q + 1) I1 g T L rfl (by omega) hl16 hT (tk_0 hc142 hM1) hF1 hta)
        · refine aw_iconst (v := nI 2) dX4_tick_171 rfl ?_
          refine aw_goto (tgt := 176) dX4_tick_172 (by decide) ?_
          refine aw_vUp0 dX4_tick_176 cvX4_29 ⟨Nat.le_of_ble_eq_true rfl, Nat.le_of_ble_eq_true rfl⟩ (by assumption) ⟨_, rfl, rfl⟩ (r_lay (w := 2) hL hP156.1 hl16 (by omega) (by decide)) rfl rfl (Nat.le_of_ble_eq_true rfl) ⟨rfl, rfl⟩ ⟨Nat.zero_le _, Nat.zero_le _⟩ (fun I176 hP176 => ?_)
          refine aw_iincN (k := 1) (ls' := [(3, _), (0, _), (1, _)]) dX4_tick_179 rfl rfl (by decide) rfl ?_
          refine aw_goto (tgt := 130) dX4_tick_182 (by decide) ?_
          first
          | exact aw_pick [1, 2, 0] rfl (ih (4 - (q + 1)) (by omega) (q + 1) I176 g T L rfl (by omega) hl16 hT (tk_1 (by first | exact Or.inl ⟨hc168, rfl⟩ | exact Or.inr ⟨hc168, rfl⟩) hc142 hP176.1) (hF1.tr (hP156.2.tr hP176.2)) hta)
          | exact aw_pick [1, 2, 0] rfl (ih (4 - (q + 1)) (by omega) (q + 1) I1 g T L rfl (by omega) hl16 hT (tk_0 hc142 hM1) hF1 hta)
  have loop2 : ∀ (L Kp : List Cl) (g : Nat → Nat) (T : Nat → Rw) (n : Nat) (I1 : Nat → Nat → Int32), IV m k (g, Kp ++ L, T) → RM (I1 141) (g, Kp ++ L, T) → FrO 141 I I1 → keptL (a.2.1.map decC) = Kp ++ keptL L → ansG (a.2.1.map decC) (a.1, a.2.2) = ansG L (g, T) → n + (Kp ++ L).length = a.2.1.length → AW G YX4_tick (MZ G YX4_tick (Up K R J z (some (.int (nI (tickN a)))) (fun I' => RM (I' 141) (tickA a) ∧ FrO 141 I I'))) 40 [(0, .ref (G.1 140)), (1, .int (nI n)), (2, .int (nI Kp.length))] [] (K, R, I1, J, z) 0 0 := by
    intro L
    induction L with
    | nil =>
      intro Kp g T n I1 hI1 hM1 hF1 hkp han hn
      rw [List.append_nil] at hI1 hM1 hn
      have hk16 := hI1.2.1
      simp only at hk16
      refine aw_iload_n dX4_tick_40 rfl ?_
      refine aw_aload_n dX4_tick_41 rfl ?_
      refine aw_getR dX4_tick_42 flX4_7 rfl (by assumption) (by assumption) ?_
      refine aw_bipush (v := nI 9) dX4_tick_45 rfl ?_
      refine aw_iald dX4_tick_47 (by assumption) (by omega) rfl (by omega) (show _ = nI Kp.length from hM1.2.1) ?_
      refine aw_icmp_geN (tgt := 128) dX4_tick_48 (by decide) (by omega) (by omega) (fun hc48 => ?_) (fun hc48 => absurd hc48 (by omega))
      refine aw_iconst (v := nI 0) dX4_tick_128 rfl ?_
      refine aw_istore_n (ls' := [(3, _), (0, _), (1, _), (2, _)]) dX4_tick_129 (by decide) rfl ?_
      have hn2 : n = tickN a := by
        unfold tickN; rw [hkp]; simp only [keptL_nil, List.append_nil]; omega
      rw [hn2]
      exact aw_pick [1, 2, 0] rfl (loop3 4 0 I1 g T Kp rfl (by decide) hk16 (fun st hst => (hI1.2.2.2.2.1 st hst).up hI1.b) (by rw [waitF_0]; exact hM1) hF1 (by rw [tickA_eq, han, hkp]; simp only [ansG, keptL_nil, List.append_nil]))
    | cons c L ih =>
      intro Kp g T n I1 hI1 hM1 hF1 hkp han hn
      have hk16 : (Kp ++ c :: L).length ≤ 16 := hI1.2.1
      have hlen : (Kp ++ c :: L).length = (Kp ++ L).length + 1 := by simp [Nat.add_assoc]
      have hcm := hI1.2.2.1 c (List.mem_append_right _ List.mem_cons_self)
      have hca : (Kp ++ c :: L)[Kp.length]? = some c := by simp
      have hKl : Kp.length < (Kp ++ c :: L).length := by simp
      obtain ⟨e0, e1, e2, e3, e4, e5, e6⟩ := hcm
      have hb1 := hI1.b
      simp only at e5 hb1
      have hbb : c 4 ≤ 1000000000 := by omega
      refine aw_iload_n dX4_tick_40 rfl ?_
      refine aw_aload_n dX4_tick_41 rfl ?_
      refine aw_getR dX4_tick_42 flX4_7 rfl (by assumption) (by assumption) ?_
      refine aw_bipush (v := nI 9) dX4_tick_45 rfl ?_
      refine aw_iald dX4_tick_47 (by assumption) (by omega) rfl (by omega) (show _ = nI (Kp ++ c :: L).length from hM1.2.1) ?_
      refine aw_icmp_geN (tgt := 128) dX4_tick_48 (by decide) (by omega) (by omega) (fun hc48 => absurd hc48 (by omega)) (fun hc48 => ?_)
      refine aw_aload_n dX4_tick_51 rfl ?_
      refine aw_iload_n dX4_tick_52 rfl ?_
      refine aw_iconst (v := nI 1) dX4_tick_53 rfl ?_
      refine aw_vRd dX4_tick_54 cvX4_63 ⟨Nat.le_of_ble_eq_true rfl, Nat.le_of_ble_eq_true rfl⟩ (by assumption) ⟨_, rfl, rfl⟩ (r_callOfv (w := 1) (v := c 1) hL hM1 hca hk16 (by decide) rfl) rfl rfl (Nat.le_of_ble_eq_true rfl) ⟨rfl, rfl⟩ ⟨Nat.zero_le _, Nat.zero_le _⟩ ?_
      refine aw_if_neN (tgt := 122) dX4_tick_57 (by decide) (by omega) (fun hc57 => ?_) (fun hc57 => ?_)
      · refine aw_iincN (k := 1) (ls' := [(2, _), (0, _), (1, _)]) dX4_tick_122 rfl rfl (by decide) rfl ?_
        refine aw_goto (tgt := 40) dX4_tick_125 (by decide) ?_
        first
        | exact aw_pick [1, 2, 0] rfl (ih Kp _ _ (n + 1) I113 (IV.ans hI1) hP113.1 (hF1.tr (hP102.2.tr hP113.2)) (by rw [hkp, keptL_0 hc57]) (by rw [han, ansG_0 hc57]) (by omega))
        | (have := ih (Kp ++ [c]) g T n I1 (by rw [List.append_assoc]; exact hI1) (by rw [List.append_assoc]; exact hM1) hF1 (by rw [hkp, keptL_1 hc57, List.append_assoc]; rfl) (by rw [han, ansG_1 hc57]) (by rw [List.append_assoc]; exact hn)
           rw [List.length_append] at this
           exact aw_pick [1, 2, 0] rfl this)
      · refine aw_aload_n dX4_tick_60 rfl ?_
        refine aw_iload_n dX4_tick_61 rfl ?_
        refine aw_iconst (v := nI 0) dX4_tick_62 rfl ?_
        refine aw_vRd dX4_tick_63 cvX4_63 ⟨Nat.le_of_ble_eq_true rfl, Nat.le_of_ble_eq_true rfl⟩ (by assumption) ⟨_, rfl, rfl⟩ (r_callOfv (w := 0) (v := c 0) hL hM1 hca hk16 (by decide) rfl) rfl rfl (Nat.le_of_ble_eq_true rfl) ⟨rfl, rfl⟩ ⟨Nat.zero_le _, Nat.zero_le _⟩ ?_
        refine aw_istore_n (ls' := [(3, _), (0, _), (1, _), (2, _)]) dX4_tick_66 (by decide) rfl ?_
        refine aw_aload_n dX4_tick_67 rfl ?_
        refine aw_iload_n dX4_tick_68 rfl ?_
        refine aw_iconst (v := nI 2) dX4_tick_69 rfl ?_
        refine aw_vRd dX4_tick_70 cvX4_63 ⟨Nat.le_of_ble_eq_true rfl, Nat.le_of_ble_eq_true rfl⟩ (by assumption) ⟨_, rfl, rfl⟩ (r_callOfv (w := 2) (v := c 2) hL hM1 hca hk16 (by decide) rfl) rfl rfl (Nat.le_of_ble_eq_true rfl) ⟨rfl, rfl⟩ ⟨Nat.zero_le _, Nat.zero_le _⟩ ?_
        refine aw_istore (ls' := [(4, _), (3, _), (0, _), (1, _), (2, _)]) dX4_tick_73 (by decide) rfl ?_
        refine aw_aload_n dX4_tick_75 rfl ?_
        refine aw_iload_n dX4_tick_76 rfl ?_
        refine aw_iconst (v := nI 3) dX4_tick_77 rfl ?_
        refine aw_vRd dX4_tick_78 cvX4_63 ⟨Nat.le_of_ble_eq_true rfl, Nat.le_of_ble_eq_true rfl⟩ (by assumption) ⟨_, rfl, rfl⟩ (r_callOfv (w := 3) (v := c 3) hL hM1 hca hk16 (by decide) rfl) rfl rfl (Nat.le_of_ble_eq_true rfl) ⟨rfl, rfl⟩ ⟨Nat.zero_le _, Nat.zero_le _⟩ ?_
        refine aw_iconst (v := nI 1) dX4_tick_81 rfl ?_
        refine aw_icmp_neN (tgt := 89) dX4_tick_82 (by decide) (by omega) (by omega) (fun hc82 => ?_) (fun hc82 => ?_)
        · refine aw_iconst (v := nI 0) dX4_tick_89 rfl ?_
          refine aw_top (x' := nI (c 3)) (congrArg nI (by omega)) ?_
          refine aw_istore (ls' := [(5, _), (4, _), (3, _), (0, _), (1, _), (2, _)]) dX4_tick_90 (by decide) rfl ?_
          refine aw_aload_n dX4_tick_92 rfl ?_
          refine aw_iload_n dX4_tick_93 rfl ?_
          refine aw_iconst (v := nI 4) dX4_tick_94 rfl ?_
          refine aw_vRd dX4_tick_95 cvX4_63 ⟨Nat.le_of_ble_eq_true rfl, Nat.le_of_ble_eq_true rfl⟩ (by assumption) ⟨_, rfl, rfl⟩ (r_callOfv (w := 4) (v := c 4) hL hM1 hca hk16 (by decide) rfl) rfl rfl (Nat.le_of_ble_eq_true rfl) ⟨rfl, rfl⟩ ⟨Nat.zero_le _, Nat.zero_le _⟩ ?_
          refine aw_istore (ls' := [(6, _), (5, _), (4, _), (3, _), (0, _), (1, _), (2, _)]) dX4_tick_98 (by decide) rfl ?_
          refine aw_aload_n dX4_tick_100 rfl ?_
          refine aw_iload_n dX4_tick_101 rfl ?_
          refine aw_vUp0 dX4_tick_102 cvX4_77 ⟨Nat.le_of_ble_eq_true rfl, Nat.le_of_ble_eq_true rfl⟩ (by assumption) ⟨_, rfl, rfl⟩ (r_drops hL rfl hM1 hk16) rfl rfl (Nat.le_of_ble_eq_true rfl) ⟨rfl, rfl⟩ ⟨Nat.zero_le _, Nat.zero_le _⟩ (fun I102 hP102 => ?_)
          refine aw_aload_n dX4_tick_105 rfl ?_
          refine aw_iload_n dX4_tick_106 rfl ?_
          refine aw_iload dX4_tick_107 rfl ?_
          refine aw_iload dX4_tick_109 rfl ?_
          refine aw_iload dX4_tick_111 rfl ?_
          refine aw_vUp0 dX4_tick_113 cvX4_73 ⟨Nat.le_of_ble_eq_true rfl, Nat.le_of_ble_eq_true rfl⟩ (by assumption) ⟨_, rfl, rfl⟩ (r_comesOut (a := (g, Kp ++ L, T)) (st := c 0) (d := c 2) (tr := c 3) (since := c 4) (b := m + k) hL hP102.1 (by show (Kp ++ L).length ≤ 16; omega) e0 hI1.1 ((hI1.2.2.2.2.1 _ e0).up hb1) (by omega) e4 hbb hmk) rfl rfl (Nat.le_of_ble_eq_true rfl) ⟨rfl, rfl⟩ ⟨Nat.zero_le _, Nat.zero_le _⟩ (fun I113 hP113 => ?_)
          refine aw_iincN (k := 1) (ls' := [(1, _), (6, _), (5, _), (4, _), (3, _), (0, _), (2, _)]) dX4_tick_116 rfl rfl (by decide) rfl ?_
          refine aw_goto (tgt := 40) dX4_tick_119 (by decide) ?_
          first
          | exact aw_pick [5, 0, 6] rfl (ih Kp _ _ (n + 1) I113 (IV.ans hI1) hP113.1 (hF1.tr (hP102.2.tr hP113.2)) (by rw [hkp, keptL_0 hc57]) (by rw [han, ansG_0 hc57]) (by omega))
          | (have := ih (Kp ++ [c]) g T n I1 (by rw [List.append_assoc]; exact hI1) (by rw [List.append_assoc]; exact hM1) hF1 (by rw [hkp, keptL_1 hc57, List.append_assoc]; rfl) (by rw [han, ansG_1 hc57]) (by rw [List.append_assoc]; exact hn)
             rw [List.length_append] at this
             exact aw_pick [5, 0, 6] rfl this)
        · refine aw_iconst (v := nI 1) dX4_tick_85 rfl ?_
          refine aw_goto (tgt := 90) dX4_tick_86 (by decide) ?_
          refine aw_top (x' := nI (c 3)) (congrArg nI (by omega)) ?_
          refine aw_istore (ls' := [(5, _), (4, _), (3, _), (0, _), (1, _), (2, _)]) dX4_tick_90 (by decide) rfl ?_
          refine aw_aload_n dX4_tick_92 rfl ?_
          refine aw_iload_n dX4_tick_93 rfl ?_
          refine aw_iconst (v := nI 4) dX4_tick_94 rfl ?_
          refine aw_vRd dX4_tick_95 cvX4_63 ⟨Nat.le_of_ble_eq_true rfl, Nat.le_of_ble_eq_true rfl⟩ (by assumption) ⟨_, rfl, rfl⟩ (r_callOfv (w := 4) (v := c 4) hL hM1 hca hk16 (by decide) rfl) rfl rfl (Nat.le_of_ble_eq_true rfl) ⟨rfl, rfl⟩ ⟨Nat.zero_le _, Nat.zero_le _⟩ ?_
          refine aw_istore (ls' := [(6, _), (5, _), (4, _), (3, _), (0, _), (1, _), (2, _)]) dX4_tick_98 (by decide) rfl ?_
          refine aw_aload_n dX4_tick_100 rfl ?_
          refine aw_iload_n dX4_tick_101 rfl ?_
          refine aw_vUp0 dX4_tick_102 cvX4_77 ⟨Nat.le_of_ble_eq_true rfl, Nat.le_of_ble_eq_true rfl⟩ (by assumption) ⟨_, rfl, rfl⟩ (r_drops hL rfl hM1 hk16) rfl rfl (Nat.le_of_ble_eq_true rfl) ⟨rfl, rfl⟩ ⟨Nat.zero_le _, Nat.zero_le _⟩ (fun I102 hP102 => ?_)
          refine aw_aload_n dX4_tick_105 rfl ?_
          refine aw_iload_n dX4_tick_106 rfl ?_
          refine aw_iload dX4_tick_107 rfl ?_
          refine aw_iload dX4_tick_109 rfl ?_
          refine aw_iload dX4_tick_111 rfl ?_
          refine aw_vUp0 dX4_tick_113 cvX4_73 ⟨Nat.le_of_ble_eq_true rfl, Nat.le_of_ble_eq_true rfl⟩ (by assumption) ⟨_, rfl, rfl⟩ (r_comesOut (a := (g, Kp ++ L, T)) (st := c 0) (d := c 2) (tr := c 3) (since := c 4) (b := m + k) hL hP102.1 (by show (Kp ++ L).length ≤ 16; omega) e0 hI1.1 ((hI1.2.2.2.2.1 _ e0).up hb1) (by omega) e4 hbb hmk) rfl rfl (Nat.le_of_ble_eq_true rfl) ⟨rfl, rfl⟩ ⟨Nat.zero_le _, Nat.zero_le _⟩ (fun I113 hP113 => ?_)
          refine aw_iincN (k := 1) (ls' := [(1, _), (6, _), (5, _), (4, _), (3, _), (0, _), (2, _)]) dX4_tick_116 rfl rfl (by decide) rfl ?_
          refine aw_goto (tgt := 40) dX4_tick_119 (by decide) ?_
          first
          | exact aw_pick [5, 0, 6] rfl (ih Kp _ _ (n + 1) I113 (IV.ans hI1) hP113.1 (hF1.tr (hP102.2.tr hP113.2)) (by rw [hkp, keptL_0 hc57]) (by rw [han, ansG_0 hc57]) (by omega))
          | (have := ih (Kp ++ [c]) g T n I1 (by rw [List.append_assoc]; exact hI1) (by rw [List.append_assoc]; exact hM1) hF1 (by rw [hkp, keptL_1 hc57, List.append_assoc]; rfl) (by rw [han, ansG_1 hc57]) (by rw [List.append_assoc]; exact hn)
             rw [List.length_append] at this
             exact aw_pick [5, 0, 6] rfl this)
  have loop1 : ∀ (d q : Nat) (I1 : Nat → Nat → Int32), a.2.1.length - q = d → q ≤ a.2.1.length → RM (I1 141) (a.1, decF q a.2.1, a.2.2) → FrO 141 I I1 → AW G YX4_tick (MZ G YX4_tick (Up K R J z (some (.int (nI (tickN a)))) (fun I' => RM (I' 141) (tickA a) ∧ FrO 141 I I'))) 2 [(0, .ref (G.1 140)), (1, .int (nI q))] [] (K, R, I1, J, z) 0 0 := by
    intro d
    induction d using Nat.strongRecOn with
    | _ d ih =>
    intro q I1 hd hq hM1 hF1
    refine aw_iload_n dX4_tick_2 rfl ?_
    refine aw_aload_n dX4_tick_3 rfl ?_
    refine aw_getR dX4_tick_4 flX4_7 rfl (by assumption) (by assumption) ?_
    refine aw_bipush (v := nI 9) dX4_tick_7 rfl ?_
    refine aw_iald dX4_tick_9 (by assumption) (by omega) rfl (by omega) (show _ = nI a.2.1.length by have := hM1.2.1; rw [this]; exact congrArg nI (decF_len _ _)) ?_
    refine aw_icmp_geN (tgt := 36) dX4_tick_10 (by decide) (by omega) (by omega) (fun hc10 => ?_) (fun hc10 => ?_)
    · refine aw_iconst (v := nI 0) dX4_tick_36 rfl ?_
      refine aw_istore_n (ls' := [(1, _), (0, _)]) dX4_tick_37 (by decide) rfl ?_
      refine aw_iconst (v := nI 0) dX4_tick_38 rfl ?_
      refine aw_istore_n (ls' := [(2, _), (1, _), (0, _)]) dX4_tick_39 (by decide) rfl ?_
      have hqe : q = a.2.1.length := by omega
      subst hqe
      rw [decF_all] at hM1
      have hI2 := IV.dec (g := a.1) (T := a.2.2) (L := a.2.1) a.2.1.length hI
      rw [decF_all] at hI2
      exact aw_pick [2, 1, 0] rfl (loop2 (a.2.1.map decC) [] a.1 a.2.2 0 I1 hI2 hM1 hF1 rfl rfl (by simp))
    · obtain ⟨c, hc⟩ : ∃ c, a.2.1[q]? = some c := ⟨_, List.getElem?_eq_getElem (by omega)⟩
      have hc1 := hl1 c (List.mem_of_getElem? hc)
      have hdq : (decF q a.2.1)[q]? = some c := by rw [decF_at hc, if_neg (by omega)]
      refine aw_aload_n dX4_tick_13 rfl ?_
      refine aw_getR dX4_tick_14 flX4_7 rfl (by assumption) (by assumption) ?_
      refine aw_bipush (v := nI 10) dX4_tick_17 rfl ?_
      refine aw_iconst (v := nI 5) dX4_tick_19 rfl ?_
      refine aw_iload_n dX4_tick_20 rfl ?_
      first | refine aw_imulN dX4_tick_21 ?_ | refine aw_imul dX4_tick_21 ?_
      first | refine aw_iaddN dX4_tick_22 ?_ | refine aw_iadd dX4_tick_22 ?_
      refine aw_iconst (v := nI 1) dX4_tick_23 rfl ?_
      first | refine aw_iaddN dX4_tick_24 ?_ | refine aw_iadd dX4_tick_24 ?_
      refine aw_dup2 dX4_tick_25 rfl rfl ?_
      refine aw_iald dX4_tick_26 (by assumption) (by omega) rfl (by omega) (show _ = nI (c 1) from by have := hM1.2.2.1 q c hdq 1 (by decide); exact this) ?_
      refine aw_iconst (v := nI 1) dX4_tick_27 rfl ?_
      first | refine aw_isubN dX4_tick_28 (by omega) ?_ | refine aw_isub dX4_tick_28 ?_
      refine aw_iast dX4_tick_29 (by assumption) (by omega) (by omega) rfl (by omega) ?_
      refine aw_iincN (k := 1) (ls' := [(1, _), (0, _)]) dX4_tick_30 rfl rfl (by decide) rfl ?_
      refine aw_goto (tgt := 2) dX4_tick_33 (by decide) ?_
      exact aw_pick [1, 0] rfl (ih (a.2.1.length - (q + 1)) (by omega) (q + 1) _ rfl (by omega) (RM_dec hM1 h16 hc (fun j => up2_o)) (hF1.tr FrO.up))
  refine run_of (ls := [(0, .ref (G.1 140))]) (by decide +kernel) rfl rfl (Nat.le_of_ble_eq_true rfl) ?_
  refine aw_iconst (v := nI 0) dX4_tick_0 rfl ?_
  refine aw_istore_n (ls' := [(1, _), (0, _)]) dX4_tick_1 (by decide) rfl ?_
  exact aw_pick [1, 0] rfl (loop1 a.2.1.length 0 I rfl (Nat.zero_le _) (by rw [decF_0]; exact hM) FrO.rf)
end MODEL7
end
section
/-! THE REFERENCE: ticks, calls with ticks, the healthiest -/
theorem IV.mono {m m' k k' : Nat} {a : AA} (h : IV m k a) (hm : m ≤ m') (hk : k ≤ k') : IV m' k' a := by
  obtain ⟨h1, h2, h3, h4, h5, h6, h7⟩ := h
  refine ⟨h1, h2, fun c hc => ?_, h4, fun st hst => (h5 st hst).up (by omega), h6, by omega⟩
  obtain ⟨e0, e1, e2, e3, e4, e5, e6⟩ := h3 c hc
  exact ⟨e0, e1, e2, e3, e4, by omega, e6⟩
theorem IV.ticks {m k : Nat} : ∀ (n : Nat) {a : AA}, IV m k a → IV m k (ticksA n a)
  | 0, _, h => h
  | n + 1, _, h => IV.ticks n h.tick
theorem L1.ticks : ∀ (n : Nat) {a : AA}, L1 a → L1 (ticksA n a)
  | 0, _, h => h
  | n + 1, _, _ => L1.ticks n L1.tick
theorem noTr {a : AA} {st : Nat} (h2 : a.2.2 st 2 = 2) (hr : refd a st = false) : a.2.1.countP (isT st) = 0 := by
  have h : hasTr a st = false := by
    unfold refd at hr
    rw [h2] at hr
    simpa using hr
  rw [List.countP_eq_zero]
  intro c hc hcc
  have : hasTr a st = true := List.any_eq_true.mpr ⟨c, hc, hcc⟩
  rw [h] at this; cases this
theorem IV.setRow {m k v : Nat} {a : AA} {st : Nat} {t : Rw} (h : IV m k a) (hst : st < 4) (ht : RK (a.1 6 + a.1 7 + k) t) (h2 : t 2 = a.2.2 st 2) (h9 : t 9 = a.2.2 st 9) : IV m k (u1 a.1 8 v, a.2.1, sT a.2.2 st t) := by
  obtain ⟨h1, hl, h3, h4, h5, h6, h7⟩ := h
  refine ⟨h1, hl, fun c hc => ?_, h4, fun s hs => ?_, ?_, h7⟩
  · obtain ⟨e0, e1, e2, e3, e4, e5, e6⟩ := h3 c hc
    refine ⟨e0, e1, e2, e3, e4, e5, fun e => ?_⟩
    show sT a.2.2 st t (c 0) 2 = 2
    by_cases q : c 0 = st
    · rw [q, sT_s, h2, ← q]; exact e6 e
    · rw [sT_n q]; exact e6 e
  · show RK (a.1 6 + a.1 7 + k) (sT a.2.2 st t s)
    by_cases q : s = st
    · subst q; rw [sT_s]; exact ht
    · rw [sT_n q]; exact h5 s hs
  · show a.1 6 = sT a.2.2 st t 0 9 + sT a.2.2 st t 1 9 + sT a.2.2 st t 2 9 + sT a.2.2 st t 3 9
    rw [sum9 hst 0 h9]; exact h6
theorem u1_id (g : Nat → Nat) (k : Nat) : u1 g k (g k) = g := by funext j; unfold u1; split <;> simp_all
theorem IV.call {m k : Nat} {a : AA} {st : Nat} (h : IV m k a) (hst : st < 4) (hroom : refd a st = true ∨ a.2.1.length < 16) : IV (m + 1) k (callA a st) := by
  have ht := h.2.2.2.2.1 st hst
  cases hr : refd a st with
  | true =>
    rw [callA_r hr]
    have h8 : RK (a.1 6 + a.1 7 + k) (u1 (a.2.2 st) 8 (a.2.2 st 8 + 1)) := by
      obtain ⟨h0, h1, h2, h3, h4, h5, h6, h7, h8, h9, h10, h11, h12⟩ := ht
      refine ⟨h0, h1, h2, h3, h4, h5, h6, h7, h8, h9, h10, h11, fun j hj => ?_⟩
      rw [u1_n (by omega)]; exact h12 j hj
    have := (h.setRow (v := a.1 8) hst h8 rfl rfl).mono (Nat.le_succ m) (Nat.le_refl k)
    rw [u1_id] at this; exact this
  | false =>
    have hl : a.2.1.length < 16 := by
      rcases hroom with q | q
      · rw [hr] at q; cases q
      · exact q
    have h1 := h.setRow (v := a.1 8 + trN a st) hst ht.thru rfl rfl
    by_cases hd : a.2.2 st (12 + a.2.2 st 1) = 0
    · rw [callA_0 hr hd]
      refine h1.out hst (fun e => ?_)
      have h2 : a.2.2 st 2 = 2 := by
        unfold trN at e; split at e
        · assumption
        · omega
      exact ⟨by show sT a.2.2 st _ st 2 = 2; rw [sT_s]; exact h2, (show a.2.1.countP (isT st) = 0 from noTr h2 hr)⟩
    · rw [callA_1 hr hd]
      obtain ⟨g1, gl, g3, g4, g5, g6, g7⟩ := h1
      have hdl : a.2.2 st (12 + a.2.2 st 1) ≤ 99 := ht.2.2.2.2.2.2.2.2.2.2.2.2 _ (by have := ht.2.2.1; have := ht.2.1; omega)
      have h11 : a.2.2 st 11 ≤ a.1 6 + a.1 7 + k := ht.2.2.2.2.2.2.2.2.2.2.2.1
      refine ⟨g1, by show (a.2.1 ++ [_]).length ≤ 16; simp; omega, fun c hc => ?_, fun s => ?_, g5, g6, by show a.1 6 + a.1 7 + (a.2.1 ++ [_]).length ≤ m + 1; have : a.1 6 + a.1 7 + a.2.1.length ≤ m := g7; simp; omega⟩
      · rcases List.mem_append.mp hc with q | q
        · exact g3 c q
        · have hcc := List.mem_singleton.mp q
          subst hcc
          refine ⟨hst, hdl, by show 1 ≤ a.2.2 st (12 + a.2.2 st 1); omega, hdl, trN_le a st, h11, fun e => ?_⟩
          show sT a.2.2 st _ st 2 = 2
          rw [sT_s]
          show a.2.2 st 2 = 2
          have e : trN a st = 1 := e
          unfold trN at e; split at e
          · assumption
          · omega
      · show (a.2.1 ++ [_]).countP (isT s) ≤ 1
        rw [List.countP_append]
        have h4 : a.2.1.countP (isT s) ≤ 1 := g4 s
        by_cases e : isT s (mkC st (a.2.2 st (12 + a.2.2 st 1)) (trN a st) (a.2.2 st 11)) = true
        · have e' : st = s ∧ trN a st = 1 := by simpa [isT, mkC] using e
          obtain ⟨rfl, e1⟩ := e'
          have h2 : a.2.2 st 2 = 2 := by
            unfold trN at e1; split at e1
            · assumption
            · omega
          rw [noTr h2 hr]
          simp [List.countP_cons]; split <;> omega
        · rw [List.countP_cons_of_neg e]
          simpa using h4
theorem L1.out {a : AA} {st d tr since : Nat} (h : L1 a) : L1 (outA a st d tr since) := h
theorem L1.call {a : AA} {st : Nat} (h : L1 a) : L1 (callA a st) := by
  unfold callA
  split
  · exact h
  · split
    · exact h
    · next hd =>
      intro c hc
      rcases List.mem_append.mp hc with q | q
      · exact h c q
      · have hcc := List.mem_singleton.mp q
        subst hcc
        show 1 ≤ a.2.2 st (12 + a.2.2 st 1)
        omega
theorem callN_le (a : AA) (st : Nat) : callN a st ≤ 2 := by
  unfold callN; split
  · omega
  · have := trN_le a st; omega
theorem tickN_le (a : AA) : tickN a ≤ a.2.1.length := Nat.sub_le _ _
/-- a store or none -/
def oI : Option Nat → Int32
  | none => -1
  | some b => nI b
theorem nI_m1 {n : Nat} (h : n < 100) : ¬ nI n = -1 := by
  intro q
  have := congrArg Int32.toInt q
  rw [nI_toInt (by omega)] at this
  have h1 : (-1 : Int32).toInt = -1 := rfl
  rw [h1] at this; omega
theorem sub_pos {x y : Nat} (hx : x ≤ 100) (hy : y ≤ 100) : 0 < nI x - nI y ↔ y < x := by
  rw [Int32.lt_iff_toInt_lt, pk_sub_toInt (by omega) (by omega)]
  show (0 : Int) < _ ↔ _
  omega
theorem sub_zero' {x y : Nat} (hx : x ≤ 100) (hy : y ≤ 100) : nI x - nI y = 0 ↔ x = y := by
  rw [← Int32.toInt_inj, pk_sub_toInt (by omega) (by omega)]
  show _ = (0 : Int) ↔ _
  omega
theorem bestN_lt {a : AA} : ∀ {n b : Nat}, bestN a n = some b → b < n ∧ a.2.2 b 2 = 0
  | 0, b, h => by cases h
  | n + 1, b, h => by
    unfold bestN at h
    split at h
    · next h2 =>
      split at h
      · cases h; exact ⟨by omega, h2⟩
      · next b' hb' =>
        have := bestN_lt hb'
        split at h
        · cases h; exact ⟨by omega, h2⟩
        · cases h; exact ⟨by omega, this.2⟩
    · have := bestN_lt h
      exact ⟨by omega, this.2⟩
theorem countP_take {α : Type} {L : List α} {k : Nat} {c : α} (p : α → Bool) (h : L[k]? = some c) : (L.take (k + 1)).countP p = (L.take k).countP p + (if p c = true then 1 else 0) := by
  rw [List.take_add_one, h, List.countP_append]; simp [List.countP_cons]
theorem badWinR_le {g : Nat → Nat} {t : Rw} (hg : SK g) : badWinR g t ≤ 16 := by
  refine Nat.le_trans (bits_le _ _) ?_
  have := hg.2.1.2
  unfold inWinR; split <;> omega
theorem ow1 {x st : Nat} {c : Cl} (h : c 0 = st) : x + 1 = x + (if (c 0 == st) = true then 1 else 0) := by rw [if_pos (by simpa using h)]
theorem ow0 {x st : Nat} {c : Cl} (h : c 0 ≠ st) : x + 0 = x + (if (c 0 == st) = true then 1 else 0) := by rw [if_neg (by simpa using h)]
theorem onWayN_le (a : AA) (st : Nat) : onWayN a st ≤ a.2.1.length := List.countP_le_length
section MODEL8
variable {G : GG} {K : Nat → Option (Nat × Nat)} {R : Nat → Nat → Value} {I : Nat → Nat → Int32} {J : Nat → Nat → Int64} {z : Nat} {σ : Sg} {a : AA} {m k : Nat}
theorem r_ticks (hL : LM G K R) {n : Nat} (hn : n ≤ 1000) (hM : RM (I 141) a) (hI : IV m k a) (hl1 : L1 a) (hmk : m + k ≤ 1000000000) : Run G YX4_ticks [.ref (G.1 140), .int (nI n)] (K, R, I, J, z) (Up K R J z (some (.int (nI (ticksN n a)))) (fun I' => RM (I' 141) (ticksA n a) ∧ FrO 141 I I')) := by
  obtain ⟨hk0, hr1, hk1, hr2, hk2, hr3, hk3, hr5, hk5, hr9, hk9⟩ := hL
  have hL : LM G K R := ⟨hk0, hr1, hk1, hr2, hk2, hr3, hk3, hr5, hk5, hr9, hk9⟩
  have loop : ∀ (d q : Nat) (I1 : Nat → Nat → Int32) (b : AA) (t : Nat), n - q = d → q ≤ n → RM (I1 141) b → FrO 141 I I1 → IV m k b → L1 b → ticksA d b = ticksA n a → t + ticksN d b = ticksN n a → AW G YX4_ticks (MZ G YX4_ticks (Up K R J z (some (.int (nI (ticksN n a)))) (fun I' => RM (I' 141) (ticksA n a) ∧ FrO 141 I I'))) 4 [(0, .ref (G.1 140)), (1, .int (nI n)), (2, .int (nI t)), (3, .int (nI q))] [] (K, R, I1, J, z) 0 0 := by
    intro d
    induction d with
    | zero =>
      intro q I1 b t hd hq hM1 hF1 hI1 hl hA hN
      refine aw_iload_n dX4_ticks_4 rfl ?_
      refine aw_iload_n dX4_ticks_5 rfl ?_
      refine aw_icmp_geN (tgt := 22) dX4_ticks_6 (by decide) (by omega) (by omega) (fun hc6 => ?_) (fun hc6 => absurd hc6 (by omega))
      refine aw_iload_n dX4_ticks_22 rfl ?_
      exact aw_iret dX4_ticks_23 rfl (Nat.zero_le _) (Nat.zero_le _) ⟨by rw [← hN]; rfl, I1, rfl, by rw [← hA]; exact hM1, hF1⟩
    | succ d ih =>
      intro q I1 b t hd hq hM1 hF1 hI1 hl hA hN
      refine aw_iload_n dX4_ticks_4 rfl ?_
      refine aw_iload_n dX4_ticks_5 rfl ?_
      refine aw_icmp_geN (tgt := 22) dX4_ticks_6 (by decide) (by omega) (by omega) (fun hc6 => absurd hc6 (by omega)) (fun hc6 => ?_)
      refine aw_iload_n dX4_ticks_9 rfl ?_
      refine aw_aload_n dX4_ticks_10 rfl ?_
      refine aw_vUp dX4_ticks_11 cvX4_80 ⟨Nat.le_of_ble_eq_true rfl, Nat.le_of_ble_eq_true rfl⟩ (by assumption) ⟨_, rfl, rfl⟩ (r_tick hL hM1 hI1 hl hmk) rfl rfl (Nat.le_of_ble_eq_true rfl) ⟨rfl, rfl⟩ ⟨Nat.zero_le _, Nat.zero_le _⟩ (fun I11 hP11 => ?_)
      first | refine aw_iaddN dX4_ticks_14 ?_ | refine aw_iadd dX4_ticks_14 ?_
      refine aw_istore_n (ls' := [(2, _), (0, _), (1, _), (3, _)]) dX4_ticks_15 (by decide) rfl ?_
      refine aw_iincN (k := 1) (ls' := [(3, _), (2, _), (0, _), (1, _)]) dX4_ticks_16 rfl rfl (by decide) rfl ?_
      refine aw_goto (tgt := 4) dX4_ticks_19 (by decide) ?_
      exact aw_pick [2, 3, 1, 0] rfl (ih (q + 1) I11 (tickA b) (t + tickN b) (by omega) (by omega) hP11.1 (hF1.tr hP11.2) hI1.tick L1.tick hA (by rw [← hN]; show _ = t + (tickN b + ticksN d (tickA b)); omega))
  refine run_of (ls := [(0, .ref (G.1 140)), (1, .int (nI n))]) (by decide +kernel) rfl rfl (Nat.le_of_ble_eq_true rfl) ?_
  refine aw_iconst (v := nI 0) dX4_ticks_0 rfl ?_
  refine aw_istore_n (ls' := [(2, _), (0, _), (1, _)]) dX4_ticks_1 (by decide) rfl ?_
  refine aw_iconst (v := nI 0) dX4_ticks_2 rfl ?_
  refine aw_istore_n (ls' := [(3, _), (2, _), (0, _), (1, _)]) dX4_ticks_3 (by decide) rfl ?_
  exact aw_pick [2, 3, 1, 0] rfl (loop n 0 I a 0 rfl (Nat.zero_le _) hM FrO.rf hI hl1 rfl (Nat.zero_add _))
theorem r_callsOften (hL : LM G K R) {st t n : Nat} (hst : st < 4) (ht : t ≤ 1000) (hn : n ≤ 1000) (hM : RM (I 141) a) (hI : IV m k a) (hl1 : L1 a) (hmk : m + n + k ≤ 1000000000) : Run G YX4_callsOften [.ref (G.1 140), .int (nI st), .int (nI n), .int (nI t)] (K, R, I, J, z) (Up K R J z (some (.int (nI (oftenN st t n a)))) (fun I' => RM (I' 141) (oftenA st t n a) ∧ FrO 141 I I')) := by
  obtain ⟨hk0, hr1, hk1, hr2, hk2, hr3, hk3, hr5, hk5, hr9, hk9⟩ := hL
  have hL : LM G K R := ⟨hk0, hr1, hk1, hr2, hk2, hr3, hk3, hr5, hk5, hr9, hk9⟩
  have loop : ∀ (d q : Nat) (I1 : Nat → Nat → Int32) (b : AA) (x : Nat), n - q = d → q ≤ n → RM (I1 141) b → FrO 141 I I1 → IV (m + q) k b → L1 b → oftenA st t d b = oftenA st t n a → x + oftenN st t d b = oftenN st t n a → AW G YX4_callsOften (MZ G YX4_callsOften (Up K R J z (some (.int (nI (oftenN st t n a)))) (fun I' => RM (I' 141) (oftenA st t n a) ∧ FrO 141 I I'))) 6 [(0, .ref (G.1 140)), (1, .int (nI st)), (2, .int (nI n)), (3, .int (nI t)), (4, .int (nI x)), (5, .int (nI q))] [] (K, R, I1, J, z) 0 0 := by
    intro d
    induction d with
    | zero =>
      intro q I1 b x hd hq hM1 hF1 hI1 hl hA hN
      refine aw_iload dX4_callsOften_6 rfl ?_
      refine aw_iload_n dX4_callsOften_8 rfl ?_
      refine aw_icmp_geN (tgt := 65) dX4_callsOften_9 (by decide) (by omega) (by omega) (fun hc9 => ?_) (fun hc9 => absurd hc9 (by omega))
      refine aw_iload dX4_callsOften_65 rfl ?_
      exact aw_iret dX4_callsOften_67 rfl (Nat.zero_le _) (Nat.zero_le _) ⟨by rw [← hN]; rfl, I1, rfl, by rw [← hA]; exact hM1, hF1⟩
    | succ d ih =>
      intro q I1 b x hd hq hM1 hF1 hI1 hl hA hN
      have h16 := hI1.2.1
      have hC : ∀ c ∈ b.2.1, c 0 < 4 ∧ c 3 ≤ 1 := fun c hc => ⟨(hI1.2.2.1 c hc).1, (hI1.2.2.1 c hc).2.2.2.2.1⟩
      have htR := (hI1.2.2.2.2.1 st hst).up hI1.b
      have hb1 := b2_le (refd b st)
      have key : (refd b st = true ∨ b.2.1.length < 16) → AW G YX4_callsOften (MZ G YX4_callsOften (Up K R J z (some (.int (nI (oftenN st t n a)))) (fun I' => RM (I' 141) (oftenA st t n a) ∧ FrO 141 I I'))) 35 [(0, .ref (G.1 140)), (1, .int (nI st)), (2, .int (nI n)), (3, .int (nI t)), (4, .int (nI x)), (5, .int (nI q))] [] (K, R, I1, J, z) 0 0 := by
        intro hroom
        have hIc := hI1.call hst hroom
        have hcn := callN_le b st
        have hgo : ¬ (b.2.1.length = 16 ∧ refd b st = false) := by
          intro q2
          rcases hroom with q3 | q3
          · rw [q2.2] at q3; cases q3
          · omega
        rw [oftenA, if_neg hgo] at hA
        rw [oftenN, if_neg hgo] at hN
        refine aw_iload dX4_callsOften_35 rfl ?_
        refine aw_aload_n dX4_callsOften_37 rfl ?_
        refine aw_iload_n dX4_callsOften_38 rfl ?_
        refine aw_vUp dX4_callsOften_39 cvX4_84 ⟨Nat.le_of_ble_eq_true rfl, Nat.le_of_ble_eq_true rfl⟩ (by assumption) ⟨_, rfl, rfl⟩ (r_calls (b := m + q + k) hL hM1 hst hI1.1 h16 hroom hC htR (by omega)) rfl rfl (Nat.le_of_ble_eq_true rfl) ⟨rfl, rfl⟩ ⟨Nat.zero_le _, Nat.zero_le _⟩ (fun I39 hP39 => ?_)
        refine aw_if_leN (tgt := 49) dX4_callsOften_42 (by decide) (by omega) (fun hc42 => ?_) (fun hc42 => ?_)
        · refine aw_iconst (v := nI 0) dX4_callsOften_49 rfl ?_
          refine aw_top (x' := nI (if 0 < callN b st then 1 else 0)) (congrArg nI (by first | exact (if_pos hc42).symm | exact (if_neg (by omega)).symm)) ?_
          first | refine aw_iaddN dX4_callsOften_50 ?_ | refine aw_iadd dX4_callsOften_50 ?_
          refine aw_istore (ls' := [(4, _), (0, _), (1, _), (2, _), (3, _), (5, _)]) dX4_callsOften_51 (by decide) rfl ?_
          refine aw_aload_n dX4_callsOften_53 rfl ?_
          refine aw_iload_n dX4_callsOften_54 rfl ?_
          refine aw_vUp dX4_callsOften_55 cvX4_87 ⟨Nat.le_of_ble_eq_true rfl, Nat.le_of_ble_eq_true rfl⟩ (by assumption) ⟨_, rfl, rfl⟩ (r_ticks hL ht hP39.1 hIc hl.call (by omega)) rfl rfl (Nat.le_of_ble_eq_true rfl) ⟨rfl, rfl⟩ ⟨Nat.zero_le _, Nat.zero_le _⟩ (fun I55 hP55 => ?_)
          refine aw_pop dX4_callsOften_58 rfl ?_
          refine aw_iincN (k := 1) (ls' := [(5, _), (4, _), (0, _), (1, _), (2, _), (3, _)]) dX4_callsOften_59 rfl rfl (by decide) rfl ?_
          refine aw_goto (tgt := 6) dX4_callsOften_62 (by decide) ?_
          exact aw_pick [2, 3, 4, 5, 1, 0] rfl (ih (q + 1) I55 (ticksA t (callA b st)) (x + (if 0 < callN b st then 1 else 0)) (by omega) (by omega) hP55.1 (hF1.tr (hP39.2.tr hP55.2)) (hIc.ticks t) (hl.call.ticks t) hA (by rw [← hN]; omega))
        · refine aw_iconst (v := nI 1) dX4_callsOften_45 rfl ?_
          refine aw_goto (tgt := 50) dX4_callsOften_46 (by decide) ?_
          refine aw_top (x' := nI (if 0 < callN b st then 1 else 0)) (congrArg nI (by first | exact (if_pos hc42).symm | exact (if_neg (by omega)).symm)) ?_
          first | refine aw_iaddN dX4_callsOften_50 ?_ | refine aw_iadd dX4_callsOften_50 ?_
          refine aw_istore (ls' := [(4, _), (0, _), (1, _), (2, _), (3, _), (5, _)]) dX4_callsOften_51 (by decide) rfl ?_
          refine aw_aload_n dX4_callsOften_53 rfl ?_
          refine aw_iload_n dX4_callsOften_54 rfl ?_
          refine aw_vUp dX4_callsOften_55 cvX4_87 ⟨Nat.le_of_ble_eq_true rfl, Nat.le_of_ble_eq_true rfl⟩ (by assumption) ⟨_, rfl, rfl⟩ (r_ticks hL ht hP39.1 hIc hl.call (by omega)) rfl rfl (Nat.le_of_ble_eq_true rfl) ⟨rfl, rfl⟩ ⟨Nat.zero_le _, Nat.zero_le _⟩ (fun I55 hP55 => ?_)
          refine aw_pop dX4_callsOften_58 rfl ?_
          refine aw_iincN (k := 1) (ls' := [(5, _), (4, _), (0, _), (1, _), (2, _), (3, _)]) dX4_callsOften_59 rfl rfl (by decide) rfl ?_
          refine aw_goto (tgt := 6) dX4_callsOften_62 (by decide) ?_
          exact aw_pick [2, 3, 4, 5, 1, 0] rfl (ih (q + 1) I55 (ticksA t (callA b st)) (x + (if 0 < callN b st then 1 else 0)) (by omega) (by omega) hP55.1 (hF1.tr (hP39.2.tr hP55.2)) (hIc.ticks t) (hl.call.ticks t) hA (by rw [← hN]; omega))
      refine aw_iload dX4_callsOften_6 rfl ?_
      refine aw_iload_n dX4_callsOften_8 rfl ?_
      refine aw_icmp_geN (tgt := 65) dX4_callsOften_9 (by decide) (by omega) (by omega) (fun hc9 => absurd hc9 (by omega)) (fun hc9 => ?_)
      refine aw_aload_n dX4_callsOften_12 rfl ?_
      refine aw_getR dX4_callsOften_13 flX4_7 rfl (by assumption) (by assumption) ?_
      refine aw_bipush (v := nI 9) dX4_callsOften_16 rfl ?_
      refine aw_iald dX4_callsOften_18 (by assumption) (by omega) rfl (by omega) hM1.2.1 ?_
      refine aw_bipush (v := nI 16) dX4_callsOften_19 rfl ?_
      refine aw_icmp_neN (tgt := 35) dX4_callsOften_21 (by decide) (by omega) (by omega) (fun hc21 => ?_) (fun hc21 => ?_)
      · first
        | exact aw_pick [0, 1, 2, 3, 4, 5] rfl (key (Or.inr (by omega)))
        | exact aw_pick [0, 1, 2, 3, 4, 5] rfl (key (Or.inl (by
            cases q2 : refd b st
            · exact absurd (b2_f q2) hc29
            · rfl)))
      · refine aw_aload_n dX4_callsOften_24 rfl ?_
        refine aw_iload_n dX4_callsOften_25 rfl ?_
        refine aw_vRd dX4_callsOften_26 cvX4_70 ⟨Nat.le_of_ble_eq_true rfl, Nat.le_of_ble_eq_true rfl⟩ (by assumption) ⟨_, rfl, rfl⟩ (r_isRefused hL hM1 hst h16 hC htR) rfl rfl (Nat.le_of_ble_eq_true rfl) ⟨rfl, rfl⟩ ⟨Nat.zero_le _, Nat.zero_le _⟩ ?_
        refine aw_if_neN (tgt := 35) dX4_callsOften_29 (by decide) (by omega) (fun hc29 => ?_) (fun hc29 => ?_)
        · first
          | exact aw_pick [0, 1, 2, 3, 4, 5] rfl (key (Or.inr (by omega)))
          | exact aw_pick [0, 1, 2, 3, 4, 5] rfl (key (Or.inl (by
              cases q2 : refd b st
              · exact absurd (b2_f q2) hc29
              · rfl)))
        · refine aw_iload dX4_callsOften_32 rfl ?_
          exact aw_iret dX4_callsOften_34 rfl (Nat.zero_le _) (Nat.zero_le _) ⟨by
  rw [oftenN, if_pos ⟨hc21, b2_0.mp hc29⟩] at hN
  rw [← hN]; rfl, I1, rfl, by
  rw [oftenA, if_pos ⟨hc21, b2_0.mp hc29⟩] at hA
  rw [← hA]; exact hM1, hF1⟩
  refine run_of (ls := [(0, .ref (G.1 140)), (1, .int (nI st)), (2, .int (nI n)), (3, .int (nI t))]) (by decide +kernel) rfl rfl (Nat.le_of_ble_eq_true rfl) ?_
  refine aw_iconst (v := nI 0) dX4_callsOften_0 rfl ?_
  refine aw_istore (ls' := [(4, _), (0, _), (1, _), (2, _), (3, _)]) dX4_callsOften_1 (by decide) rfl ?_
  refine aw_iconst (v := nI 0) dX4_callsOften_3 rfl ?_
  refine aw_istore (ls' := [(5, _), (4, _), (0, _), (1, _), (2, _), (3, _)]) dX4_callsOften_4 (by decide) rfl ?_
  exact aw_pick [2, 3, 4, 5, 1, 0] rfl (loop n 0 I a 0 rfl (Nat.zero_le _) hM FrO.rf hI hl1 rfl (Nat.zero_add _))
theorem r_onWayOf (hL : LM G K R) (hM : RM (I 141) a) {st : Nat} (hst : st < 4) (h16 : a.2.1.length ≤ 16) (hC : ∀ c ∈ a.2.1, c 0 < 4 ∧ c 3 ≤ 1) : Run G YX4_onWayOf [.ref (G.1 140), .int (nI st)] (K, R, I, J, z) (Rd (K, R, I, J, z) (.int (nI (onWayN a st)))) := by
  obtain ⟨hk0, hr1, hk1, hr2, hk2, hr3, hk3, hr5, hk5, hr9, hk9⟩ := hL
  have hL : LM G K R := ⟨hk0, hr1, hk1, hr2, hk2, hr3, hk3, hr5, hk5, hr9, hk9⟩
  have loop : ∀ (d k : Nat), a.2.1.length - k = d → k ≤ a.2.1.length → AW G YX4_onWayOf (MZ G YX4_onWayOf (Rd (K, R, I, J, z) (.int (nI (onWayN a st))))) 4 [(0, .ref (G.1 140)), (1, .int (nI st)), (2, .int (nI ((a.2.1.take k).countP (fun c => c 0 == st)))), (3, .int (nI k))] [] (K, R, I, J, z) 0 0 := by
    intro d
    induction d using Nat.strongRecOn with
    | _ d ih =>
    intro k hd hkl
    refine aw_iload_n dX4_onWayOf_4 rfl ?_
    refine aw_aload_n dX4_onWayOf_5 rfl ?_
    refine aw_getR dX4_onWayOf_6 flX4_7 rfl (by assumption) (by assumption) ?_
    refine aw_bipush (v := nI 9) dX4_onWayOf_9 rfl ?_
    refine aw_iald dX4_onWayOf_11 (by assumption) (by omega) rfl (by omega) hM.2.1 ?_
    refine aw_icmp_geN (tgt := 39) dX4_onWayOf_12 (by decide) (by omega) (by omega) (fun hc12 => ?_) (fun hc12 => ?_)
    · refine aw_iload_n dX4_onWayOf_39 rfl ?_
      exact aw_iret dX4_onWayOf_40 rfl (Nat.zero_le _) (Nat.zero_le _) ⟨by rw [show k = a.2.1.length by omega, List.take_length]; rfl, rfl⟩
    · obtain ⟨c, hc⟩ : ∃ c, a.2.1[k]? = some c := ⟨_, List.getElem?_eq_getElem (by omega)⟩
      obtain ⟨hc0, hc3⟩ := hC c (List.mem_of_getElem? hc)
      refine aw_iload_n dX4_onWayOf_15 rfl ?_
      refine aw_aload_n dX4_onWayOf_16 rfl ?_
      refine aw_iload_n dX4_onWayOf_17 rfl ?_
      refine aw_iconst (v := nI 0) dX4_onWayOf_18 rfl ?_
      refine aw_vRd dX4_onWayOf_19 cvX4_63 ⟨Nat.le_of_ble_eq_true rfl, Nat.le_of_ble_eq_true rfl⟩ (by assumption) ⟨_, rfl, rfl⟩ (r_callOfv (w := 0) (v := c 0) hL hM hc h16 (by decide) rfl) rfl rfl (Nat.le_of_ble_eq_true rfl) ⟨rfl, rfl⟩ ⟨Nat.zero_le _, Nat.zero_le _⟩ ?_
      refine aw_iload_n dX4_onWayOf_22 rfl ?_
      refine aw_icmp_neN (tgt := 30) dX4_onWayOf_23 (by decide) (by omega) (by omega) (fun hc23 => ?_) (fun hc23 => ?_)
      · refine aw_iconst (v := nI 0) dX4_onWayOf_30 rfl ?_
        first | refine aw_iaddN dX4_onWayOf_31 ?_ | refine aw_iadd dX4_onWayOf_31 ?_
        refine aw_top (x' := nI ((a.2.1.take (k + 1)).countP (fun c => c 0 == st))) (congrArg nI ?_) ?_
        · rw [countP_take _ hc]
          first
          | exact ow1 hc23
          | exact ow0 hc23
        refine aw_istore_n (ls' := [(2, _), (0, _), (1, _), (3, _)]) dX4_onWayOf_32 (by decide) rfl ?_
        refine aw_iincN (k := 1) (ls' := [(3, _), (2, _), (0, _), (1, _)]) dX4_onWayOf_33 rfl rfl (by decide) rfl ?_
        refine aw_goto (tgt := 4) dX4_onWayOf_36 (by decide) ?_
        exact aw_pick [2, 3, 1, 0] rfl (ih (a.2.1.length - (k + 1)) (by omega) (k + 1) rfl (by omega))
      · refine aw_iconst (v := nI 1) dX4_onWayOf_26 rfl ?_
        refine aw_goto (tgt := 31) dX4_onWayOf_27 (by decide) ?_
        first | refine aw_iaddN dX4_onWayOf_31 ?_ | refine aw_iadd dX4_onWayOf_31 ?_
        refine aw_top (x' := nI ((a.2.1.take (k + 1)).countP (fun c => c 0 == st))) (congrArg nI ?_) ?_
        · rw [countP_take _ hc]
          first
          | exact ow1 hc23
          | exact ow0 hc23
        refine aw_istore_n (ls' := [(2, _), (0, _), (1, _), (3, _)]) dX4_onWayOf_32 (by decide) rfl ?_
        refine aw_iincN (k := 1) (ls' := [(3, _), (2, _), (0, _), (1, _)]) dX4_onWayOf_33 rfl rfl (by decide) rfl ?_
        refine aw_goto (tgt := 4) dX4_onWayOf_36 (by decide) ?_
        exact aw_pick [2, 3, 1, 0] rfl (ih (a.2.1.length - (k + 1)) (by omega) (k + 1) rfl (by omega))
  refine run_of (ls := [(0, .ref (G.1 140)), (1, .int (nI st))]) (by decide +kernel) rfl rfl (Nat.le_of_ble_eq_true rfl) ?_
  refine aw_iconst (v := nI 0) dX4_onWayOf_0 rfl ?_
  refine aw_istore_n (ls' := [(2, _), (0, _), (1, _)]) dX4_onWayOf_1 (by decide) rfl ?_
  refine aw_iconst (v := nI 0) dX4_onWayOf_2 rfl ?_
  refine aw_istore_n (ls' := [(3, _), (2, _), (0, _), (1, _)]) dX4_onWayOf_3 (by decide) rfl ?_
  exact aw_pick [2, 3, 1, 0] rfl (loop a.2.1.length 0 rfl (Nat.zero_le _))
end MODEL8
end
section
/-! THE REFERENCE: the healthiest store, what is told -/
theorem bestN_c {a : AA} {q : Nat} (h : a.2.2 q 2 ≠ 0) : bestN a (q + 1) = bestN a q := by rw [bestN, if_neg h]
theorem bestN_n {a : AA} {q : Nat} (h : a.2.2 q 2 = 0) (hb : bestN a q = none) : bestN a (q + 1) = some q := by rw [bestN, if_pos h, hb]
theorem bestN_y {a : AA} {q b : Nat} (h : a.2.2 q 2 = 0) (hb : bestN a q = some b) (hc : badWinR a.1 (a.2.2 q) < badWinR a.1 (a.2.2 b) ∨ (badWinR a.1 (a.2.2 q) = badWinR a.1 (a.2.2 b) ∧ onWayN a q < onWayN a b)) : bestN a (q + 1) = some q := by
  rw [bestN, if_pos h, hb]; exact if_pos hc
theorem bestN_k {a : AA} {q b : Nat} (h : a.2.2 q 2 = 0) (hb : bestN a q = some b) (hc : ¬ (badWinR a.1 (a.2.2 q) < badWinR a.1 (a.2.2 b) ∨ (badWinR a.1 (a.2.2 q) = badWinR a.1 (a.2.2 b) ∧ onWayN a q < onWayN a b))) : bestN a (q + 1) = some b := by
  rw [bestN, if_pos h, hb]; exact if_neg hc
/-- what is told of a store -/
def tellN (a : AA) (st : Nat) : Nat → Nat
  | 0 => a.2.2 st 2
  | 1 => inWinR a.1 (a.2.2 st)
  | 2 => badWinR a.1 (a.2.2 st)
  | 3 => a.2.2 st 5
  | 4 => a.2.2 st 6
  | 5 => a.2.2 st 7
  | 6 => a.2.2 st 8
  | 7 => a.2.2 st 9
  | 8 => onWayN a st
  | 9 => a.2.2 st 10
  | _ => a.2.2 st (12 + a.2.2 st 1)
/-- over the first n stores -/
def ovN (a : AA) (w : Nat) : Nat → Nat
  | 0 => 0
  | n + 1 => ovN a w n + (if w = 6 then (if a.2.2 n 2 = 0 then 1 else 0) else a.2.2 n (if w = 2 then 7 else 8))
def cntN (a : AA) (sm : Nat) : Nat → Nat
  | 0 => a.1 5
  | 1 => a.2.1.length
  | 2 => ovN a 2 4
  | 3 => ovN a 3 4
  | 4 => a.1 6
  | 5 => a.1 7
  | 6 => ovN a 6 4
  | 7 => a.1 8
  | _ => sm
section MODEL9
variable {G : GG} {K : Nat → Option (Nat × Nat)} {R : Nat → Nat → Value} {I : Nat → Nat → Int32} {J : Nat → Nat → Int64} {z : Nat} {σ : Sg} {a : AA} {m k : Nat}
theorem r_bestStore (hL : LM G K R) (hM : RM (I 141) a) (hI : IV m k a) : Run G YX4_bestStore [.ref (G.1 140)] (K, R, I, J, z) (Rd (K, R, I, J, z) (.int (oI (bestN a 4)))) := by
  obtain ⟨hk0, hr1, hk1, hr2, hk2, hr3, hk3, hr5, hk5, hr9, hk9⟩ := hL
  have hL : LM G K R := ⟨hk0, hr1, hk1, hr2, hk2, hr3, hk3, hr5, hk5, hr9, hk9⟩
  have h16 := hI.2.1
  have hg := hI.1
  have hC : ∀ c ∈ a.2.1, c 0 < 4 ∧ c 3 ≤ 1 := fun c hc => ⟨(hI.2.2.1 c hc).1, (hI.2.2.1 c hc).2.2.2.2.1⟩
  have loop : ∀ (d q : Nat), 4 - q = d → q ≤ 4 → AW G YX4_bestStore (MZ G YX4_bestStore (Rd (K, R, I, J, z) (.int (oI (bestN a 4))))) 4 [(0, .ref (G.1 140)), (1, .int (oI (bestN a q))), (2, .int (nI q))] [] (K, R, I, J, z) 0 0 := by
    intro d
    induction d with
    | zero =>
      intro q hd hq
      refine aw_iload_n dX4_bestStore_4 rfl ?_
      refine aw_iconst (v := nI 4) dX4_bestStore_5 rfl ?_
      refine aw_icmp_geN (tgt := 89) dX4_bestStore_6 (by decide) (by omega) (by omega) (fun hc6 => ?_) (fun hc6 => absurd hc6 (by omega))
      refine aw_iload_n dX4_bestStore_89 rfl ?_
      exact aw_iret dX4_bestStore_90 rfl (Nat.zero_le _) (Nat.zero_le _) ⟨by rw [show q = 4 by omega], rfl⟩
    | succ d ih =>
      intro q hd hq
      have hRq := hI.2.2.2.2.1 q (by omega)
      have hq2 : a.2.2 q 2 ≤ 2 := hRq.2.2.2.1
      have hih := ih (q + 1) (by omega) (by omega)
      have w1 := onWayN_le a q
      have x1 := badWinR_le (t := a.2.2 q) hg
      cases hb : bestN a q with
      | none =>
        rw [show oI none = -1 from rfl]
        refine aw_iload_n dX4_bestStore_4 rfl ?_
        refine aw_iconst (v := nI 4) dX4_bestStore_5 rfl ?_
        refine aw_icmp_geN (tgt := 89) dX4_bestStore_6 (by decide) (by omega) (by omega) (fun hc6 => absurd hc6 (by omega)) (fun hc6 => ?_)
        refine aw_aload_n dX4_bestStore_9 rfl ?_
        refine aw_iload_n dX4_bestStore_10 rfl ?_
        refine aw_iconst (v := nI 2) dX4_bestStore_11 rfl ?_
        refine aw_vRd dX4_bestStore_12 cvX4_40 ⟨Nat.le_of_ble_eq_true rfl, Nat.le_of_ble_eq_true rfl⟩ (by assumption) ⟨_, rfl, rfl⟩ (r_of (w := 2) hL hM (by omega) (by decide)) rfl rfl (Nat.le_of_ble_eq_true rfl) ⟨rfl, rfl⟩ ⟨Nat.zero_le _, Nat.zero_le _⟩ ?_
        refine aw_if_neN (tgt := 83) dX4_bestStore_15 (by decide) (by omega) (fun hc15 => ?_) (fun hc15 => ?_)
        · refine aw_iincN (k := 1) (ls' := [(2, _), (0, _), (1, _)]) dX4_bestStore_83 rfl rfl (by decide) rfl ?_
          refine aw_goto (tgt := 4) dX4_bestStore_86 (by decide) ?_
          first
          | (rw [bestN_c hc15, hb] at hih; exact aw_pick [1, 2, 0] rfl hih)
          | (rw [bestN_n hc15 hb] at hih; exact aw_pick [1, 2, 0] rfl hih)
        · refine aw_iload_n dX4_bestStore_18 rfl ?_
          refine aw_iconst (v := (-1)) dX4_bestStore_19 rfl ?_
          refine aw_icmp_ne (tgt := 27) dX4_bestStore_20 (by decide) (fun hc20 => absurd rfl hc20) (fun hc20 => ?_)
          refine aw_iconst (v := nI 1) dX4_bestStore_23 rfl ?_
          refine aw_goto (tgt := 38) dX4_bestStore_24 (by decide) ?_
          refine aw_istore_n (ls' := [(3, _), (0, _), (1, _), (2, _)]) dX4_bestStore_38 (by decide) rfl ?_
          refine aw_iload_n dX4_bestStore_39 rfl ?_
          refine aw_iconst (v := (-1)) dX4_bestStore_40 rfl ?_
          refine aw_icmp_eq (tgt := 61) dX4_bestStore_41 (by decide) (fun hc41 => ?_) (fun hc41 => absurd rfl hc41)
          refine aw_iconst (v := nI 0) dX4_bestStore_61 rfl ?_
          refine aw_istore (ls' := [(4, _), (3, _), (0, _), (1, _), (2, _)]) dX4_bestStore_62 (by decide) rfl ?_
          refine aw_iload_n dX4_bestStore_64 rfl ?_
          refine aw_if_gtN (tgt := 77) dX4_bestStore_65 (by decide) (by omega) (fun hc65 => ?_) (fun hc65 => absurd hc65 (by omega))
          refine aw_iload_n dX4_bestStore_77 rfl ?_
          refine aw_goto (tgt := 82) dX4_bestStore_78 (by decide) ?_
          refine aw_istore_n (ls' := [(1, _), (4, _), (3, _), (0, _), (2, _)]) dX4_bestStore_82 (by decide) rfl ?_
          refine aw_iincN (k := 1) (ls' := [(2, _), (1, _), (4, _), (3, _), (0, _)]) dX4_bestStore_83 rfl rfl (by decide) rfl ?_
          refine aw_goto (tgt := 4) dX4_bestStore_86 (by decide) ?_
          first
          | (rw [bestN_c hc15, hb] at hih; exact aw_pick [4, 1, 0] rfl hih)
          | (rw [bestN_n hc15 hb] at hih; exact aw_pick [4, 1, 0] rfl hih)
      | some b =>
        obtain ⟨hbq, hb2⟩ := bestN_lt hb
        have hRb := hI.2.2.2.2.1 b (by omega)
        have w2 := onWayN_le a b
        have x2 := badWinR_le (t := a.2.2 b) hg
        rw [show oI (some b) = nI b from rfl]
        refine aw_iload_n dX4_bestStore_4 rfl ?_
        refine aw_iconst (v := nI 4) dX4_bestStore_5 rfl ?_
        refine aw_icmp_geN (tgt := 89) dX4_bestStore_6 (by decide) (by omega) (by omega) (fun hc6 => absurd hc6 (by omega)) (fun hc6 => ?_)
        refine aw_aload_n dX4_bestStore_9 rfl ?_
        refine aw_iload_n dX4_bestStore_10 rfl ?_
        refine aw_iconst (v := nI 2) dX4_bestStore_11 rfl ?_
        refine aw_vRd dX4_bestStore_12 cvX4_40 ⟨Nat.le_of_ble_eq_true rfl, Nat.le_of_ble_eq_true rfl⟩ (by assumption) ⟨_, rfl, rfl⟩ (r_of (w := 2) hL hM (by omega) (by decide)) rfl rfl (Nat.le_of_ble_eq_true rfl) ⟨rfl, rfl⟩ ⟨Nat.zero_le _, Nat.zero_le _⟩ ?_
        refine aw_if_neN (tgt := 83) dX4_bestStore_15 (by decide) (by omega) (fun hc15 => ?_) (fun hc15 => ?_)
        · refine aw_iincN (k := 1) (ls' := [(2, _), (0, _), (1, _)]) dX4_bestStore_83 rfl rfl (by decide) rfl ?_
          refine aw_goto (tgt := 4) dX4_bestStore_86 (by decide) ?_
          first
          | (rw [bestN_c hc15, hb] at hih; exact aw_pick [1, 2, 0] rfl hih)
          | exact absurd hc74 (by decide)
          | (rw [bestN_y hc15 hb (Or.inl ((sub_pos (by omega) (by omega)).mp hc65))] at hih; exact aw_pick [1, 2, 0] rfl hih)
          | (have e1 := (sub_zero' (by omega) (by omega)).mp hc69
             rw [bestN_y hc15 hb (Or.inr ⟨e1.symm, hc54⟩)] at hih; exact aw_pick [1, 2, 0] rfl hih)
          | (have e1 := (sub_zero' (by omega) (by omega)).mp hc69
             rw [bestN_k hc15 hb (by omega)] at hih; exact aw_pick [1, 2, 0] rfl hih)
          | (have e1 : ¬ badWinR a.1 (a.2.2 q) < badWinR a.1 (a.2.2 b) := fun q1 => hc65 ((sub_pos (by omega) (by omega)).mpr q1)
             have e2 : ¬ badWinR a.1 (a.2.2 b) = badWinR a.1 (a.2.2 q) := fun q1 => hc69 ((sub_zero' (by omega) (by omega)).mpr q1)
             rw [bestN_k hc15 hb (by omega)] at hih; exact aw_pick [1, 2, 0] rfl hih)
        · refine aw_iload_n dX4_bestStore_18 rfl ?_
          refine aw_iconst (v := (-1)) dX4_bestStore_19 rfl ?_
          refine aw_icmp_ne (tgt := 27) dX4_bestStore_20 (by decide) (fun hc20 => ?_) (fun hc20 => absurd hc20 (nI_m1 (by omega)))
          refine aw_aload_n dX4_bestStore_27 rfl ?_
          refine aw_iload_n dX4_bestStore_28 rfl ?_
          refine aw_vRd dX4_bestStore_29 cvX4_60 ⟨Nat.le_of_ble_eq_true rfl, Nat.le_of_ble_eq_true rfl⟩ (by assumption) ⟨_, rfl, rfl⟩ (r_badInWindow hL hM (by omega) hg hRb) rfl rfl (Nat.le_of_ble_eq_true rfl) ⟨rfl, rfl⟩ ⟨Nat.zero_le _, Nat.zero_le _⟩ ?_
          refine aw_aload_n dX4_bestStore_32 rfl ?_
          refine aw_iload_n dX4_bestStore_33 rfl ?_
          refine aw_vRd dX4_bestStore_34 cvX4_60 ⟨Nat.le_of_ble_eq_true rfl, Nat.le_of_ble_eq_true rfl⟩ (by assumption) ⟨_, rfl, rfl⟩ (r_badInWindow hL hM (by omega) hg hRq) rfl rfl (Nat.le_of_ble_eq_true rfl) ⟨rfl, rfl⟩ ⟨Nat.zero_le _, Nat.zero_le _⟩ ?_
          refine aw_isub dX4_bestStore_37 ?_
          refine aw_istore_n (ls' := [(3, _), (0, _), (1, _), (2, _)]) dX4_bestStore_38 (by decide) rfl ?_
          refine aw_iload_n dX4_bestStore_39 rfl ?_
          refine aw_iconst (v := (-1)) dX4_bestStore_40 rfl ?_
          refine aw_icmp_eq (tgt := 61) dX4_bestStore_41 (by decide) (fun hc41 => absurd hc41 (nI_m1 (by omega))) (fun hc41 => ?_)
          refine aw_aload_n dX4_bestStore_44 rfl ?_
          refine aw_iload_n dX4_bestStore_45 rfl ?_
          refine aw_vRd dX4_bestStore_46 cvX4_103 ⟨Nat.le_of_ble_eq_true rfl, Nat.le_of_ble_eq_true rfl⟩ (by assumption) ⟨_, rfl, rfl⟩ (r_onWayOf hL hM (by omega) h16 hC) rfl rfl (Nat.le_of_ble_eq_true rfl) ⟨rfl, rfl⟩ ⟨Nat.zero_le _, Nat.zero_le _⟩ ?_
          refine aw_aload_n dX4_bestStore_49 rfl ?_
          refine aw_iload_n dX4_bestStore_50 rfl ?_
          refine aw_vRd dX4_bestStore_51 cvX4_103 ⟨Nat.le_of_ble_eq_true rfl, Nat.le_of_ble_eq_true rfl⟩ (by assumption) ⟨_, rfl, rfl⟩ (r_onWayOf hL hM (by omega) h16 hC) rfl rfl (Nat.le_of_ble_eq_true rfl) ⟨rfl, rfl⟩ ⟨Nat.zero_le _, Nat.zero_le _⟩ ?_
          refine aw_icmp_geN (tgt := 61) dX4_bestStore_54 (by decide) (by omega) (by omega) (fun hc54 => ?_) (fun hc54 => ?_)
          · refine aw_iconst (v := nI 0) dX4_bestStore_61 rfl ?_
            refine aw_istore (ls' := [(4, _), (3, _), (0, _), (1, _), (2, _)]) dX4_bestStore_62 (by decide) rfl ?_
            refine aw_iload_n dX4_bestStore_64 rfl ?_
            refine aw_if_gt (tgt := 77) dX4_bestStore_65 (by decide) (fun hc65 => ?_) (fun hc65 => ?_)
            · refine aw_iload_n dX4_bestStore_77 rfl ?_
              refine aw_goto (tgt := 82) dX4_bestStore_78 (by decide) ?_
              refine aw_istore_n (ls' := [(1, _), (4, _), (3, _), (0, _), (2, _)]) dX4_bestStore_82 (by decide) rfl ?_
              refine aw_iincN (k := 1) (ls' := [(2, _), (1, _), (4, _), (3, _), (0, _)]) dX4_bestStore_83 rfl rfl (by decide) rfl ?_
              refine aw_goto (tgt := 4) dX4_bestStore_86 (by decide) ?_
              first
              | (rw [bestN_c hc15, hb] at hih; exact aw_pick [4, 1, 0] rfl hih)
              | exact absurd hc74 (by decide)
              | (rw [bestN_y hc15 hb (Or.inl ((sub_pos (by omega) (by omega)).mp hc65))] at hih; exact aw_pick [4, 1, 0] rfl hih)
              | (have e1 := (sub_zero' (by omega) (by omega)).mp hc69
                 rw [bestN_y hc15 hb (Or.inr ⟨e1.symm, hc54⟩)] at hih; exact aw_pick [4, 1, 0] rfl hih)
              | (have e1 := (sub_zero' (by omega) (by omega)).mp hc69
                 rw [bestN_k hc15 hb (by omega)] at hih; exact aw_pick [4, 1, 0] rfl hih)
              | (have e1 : ¬ badWinR a.1 (a.2.2 q) < badWinR a.1 (a.2.2 b) := fun q1 => hc65 ((sub_pos (by omega) (by omega)).mpr q1)
                 have e2 : ¬ badWinR a.1 (a.2.2 b) = badWinR a.1 (a.2.2 q) := fun q1 => hc69 ((sub_zero' (by omega) (by omega)).mpr q1)
                 rw [bestN_k hc15 hb (by omega)] at hih; exact aw_pick [4, 1, 0] rfl hih)
            · refine aw_iload_n dX4_bestStore_68 rfl ?_
              refine aw_if_ne (tgt := 81) dX4_bestStore_69 (by decide) (fun hc69 => ?_) (fun hc69 => ?_)
              · refine aw_iload_n dX4_bestStore_81 rfl ?_
                refine aw_istore_n (ls' := [(1, _), (4, _), (3, _), (0, _), (2, _)]) dX4_bestStore_82 (by decide) rfl ?_
                refine aw_iincN (k := 1) (ls' := [(2, _), (1, _), (4, _), (3, _), (0, _)]) dX4_bestStore_83 rfl rfl (by decide) rfl ?_
                refine aw_goto (tgt := 4) dX4_bestStore_86 (by decide) ?_
                first
                | (rw [bestN_c hc15, hb] at hih; exact aw_pick [4, 1, 0] rfl hih)
                | exact absurd hc74 (by decide)
                | (rw [bestN_y hc15 hb (Or.inl ((sub_pos (by omega) (by omega)).mp hc65))] at hih; exact aw_pick [4, 1, 0] rfl hih)
                | (have e1 := (sub_zero' (by omega) (by omega)).mp hc69
                   rw [bestN_y hc15 hb (Or.inr ⟨e1.symm, hc54⟩)] at hih; exact aw_pick [4, 1, 0] rfl hih)
                | (have e1 := (sub_zero' (by omega) (by omega)).mp hc69
                   rw [bestN_k hc15 hb (by omega)] at hih; exact aw_pick [4, 1, 0] rfl hih)
                | (have e1 : ¬ badWinR a.1 (a.2.2 q) < badWinR a.1 (a.2.2 b) := fun q1 => hc65 ((sub_pos (by omega) (by omega)).mpr q1)
                   have e2 : ¬ badWinR a.1 (a.2.2 b) = badWinR a.1 (a.2.2 q) := fun q1 => hc69 ((sub_zero' (by omega) (by omega)).mpr q1)
                   rw [bestN_k hc15 hb (by omega)] at hih; exact aw_pick [4, 1, 0] rfl hih)
              · refine aw_iload dX4_bestStore_72 rfl ?_
                refine aw_if_eqN (tgt := 81) dX4_bestStore_74 (by decide) (by omega) (fun hc74 => ?_) (fun hc74 => ?_)
                · refine aw_iload_n dX4_bestStore_81 rfl ?_
                  refine aw_istore_n (ls' := [(1, _), (4, _), (3, _), (0, _), (2, _)]) dX4_bestStore_82 (by decide) rfl ?_
                  refine aw_iincN (k := 1) (ls' := [(2, _), (1, _), (4, _), (3, _), (0, _)]) dX4_bestStore_83 rfl rfl (by decide) rfl ?_
                  refine aw_goto (tgt := 4) dX4_bestStore_86 (by decide) ?_
                  first
                  | (rw [bestN_c hc15, hb] at hih; exact aw_pick [4, 1, 0] rfl hih)
                  | exact absurd hc74 (by decide)
                  | (rw [bestN_y hc15 hb (Or.inl ((sub_pos (by omega) (by omega)).mp hc65))] at hih; exact aw_pick [4, 1, 0] rfl hih)
                  | (have e1 := (sub_zero' (by omega) (by omega)).mp hc69
                     rw [bestN_y hc15 hb (Or.inr ⟨e1.symm, hc54⟩)] at hih; exact aw_pick [4, 1, 0] rfl hih)
                  | (have e1 := (sub_zero' (by omega) (by omega)).mp hc69
                     rw [bestN_k hc15 hb (by omega)] at hih; exact aw_pick [4, 1, 0] rfl hih)
                  | (have e1 : ¬ badWinR a.1 (a.2.2 q) < badWinR a.1 (a.2.2 b) := fun q1 => hc65 ((sub_pos (by omega) (by omega)).mpr q1)
                     have e2 : ¬ badWinR a.1 (a.2.2 b) = badWinR a.1 (a.2.2 q) := fun q1 => hc69 ((sub_zero' (by omega) (by omega)).mpr q1)
                     rw [bestN_k hc15 hb (by omega)] at hih; exact aw_pick [4, 1, 0] rfl hih)
                · refine aw_iload_n dX4_bestStore_77 rfl ?_
                  refine aw_goto (tgt := 82) dX4_bestStore_78 (by decide) ?_
                  refine aw_istore_n (ls' := [(1, _), (4, _), (3, _), (0, _), (2, _)]) dX4_bestStore_82 (by decide) rfl ?_
                  refine aw_iincN (k := 1) (ls' := [(2, _), (1, _), (4, _), (3, _), (0, _)]) dX4_bestStore_83 rfl rfl (by decide) rfl ?_
                  refine aw_goto (tgt := 4) dX4_bestStore_86 (by decide) ?_
                  first
                  | (rw [bestN_c hc15, hb] at hih; exact aw_pick [4, 1, 0] rfl hih)
                  | exact absurd hc74 (by decide)
                  | (rw [bestN_y hc15 hb (Or.inl ((sub_pos (by omega) (by omega)).mp hc65))] at hih; exact aw_pick [4, 1, 0] rfl hih)
                  | (have e1 := (sub_zero' (by omega) (by omega)).mp hc69
                     rw [bestN_y hc15 hb (Or.inr ⟨e1.symm, hc54⟩)] at hih; exact aw_pick [4, 1, 0] rfl hih)
                  | (have e1 := (sub_zero' (by omega) (by omega)).mp hc69
                     rw [bestN_k hc15 hb (by omega)] at hih; exact aw_pick [4, 1, 0] rfl hih)
                  | (have e1 : ¬ badWinR a.1 (a.2.2 q) < badWinR a.1 (a.2.2 b) := fun q1 => hc65 ((sub_pos (by omega) (by omega)).mpr q1)
                     have e2 : ¬ badWinR a.1 (a.2.2 b) = badWinR a.1 (a.2.2 q) := fun q1 => hc69 ((sub_zero' (by omega) (by omega)).mpr q1)
                     rw [bestN_k hc15 hb (by omega)] at hih; exact aw_pick [4, 1, 0] rfl hih)
          · refine aw_iconst (v := nI 1) dX4_bestStore_57 rfl ?_
            refine aw_goto (tgt := 62) dX4_bestStore_58 (by decide) ?_
            refine aw_istore (ls' := [(4, _), (3, _), (0, _), (1, _), (2, _)]) dX4_bestStore_62 (by decide) rfl ?_
            refine aw_iload_n dX4_bestStore_64 rfl ?_
            refine aw_if_gt (tgt := 77) dX4_bestStore_65 (by decide) (fun hc65 => ?_) (fun hc65 => ?_)
            · refine aw_iload_n dX4_bestStore_77 rfl ?_
              refine aw_goto (tgt := 82) dX4_bestStore_78 (by decide) ?_
              refine aw_istore_n (ls' := [(1, _), (4, _), (3, _), (0, _), (2, _)]) dX4_bestStore_82 (by decide) rfl ?_
              refine aw_iincN (k := 1) (ls' := [(2, _), (1, _), (4, _), (3, _), (0, _)]) dX4_bestStore_83 rfl rfl (by decide) rfl ?_
              refine aw_goto (tgt := 4) dX4_bestStore_86 (by decide) ?_
              first
              | (rw [bestN_c hc15, hb] at hih; exact aw_pick [4, 1, 0] rfl hih)
              | exact absurd hc74 (by decide)
              | (rw [bestN_y hc15 hb (Or.inl ((sub_pos (by omega) (by omega)).mp hc65))] at hih; exact aw_pick [4, 1, 0] rfl hih)
              | (have e1 := (sub_zero' (by omega) (by omega)).mp hc69
                 rw [bestN_y hc15 hb (Or.inr ⟨e1.symm, hc54⟩)] at hih; exact aw_pick [4, 1, 0] rfl hih)
              | (have e1 := (sub_zero' (by omega) (by omega)).mp hc69
                 rw [bestN_k hc15 hb (by omega)] at hih; exact aw_pick [4, 1, 0] rfl hih)
              | (have e1 : ¬ badWinR a.1 (a.2.2 q) < badWinR a.1 (a.2.2 b) := fun q1 => hc65 ((sub_pos (by omega) (by omega)).mpr q1)
                 have e2 : ¬ badWinR a.1 (a.2.2 b) = badWinR a.1 (a.2.2 q) := fun q1 => hc69 ((sub_zero' (by omega) (by omega)).mpr q1)
                 rw [bestN_k hc15 hb (by omega)] at hih; exact aw_pick [4, 1, 0] rfl hih)
            · refine aw_iload_n dX4_bestStore_68 rfl ?_
              refine aw_if_ne (tgt := 81) dX4_bestStore_69 (by decide) (fun hc69 => ?_) (fun hc69 => ?_)
              · refine aw_iload_n dX4_bestStore_81 rfl ?_
                refine aw_istore_n (ls' := [(1, _), (4, _), (3, _), (0, _), (2, _)]) dX4_bestStore_82 (by decide) rfl ?_
                refine aw_iincN (k := 1) (ls' := [(2, _), (1, _), (4, _), (3, _), (0, _)]) dX4_bestStore_83 rfl rfl (by decide) rfl ?_
                refine aw_goto (tgt := 4) dX4_bestStore_86 (by decide) ?_
                first
                | (rw [bestN_c hc15, hb] at hih; exact aw_pick [4, 1, 0] rfl hih)
                | exact absurd hc74 (by decide)
                | (rw [bestN_y hc15 hb (Or.inl ((sub_pos (by omega) (by omega)).mp hc65))] at hih; exact aw_pick [4, 1, 0] rfl hih)
                | (have e1 := (sub_zero' (by omega) (by omega)).mp hc69
                   rw [bestN_y hc15 hb (Or.inr ⟨e1.symm, hc54⟩)] at hih; exact aw_pick [4, 1, 0] rfl hih)
                | (have e1 := (sub_zero' (by omega) (by omega)).mp hc69
                   rw [bestN_k hc15 hb (by omega)] at hih; exact aw_pick [4, 1, 0] rfl hih)
                | (have e1 : ¬ badWinR a.1 (a.2.2 q) < badWinR a.1 (a.2.2 b) := fun q1 => hc65 ((sub_pos (by omega) (by omega)).mpr q1)
                   have e2 : ¬ badWinR a.1 (a.2.2 b) = badWinR a.1 (a.2.2 q) := fun q1 => hc69 ((sub_zero' (by omega) (by omega)).mpr q1)
                   rw [bestN_k hc15 hb (by omega)] at hih; exact aw_pick [4, 1, 0] rfl hih)
              · refine aw_iload dX4_bestStore_72 rfl ?_
                refine aw_if_eqN (tgt := 81) dX4_bestStore_74 (by decide) (by omega) (fun hc74 => ?_) (fun hc74 => ?_)
                · refine aw_iload_n dX4_bestStore_81 rfl ?_
                  refine aw_istore_n (ls' := [(1, _), (4, _), (3, _), (0, _), (2, _)]) dX4_bestStore_82 (by decide) rfl ?_
                  refine aw_iincN (k := 1) (ls' := [(2, _), (1, _), (4, _), (3, _), (0, _)]) dX4_bestStore_83 rfl rfl (by decide) rfl ?_
                  refine aw_goto (tgt := 4) dX4_bestStore_86 (by decide) ?_
                  first
                  | (rw [bestN_c hc15, hb] at hih; exact aw_pick [4, 1, 0] rfl hih)
                  | exact absurd hc74 (by decide)
                  | (rw [bestN_y hc15 hb (Or.inl ((sub_pos (by omega) (by omega)).mp hc65))] at hih; exact aw_pick [4, 1, 0] rfl hih)
                  | (have e1 := (sub_zero' (by omega) (by omega)).mp hc69
                     rw [bestN_y hc15 hb (Or.inr ⟨e1.symm, hc54⟩)] at hih; exact aw_pick [4, 1, 0] rfl hih)
                  | (have e1 := (sub_zero' (by omega) (by omega)).mp hc69
                     rw [bestN_k hc15 hb (by omega)] at hih; exact aw_pick [4, 1, 0] rfl hih)
                  | (have e1 : ¬ badWinR a.1 (a.2.2 q) < badWinR a.1 (a.2.2 b) := fun q1 => hc65 ((sub_pos (by omega) (by omega)).mpr q1)
                     have e2 : ¬ badWinR a.1 (a.2.2 b) = badWinR a.1 (a.2.2 q) := fun q1 => hc69 ((sub_zero' (by omega) (by omega)).mpr q1)
                     rw [bestN_k hc15 hb (by omega)] at hih; exact aw_pick [4, 1, 0] rfl hih)
                · refine aw_iload_n dX4_bestStore_77 rfl ?_
                  refine aw_goto (tgt := 82) dX4_bestStore_78 (by decide) ?_
                  refine aw_istore_n (ls' := [(1, _), (4, _), (3, _), (0, _), (2, _)]) dX4_bestStore_82 (by decide) rfl ?_
                  refine aw_iincN (k := 1) (ls' := [(2, _), (1, _), (4, _), (3, _), (0, _)]) dX4_bestStore_83 rfl rfl (by decide) rfl ?_
                  refine aw_goto (tgt := 4) dX4_bestStore_86 (by decide) ?_
                  first
                  | (rw [bestN_c hc15, hb] at hih; exact aw_pick [4, 1, 0] rfl hih)
                  | exact absurd hc74 (by decide)
                  | (rw [bestN_y hc15 hb (Or.inl ((sub_pos (by omega) (by omega)).mp hc65))] at hih; exact aw_pick [4, 1, 0] rfl hih)
                  | (have e1 := (sub_zero' (by omega) (by omega)).mp hc69
                     rw [bestN_y hc15 hb (Or.inr ⟨e1.symm, hc54⟩)] at hih; exact aw_pick [4, 1, 0] rfl hih)
                  | (have e1 := (sub_zero' (by omega) (by omega)).mp hc69
                     rw [bestN_k hc15 hb (by omega)] at hih; exact aw_pick [4, 1, 0] rfl hih)
                  | (have e1 : ¬ badWinR a.1 (a.2.2 q) < badWinR a.1 (a.2.2 b) := fun q1 => hc65 ((sub_pos (by omega) (by omega)).mpr q1)
                     have e2 : ¬ badWinR a.1 (a.2.2 b) = badWinR a.1 (a.2.2 q) := fun q1 => hc69 ((sub_zero' (by omega) (by omega)).mpr q1)
                     rw [bestN_k hc15 hb (by omega)] at hih; exact aw_pick [4, 1, 0] rfl hih)
  refine run_of (ls := [(0, .ref (G.1 140))]) (by decide +kernel) rfl rfl (Nat.le_of_ble_eq_true rfl) ?_
  refine aw_iconst (v := (-1)) dX4_bestStore_0 rfl ?_
  refine aw_istore_n (ls' := [(1, _), (0, _)]) dX4_bestStore_1 (by decide) rfl ?_
  refine aw_iconst (v := nI 0) dX4_bestStore_2 rfl ?_
  refine aw_istore_n (ls' := [(2, _), (1, _), (0, _)]) dX4_bestStore_3 (by decide) rfl ?_
  exact aw_pick [2, 1, 0] rfl (loop 4 0 rfl (by decide))
theorem r_tellsStore (hL : LM G K R) (hM : RM (I 141) a) (hI : IV m k a) {st w : Nat} (hst : st < 4) (hw : w ≤ 10) : Run G YX4_tellsStore [.ref (G.1 140), .int (nI st), .int (nI w)] (K, R, I, J, z) (Rd (K, R, I, J, z) (.int (nI (tellN a st w)))) := by
  obtain ⟨hk0, hr1, hk1, hr2, hk2, hr3, hk3, hr5, hk5, hr9, hk9⟩ := hL
  have hL : LM G K R := ⟨hk0, hr1, hk1, hr2, hk2, hr3, hk3, hr5, hk5, hr9, hk9⟩
  have h16 := hI.2.1
  have hg := hI.1
  have hC : ∀ c ∈ a.2.1, c 0 < 4 ∧ c 3 ≤ 1 := fun c hc => ⟨(hI.2.2.1 c hc).1, (hI.2.2.1 c hc).2.2.2.2.1⟩
  have hR := hI.2.2.2.2.1 st hst
  have h1 := hR.2.2.1
  have h0 := hR.2.1
  rcases (show w = 0 ∨ w = 1 ∨ w = 2 ∨ w = 3 ∨ w = 4 ∨ w = 5 ∨ w = 6 ∨ w = 7 ∨ w = 8 ∨ w = 9 ∨ w = 10 by omega) with rfl | rfl | rfl | rfl | rfl | rfl | rfl | rfl | rfl | rfl | rfl
  · refine run_of (ls := [(0, .ref (G.1 140)), (1, .int (nI st)), (2, .int (nI 0))]) (by decide +kernel) rfl rfl (Nat.le_of_ble_eq_true rfl) ?_
    refine aw_iload_n dX4_tellsStore_0 rfl ?_
    refine aw_tableIn (tgt := 56) dX4_tellsStore_1 (by decide) (by decide) rfl (by decide) ?_
    refine aw_aload_n dX4_tellsStore_56 rfl ?_
    refine aw_iload_n dX4_tellsStore_57 rfl ?_
    refine aw_iconst (v := nI 2) dX4_tellsStore_58 rfl ?_
    refine aw_vRd dX4_tellsStore_59 cvX4_40 ⟨Nat.le_of_ble_eq_true rfl, Nat.le_of_ble_eq_true rfl⟩ (by assumption) ⟨_, rfl, rfl⟩ (r_of (w := 2) hL hM hst (by decide)) rfl rfl (Nat.le_of_ble_eq_true rfl) ⟨rfl, rfl⟩ ⟨Nat.zero_le _, Nat.zero_le _⟩ ?_
    exact aw_iret dX4_tellsStore_62 rfl (Nat.zero_le _) (Nat.zero_le _) ⟨rfl, rfl⟩
  · refine run_of (ls := [(0, .ref (G.1 140)), (1, .int (nI st)), (2, .int (nI 1))]) (by decide +kernel) rfl rfl (Nat.le_of_ble_eq_true rfl) ?_
    refine aw_iload_n dX4_tellsStore_0 rfl ?_
    refine aw_tableIn (tgt := 63) dX4_tellsStore_1 (by decide) (by decide) rfl (by decide) ?_
    refine aw_aload_n dX4_tellsStore_63 rfl ?_
    refine aw_iload_n dX4_tellsStore_64 rfl ?_
    refine aw_vRd dX4_tellsStore_65 cvX4_44 ⟨Nat.le_of_ble_eq_true rfl, Nat.le_of_ble_eq_true rfl⟩ (by assumption) ⟨_, rfl, rfl⟩ (r_inWindow hL hM hst hg hR) rfl rfl (Nat.le_of_ble_eq_true rfl) ⟨rfl, rfl⟩ ⟨Nat.zero_le _, Nat.zero_le _⟩ ?_
    exact aw_iret dX4_tellsStore_68 rfl (Nat.zero_le _) (Nat.zero_le _) ⟨rfl, rfl⟩
  · refine run_of (ls := [(0, .ref (G.1 140)), (1, .int (nI st)), (2, .int (nI 2))]) (by decide +kernel) rfl rfl (Nat.le_of_ble_eq_true rfl) ?_
    refine aw_iload_n dX4_tellsStore_0 rfl ?_
    refine aw_tableIn (tgt := 69) dX4_tellsStore_1 (by decide) (by decide) rfl (by decide) ?_
    refine aw_aload_n dX4_tellsStore_69 rfl ?_
    refine aw_iload_n dX4_tellsStore_70 rfl ?_
    refine aw_vRd dX4_tellsStore_71 cvX4_60 ⟨Nat.le_of_ble_eq_true rfl, Nat.le_of_ble_eq_true rfl⟩ (by assumption) ⟨_, rfl, rfl⟩ (r_badInWindow hL hM hst hg hR) rfl rfl (Nat.le_of_ble_eq_true rfl) ⟨rfl, rfl⟩ ⟨Nat.zero_le _, Nat.zero_le _⟩ ?_
    exact aw_iret dX4_tellsStore_74 rfl (Nat.zero_le _) (Nat.zero_le _) ⟨rfl, rfl⟩
  · refine run_of (ls := [(0, .ref (G.1 140)), (1, .int (nI st)), (2, .int (nI 3))]) (by decide +kernel) rfl rfl (Nat.le_of_ble_eq_true rfl) ?_
    refine aw_iload_n dX4_tellsStore_0 rfl ?_
    refine aw_tableIn (tgt := 75) dX4_tellsStore_1 (by decide) (by decide) rfl (by decide) ?_
    refine aw_aload_n dX4_tellsStore_75 rfl ?_
    refine aw_iload_n dX4_tellsStore_76 rfl ?_
    refine aw_iconst (v := nI 5) dX4_tellsStore_77 rfl ?_
    refine aw_vRd dX4_tellsStore_78 cvX4_40 ⟨Nat.le_of_ble_eq_true rfl, Nat.le_of_ble_eq_true rfl⟩ (by assumption) ⟨_, rfl, rfl⟩ (r_of (w := 5) hL hM hst (by decide)) rfl rfl (Nat.le_of_ble_eq_true rfl) ⟨rfl, rfl⟩ ⟨Nat.zero_le _, Nat.zero_le _⟩ ?_
    exact aw_iret dX4_tellsStore_81 rfl (Nat.zero_le _) (Nat.zero_le _) ⟨rfl, rfl⟩
  · refine run_of (ls := [(0, .ref (G.1 140)), (1, .int (nI st)), (2, .int (nI 4))]) (by decide +kernel) rfl rfl (Nat.le_of_ble_eq_true rfl) ?_
    refine aw_iload_n dX4_tellsStore_0 rfl ?_
    refine aw_tableIn (tgt := 82) dX4_tellsStore_1 (by decide) (by decide) rfl (by decide) ?_
    refine aw_aload_n dX4_tellsStore_82 rfl ?_
    refine aw_iload_n dX4_tellsStore_83 rfl ?_
    refine aw_bipush (v := nI 6) dX4_tellsStore_84 rfl ?_
    refine aw_vRd dX4_tellsStore_86 cvX4_40 ⟨Nat.le_of_ble_eq_true rfl, Nat.le_of_ble_eq_true rfl⟩ (by assumption) ⟨_, rfl, rfl⟩ (r_of (w := 6) hL hM hst (by decide)) rfl rfl (Nat.le_of_ble_eq_true rfl) ⟨rfl, rfl⟩ ⟨Nat.zero_le _, Nat.zero_le _⟩ ?_
    exact aw_iret dX4_tellsStore_89 rfl (Nat.zero_le _) (Nat.zero_le _) ⟨rfl, rfl⟩
  · refine run_of (ls := [(0, .ref (G.1 140)), (1, .int (nI st)), (2, .int (nI 5))]) (by decide +kernel) rfl rfl (Nat.le_of_ble_eq_true rfl) ?_
    refine aw_iload_n dX4_tellsStore_0 rfl ?_
    refine aw_tableIn (tgt := 90) dX4_tellsStore_1 (by decide) (by decide) rfl (by decide) ?_
    refine aw_aload_n dX4_tellsStore_90 rfl ?_
    refine aw_iload_n dX4_tellsStore_91 rfl ?_
    refine aw_bipush (v := nI 7) dX4_tellsStore_92 rfl ?_
    refine aw_iload_n dX4_tellsStore_94 rfl ?_
    first | refine aw_iaddN dX4_tellsStore_95 ?_ | refine aw_iadd dX4_tellsStore_95 ?_
    refine aw_iconst (v := nI 5) dX4_tellsStore_96 rfl ?_
    first | refine aw_isubN dX4_tellsStore_97 (by omega) ?_ | refine aw_isub dX4_tellsStore_97 ?_
    refine aw_vRd dX4_tellsStore_98 cvX4_40 ⟨Nat.le_of_ble_eq_true rfl, Nat.le_of_ble_eq_true rfl⟩ (by assumption) ⟨_, rfl, rfl⟩ (r_of (w := 7) hL hM hst (by decide)) rfl rfl (Nat.le_of_ble_eq_true rfl) ⟨rfl, rfl⟩ ⟨Nat.zero_le _, Nat.zero_le _⟩ ?_
    exact aw_iret dX4_tellsStore_101 rfl (Nat.zero_le _) (Nat.zero_le _) ⟨rfl, rfl⟩
  · refine run_of (ls := [(0, .ref (G.1 140)), (1, .int (nI st)), (2, .int (nI 6))]) (by decide +kernel) rfl rfl (Nat.le_of_ble_eq_true rfl) ?_
    refine aw_iload_n dX4_tellsStore_0 rfl ?_
    refine aw_tableIn (tgt := 90) dX4_tellsStore_1 (by decide) (by decide) rfl (by decide) ?_
    refine aw_aload_n dX4_tellsStore_90 rfl ?_
    refine aw_iload_n dX4_tellsStore_91 rfl ?_
    refine aw_bipush (v := nI 7) dX4_tellsStore_92 rfl ?_
    refine aw_iload_n dX4_tellsStore_94 rfl ?_
    first | refine aw_iaddN dX4_tellsStore_95 ?_ | refine aw_iadd dX4_tellsStore_95 ?_
    refine aw_iconst (v := nI 5) dX4_tellsStore_96 rfl ?_
    first | refine aw_isubN dX4_tellsStore_97 (by omega) ?_ | refine aw_isub dX4_tellsStore_97 ?_
    refine aw_vRd dX4_tellsStore_98 cvX4_40 ⟨Nat.le_of_ble_eq_true rfl, Nat.le_of_ble_eq_true rfl⟩ (by assumption) ⟨_, rfl, rfl⟩ (r_of (w := 8) hL hM hst (by decide)) rfl rfl (Nat.le_of_ble_eq_true rfl) ⟨rfl, rfl⟩ ⟨Nat.zero_le _, Nat.zero_le _⟩ ?_
    exact aw_iret dX4_tellsStore_101 rfl (Nat.zero_le _) (Nat.zero_le _) ⟨rfl, rfl⟩
  · refine run_of (ls := [(0, .ref (G.1 140)), (1, .int (nI st)), (2, .int (nI 7))]) (by decide +kernel) rfl rfl (Nat.le_of_ble_eq_true rfl) ?_
    refine aw_iload_n dX4_tellsStore_0 rfl ?_
    refine aw_tableIn (tgt := 90) dX4_tellsStore_1 (by decide) (by decide) rfl (by decide) ?_
    refine aw_aload_n dX4_tellsStore_90 rfl ?_
    refine aw_iload_n dX4_tellsStore_91 rfl ?_
    refine aw_bipush (v := nI 7) dX4_tellsStore_92 rfl ?_
    refine aw_iload_n dX4_tellsStore_94 rfl ?_
    first | refine aw_iaddN dX4_tellsStore_95 ?_ | refine aw_iadd dX4_tellsStore_95 ?_
    refine aw_iconst (v := nI 5) dX4_tellsStore_96 rfl ?_
    first | refine aw_isubN dX4_tellsStore_97 (by omega) ?_ | refine aw_isub dX4_tellsStore_97 ?_
    refine aw_vRd dX4_tellsStore_98 cvX4_40 ⟨Nat.le_of_ble_eq_true rfl, Nat.le_of_ble_eq_true rfl⟩ (by assumption) ⟨_, rfl, rfl⟩ (r_of (w := 9) hL hM hst (by decide)) rfl rfl (Nat.le_of_ble_eq_true rfl) ⟨rfl, rfl⟩ ⟨Nat.zero_le _, Nat.zero_le _⟩ ?_
    exact aw_iret dX4_tellsStore_101 rfl (Nat.zero_le _) (Nat.zero_le _) ⟨rfl, rfl⟩
  · refine run_of (ls := [(0, .ref (G.1 140)), (1, .int (nI st)), (2, .int (nI 8))]) (by decide +kernel) rfl rfl (Nat.le_of_ble_eq_true rfl) ?_
    refine aw_iload_n dX4_tellsStore_0 rfl ?_
    refine aw_tableIn (tgt := 102) dX4_tellsStore_1 (by decide) (by decide) rfl (by decide) ?_
    refine aw_aload_n dX4_tellsStore_102 rfl ?_
    refine aw_iload_n dX4_tellsStore_103 rfl ?_
    refine aw_vRd dX4_tellsStore_104 cvX4_103 ⟨Nat.le_of_ble_eq_true rfl, Nat.le_of_ble_eq_true rfl⟩ (by assumption) ⟨_, rfl, rfl⟩ (r_onWayOf hL hM hst h16 hC) rfl rfl (Nat.le_of_ble_eq_true rfl) ⟨rfl, rfl⟩ ⟨Nat.zero_le _, Nat.zero_le _⟩ ?_
    exact aw_iret dX4_tellsStore_107 rfl (Nat.zero_le _) (Nat.zero_le _) ⟨rfl, rfl⟩
  · refine run_of (ls := [(0, .ref (G.1 140)), (1, .int (nI st)), (2, .int (nI 9))]) (by decide +kernel) rfl rfl (Nat.le_of_ble_eq_true rfl) ?_
    refine aw_iload_n dX4_tellsStore_0 rfl ?_
    refine aw_tableIn (tgt := 108) dX4_tellsStore_1 (by decide) (by decide) rfl (by decide) ?_
    refine aw_aload_n dX4_tellsStore_108 rfl ?_
    refine aw_iload_n dX4_tellsStore_109 rfl ?_
    refine aw_bipush (v := nI 10) dX4_tellsStore_110 rfl ?_
    refine aw_vRd dX4_tellsStore_112 cvX4_40 ⟨Nat.le_of_ble_eq_true rfl, Nat.le_of_ble_eq_true rfl⟩ (by assumption) ⟨_, rfl, rfl⟩ (r_of (w := 10) hL hM hst (by decide)) rfl rfl (Nat.le_of_ble_eq_true rfl) ⟨rfl, rfl⟩ ⟨Nat.zero_le _, Nat.zero_le _⟩ ?_
    exact aw_iret dX4_tellsStore_115 rfl (Nat.zero_le _) (Nat.zero_le _) ⟨rfl, rfl⟩
  · refine run_of (ls := [(0, .ref (G.1 140)), (1, .int (nI st)), (2, .int (nI 10))]) (by decide +kernel) rfl rfl (Nat.le_of_ble_eq_true rfl) ?_
    refine aw_iload_n dX4_tellsStore_0 rfl ?_
    refine aw_tableOut (tgt := 116) dX4_tellsStore_1 (by decide) (by decide) ?_
    refine aw_aload_n dX4_tellsStore_116 rfl ?_
    refine aw_iload_n dX4_tellsStore_117 rfl ?_
    refine aw_bipush (v := nI 12) dX4_tellsStore_118 rfl ?_
    refine aw_aload_n dX4_tellsStore_120 rfl ?_
    refine aw_iload_n dX4_tellsStore_121 rfl ?_
    refine aw_iconst (v := nI 1) dX4_tellsStore_122 rfl ?_
    refine aw_vRd dX4_tellsStore_123 cvX4_40 ⟨Nat.le_of_ble_eq_true rfl, Nat.le_of_ble_eq_true rfl⟩ (by assumption) ⟨_, rfl, rfl⟩ (r_of (w := 1) hL hM hst (by decide)) rfl rfl (Nat.le_of_ble_eq_true rfl) ⟨rfl, rfl⟩ ⟨Nat.zero_le _, Nat.zero_le _⟩ ?_
    first | refine aw_iaddN dX4_tellsStore_126 ?_ | refine aw_iadd dX4_tellsStore_126 ?_
    refine aw_vRd dX4_tellsStore_127 cvX4_40 ⟨Nat.le_of_ble_eq_true rfl, Nat.le_of_ble_eq_true rfl⟩ (by assumption) ⟨_, rfl, rfl⟩ (r_of (w := 12 + a.2.2 st 1) hL hM hst (by omega)) rfl rfl (Nat.le_of_ble_eq_true rfl) ⟨rfl, rfl⟩ ⟨Nat.zero_le _, Nat.zero_le _⟩ ?_
    exact aw_iret dX4_tellsStore_130 rfl (Nat.zero_le _) (Nat.zero_le _) ⟨rfl, rfl⟩
theorem r_overStores (hL : LM G K R) (hM : RM (I 141) a) (hI : IV m k a) {w : Nat} (hw : w = 2 ∨ w = 3 ∨ w = 6) : Run G YX4_overStores [.ref (G.1 140), .int (nI w)] (K, R, I, J, z) (Rd (K, R, I, J, z) (.int (nI (ovN a w 4)))) := by
  obtain ⟨hk0, hr1, hk1, hr2, hk2, hr3, hk3, hr5, hk5, hr9, hk9⟩ := hL
  have hL : LM G K R := ⟨hk0, hr1, hk1, hr2, hk2, hr3, hk3, hr5, hk5, hr9, hk9⟩
  have loop : ∀ (d q : Nat), 4 - q = d → q ≤ 4 → AW G YX4_overStores (MZ G YX4_overStores (Rd (K, R, I, J, z) (.int (nI (ovN a w 4))))) 4 [(0, .ref (G.1 140)), (1, .int (nI w)), (2, .int (nI (ovN a w q))), (3, .int (nI q))] [] (K, R, I, J, z) 0 0 := by
    intro d
    induction d with
    | zero =>
      intro q hd hq
      refine aw_iload_n dX4_overStores_4 rfl ?_
      refine aw_iconst (v := nI 4) dX4_overStores_5 rfl ?_
      refine aw_icmp_geN (tgt := 58) dX4_overStores_6 (by decide) (by omega) (by omega) (fun hc6 => ?_) (fun hc6 => absurd hc6 (by omega))
      refine aw_iload_n dX4_overStores_58 rfl ?_
      exact aw_iret dX4_overStores_59 rfl (Nat.zero_le _) (Nat.zero_le _) ⟨by rw [show q = 4 by omega], rfl⟩
    | succ d ih =>
      intro q hd hq
      have hRq := hI.2.2.2.2.1 q (by omega)
      have hq2 : a.2.2 q 2 ≤ 2 := hRq.2.2.2.1
      refine aw_iload_n dX4_overStores_4 rfl ?_
      refine aw_iconst (v := nI 4) dX4_overStores_5 rfl ?_
      refine aw_icmp_geN (tgt := 58) dX4_overStores_6 (by decide) (by omega) (by omega) (fun hc6 => absurd hc6 (by omega)) (fun hc6 => ?_)
      refine aw_iload_n dX4_overStores_9 rfl ?_
      refine aw_iload_n dX4_overStores_10 rfl ?_
      refine aw_bipush (v := nI 6) dX4_overStores_11 rfl ?_
      refine aw_icmp_neN (tgt := 33) dX4_overStores_13 (by decide) (by omega) (by omega) (fun hc13 => ?_) (fun hc13 => ?_)
      · refine aw_aload_n dX4_overStores_33 rfl ?_
        refine aw_iload_n dX4_overStores_34 rfl ?_
        refine aw_iload_n dX4_overStores_35 rfl ?_
        refine aw_iconst (v := nI 2) dX4_overStores_36 rfl ?_
        refine aw_icmp_neN (tgt := 45) dX4_overStores_37 (by decide) (by omega) (by omega) (fun hc37 => ?_) (fun hc37 => ?_)
        · refine aw_bipush (v := nI 8) dX4_overStores_45 rfl ?_
          refine aw_vRd dX4_overStores_47 cvX4_40 ⟨Nat.le_of_ble_eq_true rfl, Nat.le_of_ble_eq_true rfl⟩ (by assumption) ⟨_, rfl, rfl⟩ (r_ofv (v := a.2.2 q (if w = 2 then 7 else 8)) hL hM (by omega) (by decide) (by first | rw [if_pos hc37] | rw [if_neg hc37])) rfl rfl (Nat.le_of_ble_eq_true rfl) ⟨rfl, rfl⟩ ⟨Nat.zero_le _, Nat.zero_le _⟩ ?_
          refine aw_top (x' := nI (if w = 6 then (if a.2.2 q 2 = 0 then 1 else 0) else a.2.2 q (if w = 2 then 7 else 8))) (congrArg nI (by first | rw [if_pos hc13, if_pos hc22] | rw [if_pos hc13, if_neg hc22] | rw [if_neg hc13])) ?_
          first | refine aw_iaddN dX4_overStores_50 ?_ | refine aw_iadd dX4_overStores_50 ?_
          refine aw_istore_n (ls' := [(2, _), (0, _), (1, _), (3, _)]) dX4_overStores_51 (by decide) rfl ?_
          refine aw_iincN (k := 1) (ls' := [(3, _), (2, _), (0, _), (1, _)]) dX4_overStores_52 rfl rfl (by decide) rfl ?_
          refine aw_goto (tgt := 4) dX4_overStores_55 (by decide) ?_
          exact aw_pick [2, 3, 1, 0] rfl (ih (q + 1) (by omega) (by omega))
        · refine aw_bipush (v := nI 7) dX4_overStores_40 rfl ?_
          refine aw_goto (tgt := 47) dX4_overStores_42 (by decide) ?_
          refine aw_vRd dX4_overStores_47 cvX4_40 ⟨Nat.le_of_ble_eq_true rfl, Nat.le_of_ble_eq_true rfl⟩ (by assumption) ⟨_, rfl, rfl⟩ (r_ofv (v := a.2.2 q (if w = 2 then 7 else 8)) hL hM (by omega) (by decide) (by first | rw [if_pos hc37] | rw [if_neg hc37])) rfl rfl (Nat.le_of_ble_eq_true rfl) ⟨rfl, rfl⟩ ⟨Nat.zero_le _, Nat.zero_le _⟩ ?_
          refine aw_top (x' := nI (if w = 6 then (if a.2.2 q 2 = 0 then 1 else 0) else a.2.2 q (if w = 2 then 7 else 8))) (congrArg nI (by first | rw [if_pos hc13, if_pos hc22] | rw [if_pos hc13, if_neg hc22] | rw [if_neg hc13])) ?_
          first | refine aw_iaddN dX4_overStores_50 ?_ | refine aw_iadd dX4_overStores_50 ?_
          refine aw_istore_n (ls' := [(2, _), (0, _), (1, _), (3, _)]) dX4_overStores_51 (by decide) rfl ?_
          refine aw_iincN (k := 1) (ls' := [(3, _), (2, _), (0, _), (1, _)]) dX4_overStores_52 rfl rfl (by decide) rfl ?_
          refine aw_goto (tgt := 4) dX4_overStores_55 (by decide) ?_
          exact aw_pick [2, 3, 1, 0] rfl (ih (q + 1) (by omega) (by omega))
      · refine aw_aload_n dX4_overStores_16 rfl ?_
        refine aw_iload_n dX4_overStores_17 rfl ?_
        refine aw_iconst (v := nI 2) dX4_overStores_18 rfl ?_
        refine aw_vRd dX4_overStores_19 cvX4_40 ⟨Nat.le_of_ble_eq_true rfl, Nat.le_of_ble_eq_true rfl⟩ (by assumption) ⟨_, rfl, rfl⟩ (r_of (w := 2) hL hM (by omega) (by decide)) rfl rfl (Nat.le_of_ble_eq_true rfl) ⟨rfl, rfl⟩ ⟨Nat.zero_le _, Nat.zero_le _⟩ ?_
        refine aw_if_neN (tgt := 29) dX4_overStores_22 (by decide) (by omega) (fun hc22 => ?_) (fun hc22 => ?_)
        · refine aw_iconst (v := nI 0) dX4_overStores_29 rfl ?_
          refine aw_goto (tgt := 50) dX4_overStores_30 (by decide) ?_
          refine aw_top (x' := nI (if w = 6 then (if a.2.2 q 2 = 0 then 1 else 0) else a.2.2 q (if w = 2 then 7 else 8))) (congrArg nI (by first | rw [if_pos hc13, if_pos hc22] | rw [if_pos hc13, if_neg hc22] | rw [if_neg hc13])) ?_
          first | refine aw_iaddN dX4_overStores_50 ?_ | refine aw_iadd dX4_overStores_50 ?_
          refine aw_istore_n (ls' := [(2, _), (0, _), (1, _), (3, _)]) dX4_overStores_51 (by decide) rfl ?_
          refine aw_iincN (k := 1) (ls' := [(3, _), (2, _), (0, _), (1, _)]) dX4_overStores_52 rfl rfl (by decide) rfl ?_
          refine aw_goto (tgt := 4) dX4_overStores_55 (by decide) ?_
          exact aw_pick [2, 3, 1, 0] rfl (ih (q + 1) (by omega) (by omega))
        · refine aw_iconst (v := nI 1) dX4_overStores_25 rfl ?_
          refine aw_goto (tgt := 50) dX4_overStores_26 (by decide) ?_
          refine aw_top (x' := nI (if w = 6 then (if a.2.2 q 2 = 0 then 1 else 0) else a.2.2 q (if w = 2 then 7 else 8))) (congrArg nI (by first | rw [if_pos hc13, if_pos hc22] | rw [if_pos hc13, if_neg hc22] | rw [if_neg hc13])) ?_
          first | refine aw_iaddN dX4_overStores_50 ?_ | refine aw_iadd dX4_overStores_50 ?_
          refine aw_istore_n (ls' := [(2, _), (0, _), (1, _), (3, _)]) dX4_overStores_51 (by decide) rfl ?_
          refine aw_iincN (k := 1) (ls' := [(3, _), (2, _), (0, _), (1, _)]) dX4_overStores_52 rfl rfl (by decide) rfl ?_
          refine aw_goto (tgt := 4) dX4_overStores_55 (by decide) ?_
          exact aw_pick [2, 3, 1, 0] rfl (ih (q + 1) (by omega) (by omega))
  refine run_of (ls := [(0, .ref (G.1 140)), (1, .int (nI w))]) (by decide +kernel) rfl rfl (Nat.le_of_ble_eq_true rfl) ?_
  refine aw_iconst (v := nI 0) dX4_overStores_0 rfl ?_
  refine aw_istore_n (ls' := [(2, _), (0, _), (1, _)]) dX4_overStores_1 (by decide) rfl ?_
  refine aw_iconst (v := nI 0) dX4_overStores_2 rfl ?_
  refine aw_istore_n (ls' := [(3, _), (2, _), (0, _), (1, _)]) dX4_overStores_3 (by decide) rfl ?_
  exact aw_pick [2, 3, 1, 0] rfl (loop 4 0 rfl (by decide))
theorem r_counts (hL : LM G K R) (hM : RM (I 141) a) (hI : IV m k a) {w sm : Nat} (hsm : I 140 4 = nI sm) (hw : w ≤ 8) : Run G YX4_counts [.ref (G.1 140), .int (nI w)] (K, R, I, J, z) (Rd (K, R, I, J, z) (.int (nI (cntN a sm w)))) := by
  obtain ⟨hk0, hr1, hk1, hr2, hk2, hr3, hk3, hr5, hk5, hr9, hk9⟩ := hL
  have hL : LM G K R := ⟨hk0, hr1, hk1, hr2, hk2, hr3, hk3, hr5, hk5, hr9, hk9⟩
  rcases (show w = 0 ∨ w = 1 ∨ w = 2 ∨ w = 3 ∨ w = 4 ∨ w = 5 ∨ w = 6 ∨ w = 7 ∨ w = 8 by omega) with rfl | rfl | rfl | rfl | rfl | rfl | rfl | rfl | rfl
  · refine run_of (ls := [(0, .ref (G.1 140)), (1, .int (nI 0))]) (by decide +kernel) rfl rfl (Nat.le_of_ble_eq_true rfl) ?_
    refine aw_iload_n dX4_counts_0 rfl ?_
    refine aw_tableIn (tgt := 48) dX4_counts_1 (by decide) (by decide) rfl (by decide) ?_
    refine aw_aload_n dX4_counts_48 rfl ?_
    refine aw_getR dX4_counts_49 flX4_7 rfl (by assumption) (by assumption) ?_
    refine aw_iconst (v := nI 5) dX4_counts_52 rfl ?_
    refine aw_iald dX4_counts_53 (by assumption) (by omega) rfl (by omega) (hM.1 5 (by decide)) ?_
    exact aw_iret dX4_counts_54 rfl (Nat.zero_le _) (Nat.zero_le _) ⟨rfl, rfl⟩
  · refine run_of (ls := [(0, .ref (G.1 140)), (1, .int (nI 1))]) (by decide +kernel) rfl rfl (Nat.le_of_ble_eq_true rfl) ?_
    refine aw_iload_n dX4_counts_0 rfl ?_
    refine aw_tableIn (tgt := 55) dX4_counts_1 (by decide) (by decide) rfl (by decide) ?_
    refine aw_aload_n dX4_counts_55 rfl ?_
    refine aw_getR dX4_counts_56 flX4_7 rfl (by assumption) (by assumption) ?_
    refine aw_bipush (v := nI 9) dX4_counts_59 rfl ?_
    refine aw_iald dX4_counts_61 (by assumption) (by omega) rfl (by omega) hM.2.1 ?_
    exact aw_iret dX4_counts_62 rfl (Nat.zero_le _) (Nat.zero_le _) ⟨rfl, rfl⟩
  · refine run_of (ls := [(0, .ref (G.1 140)), (1, .int (nI 2))]) (by decide +kernel) rfl rfl (Nat.le_of_ble_eq_true rfl) ?_
    refine aw_iload_n dX4_counts_0 rfl ?_
    refine aw_tableIn (tgt := 63) dX4_counts_1 (by decide) (by decide) rfl (by decide) ?_
    refine aw_aload_n dX4_counts_63 rfl ?_
    refine aw_iload_n dX4_counts_64 rfl ?_
    refine aw_vRd dX4_counts_65 cvX4_138 ⟨Nat.le_of_ble_eq_true rfl, Nat.le_of_ble_eq_true rfl⟩ (by assumption) ⟨_, rfl, rfl⟩ (r_overStores (w := 2) hL hM hI (by decide)) rfl rfl (Nat.le_of_ble_eq_true rfl) ⟨rfl, rfl⟩ ⟨Nat.zero_le _, Nat.zero_le _⟩ ?_
    exact aw_iret dX4_counts_68 rfl (Nat.zero_le _) (Nat.zero_le _) ⟨rfl, rfl⟩
  · refine run_of (ls := [(0, .ref (G.1 140)), (1, .int (nI 3))]) (by decide +kernel) rfl rfl (Nat.le_of_ble_eq_true rfl) ?_
    refine aw_iload_n dX4_counts_0 rfl ?_
    refine aw_tableIn (tgt := 63) dX4_counts_1 (by decide) (by decide) rfl (by decide) ?_
    refine aw_aload_n dX4_counts_63 rfl ?_
    refine aw_iload_n dX4_counts_64 rfl ?_
    refine aw_vRd dX4_counts_65 cvX4_138 ⟨Nat.le_of_ble_eq_true rfl, Nat.le_of_ble_eq_true rfl⟩ (by assumption) ⟨_, rfl, rfl⟩ (r_overStores (w := 3) hL hM hI (by decide)) rfl rfl (Nat.le_of_ble_eq_true rfl) ⟨rfl, rfl⟩ ⟨Nat.zero_le _, Nat.zero_le _⟩ ?_
    exact aw_iret dX4_counts_68 rfl (Nat.zero_le _) (Nat.zero_le _) ⟨rfl, rfl⟩
  · refine run_of (ls := [(0, .ref (G.1 140)), (1, .int (nI 4))]) (by decide +kernel) rfl rfl (Nat.le_of_ble_eq_true rfl) ?_
    refine aw_iload_n dX4_counts_0 rfl ?_
    refine aw_tableIn (tgt := 69) dX4_counts_1 (by decide) (by decide) rfl (by decide) ?_
    refine aw_aload_n dX4_counts_69 rfl ?_
    refine aw_getR dX4_counts_70 flX4_7 rfl (by assumption) (by assumption) ?_
    refine aw_bipush (v := nI 6) dX4_counts_73 rfl ?_
    refine aw_iald dX4_counts_75 (by assumption) (by omega) rfl (by omega) (hM.1 6 (by decide)) ?_
    exact aw_iret dX4_counts_76 rfl (Nat.zero_le _) (Nat.zero_le _) ⟨rfl, rfl⟩
  · refine run_of (ls := [(0, .ref (G.1 140)), (1, .int (nI 5))]) (by decide +kernel) rfl rfl (Nat.le_of_ble_eq_true rfl) ?_
    refine aw_iload_n dX4_counts_0 rfl ?_
    refine aw_tableIn (tgt := 77) dX4_counts_1 (by decide) (by decide) rfl (by decide) ?_
    refine aw_aload_n dX4_counts_77 rfl ?_
    refine aw_getR dX4_counts_78 flX4_7 rfl (by assumption) (by assumption) ?_
    refine aw_bipush (v := nI 7) dX4_counts_81 rfl ?_
    refine aw_iald dX4_counts_83 (by assumption) (by omega) rfl (by omega) (hM.1 7 (by decide)) ?_
    exact aw_iret dX4_counts_84 rfl (Nat.zero_le _) (Nat.zero_le _) ⟨rfl, rfl⟩
  · refine run_of (ls := [(0, .ref (G.1 140)), (1, .int (nI 6))]) (by decide +kernel) rfl rfl (Nat.le_of_ble_eq_true rfl) ?_
    refine aw_iload_n dX4_counts_0 rfl ?_
    refine aw_tableIn (tgt := 63) dX4_counts_1 (by decide) (by decide) rfl (by decide) ?_
    refine aw_aload_n dX4_counts_63 rfl ?_
    refine aw_iload_n dX4_counts_64 rfl ?_
    refine aw_vRd dX4_counts_65 cvX4_138 ⟨Nat.le_of_ble_eq_true rfl, Nat.le_of_ble_eq_true rfl⟩ (by assumption) ⟨_, rfl, rfl⟩ (r_overStores (w := 6) hL hM hI (by decide)) rfl rfl (Nat.le_of_ble_eq_true rfl) ⟨rfl, rfl⟩ ⟨Nat.zero_le _, Nat.zero_le _⟩ ?_
    exact aw_iret dX4_counts_68 rfl (Nat.zero_le _) (Nat.zero_le _) ⟨rfl, rfl⟩
  · refine run_of (ls := [(0, .ref (G.1 140)), (1, .int (nI 7))]) (by decide +kernel) rfl rfl (Nat.le_of_ble_eq_true rfl) ?_
    refine aw_iload_n dX4_counts_0 rfl ?_
    refine aw_tableIn (tgt := 85) dX4_counts_1 (by decide) (by decide) rfl (by decide) ?_
    refine aw_aload_n dX4_counts_85 rfl ?_
    refine aw_getR dX4_counts_86 flX4_7 rfl (by assumption) (by assumption) ?_
    refine aw_bipush (v := nI 8) dX4_counts_89 rfl ?_
    refine aw_iald dX4_counts_91 (by assumption) (by omega) rfl (by omega) (hM.1 8 (by decide)) ?_
    exact aw_iret dX4_counts_92 rfl (Nat.zero_le _) (Nat.zero_le _) ⟨rfl, rfl⟩
  · refine run_of (ls := [(0, .ref (G.1 140)), (1, .int (nI 8))]) (by decide +kernel) rfl rfl (Nat.le_of_ble_eq_true rfl) ?_
    refine aw_iload_n dX4_counts_0 rfl ?_
    refine aw_tableOut (tgt := 93) dX4_counts_1 (by decide) (by decide) ?_
    refine aw_aload_n dX4_counts_93 rfl ?_
    refine aw_getI dX4_counts_94 flX4_37 rfl (by assumption) hsm ?_
    exact aw_iret dX4_counts_97 rfl (Nat.zero_le _) (Nat.zero_le _) ⟨rfl, rfl⟩
end MODEL9
end
section
/-! THE REFERENCE: states kept, put aside, taken back -/
theorem RM_congr {f f' : Nat → Int32} {a : AA} (hM : RM f a) (h16 : a.2.1.length ≤ 16) (hf : ∀ k, k < 218 → f' k = f k) : RM f' a := by
  obtain ⟨h1, h2, h3, h4⟩ := hM
  refine ⟨fun k hk => ?_, ?_, fun p c hp w hw => ?_, fun s hs w hw => ?_⟩
  · rw [hf _ (by omega)]; exact h1 k hk
  · rw [hf _ (by decide)]; exact h2
  · have hpl := (List.getElem?_eq_some_iff.mp hp).1
    rw [hf _ (by omega)]; exact h3 p c hp w hw
  · rw [hf _ (by omega)]; exact h4 s hs w hw
/-- the states kept -/
def RH (I : Nat → Nat → Int32) (hs : List AA) : Prop :=
  I 140 4 = nI hs.length ∧ hs.length ≤ 6 ∧ ∀ (i : Nat) (x : AA), hs[i]? = some x → RM (fun k => I 143 (218 * i + k)) x ∧ x.2.1.length ≤ 16
def pushH (hs : List AA) (a : AA) : List AA := (if hs.length = 6 then hs.tail else hs) ++ [a]
theorem pushH_len {hs : List AA} {a : AA} (h : hs.length ≤ 6) : (pushH hs a).length ≤ 6 := by
  unfold pushH; split <;> simp <;> omega
section MODEL10
variable {G : GG} {K : Nat → Option (Nat × Nat)} {R : Nat → Nat → Value} {I : Nat → Nat → Int32} {J : Nat → Nat → Int64} {z : Nat} {σ : Sg} {a : AA} {hs : List AA} {m k : Nat}
theorem r_putAside (hL : LM G K R) : Run G YX4_putAside [.ref (G.1 140)] (K, R, I, J, z) (Up K R J z none (fun I' => FrO 142 I I' ∧ ∀ k, k < 218 → I' 142 k = I 141 k)) := by
  obtain ⟨hk0, hr1, hk1, hr2, hk2, hr3, hk3, hr5, hk5, hr9, hk9⟩ := hL
  have loop : ∀ (d q : Nat) (I1 : Nat → Nat → Int32), 218 - q = d → q ≤ 218 → FrO 142 I I1 → (∀ k, k < q → I1 142 k = I 141 k) → AW G YX4_putAside (MZ G YX4_putAside (Up K R J z none (fun I' => FrO 142 I I' ∧ ∀ k, k < 218 → I' 142 k = I 141 k))) 2 [(0, .ref (G.1 140)), (1, .int (nI q))] [] (K, R, I1, J, z) 0 0 := by
    intro d
    induction d using Nat.strongRecOn with
    | _ d ih =>
    intro q I1 hd hq hF hk
    refine aw_iload_n dX4_putAside_2 rfl ?_
    refine aw_sipush (v := nI 218) dX4_putAside_3 rfl ?_
    refine aw_icmp_geN (tgt := 27) dX4_putAside_6 (by decide) (by omega) (by omega) (fun hc6 => ?_) (fun hc6 => ?_)
    · exact aw_vret dX4_putAside_27 rfl (Nat.zero_le _) (Nat.zero_le _) ⟨rfl, I1, rfl, hF, fun k hk2 => hk k (by omega)⟩
    · refine aw_aload_n dX4_putAside_9 rfl ?_
      refine aw_getR dX4_putAside_10 flX4_13 rfl (by assumption) (by assumption) ?_
      refine aw_iload_n dX4_putAside_13 rfl ?_
      refine aw_aload_n dX4_putAside_14 rfl ?_
      refine aw_getR dX4_putAside_15 flX4_7 rfl (by assumption) (by assumption) ?_
      refine aw_iload_n dX4_putAside_18 rfl ?_
      refine aw_iald dX4_putAside_19 (by assumption) (by omega) rfl (by omega) (show _ = I 141 q by rw [hF 141 (by decide)]) ?_
      refine aw_iast dX4_putAside_20 (by assumption) (by omega) (by omega) rfl (by omega) ?_
      refine aw_iincN (k := 1) (ls' := [(1, _), (0, _)]) dX4_putAside_21 rfl rfl (by decide) rfl ?_
      refine aw_goto (tgt := 2) dX4_putAside_24 (by decide) ?_
      exact aw_pick [1, 0] rfl (ih (218 - (q + 1)) (by omega) (q + 1) _ rfl (by omega) (hF.tr FrO.up) (fun k hk2 => by
        rw [up2_o]
        by_cases e : k = q
        · rw [if_pos e, e]
        · rw [if_neg e]; exact hk k (by omega)))
  refine run_of (ls := [(0, .ref (G.1 140))]) (by decide +kernel) rfl rfl (Nat.le_of_ble_eq_true rfl) ?_
  refine aw_iconst (v := nI 0) dX4_putAside_0 rfl ?_
  refine aw_istore_n (ls' := [(1, _), (0, _)]) dX4_putAside_1 (by decide) rfl ?_
  exact aw_pick [1, 0] rfl (loop 218 0 I rfl (by decide) FrO.rf (fun k hk => absurd hk (by omega)))
theorem r_takeBack (hL : LM G K R) : Run G YX4_takeBack [.ref (G.1 140)] (K, R, I, J, z) (Up K R J z none (fun I' => FrO 141 I I' ∧ ∀ k, k < 218 → I' 141 k = I 142 k)) := by
  obtain ⟨hk0, hr1, hk1, hr2, hk2, hr3, hk3, hr5, hk5, hr9, hk9⟩ := hL
  have loop : ∀ (d q : Nat) (I1 : Nat → Nat → Int32), 218 - q = d → q ≤ 218 → FrO 141 I I1 → (∀ k, k < q → I1 141 k = I 142 k) → AW G YX4_takeBack (MZ G YX4_takeBack (Up K R J z none (fun I' => FrO 141 I I' ∧ ∀ k, k < 218 → I' 141 k = I 142 k))) 2 [(0, .ref (G.1 140)), (1, .int (nI q))] [] (K, R, I1, J, z) 0 0 := by
    intro d
    induction d using Nat.strongRecOn with
    | _ d ih =>
    intro q I1 hd hq hF hk
    refine aw_iload_n dX4_takeBack_2 rfl ?_
    refine aw_sipush (v := nI 218) dX4_takeBack_3 rfl ?_
    refine aw_icmp_geN (tgt := 27) dX4_takeBack_6 (by decide) (by omega) (by omega) (fun hc6 => ?_) (fun hc6 => ?_)
    · exact aw_vret dX4_takeBack_27 rfl (Nat.zero_le _) (Nat.zero_le _) ⟨rfl, I1, rfl, hF, fun k hk2 => hk k (by omega)⟩
    · refine aw_aload_n dX4_takeBack_9 rfl ?_
      refine aw_getR dX4_takeBack_10 flX4_7 rfl (by assumption) (by assumption) ?_
      refine aw_iload_n dX4_takeBack_13 rfl ?_
      refine aw_aload_n dX4_takeBack_14 rfl ?_
      refine aw_getR dX4_takeBack_15 flX4_13 rfl (by assumption) (by assumption) ?_
      refine aw_iload_n dX4_takeBack_18 rfl ?_
      refine aw_iald dX4_takeBack_19 (by assumption) (by omega) rfl (by omega) (show _ = I 142 q by rw [hF 142 (by decide)]) ?_
      refine aw_iast dX4_takeBack_20 (by assumption) (by omega) (by omega) rfl (by omega) ?_
      refine aw_iincN (k := 1) (ls' := [(1, _), (0, _)]) dX4_takeBack_21 rfl rfl (by decide) rfl ?_
      refine aw_goto (tgt := 2) dX4_takeBack_24 (by decide) ?_
      exact aw_pick [1, 0] rfl (ih (218 - (q + 1)) (by omega) (q + 1) _ rfl (by omega) (hF.tr FrO.up) (fun k hk2 => by
        rw [up2_o]
        by_cases e : k = q
        · rw [if_pos e, e]
        · rw [if_neg e]; exact hk k (by omega)))
  refine run_of (ls := [(0, .ref (G.1 140))]) (by decide +kernel) rfl rfl (Nat.le_of_ble_eq_true rfl) ?_
  refine aw_iconst (v := nI 0) dX4_takeBack_0 rfl ?_
  refine aw_istore_n (ls' := [(1, _), (0, _)]) dX4_takeBack_1 (by decide) rfl ?_
  exact aw_pick [1, 0] rfl (loop 218 0 I rfl (by decide) FrO.rf (fun k hk => absurd hk (by omega)))
theorem r_saves (hL : LM G K R) (hM : RM (I 141) a) (h16 : a.2.1.length ≤ 16) (hH : RH I hs) : Run G YX4_saves [.ref (G.1 140)] (K, R, I, J, z) (Up K R J z none (fun I' => RH I' (pushH hs a) ∧ (∀ q, q ≠ 143 → q ≠ 140 → I' q = I q) ∧ ∀ j, j ≠ 4 → I' 140 j = I 140 j)) := by
  obtain ⟨hk0, hr1, hk1, hr2, hk2, hr3, hk3, hr5, hk5, hr9, hk9⟩ := hL
  obtain ⟨hn, hn6, hx⟩ := hH
  have loop2 : ∀ (I0 : Nat → Nat → Int32) (hs0 : List AA), hs0.length ≤ 5 → pushH hs a = hs0 ++ [a] → I0 140 4 = nI hs0.length → (∀ q, q ≠ 143 → q ≠ 140 → I0 q = I q) → (∀ j, j ≠ 4 → I0 140 j = I 140 j) → (∀ (i : Nat) (x : AA), hs0[i]? = some x → RM (fun k => I0 143 (218 * i + k)) x ∧ x.2.1.length ≤ 16) →
      ∀ (d q : Nat) (I1 : Nat → Nat → Int32), 218 - q = d → q ≤ 218 → FrO 143 I0 I1 → (∀ j, I1 143 j = if 218 * hs0.length ≤ j ∧ j < 218 * hs0.length + q then I 141 (j - 218 * hs0.length) else I0 143 j) → AW G YX4_saves (MZ G YX4_saves (Up K R J z none (fun I' => RH I' (pushH hs a) ∧ (∀ q, q ≠ 143 → q ≠ 140 → I' q = I q) ∧ ∀ j, j ≠ 4 → I' 140 j = I 140 j))) 52 [(0, .ref (G.1 140)), (1, .int (nI q))] [] (K, R, I1, J, z) 0 0 := by
    intro I0 hs0 h5 hp hI0 hF0 hj0 hx0 d
    induction d using Nat.strongRecOn with
    | _ d ih =>
    intro q I1 hd hq hF hk
    have hn1 : I1 140 4 = nI hs0.length := by rw [hF 140 (by decide)]; exact hI0
    refine aw_iload_n dX4_saves_52 rfl ?_
    refine aw_sipush (v := nI 218) dX4_saves_53 rfl ?_
    refine aw_icmp_geN (tgt := 86) dX4_saves_56 (by decide) (by omega) (by omega) (fun hc56 => ?_) (fun hc56 => ?_)
    · refine aw_aload_n dX4_saves_86 rfl ?_
      refine aw_dup dX4_saves_87 rfl ?_
      refine aw_getI dX4_saves_88 flX4_37 rfl (by assumption) hn1 ?_
      refine aw_iconst (v := nI 1) dX4_saves_91 rfl ?_
      first | refine aw_iaddN dX4_saves_92 ?_ | refine aw_iadd dX4_saves_92 ?_
      refine aw_putI dX4_saves_93 flX4_37 rfl (by intro r hr; cases hr; rfl) (by assumption) (by omega) rfl rfl ?_
      exact aw_vret dX4_saves_96 rfl (Nat.zero_le _) (Nat.zero_le _) (by
  have hq : q = 218 := by omega
  subst hq
  refine ⟨rfl, _, rfl, ⟨?_, pushH_len hn6, fun i x hix => ?_⟩, fun q h1 h2 => ?_, fun j hj => ?_⟩
  · rw [hp]; simp [up2]
  · rw [hp] at hix
    have hil := (List.getElem?_eq_some_iff.mp hix).1
    rw [List.length_append, List.length_singleton] at hil
    by_cases e : i < hs0.length
    · rw [List.getElem?_append_left e] at hix
      obtain ⟨g1, g2⟩ := hx0 i x hix
      refine ⟨RM_congr g1 g2 (fun k hk2 => ?_), g2⟩
      show up2 I1 140 4 _ 143 (218 * i + k) = _
      rw [show up2 I1 140 4 (nI (hs0.length + 1)) 143 = I1 143 from FrO.up 143 (by decide), hk, if_neg (by omega)]
    · have hie : i = hs0.length := by omega
      subst hie
      rw [List.getElem?_append_right (Nat.le_refl _), Nat.sub_self] at hix
      cases hix
      refine ⟨RM_congr hM h16 (fun k hk2 => ?_), h16⟩
      show up2 I1 140 4 _ 143 (218 * hs0.length + k) = _
      rw [show up2 I1 140 4 (nI (hs0.length + 1)) 143 = I1 143 from FrO.up 143 (by decide), hk, if_pos (by omega)]
      exact congrArg (I 141) (by omega)
  · rw [FrO.up q h2, hF q h1, hF0 q h1 h2]
  · rw [up2_o, if_neg hj, hF 140 (by decide), hj0 j hj])
    · refine aw_aload_n dX4_saves_59 rfl ?_
      refine aw_getR dX4_saves_60 flX4_16 rfl (by assumption) (by assumption) ?_
      refine aw_sipush (v := nI 218) dX4_saves_63 rfl ?_
      refine aw_aload_n dX4_saves_66 rfl ?_
      refine aw_getI dX4_saves_67 flX4_37 rfl (by assumption) hn1 ?_
      first | refine aw_imulN dX4_saves_70 ?_ | refine aw_imul dX4_saves_70 ?_
      refine aw_iload_n dX4_saves_71 rfl ?_
      first | refine aw_iaddN dX4_saves_72 ?_ | refine aw_iadd dX4_saves_72 ?_
      refine aw_aload_n dX4_saves_73 rfl ?_
      refine aw_getR dX4_saves_74 flX4_7 rfl (by assumption) (by assumption) ?_
      refine aw_iload_n dX4_saves_77 rfl ?_
      refine aw_iald dX4_saves_78 (by assumption) (by omega) rfl (by omega) (show _ = I 141 q by rw [hF 141 (by decide), hF0 141 (by decide) (by decide)]) ?_
      refine aw_iast dX4_saves_79 (by assumption) (by omega) (by omega) rfl (by omega) ?_
      refine aw_iincN (k := 1) (ls' := [(1, _), (0, _)]) dX4_saves_80 rfl rfl (by decide) rfl ?_
      refine aw_goto (tgt := 52) dX4_saves_83 (by decide) ?_
      exact aw_pick [1, 0] rfl (ih (218 - (q + 1)) (by omega) (q + 1) _ rfl (by omega) (hF.tr FrO.up) (fun j => by
        rw [up2_o]
        by_cases e : j = 218 * hs0.length + q
        · subst e; rw [if_pos rfl, if_pos (by omega)]; exact congrArg (I 141) (by omega)
        · rw [if_neg e, hk]
          by_cases e2 : 218 * hs0.length ≤ j ∧ j < 218 * hs0.length + q
          · rw [if_pos e2, if_pos (by omega)]
          · rw [if_neg e2, if_neg (by omega)]))
  have loop1 : hs.length = 6 → ∀ (d q : Nat) (I1 : Nat → Nat → Int32), 1090 - q = d → q ≤ 1090 → FrO 143 I I1 → (∀ j, I1 143 j = if j < q then I 143 (j + 218) else I 143 j) → AW G YX4_saves (MZ G YX4_saves (Up K R J z none (fun I' => RH I' (pushH hs a) ∧ (∀ q, q ≠ 143 → q ≠ 140 → I' q = I q) ∧ ∀ j, j ≠ 4 → I' 140 j = I 140 j))) 11 [(0, .ref (G.1 140)), (1, .int (nI q))] [] (K, R, I1, J, z) 0 0 := by
    intro hs6 d
    induction d using Nat.strongRecOn with
    | _ d ih =>
    intro q I1 hd hq hF hk
    have hn1 : I1 140 4 = nI 6 := by rw [hF 140 (by decide), hn, hs6]
    refine aw_iload_n dX4_saves_11 rfl ?_
    refine aw_sipush (v := nI 1090) dX4_saves_12 rfl ?_
    refine aw_icmp_geN (tgt := 40) dX4_saves_15 (by decide) (by omega) (by omega) (fun hc15 => ?_) (fun hc15 => ?_)
    · refine aw_aload_n dX4_saves_40 rfl ?_
      refine aw_dup dX4_saves_41 rfl ?_
      refine aw_getI dX4_saves_42 flX4_37 rfl (by assumption) hn1 ?_
      refine aw_iconst (v := nI 1) dX4_saves_45 rfl ?_
      first | refine aw_isubN dX4_saves_46 (by omega) ?_ | refine aw_isub dX4_saves_46 ?_
      refine aw_putI dX4_saves_47 flX4_37 rfl (by intro r hr; cases hr; rfl) (by assumption) (by omega) rfl rfl ?_
      refine aw_iconst (v := nI 0) dX4_saves_50 rfl ?_
      refine aw_istore_n (ls' := [(1, _), (0, _)]) dX4_saves_51 (by decide) rfl ?_
      have htl : hs.tail.length = 5 := by rw [List.length_tail]; omega
      refine aw_pick [1, 0] rfl (loop2 (up2 I1 140 4 (nI (6 - 1))) hs.tail (by omega) (by unfold pushH; rw [if_pos hs6]) (by rw [htl]; simp [up2]) (fun q h1 h2 => by rw [FrO.up q h2, hF q h1]) (fun j hj => by rw [up2_o, if_neg hj, hF 140 (by decide)]) (fun i x hix => ?_) 218 0 _ rfl (by decide) FrO.rf (fun j => by rw [if_neg (by omega)]))
      have hil := (List.getElem?_eq_some_iff.mp hix).1
      have hix2 : hs[i + 1]? = some x := by rw [List.getElem?_tail] at hix; exact hix
      obtain ⟨g1, g2⟩ := hx (i + 1) x hix2
      refine ⟨RM_congr g1 g2 (fun k hk2 => ?_), g2⟩
      show up2 I1 140 4 _ 143 (218 * i + k) = _
      rw [show up2 I1 140 4 (nI (6 - 1)) 143 = I1 143 from FrO.up 143 (by decide), hk, if_pos (by omega)]
      exact congrArg (I 143) (by omega)
    · refine aw_aload_n dX4_saves_18 rfl ?_
      refine aw_getR dX4_saves_19 flX4_16 rfl (by assumption) (by assumption) ?_
      refine aw_iload_n dX4_saves_22 rfl ?_
      refine aw_aload_n dX4_saves_23 rfl ?_
      refine aw_getR dX4_saves_24 flX4_16 rfl (by assumption) (by assumption) ?_
      refine aw_iload_n dX4_saves_27 rfl ?_
      refine aw_sipush (v := nI 218) dX4_saves_28 rfl ?_
      first | refine aw_iaddN dX4_saves_31 ?_ | refine aw_iadd dX4_saves_31 ?_
      refine aw_iald dX4_saves_32 (by assumption) (by omega) rfl (by omega) (show _ = I 143 (q + 218) by rw [hk, if_neg (by omega)]) ?_
      refine aw_iast dX4_saves_33 (by assumption) (by omega) (by omega) rfl (by omega) ?_
      refine aw_iincN (k := 1) (ls' := [(1, _), (0, _)]) dX4_saves_34 rfl rfl (by decide) rfl ?_
      refine aw_goto (tgt := 11) dX4_saves_37 (by decide) ?_
      exact aw_pick [1, 0] rfl (ih (1090 - (q + 1)) (by omega) (q + 1) _ rfl (by omega) (hF.tr FrO.up) (fun j => by
        rw [up2_o]
        by_cases e : j = q
        · subst e; rw [if_pos rfl, if_pos (by omega)]
        · rw [if_neg e, hk]
          by_cases e2 : j < q
          · rw [if_pos e2, if_pos (by omega)]
          · rw [if_neg e2, if_neg (by omega)]))
  refine run_of (ls := [(0, .ref (G.1 140))]) (by decide +kernel) rfl rfl (Nat.le_of_ble_eq_true rfl) ?_
  refine aw_aload_n dX4_saves_0 rfl ?_
  refine aw_getI dX4_saves_1 flX4_37 rfl (by assumption) hn ?_
  refine aw_bipush (v := nI 6) dX4_saves_4 rfl ?_
  refine aw_icmp_neN (tgt := 50) dX4_saves_6 (by decide) (by omega) (by omega) (fun hc6 => ?_) (fun hc6 => ?_)
  · refine aw_iconst (v := nI 0) dX4_saves_50 rfl ?_
    refine aw_istore_n (ls' := [(1, _), (0, _)]) dX4_saves_51 (by decide) rfl ?_
    exact aw_pick [1, 0] rfl (loop2 I hs (by omega) (by unfold pushH; rw [if_neg hc6]) hn (fun _ _ _ => rfl) (fun _ _ => rfl) hx 218 0 I rfl (by decide) FrO.rf (fun j => by rw [if_neg (by omega)]))
  · refine aw_iconst (v := nI 0) dX4_saves_9 rfl ?_
    refine aw_istore_n (ls' := [(1, _), (0, _)]) dX4_saves_10 (by decide) rfl ?_
    exact aw_pick [1, 0] rfl (loop1 hc6 1090 0 I rfl (by decide) FrO.rf (fun j => by rw [if_neg (by omega)]))
end MODEL10
end
section
/-! THE REFERENCE: texts -/
/-- the buffer -/
def RB (I : Nat → Nat → Int32) (B : List Nat) : Prop := I 140 6 = nI B.length ∧ B.length ≤ 60 ∧ ∀ (i c : Nat), B[i]? = some c → I 144 i = nI c ∧ 33 ≤ c ∧ c ≤ 126
def dig (c : Nat) : Bool := decide (48 ≤ c ∧ c ≤ 57)
/-- one number is read -/
def rdNum (B : List Nat) (p : Nat) (r : List Nat) : Bool × Nat × List Nat :=
  if dig (B.getD p 0) = true then (if 48 < B.getD p 0 ∧ dig (B.getD (p + 1) 0) = true then (true, p + 2, r ++ [10 * (B.getD p 0 - 48) + (B.getD (p + 1) 0 - 48)]) else (true, p + 1, r ++ [B.getD p 0 - 48])) else (false, p, r)
/-- the further ones, with commas ahead -/
def rdLoop (B : List Nat) : Nat → Nat → List Nat → Bool × Nat × List Nat
  | 0, p, r => (true, p, r)
  | f + 1, p, r => if p < B.length then (if B.getD p 0 = 44 ∧ r.length < 20 then (if (rdNum B (p + 1) r).1 = true then rdLoop B f (rdNum B (p + 1) r).2.1 (rdNum B (p + 1) r).2.2 else rdNum B (p + 1) r) else (false, p, r)) else (true, p, r)
def rdAll (B : List Nat) : Bool × Nat × List Nat := if (rdNum B 0 []).1 = true then rdLoop B B.length (rdNum B 0 []).2.1 (rdNum B 0 []).2.2 else rdNum B 0 []
/-- where the reading stands -/
def RX (I : Nat → Nat → Int32) (x : Bool × Nat × List Nat) : Prop := I 140 8 = nI (b2 x.1) ∧ I 140 7 = nI x.2.1 ∧ I 140 10 = nI x.2.2.length ∧ ∀ (i v : Nat), x.2.2[i]? = some v → I 145 i = nI v
/-- the reading touches its own cells alone -/
def FrX (I I' : Nat → Nat → Int32) : Prop := (∀ q, q ≠ 140 → q ≠ 145 → I' q = I q) ∧ ∀ j, j ≠ 7 → j ≠ 8 → j ≠ 10 → I' 140 j = I 140 j
theorem FrX.rf {I : Nat → Nat → Int32} : FrX I I := ⟨fun _ _ _ => rfl, fun _ _ _ _ => rfl⟩
theorem FrX.tr {I I' I'' : Nat → Nat → Int32} (h : FrX I I') (h' : FrX I' I'') : FrX I I'' := ⟨fun q h1 h2 => (h'.1 q h1 h2).trans (h.1 q h1 h2), fun j h1 h2 h3 => (h'.2 j h1 h2 h3).trans (h.2 j h1 h2 h3)⟩
theorem FrX.up {I : Nat → Nat → Int32} {j : Nat} {v : Int32} (h : j = 7 ∨ j = 8 ∨ j = 10) : FrX I (up2 I 140 j v) := ⟨fun q h1 _ => FrO.up q h1, fun k h1 h2 h3 => by rw [up2_o, if_neg (by omega)]⟩
theorem FrX.up5 {I : Nat → Nat → Int32} {j : Nat} {v : Int32} : FrX I (up2 I 145 j v) := ⟨fun q _ h2 => FrO.up q h2, fun k _ _ _ => by rw [FrO.up 140 (by decide)]⟩
theorem RB.fr {I I' : Nat → Nat → Int32} {B : List Nat} (h : RB I B) (hF : FrX I I') : RB I' B := ⟨by rw [hF.2 6 (by decide) (by decide) (by decide)]; exact h.1, h.2.1, fun i c hi => by rw [hF.1 144 (by decide) (by decide)]; exact h.2.2 i c hi⟩
theorem getD_lt {B : List Nat} {p : Nat} (h : p < B.length) : B[p]? = some (B.getD p 0) := by rw [List.getD_eq_getElem?_getD, List.getElem?_eq_getElem h]; rfl
theorem getD_ge {B : List Nat} {p : Nat} (h : B.length ≤ p) : B.getD p 0 = 0 := by rw [List.getD_eq_getElem?_getD, List.getElem?_eq_none h]; rfl
theorem RB.le {I : Nat → Nat → Int32} {B : List Nat} (h : RB I B) (p : Nat) : B.getD p 0 ≤ 126 := by
  rcases Nat.lt_or_ge p B.length with q | q
  · exact (h.2.2 p _ (getD_lt q)).2.2
  · rw [getD_ge q]; omega
theorem in_dig {c : Nat} (h : c ≤ 126) : (if nI 48 ≤ nI c ∧ nI c ≤ nI 57 then 1 else 0) = b2 (dig c) := by
  unfold b2 dig
  have e : (nI 48 ≤ nI c ∧ nI c ≤ nI 57) ↔ (48 ≤ c ∧ c ≤ 57) := by rw [nI_leI (by decide) (by omega), nI_leI (by omega) (by decide)]
  by_cases q : 48 ≤ c ∧ c ≤ 57
  · rw [if_pos (e.mpr q), if_pos (by simpa using q)]
  · rw [if_neg (fun w => q (e.mp w)), if_neg (by simpa using q)]
theorem rdNum_f {B : List Nat} {p : Nat} {r : List Nat} (h : dig (B.getD p 0) = false) : rdNum B p r = (false, p, r) := by
  unfold rdNum; rw [if_neg (by rw [h]; decide)]
theorem rdNum_1 {B : List Nat} {p : Nat} {r : List Nat} (h : dig (B.getD p 0) = true) (h' : ¬ (48 < B.getD p 0 ∧ dig (B.getD (p + 1) 0) = true)) : rdNum B p r = (true, p + 1, r ++ [B.getD p 0 - 48]) := by
  unfold rdNum; rw [if_pos h, if_neg h']
theorem rdNum_2 {B : List Nat} {p : Nat} {r : List Nat} (h : dig (B.getD p 0) = true) (h' : 48 < B.getD p 0 ∧ dig (B.getD (p + 1) 0) = true) : rdNum B p r = (true, p + 2, r ++ [10 * (B.getD p 0 - 48) + (B.getD (p + 1) 0 - 48)]) := by
  unfold rdNum; rw [if_pos h, if_pos h']
theorem nt1 {c c2 : Nat} (h : c - 48 = 0) : ¬ (48 < c ∧ dig c2 = true) := fun q => by have := q.1; omega
theorem nt2 {c : Nat} (h : b2 (dig c) ≠ 0) : dig c = true := by
  cases q : dig c
  · rw [q] at h; exact absurd rfl h
  · rfl
theorem nt3 {c c2 : Nat} (h : b2 (dig c2) = 0) : ¬ (48 < c ∧ dig c2 = true) := fun q => by rw [q.2] at h; cases h
theorem sd {w : Bool} {L p : Nat} (hx : w = false ∨ L ≤ p) (h18 : b2 w ≠ 0) (h : p < L) : False := by
  rcases hx with q | q
  · rw [q] at h18; exact h18 rfl
  · omega
theorem dig_t {c : Nat} (h : dig c = true) : 48 ≤ c ∧ c ≤ 57 := by simpa [dig] using h
section MODEL11
variable {G : GG} {K : Nat → Option (Nat × Nat)} {R : Nat → Nat → Value} {I : Nat → Nat → Int32} {J : Nat → Nat → Int64} {z : Nat} {σ : Sg} {a : AA} {B : List Nat} {m k : Nat}
theorem r_sign (hL : LM G K R) (hB : RB I B) {p : Nat} (hp : I 140 7 = nI p) (hp2 : p ≤ 1000) : Run G YX4_sign [.ref (G.1 140)] (K, R, I, J, z) (Rd (K, R, I, J, z) (.int (nI (B.getD p 0)))) := by
  obtain ⟨hk0, hr1, hk1, hr2, hk2, hr3, hk3, hr5, hk5, hr9, hk9⟩ := hL
  have h60 := hB.2.1
  refine run_of (ls := [(0, .ref (G.1 140))]) (by decide +kernel) rfl rfl (Nat.le_of_ble_eq_true rfl) ?_
  refine aw_aload_n dX4_sign_0 rfl ?_
  refine aw_getI dX4_sign_1 flX4_116 rfl (by assumption) hp ?_
  refine aw_aload_n dX4_sign_4 rfl ?_
  refine aw_getI dX4_sign_5 flX4_113 rfl (by assumption) hB.1 ?_
  refine aw_icmp_geN (tgt := 23) dX4_sign_8 (by decide) (by omega) (by omega) (fun hc8 => ?_) (fun hc8 => ?_)
  · refine aw_iconst (v := nI 0) dX4_sign_23 rfl ?_
    exact aw_iret dX4_sign_24 rfl (Nat.zero_le _) (Nat.zero_le _) ⟨by first | rfl | rw [getD_ge hc8], rfl⟩
  · refine aw_aload_n dX4_sign_11 rfl ?_
    refine aw_getR dX4_sign_12 flX4_19 rfl (by assumption) (by assumption) ?_
    refine aw_aload_n dX4_sign_15 rfl ?_
    refine aw_getI dX4_sign_16 flX4_116 rfl (by assumption) hp ?_
    refine aw_iald dX4_sign_19 (by assumption) (by omega) rfl (by omega) (hB.2.2 p _ (getD_lt hc8)).1 ?_
    refine aw_goto (tgt := 24) dX4_sign_20 (by decide) ?_
    exact aw_iret dX4_sign_24 rfl (Nat.zero_le _) (Nat.zero_le _) ⟨by first | rfl | rw [getD_ge hc8], rfl⟩
theorem r_in_dig {c : Nat} (h : c ≤ 126) : Run G YX4_in [.int (nI c), .int (nI 48), .int (nI 57)] σ (Rd σ (.int (nI (b2 (dig c))))) := by
  have := r_in (G := G) (σ := σ) (nI c) (nI 48) (nI 57)
  rw [in_dig h] at this; exact this
theorem rd_app {I0 I1 : Nat → Nat → Int32} {r : List Nat} {x : Nat} (hrv : ∀ (i v : Nat), r[i]? = some v → I0 145 i = nI v) {i v : Nat} (h : (r ++ [x])[i]? = some v) (h1 : ∀ j, I1 145 j = if j = r.length then nI x else I0 145 j) : I1 145 i = nI v := by
  have hil := (List.getElem?_eq_some_iff.mp h).1
  rw [List.length_append, List.length_singleton] at hil
  rw [h1]
  by_cases e : i = r.length
  · subst e
    rw [List.getElem?_append_right (Nat.le_refl _), Nat.sub_self] at h
    cases h
    rw [if_pos rfl]
  · rw [if_neg e]
    rw [List.getElem?_append_left (by omega)] at h
    exact hrv i v h
theorem r_readsNumber (hL : LM G K R) (hB : RB I B) {p : Nat} {r : List Nat} (hp : I 140 7 = nI p) (hp2 : p ≤ 900) (hr : I 140 10 = nI r.length) (hr2 : r.length < 20) (hrv : ∀ (i v : Nat), r[i]? = some v → I 145 i = nI v) : Run G YX4_readsNumber [.ref (G.1 140)] (K, R, I, J, z) (Up K R J z none (fun I' => RX I' (rdNum B p r) ∧ FrX I I')) := by
  obtain ⟨hk0, hr1, hk1, hr2, hk2, hr3, hk3, hr5, hk5, hr9, hk9⟩ := hL
  have hL : LM G K R := ⟨hk0, hr1, hk1, hr2, hk2, hr3, hk3, hr5, hk5, hr9, hk9⟩
  have hc1 := hB.le p
  have hc2 := hB.le (p + 1)
  have h60 := hB.2.1
  have hbd := b2_le (dig (B.getD p 0))
  have hbd2 := b2_le (dig (B.getD (p + 1) 0))
  have hB8 : RB (up2 I 140 8 (nI (b2 (dig (B.getD p 0))))) B := hB.fr (FrX.up (Or.inr (Or.inl rfl)))
  have hB7 : RB (up2 (up2 I 140 8 (nI (b2 (dig (B.getD p 0))))) 140 7 (nI (p + b2 (dig (B.getD p 0))))) B := hB8.fr (FrX.up (Or.inl rfl))
  cases hd : dig (B.getD p 0) with
  | false =>
    rw [hd] at hB8 hB7 hbd
    rw [show b2 false = 0 from rfl] at hB8 hB7 hbd
    refine run_of (ls := [(0, .ref (G.1 140))]) (by decide +kernel) rfl rfl (Nat.le_of_ble_eq_true rfl) ?_
    refine aw_aload_n dX4_readsNumber_0 rfl ?_
    refine aw_aload_n dX4_readsNumber_1 rfl ?_
    refine aw_vRd dX4_readsNumber_2 cvX4_119 ⟨Nat.le_of_ble_eq_true rfl, Nat.le_of_ble_eq_true rfl⟩ (by assumption) ⟨_, rfl, rfl⟩ (r_sign hL hB hp (by omega)) rfl rfl (Nat.le_of_ble_eq_true rfl) ⟨rfl, rfl⟩ ⟨Nat.zero_le _, Nat.zero_le _⟩ ?_
    refine aw_bipush (v := nI 48) dX4_readsNumber_5 rfl ?_
    refine aw_bipush (v := nI 57) dX4_readsNumber_7 rfl ?_
    refine aw_sRd dX4_readsNumber_9 cvX4_33 ⟨Nat.le_of_ble_eq_true rfl, Nat.le_of_ble_eq_true rfl⟩ (r_in_dig hc1) rfl rfl (Nat.le_of_ble_eq_true rfl) ⟨rfl, rfl⟩ ⟨Nat.zero_le _, Nat.zero_le _⟩ ?_
    rw [hd, show b2 false = 0 from rfl]
    refine aw_putI dX4_readsNumber_12 flX4_122 rfl (by intro r hr; cases hr; rfl) (by assumption) (by omega) rfl rfl ?_
    refine aw_aload_n dX4_readsNumber_15 rfl ?_
    refine aw_vRd dX4_readsNumber_16 cvX4_119 ⟨Nat.le_of_ble_eq_true rfl, Nat.le_of_ble_eq_true rfl⟩ (by assumption) ⟨_, rfl, rfl⟩ (r_sign hL hB8 (p := p) (by simp [up2, hp]) (by omega)) rfl rfl (Nat.le_of_ble_eq_true rfl) ⟨rfl, rfl⟩ ⟨Nat.zero_le _, Nat.zero_le _⟩ ?_
    refine aw_bipush (v := nI 48) dX4_readsNumber_19 rfl ?_
    first | refine aw_isubN dX4_readsNumber_21 (by omega) ?_ | refine aw_isub dX4_readsNumber_21 ?_
    refine aw_istore_n (ls' := [(1, _), (0, _)]) dX4_readsNumber_22 (by decide) rfl ?_
    refine aw_aload_n dX4_readsNumber_23 rfl ?_
    refine aw_dup dX4_readsNumber_24 rfl ?_
    refine aw_getI dX4_readsNumber_25 flX4_116 rfl (by assumption) (show _ = nI p by simp [up2, hp]) ?_
    refine aw_aload_n dX4_readsNumber_28 rfl ?_
    refine aw_getI dX4_readsNumber_29 flX4_122 rfl (by assumption) (show _ = nI 0 by simp [up2]) ?_
    refine aw_dia (tgt := 39) (jn := 40) (c1 := 1) (c0 := 0) dX4_readsNumber_32 (by decide) dX4_readsNumber_35 rfl dX4_readsNumber_36 (by decide) dX4_readsNumber_39 rfl rfl (by omega) (rfl : nI (if 0 = 0 then 0 else 1) = nI 0) ?_
    first | refine aw_iaddN dX4_readsNumber_40 ?_ | refine aw_iadd dX4_readsNumber_40 ?_
    refine aw_putI dX4_readsNumber_41 flX4_116 rfl (by intro r hr; cases hr; rfl) (by assumption) (by omega) rfl rfl ?_
    refine aw_aload_n dX4_readsNumber_44 rfl ?_
    refine aw_getI dX4_readsNumber_45 flX4_122 rfl (by assumption) (show _ = nI 0 by simp [up2]) ?_
    refine aw_if_eqN (tgt := 92) dX4_readsNumber_48 (by decide) (by omega) (fun hc48 => ?_) (fun hc48 => absurd rfl hc48)
    refine aw_aload_n dX4_readsNumber_92 rfl ?_
    refine aw_getI dX4_readsNumber_93 flX4_122 rfl (by assumption) (show _ = nI 0 by simp [up2]) ?_
    refine aw_if_eqN (tgt := 119) dX4_readsNumber_96 (by decide) (by omega) (fun hc96 => ?_) (fun hc96 => absurd rfl hc96)
    refine aw_vret dX4_readsNumber_119 rfl (Nat.zero_le _) (Nat.zero_le _) ?_
    refine ⟨rfl, _, rfl, ?_, (FrX.up (Or.inr (Or.inl rfl))).tr (FrX.up (Or.inl rfl))⟩
    rw [rdNum_f hd]
    exact ⟨by simp [up2, b2], by simp [up2], by simp [up2, hr], fun i v h => by simp [up2]; exact hrv i v h⟩
  | true =>
    obtain ⟨hd1, hd2⟩ := dig_t hd
    rw [hd] at hB8 hB7 hbd
    rw [show b2 true = 1 from rfl] at hB8 hB7 hbd
    refine run_of (ls := [(0, .ref (G.1 140))]) (by decide +kernel) rfl rfl (Nat.le_of_ble_eq_true rfl) ?_
    refine aw_aload_n dX4_readsNumber_0 rfl ?_
    refine aw_aload_n dX4_readsNumber_1 rfl ?_
    refine aw_vRd dX4_readsNumber_2 cvX4_119 ⟨Nat.le_of_ble_eq_true rfl, Nat.le_of_ble_eq_true rfl⟩ (by assumption) ⟨_, rfl, rfl⟩ (r_sign hL hB hp (by omega)) rfl rfl (Nat.le_of_ble_eq_true rfl) ⟨rfl, rfl⟩ ⟨Nat.zero_le _, Nat.zero_le _⟩ ?_
    refine aw_bipush (v := nI 48) dX4_readsNumber_5 rfl ?_
    refine aw_bipush (v := nI 57) dX4_readsNumber_7 rfl ?_
    refine aw_sRd dX4_readsNumber_9 cvX4_33 ⟨Nat.le_of_ble_eq_true rfl, Nat.le_of_ble_eq_true rfl⟩ (r_in_dig hc1) rfl rfl (Nat.le_of_ble_eq_true rfl) ⟨rfl, rfl⟩ ⟨Nat.zero_le _, Nat.zero_le _⟩ ?_
    rw [hd, show b2 true = 1 from rfl]
    refine aw_putI dX4_readsNumber_12 flX4_122 rfl (by intro r hr; cases hr; rfl) (by assumption) (by omega) rfl rfl ?_
    refine aw_aload_n dX4_readsNumber_15 rfl ?_
    refine aw_vRd dX4_readsNumber_16 cvX4_119 ⟨Nat.le_of_ble_eq_true rfl, Nat.le_of_ble_eq_true rfl⟩ (by assumption) ⟨_, rfl, rfl⟩ (r_sign hL hB8 (p := p) (by simp [up2, hp]) (by omega)) rfl rfl (Nat.le_of_ble_eq_true rfl) ⟨rfl, rfl⟩ ⟨Nat.zero_le _, Nat.zero_le _⟩ ?_
    refine aw_bipush (v := nI 48) dX4_readsNumber_19 rfl ?_
    first | refine aw_isubN dX4_readsNumber_21 (by omega) ?_ | refine aw_isub dX4_readsNumber_21 ?_
    refine aw_istore_n (ls' := [(1, _), (0, _)]) dX4_readsNumber_22 (by decide) rfl ?_
    refine aw_aload_n dX4_readsNumber_23 rfl ?_
    refine aw_dup dX4_readsNumber_24 rfl ?_
    refine aw_getI dX4_readsNumber_25 flX4_116 rfl (by assumption) (show _ = nI p by simp [up2, hp]) ?_
    refine aw_aload_n dX4_readsNumber_28 rfl ?_
    refine aw_getI dX4_readsNumber_29 flX4_122 rfl (by assumption) (show _ = nI 1 by simp [up2]) ?_
    refine aw_dia (tgt := 39) (jn := 40) (c1 := 1) (c0 := 0) dX4_readsNumber_32 (by decide) dX4_readsNumber_35 rfl dX4_readsNumber_36 (by decide) dX4_readsNumber_39 rfl rfl (by omega) (rfl : nI (if 1 = 0 then 0 else 1) = nI 1) ?_
    first | refine aw_iaddN dX4_readsNumber_40 ?_ | refine aw_iadd dX4_readsNumber_40 ?_
    refine aw_putI dX4_readsNumber_41 flX4_116 rfl (by intro r hr; cases hr; rfl) (by assumption) (by omega) rfl rfl ?_
    refine aw_aload_n dX4_readsNumber_44 rfl ?_
    refine aw_getI dX4_readsNumber_45 flX4_122 rfl (by assumption) (show _ = nI 1 by simp [up2]) ?_
    refine aw_if_eqN (tgt := 92) dX4_readsNumber_48 (by decide) (by omega) (fun hc48 => absurd hc48 (by decide)) (fun hc48 => ?_)
    refine aw_iload_n dX4_readsNumber_51 rfl ?_
    refine aw_if_leN (tgt := 92) dX4_readsNumber_52 (by decide) (by omega) (fun hc52 => ?_) (fun hc52 => ?_)
    · refine aw_aload_n dX4_readsNumber_92 rfl ?_
      refine aw_getI dX4_readsNumber_93 flX4_122 rfl (by assumption) (show _ = nI 1 by simp [up2]) ?_
      refine aw_if_eqN (tgt := 119) dX4_readsNumber_96 (by decide) (by omega) (fun hc96 => absurd hc96 (by decide)) (fun hc96 => ?_)
      refine aw_aload_n dX4_readsNumber_99 rfl ?_
      refine aw_getR dX4_readsNumber_100 flX4_22 rfl (by assumption) (by assumption) ?_
      refine aw_aload_n dX4_readsNumber_103 rfl ?_
      refine aw_getI dX4_readsNumber_104 flX4_126 rfl (by assumption) (show _ = nI r.length by simp [up2, hr]) ?_
      refine aw_iload_n dX4_readsNumber_107 rfl ?_
      refine aw_iast dX4_readsNumber_108 (by assumption) (by omega) (by omega) rfl (by omega) ?_
      refine aw_aload_n dX4_readsNumber_109 rfl ?_
      refine aw_dup dX4_readsNumber_110 rfl ?_
      refine aw_getI dX4_readsNumber_111 flX4_126 rfl (by assumption) (show _ = nI r.length by simp [up2, hr]) ?_
      refine aw_iconst (v := nI 1) dX4_readsNumber_114 rfl ?_
      first | refine aw_iaddN dX4_readsNumber_115 ?_ | refine aw_iadd dX4_readsNumber_115 ?_
      refine aw_putI dX4_readsNumber_116 flX4_126 rfl (by intro r hr; cases hr; rfl) (by assumption) (by omega) rfl rfl ?_
      refine aw_vret dX4_readsNumber_119 rfl (Nat.zero_le _) (Nat.zero_le _) ?_
      refine ⟨rfl, _, rfl, ?_, ?_⟩
      · first
        | (have hq := rdNum_1 (r := r) hd (nt1 (c2 := B.getD (p + 1) 0) hc52)
           rw [hq]
           exact ⟨by simp [up2, b2], by simp [up2], by simp [up2, hr], fun i v h => rd_app (I0 := I) hrv h (fun j => by simp [up2])⟩)
        | (have hq2 := nt2 hc66
           have hq := rdNum_2 (r := r) hd ⟨by omega, hq2⟩
           rw [hq]
           have e1 : 10 * (B.getD p 0 - 48) + (B.getD (p + 1) 0) - 48 = 10 * (B.getD p 0 - 48) + (B.getD (p + 1) 0 - 48) := by
             have := (dig_t hq2).1
             omega
           exact ⟨by simp [up2, b2], by simp [up2], by simp [up2, hr], fun i v h => rd_app (I0 := I) hrv h (fun j => by rw [← e1, ← pk_sub (show 48 ≤ _ by have := (dig_t hq2).1; omega)]; simp [up2])⟩)
        | (have hq := rdNum_1 (r := r) hd (nt3 hc66)
           rw [hq]
           exact ⟨by simp [up2, b2], by simp [up2], by simp [up2, hr], fun i v h => rd_app (I0 := I) hrv h (fun j => by simp [up2])⟩)
      · first
        | exact (FrX.up (Or.inr (Or.inl rfl))).tr ((FrX.up (Or.inl rfl)).tr (FrX.up5.tr (FrX.up (Or.inr (Or.inr rfl)))))
        | exact (FrX.up (Or.inr (Or.inl rfl))).tr ((FrX.up (Or.inl rfl)).tr ((FrX.up (Or.inl rfl)).tr (FrX.up5.tr (FrX.up (Or.inr (Or.inr rfl))))))
    · refine aw_aload_n dX4_readsNumber_55 rfl ?_
      refine aw_vRd dX4_readsNumber_56 cvX4_119 ⟨Nat.le_of_ble_eq_true rfl, Nat.le_of_ble_eq_true rfl⟩ (by assumption) ⟨_, rfl, rfl⟩ (r_sign hL hB7 (p := p + 1) (by simp [up2]) (by omega)) rfl rfl (Nat.le_of_ble_eq_true rfl) ⟨rfl, rfl⟩ ⟨Nat.zero_le _, Nat.zero_le _⟩ ?_
      refine aw_bipush (v := nI 48) dX4_readsNumber_59 rfl ?_
      refine aw_bipush (v := nI 57) dX4_readsNumber_61 rfl ?_
      refine aw_sRd dX4_readsNumber_63 cvX4_33 ⟨Nat.le_of_ble_eq_true rfl, Nat.le_of_ble_eq_true rfl⟩ (r_in_dig hc2) rfl rfl (Nat.le_of_ble_eq_true rfl) ⟨rfl, rfl⟩ ⟨Nat.zero_le _, Nat.zero_le _⟩ ?_
      refine aw_if_eqN (tgt := 92) dX4_readsNumber_66 (by decide) (by omega) (fun hc66 => ?_) (fun hc66 => ?_)
      · refine aw_aload_n dX4_readsNumber_92 rfl ?_
        refine aw_getI dX4_readsNumber_93 flX4_122 rfl (by assumption) (show _ = nI 1 by simp [up2]) ?_
        refine aw_if_eqN (tgt := 119) dX4_readsNumber_96 (by decide) (by omega) (fun hc96 => absurd hc96 (by decide)) (fun hc96 => ?_)
        refine aw_aload_n dX4_readsNumber_99 rfl ?_
        refine aw_getR dX4_readsNumber_100 flX4_22 rfl (by assumption) (by assumption) ?_
        refine aw_aload_n dX4_readsNumber_103 rfl ?_
        refine aw_getI dX4_readsNumber_104 flX4_126 rfl (by assumption) (show _ = nI r.length by simp [up2, hr]) ?_
        refine aw_iload_n dX4_readsNumber_107 rfl ?_
        refine aw_iast dX4_readsNumber_108 (by assumption) (by omega) (by omega) rfl (by omega) ?_
        refine aw_aload_n dX4_readsNumber_109 rfl ?_
        refine aw_dup dX4_readsNumber_110 rfl ?_
        refine aw_getI dX4_readsNumber_111 flX4_126 rfl (by assumption) (show _ = nI r.length by simp [up2, hr]) ?_
        refine aw_iconst (v := nI 1) dX4_readsNumber_114 rfl ?_
        first | refine aw_iaddN dX4_readsNumber_115 ?_ | refine aw_iadd dX4_readsNumber_115 ?_
        refine aw_putI dX4_readsNumber_116 flX4_126 rfl (by intro r hr; cases hr; rfl) (by assumption) (by omega) rfl rfl ?_
        refine aw_vret dX4_readsNumber_119 rfl (Nat.zero_le _) (Nat.zero_le _) ?_
        refine ⟨rfl, _, rfl, ?_, ?_⟩
        · first
          | (have hq := rdNum_1 (r := r) hd (nt1 (c2 := B.getD (p + 1) 0) hc52)
             rw [hq]
             exact ⟨by simp [up2, b2], by simp [up2], by simp [up2, hr], fun i v h => rd_app (I0 := I) hrv h (fun j => by simp [up2])⟩)
          | (have hq2 := nt2 hc66
             have hq := rdNum_2 (r := r) hd ⟨by omega, hq2⟩
             rw [hq]
             have e1 : 10 * (B.getD p 0 - 48) + (B.getD (p + 1) 0) - 48 = 10 * (B.getD p 0 - 48) + (B.getD (p + 1) 0 - 48) := by
               have := (dig_t hq2).1
               omega
             exact ⟨by simp [up2, b2], by simp [up2], by simp [up2, hr], fun i v h => rd_app (I0 := I) hrv h (fun j => by rw [← e1, ← pk_sub (show 48 ≤ _ by have := (dig_t hq2).1; omega)]; simp [up2])⟩)
          | (have hq := rdNum_1 (r := r) hd (nt3 hc66)
             rw [hq]
             exact ⟨by simp [up2, b2], by simp [up2], by simp [up2, hr], fun i v h => rd_app (I0 := I) hrv h (fun j => by simp [up2])⟩)
        · first
          | exact (FrX.up (Or.inr (Or.inl rfl))).tr ((FrX.up (Or.inl rfl)).tr (FrX.up5.tr (FrX.up (Or.inr (Or.inr rfl)))))
          | exact (FrX.up (Or.inr (Or.inl rfl))).tr ((FrX.up (Or.inl rfl)).tr ((FrX.up (Or.inl rfl)).tr (FrX.up5.tr (FrX.up (Or.inr (Or.inr rfl))))))
      · refine aw_bipush (v := nI 10) dX4_readsNumber_69 rfl ?_
        refine aw_iload_n dX4_readsNumber_71 rfl ?_
        first | refine aw_imulN dX4_readsNumber_72 ?_ | refine aw_imul dX4_readsNumber_72 ?_
        refine aw_aload_n dX4_readsNumber_73 rfl ?_
        refine aw_vRd dX4_readsNumber_74 cvX4_119 ⟨Nat.le_of_ble_eq_true rfl, Nat.le_of_ble_eq_true rfl⟩ (by assumption) ⟨_, rfl, rfl⟩ (r_sign hL hB7 (p := p + 1) (by simp [up2]) (by omega)) rfl rfl (Nat.le_of_ble_eq_true rfl) ⟨rfl, rfl⟩ ⟨Nat.zero_le _, Nat.zero_le _⟩ ?_
        first | refine aw_iaddN dX4_readsNumber_77 ?_ | refine aw_iadd dX4_readsNumber_77 ?_
        refine aw_bipush (v := nI 48) dX4_readsNumber_78 rfl ?_
        first | refine aw_isubN dX4_readsNumber_80 (by omega) ?_ | refine aw_isub dX4_readsNumber_80 ?_
        refine aw_istore_n (ls' := [(1, _), (0, _)]) dX4_readsNumber_81 (by decide) rfl ?_
        refine aw_aload_n dX4_readsNumber_82 rfl ?_
        refine aw_dup dX4_readsNumber_83 rfl ?_
        refine aw_getI dX4_readsNumber_84 flX4_116 rfl (by assumption) (show _ = nI (p + 1) by simp [up2]) ?_
        refine aw_iconst (v := nI 1) dX4_readsNumber_87 rfl ?_
        first | refine aw_iaddN dX4_readsNumber_88 ?_ | refine aw_iadd dX4_readsNumber_88 ?_
        refine aw_putI dX4_readsNumber_89 flX4_116 rfl (by intro r hr; cases hr; rfl) (by assumption) (by omega) rfl rfl ?_
        refine aw_aload_n dX4_readsNumber_92 rfl ?_
        refine aw_getI dX4_readsNumber_93 flX4_122 rfl (by assumption) (show _ = nI 1 by simp [up2]) ?_
        refine aw_if_eqN (tgt := 119) dX4_readsNumber_96 (by decide) (by omega) (fun hc96 => absurd hc96 (by decide)) (fun hc96 => ?_)
        refine aw_aload_n dX4_readsNumber_99 rfl ?_
        refine aw_getR dX4_readsNumber_100 flX4_22 rfl (by assumption) (by assumption) ?_
        refine aw_aload_n dX4_readsNumber_103 rfl ?_
        refine aw_getI dX4_readsNumber_104 flX4_126 rfl (by assumption) (show _ = nI r.length by simp [up2, hr]) ?_
        refine aw_iload_n dX4_readsNumber_107 rfl ?_
        refine aw_iast dX4_readsNumber_108 (by assumption) (by omega) (by omega) rfl (by omega) ?_
        refine aw_aload_n dX4_readsNumber_109 rfl ?_
        refine aw_dup dX4_readsNumber_110 rfl ?_
        refine aw_getI dX4_readsNumber_111 flX4_126 rfl (by assumption) (show _ = nI r.length by simp [up2, hr]) ?_
        refine aw_iconst (v := nI 1) dX4_readsNumber_114 rfl ?_
        first | refine aw_iaddN dX4_readsNumber_115 ?_ | refine aw_iadd dX4_readsNumber_115 ?_
        refine aw_putI dX4_readsNumber_116 flX4_126 rfl (by intro r hr; cases hr; rfl) (by assumption) (by omega) rfl rfl ?_
        refine aw_vret dX4_readsNumber_119 rfl (Nat.zero_le _) (Nat.zero_le _) ?_
        refine ⟨rfl, _, rfl, ?_, ?_⟩
        · first
          | (have hq := rdNum_1 (r := r) hd (nt1 (c2 := B.getD (p + 1) 0) hc52)
             rw [hq]
             exact ⟨by simp [up2, b2], by simp [up2], by simp [up2, hr], fun i v h => rd_app (I0 := I) hrv h (fun j => by simp [up2])⟩)
          | (have hq2 := nt2 hc66
             have hq := rdNum_2 (r := r) hd ⟨by omega, hq2⟩
             rw [hq]
             have e1 : 10 * (B.getD p 0 - 48) + (B.getD (p + 1) 0) - 48 = 10 * (B.getD p 0 - 48) + (B.getD (p + 1) 0 - 48) := by
               have := (dig_t hq2).1
               omega
             exact ⟨by simp [up2, b2], by simp [up2], by simp [up2, hr], fun i v h => rd_app (I0 := I) hrv h (fun j => by rw [← e1, ← pk_sub (show 48 ≤ _ by have := (dig_t hq2).1; omega)]; simp [up2])⟩)
          | (have hq := rdNum_1 (r := r) hd (nt3 hc66)
             rw [hq]
             exact ⟨by simp [up2, b2], by simp [up2], by simp [up2, hr], fun i v h => rd_app (I0 := I) hrv h (fun j => by simp [up2])⟩)
        · first
          | exact (FrX.up (Or.inr (Or.inl rfl))).tr ((FrX.up (Or.inl rfl)).tr (FrX.up5.tr (FrX.up (Or.inr (Or.inr rfl)))))
          | exact (FrX.up (Or.inr (Or.inl rfl))).tr ((FrX.up (Or.inl rfl)).tr ((FrX.up (Or.inl rfl)).tr (FrX.up5.tr (FrX.up (Or.inr (Or.inr rfl))))))
theorem rdNum_t {B : List Nat} {p : Nat} {r : List Nat} (h : (rdNum B p r).1 = true) : p < (rdNum B p r).2.1 ∧ (rdNum B p r).2.1 ≤ p + 2 ∧ (rdNum B p r).2.2.length = r.length + 1 := by
  unfold rdNum at h ⊢
  by_cases hd : dig (B.getD p 0) = true
  · rw [if_pos hd] at h ⊢
    split <;> simp
  · rw [if_neg hd] at h; cases h
theorem rdNum_p {B : List Nat} {p : Nat} {r : List Nat} : (rdNum B p r).2.1 ≤ p + 2 := by
  unfold rdNum
  split
  · split <;> simp
  · simp
theorem r_readsAll (hL : LM G K R) (hB : RB I B) : Run G YX4_readsAll [.ref (G.1 140)] (K, R, I, J, z) (Up K R J z none (fun I' => RX I' (rdAll B) ∧ FrX I I')) := by
  obtain ⟨hk0, hr1, hk1, hr2, hk2, hr3, hk3, hr5, hk5, hr9, hk9⟩ := hL
  have hL : LM G K R := ⟨hk0, hr1, hk1, hr2, hk2, hr3, hk3, hr5, hk5, hr9, hk9⟩
  have h60 := hB.2.1
  have stopd : ∀ (I1 : Nat → Nat → Int32) (x : Bool × Nat × List Nat), RX I1 x → FrX I I1 → x.2.1 ≤ 900 → (x.1 = false ∨ B.length ≤ x.2.1) → rdAll B = x → AW G YX4_readsAll (MZ G YX4_readsAll (Up K R J z none (fun I' => RX I' (rdAll B) ∧ FrX I I'))) 14 [(0, .ref (G.1 140))] [] (K, R, I1, J, z) 0 0 := by
    intro I1 x hX hF h9 hx he
    have hB1 := hB.fr hF
    have hb := b2_le x.1
    refine aw_aload_n dX4_readsAll_14 rfl ?_
    refine aw_getI dX4_readsAll_15 flX4_122 rfl (by assumption) hX.1 ?_
    refine aw_if_eqN (tgt := 94) dX4_readsAll_18 (by decide) (by omega) (fun hc18 => ?_) (fun hc18 => ?_)
    · exact aw_vret dX4_readsAll_94 rfl (Nat.zero_le _) (Nat.zero_le _) ⟨rfl, I1, rfl, by rw [he]; exact hX, hF⟩
    · refine aw_aload_n dX4_readsAll_21 rfl ?_
      refine aw_getI dX4_readsAll_22 flX4_116 rfl (by assumption) hX.2.1 ?_
      refine aw_aload_n dX4_readsAll_25 rfl ?_
      refine aw_getI dX4_readsAll_26 flX4_113 rfl (by assumption) hB1.1 ?_
      refine aw_icmp_geN (tgt := 94) dX4_readsAll_29 (by decide) (by omega) (by omega) (fun hc29 => ?_) (fun hc29 => (sd hx hc18 hc29).elim)
      exact aw_vret dX4_readsAll_94 rfl (Nat.zero_le _) (Nat.zero_le _) ⟨rfl, I1, rfl, by rw [he]; exact hX, hF⟩
  have loop : ∀ (f : Nat) (I1 : Nat → Nat → Int32) (p : Nat) (r : List Nat), RX I1 (true, p, r) → FrX I I1 → p ≤ 200 → B.length ≤ p + f → r.length ≤ 20 → rdAll B = rdLoop B f p r → AW G YX4_readsAll (MZ G YX4_readsAll (Up K R J z none (fun I' => RX I' (rdAll B) ∧ FrX I I'))) 14 [(0, .ref (G.1 140))] [] (K, R, I1, J, z) 0 0 := by
    intro f
    induction f with
    | zero =>
      intro I1 p r hX hF hp hf hr he
      exact stopd I1 (true, p, r) hX hF (by show p ≤ 900; omega) (Or.inr (by simpa using hf)) he
    | succ f ih =>
      intro I1 p r hX hF hp hf hr he
      rcases Nat.lt_or_ge p B.length with hpl | hpl
      · rw [rdLoop, if_pos hpl] at he
        have hB1 := hB.fr hF
        have hcl := hB1.le p
        have key : ∀ w : Bool, (w = true ↔ (B.getD p 0 = 44 ∧ r.length < 20)) → AW G YX4_readsAll (MZ G YX4_readsAll (Up K R J z none (fun I' => RX I' (rdAll B) ∧ FrX I I'))) 56 [(0, .ref (G.1 140))] [.int (nI (b2 w)), .ref (G.1 140)] (K, R, I1, J, z) 0 0 := by
          intro w hw
          cases w with
          | false =>
            rw [if_neg (fun q => by have := hw.mpr q; cases this)] at he
            rw [show b2 false = 0 from rfl]
            refine aw_putI dX4_readsAll_56 flX4_122 rfl (by intro r hr; cases hr; rfl) (by assumption) (by omega) rfl rfl ?_
            refine aw_aload_n dX4_readsAll_59 rfl ?_
            refine aw_dup dX4_readsAll_60 rfl ?_
            refine aw_getI dX4_readsAll_61 flX4_116 rfl (by assumption) (show _ = nI p by simp [up2]; exact hX.2.1) ?_
            refine aw_aload_n dX4_readsAll_64 rfl ?_
            refine aw_getI dX4_readsAll_65 flX4_122 rfl (by assumption) (show _ = nI 0 by simp [up2]) ?_
            refine aw_dia (tgt := 75) (jn := 76) (c1 := 1) (c0 := 0) dX4_readsAll_68 (by decide) dX4_readsAll_71 rfl dX4_readsAll_72 (by decide) dX4_readsAll_75 rfl rfl (by omega) (rfl : nI (if 0 = 0 then 0 else 1) = nI 0) ?_
            first | refine aw_iaddN dX4_readsAll_76 ?_ | refine aw_iadd dX4_readsAll_76 ?_
            refine aw_putI dX4_readsAll_77 flX4_116 rfl (by intro r hr; cases hr; rfl) (by assumption) (by omega) rfl rfl ?_
            refine aw_aload_n dX4_readsAll_80 rfl ?_
            refine aw_getI dX4_readsAll_81 flX4_122 rfl (by assumption) (show _ = nI 0 by simp [up2]) ?_
            refine aw_if_eqN (tgt := 14) dX4_readsAll_84 (by decide) (by omega) (fun hc84 => ?_) (fun hc84 => absurd rfl hc84)
            exact aw_pick [0] rfl (stopd _ (false, p, r) ⟨by simp [up2, b2], by simp [up2], by simp [up2]; exact hX.2.2.1, fun i v h => by simp [up2]; exact hX.2.2.2 i v h⟩ (hF.tr ((FrX.up (Or.inr (Or.inl rfl))).tr (FrX.up (Or.inl rfl)))) (by show p ≤ 900; omega) (Or.inl rfl) he)
          | true =>
            have hw1 := hw.mp rfl
            rw [if_pos hw1] at he
            rw [show b2 true = 1 from rfl]
            refine aw_putI dX4_readsAll_56 flX4_122 rfl (by intro r hr; cases hr; rfl) (by assumption) (by omega) rfl rfl ?_
            refine aw_aload_n dX4_readsAll_59 rfl ?_
            refine aw_dup dX4_readsAll_60 rfl ?_
            refine aw_getI dX4_readsAll_61 flX4_116 rfl (by assumption) (show _ = nI p by simp [up2]; exact hX.2.1) ?_
            refine aw_aload_n dX4_readsAll_64 rfl ?_
            refine aw_getI dX4_readsAll_65 flX4_122 rfl (by assumption) (show _ = nI 1 by simp [up2]) ?_
            refine aw_dia (tgt := 75) (jn := 76) (c1 := 1) (c0 := 0) dX4_readsAll_68 (by decide) dX4_readsAll_71 rfl dX4_readsAll_72 (by decide) dX4_readsAll_75 rfl rfl (by omega) (rfl : nI (if 1 = 0 then 0 else 1) = nI 1) ?_
            first | refine aw_iaddN dX4_readsAll_76 ?_ | refine aw_iadd dX4_readsAll_76 ?_
            refine aw_putI dX4_readsAll_77 flX4_116 rfl (by intro r hr; cases hr; rfl) (by assumption) (by omega) rfl rfl ?_
            refine aw_aload_n dX4_readsAll_80 rfl ?_
            refine aw_getI dX4_readsAll_81 flX4_122 rfl (by assumption) (show _ = nI 1 by simp [up2]) ?_
            refine aw_if_eqN (tgt := 14) dX4_readsAll_84 (by decide) (by omega) (fun hc84 => absurd hc84 (by decide)) (fun hc84 => ?_)
            refine aw_aload_n dX4_readsAll_87 rfl ?_
            refine aw_vUp0 dX4_readsAll_88 cvX4_129 ⟨Nat.le_of_ble_eq_true rfl, Nat.le_of_ble_eq_true rfl⟩ (by assumption) ⟨_, rfl, rfl⟩ (r_readsNumber (p := p + 1) (r := r) hL (hB1.fr ((FrX.up (Or.inr (Or.inl rfl))).tr (FrX.up (Or.inl rfl)))) (by simp [up2]) (by omega) (by simp [up2]; exact hX.2.2.1) hw1.2 (fun i v h => by simp [up2]; exact hX.2.2.2 i v h)) rfl rfl (Nat.le_of_ble_eq_true rfl) ⟨rfl, rfl⟩ ⟨Nat.zero_le _, Nat.zero_le _⟩ (fun I88 hP88 => ?_)
            refine aw_goto (tgt := 14) dX4_readsAll_91 (by decide) ?_
            have hF88 := hF.tr (((FrX.up (Or.inr (Or.inl rfl))).tr (FrX.up (Or.inl rfl))).tr hP88.2)
            have hnp := rdNum_p (B := B) (p := p + 1) (r := r)
            by_cases hn : (rdNum B (p + 1) r).1 = true
            · obtain ⟨n1, n2, n3⟩ := rdNum_t hn
              rw [if_pos hn] at he
              have hX88 := hP88.1
              rw [show rdNum B (p + 1) r = (true, (rdNum B (p + 1) r).2.1, (rdNum B (p + 1) r).2.2) by rw [← hn]] at hX88
              exact aw_pick [0] rfl (ih I88 _ _ hX88 hF88 (by omega) (by omega) (by omega) he)
            · rw [if_neg hn] at he
              exact aw_pick [0] rfl (stopd I88 _ hP88.1 hF88 (by omega) (Or.inl (by simpa using hn)) he)
        have hX1 : I1 140 8 = nI 1 := hX.1
        have hX2 : I1 140 7 = nI p := hX.2.1
        have hX3 : I1 140 10 = nI r.length := hX.2.2.1
        refine aw_aload_n dX4_readsAll_14 rfl ?_
        refine aw_getI dX4_readsAll_15 flX4_122 rfl (by assumption) hX1 ?_
        refine aw_if_eqN (tgt := 94) dX4_readsAll_18 (by decide) (by omega) (fun hc18 => absurd hc18 (by decide)) (fun hc18 => ?_)
        refine aw_aload_n dX4_readsAll_21 rfl ?_
        refine aw_getI dX4_readsAll_22 flX4_116 rfl (by assumption) hX2 ?_
        refine aw_aload_n dX4_readsAll_25 rfl ?_
        refine aw_getI dX4_readsAll_26 flX4_113 rfl (by assumption) hB1.1 ?_
        refine aw_icmp_geN (tgt := 94) dX4_readsAll_29 (by decide) (by omega) (by omega) (fun hc29 => absurd hc29 (by omega)) (fun hc29 => ?_)
        refine aw_aload_n dX4_readsAll_32 rfl ?_
        refine aw_aload_n dX4_readsAll_33 rfl ?_
        refine aw_vRd dX4_readsAll_34 cvX4_119 ⟨Nat.le_of_ble_eq_true rfl, Nat.le_of_ble_eq_true rfl⟩ (by assumption) ⟨_, rfl, rfl⟩ (r_sign hL hB1 hX2 (by omega)) rfl rfl (Nat.le_of_ble_eq_true rfl) ⟨rfl, rfl⟩ ⟨Nat.zero_le _, Nat.zero_le _⟩ ?_
        refine aw_bipush (v := nI 44) dX4_readsAll_37 rfl ?_
        refine aw_icmp_neN (tgt := 55) dX4_readsAll_39 (by decide) (by omega) (by omega) (fun hc39 => ?_) (fun hc39 => ?_)
        · refine aw_iconst (v := nI 0) dX4_readsAll_55 rfl ?_
          first
          | exact aw_pick [0] rfl (key true (by simp; exact ⟨hc39, hc48⟩))
          | exact aw_pick [0] rfl (key false (by simp; intro q; first | exact hc48 | exact absurd q hc39))
        · refine aw_aload_n dX4_readsAll_42 rfl ?_
          refine aw_getI dX4_readsAll_43 flX4_126 rfl (by assumption) hX3 ?_
          refine aw_bipush (v := nI 20) dX4_readsAll_46 rfl ?_
          refine aw_icmp_geN (tgt := 55) dX4_readsAll_48 (by decide) (by omega) (by omega) (fun hc48 => ?_) (fun hc48 => ?_)
          · refine aw_iconst (v := nI 0) dX4_readsAll_55 rfl ?_
            first
            | exact aw_pick [0] rfl (key true (by simp; exact ⟨hc39, hc48⟩))
            | exact aw_pick [0] rfl (key false (by simp; intro q; first | exact hc48 | exact absurd q hc39))
          · refine aw_iconst (v := nI 1) dX4_readsAll_51 rfl ?_
            refine aw_goto (tgt := 56) dX4_readsAll_52 (by decide) ?_
            first
            | exact aw_pick [0] rfl (key true (by simp; exact ⟨hc39, hc48⟩))
            | exact aw_pick [0] rfl (key false (by simp; intro q; first | exact hc48 | exact absurd q hc39))
      · exact stopd I1 (true, p, r) hX hF (by show p ≤ 900; omega) (Or.inr (by simpa using hpl)) (by rw [he, rdLoop, if_neg (by omega)])
  refine run_of (ls := [(0, .ref (G.1 140))]) (by decide +kernel) rfl rfl (Nat.le_of_ble_eq_true rfl) ?_
  refine aw_aload_n dX4_readsAll_0 rfl ?_
  refine aw_iconst (v := nI 0) dX4_readsAll_1 rfl ?_
  refine aw_putI dX4_readsAll_2 flX4_116 rfl (by intro r hr; cases hr; rfl) (by assumption) (by omega) rfl rfl ?_
  refine aw_aload_n dX4_readsAll_5 rfl ?_
  refine aw_iconst (v := nI 0) dX4_readsAll_6 rfl ?_
  refine aw_putI dX4_readsAll_7 flX4_126 rfl (by intro r hr; cases hr; rfl) (by assumption) (by omega) rfl rfl ?_
  refine aw_aload_n dX4_readsAll_10 rfl ?_
  refine aw_vUp0 dX4_readsAll_11 cvX4_129 ⟨Nat.le_of_ble_eq_true rfl, Nat.le_of_ble_eq_true rfl⟩ (by assumption) ⟨_, rfl, rfl⟩ (r_readsNumber (p := 0) (r := []) hL (hB.fr ((FrX.up (Or.inl rfl)).tr (FrX.up (Or.inr (Or.inr rfl))))) (by simp [up2]) (by decide) (by simp [up2]) (by decide) (fun i v h => by simp at h)) rfl rfl (Nat.le_of_ble_eq_true rfl) ⟨rfl, rfl⟩ ⟨Nat.zero_le _, Nat.zero_le _⟩ (fun I11 hP11 => ?_)
  have hF11 := ((FrX.up (Or.inl rfl)).tr (FrX.up (Or.inr (Or.inr rfl)))).tr hP11.2
  have hnp := rdNum_p (B := B) (p := 0) (r := [])
  by_cases hn : (rdNum B 0 []).1 = true
  · obtain ⟨n1, n2, n3⟩ := rdNum_t hn
    have hX11 := hP11.1
    rw [show rdNum B 0 [] = (true, (rdNum B 0 []).2.1, (rdNum B 0 []).2.2) by rw [← hn]] at hX11
    exact aw_pick [0] rfl (loop B.length I11 _ _ hX11 hF11 (by omega) (by omega) (by simp only [List.length_nil] at n3; omega) (by rw [rdAll, if_pos hn]))
  · exact aw_pick [0] rfl (stopd I11 _ hP11.1 hF11 (by omega) (Or.inl (by simpa using hn)) (by rw [rdAll, if_neg hn]))
end MODEL11
end
