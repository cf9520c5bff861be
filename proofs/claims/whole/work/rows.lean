section
-- ===== PART A: goes FIRST, ahead of the names: the tables' words, and 'selects' of the private methods out of them =====
/-- a private method of a class that the tables say can be made, by its rows of tables_1 -/
def lw_okq (q : MethodName × Nat) : Prop := (q.1.cls ≠ "java/lang/invoke/MethodHandle" ∧ q.1.cls ≠ "java/lang/invoke/VarHandle") ∧ Cond.instantiable q.1.cls q.2 ∈ tables_1 ∧ Cond.privateMethod q.1 ∈ tables_1 ∧ Cond.instanceMethod q.1 ∈ tables_1
theorem lw_p0 : lw_okq (⟨"BeatPathOffice", "needCandidate", "(I)V"⟩, 9) := ⟨⟨by decide +kernel, by decide +kernel⟩, List.mem_of_getElem? (i := 18) (by decide +kernel), List.mem_of_getElem? (i := 167) (by decide +kernel), List.mem_of_getElem? (i := 168) (by decide +kernel)⟩
theorem lw_p1 : lw_okq (⟨"BeatPathOffice", "isCandidate", "(I)Z"⟩, 9) := ⟨⟨by decide +kernel, by decide +kernel⟩, List.mem_of_getElem? (i := 18) (by decide +kernel), List.mem_of_getElem? (i := 171) (by decide +kernel), List.mem_of_getElem? (i := 172) (by decide +kernel)⟩
theorem lw_p2 : lw_okq (⟨"java/lang/Throwable", "fillInStackTrace", "(I)Ljava/lang/Throwable;"⟩, 6) := ⟨⟨by decide +kernel, by decide +kernel⟩, List.mem_of_getElem? (i := 213) (by decide +kernel), List.mem_of_getElem? (i := 211) (by decide +kernel), List.mem_of_getElem? (i := 212) (by decide +kernel)⟩
theorem lw_p3 : lw_okq (⟨"BeatPathOffice", "needUnsealed", "()V"⟩, 9) := ⟨⟨by decide +kernel, by decide +kernel⟩, List.mem_of_getElem? (i := 18) (by decide +kernel), List.mem_of_getElem? (i := 244) (by decide +kernel), List.mem_of_getElem? (i := 245) (by decide +kernel)⟩
theorem lw_p4 : lw_okq (⟨"BeatPathOffice", "moveInDrawnOrder", "(II)V"⟩, 9) := ⟨⟨by decide +kernel, by decide +kernel⟩, List.mem_of_getElem? (i := 18) (by decide +kernel), List.mem_of_getElem? (i := 265) (by decide +kernel), List.mem_of_getElem? (i := 266) (by decide +kernel)⟩
theorem lw_p5 : lw_okq (⟨"BeatPathOffice", "needBatch", "(I)V"⟩, 9) := ⟨⟨by decide +kernel, by decide +kernel⟩, List.mem_of_getElem? (i := 18) (by decide +kernel), List.mem_of_getElem? (i := 307) (by decide +kernel), List.mem_of_getElem? (i := 308) (by decide +kernel)⟩
theorem lw_p6 : lw_okq (⟨"BeatPathOffice", "needRanking", "(I)V"⟩, 9) := ⟨⟨by decide +kernel, by decide +kernel⟩, List.mem_of_getElem? (i := 18) (by decide +kernel), List.mem_of_getElem? (i := 312) (by decide +kernel), List.mem_of_getElem? (i := 313) (by decide +kernel)⟩
theorem lw_p7 : lw_okq (⟨"BeatPathOffice", "isRanking", "(I)Z"⟩, 9) := ⟨⟨by decide +kernel, by decide +kernel⟩, List.mem_of_getElem? (i := 18) (by decide +kernel), List.mem_of_getElem? (i := 316) (by decide +kernel), List.mem_of_getElem? (i := 317) (by decide +kernel)⟩
theorem lw_p8 : lw_okq (⟨"BeatPathOffice", "needPair", "(II)V"⟩, 9) := ⟨⟨by decide +kernel, by decide +kernel⟩, List.mem_of_getElem? (i := 18) (by decide +kernel), List.mem_of_getElem? (i := 382) (by decide +kernel), List.mem_of_getElem? (i := 383) (by decide +kernel)⟩
theorem lw_p9 : lw_okq (⟨"BeatPathOffice$BeatPaths", "widen", "(II)V"⟩, 3) := ⟨⟨by decide +kernel, by decide +kernel⟩, List.mem_of_getElem? (i := 75) (by decide +kernel), List.mem_of_getElem? (i := 402) (by decide +kernel), List.mem_of_getElem? (i := 403) (by decide +kernel)⟩
theorem lw_p10 : lw_okq (⟨"BeatPathOffice$BeatPaths", "countSteps", "(LBeatPathOffice$Count;II)V"⟩, 3) := ⟨⟨by decide +kernel, by decide +kernel⟩, List.mem_of_getElem? (i := 75) (by decide +kernel), List.mem_of_getElem? (i := 423) (by decide +kernel), List.mem_of_getElem? (i := 424) (by decide +kernel)⟩
theorem lw_p11 : lw_okq (⟨"BeatPathOffice$BeatPaths", "nextAt", "(LBeatPathOffice$Count;III)I"⟩, 3) := ⟨⟨by decide +kernel, by decide +kernel⟩, List.mem_of_getElem? (i := 75) (by decide +kernel), List.mem_of_getElem? (i := 430) (by decide +kernel), List.mem_of_getElem? (i := 431) (by decide +kernel)⟩
theorem lw_p12 : lw_okq (⟨"BeatPathOffice$BeatPaths", "nextTowards", "(LBeatPathOffice$Count;II)I"⟩, 3) := ⟨⟨by decide +kernel, by decide +kernel⟩, List.mem_of_getElem? (i := 75) (by decide +kernel), List.mem_of_getElem? (i := 434) (by decide +kernel), List.mem_of_getElem? (i := 435) (by decide +kernel)⟩
theorem lw_p13 : lw_okq (⟨"BeatPathOffice", "winnerSet", "(LBeatPathOffice$Count;)I"⟩, 9) := ⟨⟨by decide +kernel, by decide +kernel⟩, List.mem_of_getElem? (i := 18) (by decide +kernel), List.mem_of_getElem? (i := 476) (by decide +kernel), List.mem_of_getElem? (i := 477) (by decide +kernel)⟩
theorem lw_p14 : lw_okq (⟨"BeatPathOffice$BeatPaths", "isUnbeaten", "(I)Z"⟩, 3) := ⟨⟨by decide +kernel, by decide +kernel⟩, List.mem_of_getElem? (i := 75) (by decide +kernel), List.mem_of_getElem? (i := 484) (by decide +kernel), List.mem_of_getElem? (i := 485) (by decide +kernel)⟩
theorem lw_p15 : lw_okq (⟨"BeatPathOffice$Locks", "sortPairs", "(LBeatPathOffice$Count;[I)V"⟩, 6) := ⟨⟨by decide +kernel, by decide +kernel⟩, List.mem_of_getElem? (i := 93) (by decide +kernel), List.mem_of_getElem? (i := 507) (by decide +kernel), List.mem_of_getElem? (i := 508) (by decide +kernel)⟩
def lw_privs_1 : List (MethodName × Nat) := [(⟨"BeatPathOffice", "needCandidate", "(I)V"⟩, 9), (⟨"BeatPathOffice", "isCandidate", "(I)Z"⟩, 9), (⟨"java/lang/Throwable", "fillInStackTrace", "(I)Ljava/lang/Throwable;"⟩, 6), (⟨"BeatPathOffice", "needUnsealed", "()V"⟩, 9), (⟨"BeatPathOffice", "moveInDrawnOrder", "(II)V"⟩, 9), (⟨"BeatPathOffice", "needBatch", "(I)V"⟩, 9), (⟨"BeatPathOffice", "needRanking", "(I)V"⟩, 9), (⟨"BeatPathOffice", "isRanking", "(I)Z"⟩, 9), (⟨"BeatPathOffice", "needPair", "(II)V"⟩, 9), (⟨"BeatPathOffice$BeatPaths", "widen", "(II)V"⟩, 3), (⟨"BeatPathOffice$BeatPaths", "countSteps", "(LBeatPathOffice$Count;II)V"⟩, 3), (⟨"BeatPathOffice$BeatPaths", "nextAt", "(LBeatPathOffice$Count;III)I"⟩, 3), (⟨"BeatPathOffice$BeatPaths", "nextTowards", "(LBeatPathOffice$Count;II)I"⟩, 3), (⟨"BeatPathOffice", "winnerSet", "(LBeatPathOffice$Count;)I"⟩, 9), (⟨"BeatPathOffice$BeatPaths", "isUnbeaten", "(I)Z"⟩, 3), (⟨"BeatPathOffice$Locks", "sortPairs", "(LBeatPathOffice$Count;[I)V"⟩, 6)]
theorem lw_r1 : ∀ q ∈ lw_privs_1, lw_okq q := List.forall_mem_cons.mpr ⟨lw_p0, List.forall_mem_cons.mpr ⟨lw_p1, List.forall_mem_cons.mpr ⟨lw_p2, List.forall_mem_cons.mpr ⟨lw_p3, List.forall_mem_cons.mpr ⟨lw_p4, List.forall_mem_cons.mpr ⟨lw_p5, List.forall_mem_cons.mpr ⟨lw_p6, List.forall_mem_cons.mpr ⟨lw_p7, List.forall_mem_cons.mpr ⟨lw_p8, List.forall_mem_cons.mpr ⟨lw_p9, List.forall_mem_cons.mpr ⟨lw_p10, List.forall_mem_cons.mpr ⟨lw_p11, List.forall_mem_cons.mpr ⟨lw_p12, List.forall_mem_cons.mpr ⟨lw_p13, List.forall_mem_cons.mpr ⟨lw_p14, List.forall_mem_cons.mpr ⟨lw_p15, fun _ h => absurd h List.not_mem_nil⟩⟩⟩⟩⟩⟩⟩⟩⟩⟩⟩⟩⟩⟩⟩⟩
theorem lw_p16 : lw_okq (⟨"BeatPathOffice$Locks", "insert", "(LBeatPathOffice$Count;II)V"⟩, 6) := ⟨⟨by decide +kernel, by decide +kernel⟩, List.mem_of_getElem? (i := 93) (by decide +kernel), List.mem_of_getElem? (i := 512) (by decide +kernel), List.mem_of_getElem? (i := 513) (by decide +kernel)⟩
theorem lw_p17 : lw_okq (⟨"BeatPathOffice$Locks", "overtakes", "(LBeatPathOffice$Count;III)Z"⟩, 6) := ⟨⟨by decide +kernel, by decide +kernel⟩, List.mem_of_getElem? (i := 93) (by decide +kernel), List.mem_of_getElem? (i := 516) (by decide +kernel), List.mem_of_getElem? (i := 517) (by decide +kernel)⟩
theorem lw_p18 : lw_okq (⟨"BeatPathOffice$Locks", "lock", "(II)V"⟩, 6) := ⟨⟨by decide +kernel, by decide +kernel⟩, List.mem_of_getElem? (i := 93) (by decide +kernel), List.mem_of_getElem? (i := 521) (by decide +kernel), List.mem_of_getElem? (i := 522) (by decide +kernel)⟩
theorem lw_p19 : lw_okq (⟨"BeatPathOffice", "inOrder", "(LBeatPathOffice$Count;I)I"⟩, 9) := ⟨⟨by decide +kernel, by decide +kernel⟩, List.mem_of_getElem? (i := 18) (by decide +kernel), List.mem_of_getElem? (i := 532) (by decide +kernel), List.mem_of_getElem? (i := 533) (by decide +kernel)⟩
theorem lw_p20 : lw_okq (⟨"BeatPathOffice$Locks", "firstFree", "([II)I"⟩, 6) := ⟨⟨by decide +kernel, by decide +kernel⟩, List.mem_of_getElem? (i := 93) (by decide +kernel), List.mem_of_getElem? (i := 540) (by decide +kernel), List.mem_of_getElem? (i := 541) (by decide +kernel)⟩
theorem lw_p21 : lw_okq (⟨"BeatPathOffice$Count", "beatingSetAround", "(I)I"⟩, 3) := ⟨⟨by decide +kernel, by decide +kernel⟩, List.mem_of_getElem? (i := 54) (by decide +kernel), List.mem_of_getElem? (i := 555) (by decide +kernel), List.mem_of_getElem? (i := 556) (by decide +kernel)⟩
theorem lw_p22 : lw_okq (⟨"BeatPathOffice$Count", "notBeatenBy", "(I)I"⟩, 3) := ⟨⟨by decide +kernel, by decide +kernel⟩, List.mem_of_getElem? (i := 54) (by decide +kernel), List.mem_of_getElem? (i := 559) (by decide +kernel), List.mem_of_getElem? (i := 560) (by decide +kernel)⟩
theorem lw_p23 : lw_okq (⟨"BeatPathOfficeModel", "isCandidate", "(I)Z"⟩, 17) := ⟨⟨by decide +kernel, by decide +kernel⟩, List.mem_of_getElem? (i := 584) (by decide +kernel), List.mem_of_getElem? (i := 651) (by decide +kernel), List.mem_of_getElem? (i := 652) (by decide +kernel)⟩
theorem lw_p24 : lw_okq (⟨"BeatPathOfficeModel", "placeOf", "(I)I"⟩, 17) := ⟨⟨by decide +kernel, by decide +kernel⟩, List.mem_of_getElem? (i := 584) (by decide +kernel), List.mem_of_getElem? (i := 655) (by decide +kernel), List.mem_of_getElem? (i := 656) (by decide +kernel)⟩
theorem lw_p25 : lw_okq (⟨"BeatPathOfficeModel", "isBatch", "(I)Z"⟩, 17) := ⟨⟨by decide +kernel, by decide +kernel⟩, List.mem_of_getElem? (i := 584) (by decide +kernel), List.mem_of_getElem? (i := 671) (by decide +kernel), List.mem_of_getElem? (i := 672) (by decide +kernel)⟩
theorem lw_p26 : lw_okq (⟨"BeatPathOfficeModel", "isRanking", "(I)Z"⟩, 17) := ⟨⟨by decide +kernel, by decide +kernel⟩, List.mem_of_getElem? (i := 584) (by decide +kernel), List.mem_of_getElem? (i := 675) (by decide +kernel), List.mem_of_getElem? (i := 676) (by decide +kernel)⟩
theorem lw_p27 : lw_okq (⟨"BeatPathOfficeModel", "lacks", "(II)Z"⟩, 17) := ⟨⟨by decide +kernel, by decide +kernel⟩, List.mem_of_getElem? (i := 584) (by decide +kernel), List.mem_of_getElem? (i := 702) (by decide +kernel), List.mem_of_getElem? (i := 703) (by decide +kernel)⟩
theorem lw_p28 : lw_okq (⟨"BeatPathOfficeModel", "count", "(I)V"⟩, 17) := ⟨⟨by decide +kernel, by decide +kernel⟩, List.mem_of_getElem? (i := 584) (by decide +kernel), List.mem_of_getElem? (i := 706) (by decide +kernel), List.mem_of_getElem? (i := 707) (by decide +kernel)⟩
theorem lw_p29 : lw_okq (⟨"BeatPathOfficeModel", "add", "(II)V"⟩, 17) := ⟨⟨by decide +kernel, by decide +kernel⟩, List.mem_of_getElem? (i := 584) (by decide +kernel), List.mem_of_getElem? (i := 710) (by decide +kernel), List.mem_of_getElem? (i := 711) (by decide +kernel)⟩
theorem lw_p30 : lw_okq (⟨"BeatPathOfficeModel", "strengthen", "()V"⟩, 17) := ⟨⟨by decide +kernel, by decide +kernel⟩, List.mem_of_getElem? (i := 584) (by decide +kernel), List.mem_of_getElem? (i := 714) (by decide +kernel), List.mem_of_getElem? (i := 715) (by decide +kernel)⟩
theorem lw_p31 : lw_okq (⟨"BeatPathOfficeModel", "isWay", "(IIII)Z"⟩, 17) := ⟨⟨by decide +kernel, by decide +kernel⟩, List.mem_of_getElem? (i := 584) (by decide +kernel), List.mem_of_getElem? (i := 737) (by decide +kernel), List.mem_of_getElem? (i := 738) (by decide +kernel)⟩
def lw_privs_2 : List (MethodName × Nat) := [(⟨"BeatPathOffice$Locks", "insert", "(LBeatPathOffice$Count;II)V"⟩, 6), (⟨"BeatPathOffice$Locks", "overtakes", "(LBeatPathOffice$Count;III)Z"⟩, 6), (⟨"BeatPathOffice$Locks", "lock", "(II)V"⟩, 6), (⟨"BeatPathOffice", "inOrder", "(LBeatPathOffice$Count;I)I"⟩, 9), (⟨"BeatPathOffice$Locks", "firstFree", "([II)I"⟩, 6), (⟨"BeatPathOffice$Count", "beatingSetAround", "(I)I"⟩, 3), (⟨"BeatPathOffice$Count", "notBeatenBy", "(I)I"⟩, 3), (⟨"BeatPathOfficeModel", "isCandidate", "(I)Z"⟩, 17), (⟨"BeatPathOfficeModel", "placeOf", "(I)I"⟩, 17), (⟨"BeatPathOfficeModel", "isBatch", "(I)Z"⟩, 17), (⟨"BeatPathOfficeModel", "isRanking", "(I)Z"⟩, 17), (⟨"BeatPathOfficeModel", "lacks", "(II)Z"⟩, 17), (⟨"BeatPathOfficeModel", "count", "(I)V"⟩, 17), (⟨"BeatPathOfficeModel", "add", "(II)V"⟩, 17), (⟨"BeatPathOfficeModel", "strengthen", "()V"⟩, 17), (⟨"BeatPathOfficeModel", "isWay", "(IIII)Z"⟩, 17)]
theorem lw_r2 : ∀ q ∈ lw_privs_2, lw_okq q := List.forall_mem_cons.mpr ⟨lw_p16, List.forall_mem_cons.mpr ⟨lw_p17, List.forall_mem_cons.mpr ⟨lw_p18, List.forall_mem_cons.mpr ⟨lw_p19, List.forall_mem_cons.mpr ⟨lw_p20, List.forall_mem_cons.mpr ⟨lw_p21, List.forall_mem_cons.mpr ⟨lw_p22, List.forall_mem_cons.mpr ⟨lw_p23, List.forall_mem_cons.mpr ⟨lw_p24, List.forall_mem_cons.mpr ⟨lw_p25, List.forall_mem_cons.mpr ⟨lw_p26, List.forall_mem_cons.mpr ⟨lw_p27, List.forall_mem_cons.mpr ⟨lw_p28, List.forall_mem_cons.mpr ⟨lw_p29, List.forall_mem_cons.mpr ⟨lw_p30, List.forall_mem_cons.mpr ⟨lw_p31, fun _ h => absurd h List.not_mem_nil⟩⟩⟩⟩⟩⟩⟩⟩⟩⟩⟩⟩⟩⟩⟩⟩
theorem lw_p32 : lw_okq (⟨"BeatPathOfficeModel", "tell", "(IIII)I"⟩, 17) := ⟨⟨by decide +kernel, by decide +kernel⟩, List.mem_of_getElem? (i := 584) (by decide +kernel), List.mem_of_getElem? (i := 745) (by decide +kernel), List.mem_of_getElem? (i := 746) (by decide +kernel)⟩
theorem lw_p33 : lw_okq (⟨"BeatPathOfficeModel", "winners", "()V"⟩, 17) := ⟨⟨by decide +kernel, by decide +kernel⟩, List.mem_of_getElem? (i := 584) (by decide +kernel), List.mem_of_getElem? (i := 749) (by decide +kernel), List.mem_of_getElem? (i := 750) (by decide +kernel)⟩
theorem lw_p34 : lw_okq (⟨"BeatPathOfficeModel", "orderAll", "()V"⟩, 17) := ⟨⟨by decide +kernel, by decide +kernel⟩, List.mem_of_getElem? (i := 584) (by decide +kernel), List.mem_of_getElem? (i := 753) (by decide +kernel), List.mem_of_getElem? (i := 754) (by decide +kernel)⟩
theorem lw_p35 : lw_okq (⟨"BeatPathOfficeModel", "lockAll", "()V"⟩, 17) := ⟨⟨by decide +kernel, by decide +kernel⟩, List.mem_of_getElem? (i := 584) (by decide +kernel), List.mem_of_getElem? (i := 757) (by decide +kernel), List.mem_of_getElem? (i := 758) (by decide +kernel)⟩
theorem lw_p36 : lw_okq (⟨"BeatPathOfficeModel", "isBefore", "(II)Z"⟩, 17) := ⟨⟨by decide +kernel, by decide +kernel⟩, List.mem_of_getElem? (i := 584) (by decide +kernel), List.mem_of_getElem? (i := 761) (by decide +kernel), List.mem_of_getElem? (i := 762) (by decide +kernel)⟩
theorem lw_p37 : lw_okq (⟨"BeatPathOfficeModel", "lock", "(I)V"⟩, 17) := ⟨⟨by decide +kernel, by decide +kernel⟩, List.mem_of_getElem? (i := 584) (by decide +kernel), List.mem_of_getElem? (i := 765) (by decide +kernel), List.mem_of_getElem? (i := 766) (by decide +kernel)⟩
theorem lw_p38 : lw_okq (⟨"BeatPathOfficeModel", "topAll", "()V"⟩, 17) := ⟨⟨by decide +kernel, by decide +kernel⟩, List.mem_of_getElem? (i := 584) (by decide +kernel), List.mem_of_getElem? (i := 769) (by decide +kernel), List.mem_of_getElem? (i := 770) (by decide +kernel)⟩
def lw_privs_3 : List (MethodName × Nat) := [(⟨"BeatPathOfficeModel", "tell", "(IIII)I"⟩, 17), (⟨"BeatPathOfficeModel", "winners", "()V"⟩, 17), (⟨"BeatPathOfficeModel", "orderAll", "()V"⟩, 17), (⟨"BeatPathOfficeModel", "lockAll", "()V"⟩, 17), (⟨"BeatPathOfficeModel", "isBefore", "(II)Z"⟩, 17), (⟨"BeatPathOfficeModel", "lock", "(I)V"⟩, 17), (⟨"BeatPathOfficeModel", "topAll", "()V"⟩, 17)]
theorem lw_r3 : ∀ q ∈ lw_privs_3, lw_okq q := List.forall_mem_cons.mpr ⟨lw_p32, List.forall_mem_cons.mpr ⟨lw_p33, List.forall_mem_cons.mpr ⟨lw_p34, List.forall_mem_cons.mpr ⟨lw_p35, List.forall_mem_cons.mpr ⟨lw_p36, List.forall_mem_cons.mpr ⟨lw_p37, List.forall_mem_cons.mpr ⟨lw_p38, fun _ h => absurd h List.not_mem_nil⟩⟩⟩⟩⟩⟩⟩
def lw_privs : List (MethodName × Nat) := lw_privs_1 ++ (lw_privs_2 ++ (lw_privs_3))
def lw_tbl : List Cond := k2_sels lw_privs ++ tables_1
theorem lw_privs_ok : ∀ q ∈ lw_privs, lw_okq q := by
  show ∀ q ∈ lw_privs_1 ++ (lw_privs_2 ++ (lw_privs_3)), lw_okq q
  exact List.forall_mem_append.mpr ⟨lw_r1, List.forall_mem_append.mpr ⟨lw_r2, lw_r3⟩⟩
end
section
/-! A judgement of its own over the machine: what a method's body does from a place on, said by a picture of the cells (bj_M: a number of a cell to what it holds; ad: where the cell lies), by its locals and its operand stack; all that never changes (tables, frames below, room) is quantified away once and for all. -/
section BJ
abbrev bj_M : Type := Nat → Option va_E
/-- how a method ends: it returns a value, or it throws an exception of a class -/
abbrev bj_R : Type := Option Value ⊕ String
/-- launch; numbers of classes and slots; classes; array classes; the tables' words -/
abbrev bj_G : Type := Launch × va_G × List vw_C × List (ClassId × FieldType) × List Cond
/-- a method: its class, its name, its code, its locals, what it returns, its handlers -/
abbrev bj_Y : Type := String × MethodName × ByteArray × Nat × Option FieldType × List (Nat × Nat × Nat × Nat)
abbrev bj_K : Type := Nat × Nat × Nat × Nat
def bj_room (n : Nat) (K : bj_K) : Room := { frames := n, cells := K.1 + K.2.2.1, slots := K.2.1 + K.2.2.2, locals := 36 * n }
/-! locals -/
def bj_L (ls : Array Slot) (n : Nat) (L : List (Option Value)) : Prop := lv_has ls n [] ∧ L.length = n ∧ ∀ (i : Nat) (v : Value), L[i]? = some (some v) → ls[i]? = some (.val v) ∧ v.category = 1
def bj_pairs (L : List (Option Value)) : List (Nat × Value) := (List.range L.length).filterMap fun i => (L[i]?.getD none).map fun v => (i, v)
theorem bj_mem {L : List (Option Value)} {i : Nat} {v : Value} : (i, v) ∈ bj_pairs L ↔ L[i]? = some (some v) := by
  unfold bj_pairs
  rw [List.mem_filterMap]
  constructor
  · rintro ⟨j, -, hj⟩
    cases h : L[j]? with
    | none => rw [h] at hj; cases hj
    | some o =>
      rw [h] at hj
      cases o with
      | none => cases hj
      | some w =>
        have e : (j, w) = (i, v) := Option.some.inj hj
        cases e
        exact h
  · intro h
    refine ⟨i, List.mem_range.mpr (List.getElem?_eq_some_iff.mp h).1, ?_⟩
    rw [h]
    rfl
theorem bj_L.has {ls : Array Slot} {n : Nat} {L : List (Option Value)} (h : bj_L ls n L) : lv_has ls n (bj_pairs L) := ⟨h.1.1, h.1.2.1, fun q hq => (h.2.2 q.1 q.2 (bj_mem.mp hq)).1⟩
theorem bj_L.val {ls : Array Slot} {n : Nat} {L : List (Option Value)} (h : bj_L ls n L) {i : Nat} {v : Value} (hi : L[i]? = some (some v)) : ls[i]? = some (.val v) := (h.2.2 i v hi).1
theorem bj_L.store {ls ls' : Array Slot} {n i : Nat} {L L' : List (Option Value)} {v : Value} (h0 : bj_L ls n L) (hv : v.category = 1) (hi : i < n) (hL : L.set i (some v) = L')
    (h : lv_has ls' n ((i, v) :: (bj_pairs L).filter (fun q => !(q.1 == i) && !(q.1 + 1 == i && q.2.category == 2)))) : bj_L ls' n L' := by
  subst hL
  refine ⟨⟨h.1, h.2.1, fun _ hq => by cases hq⟩, by rw [List.length_set]; exact h0.2.1, fun j w hj => ?_⟩
  by_cases e : j = i
  · subst e
    rw [List.getElem?_set_self (by rw [h0.2.1]; exact hi)] at hj
    cases hj
    exact ⟨h.2.2 _ List.mem_cons_self, hv⟩
  · rw [List.getElem?_set_ne (Ne.symm e)] at hj
    have hw := (h0.2.2 j w hj).2
    refine ⟨h.2.2 (j, w) (List.mem_cons_of_mem _ (List.mem_filter.mpr ⟨bj_mem.mpr hj, ?_⟩)), hw⟩
    simp [e, hw]
/-! the cells -/
def bj_W (G : bj_G) (ad : Nat → Nat) (M : bj_M) (A : Nat → Prop) (H : Heap) : Prop :=
  (∀ (k : Nat) (x : va_E), M k = some x → va_at G.2.1 G.2.2.1 (ad k, x) H) ∧ (∀ i j : Nat, M i ≠ none → M j ≠ none → ad i = ad j → i = j) ∧ ∀ k : Nat, M k ≠ none → A (ad k)
theorem bj_ne {M : bj_M} {k : Nat} {x : va_E} (h : M k = some x) : M k ≠ none := by rw [h]; exact fun e => by cases e
theorem bj_up_dom {M : bj_M} {k j : Nat} {x x' : va_E} (hk : M k = some x) (h : va_up M k (some x') j ≠ none) : M j ≠ none := by
  by_cases e : j = k
  · subst e
    exact bj_ne hk
  · rwa [va_up_ne _ _ e] at h
theorem bj_W.set {G : bj_G} {ad : Nat → Nat} {M : bj_M} {A : Nat → Prop} {H H' : Heap} {k : Nat} {x x' : va_E} (h : bj_W G ad M A H) (hk : M k = some x) (he : va_at G.2.1 G.2.2.1 (ad k, x') H') (oq : ∀ q : Nat, q ≠ ad k → H'[q]? = H[q]?) : bj_W G ad (va_up M k (some x')) A H' := by
  refine ⟨fun j y hj => ?_, fun i j hi hj => h.2.1 i j (bj_up_dom hk hi) (bj_up_dom hk hj), fun j hj => h.2.2 j (bj_up_dom hk hj)⟩
  by_cases e : j = k
  · subst e
    rw [va_up_self] at hj
    cases hj
    exact he
  · rw [va_up_ne _ _ e] at hj
    exact (h.1 j y hj).kept (oq (ad j) (fun z => e (h.2.1 j k (bj_ne hj) (bj_ne hk) z)))
theorem bj_W.kept {G : bj_G} {ad : Nat → Nat} {M : bj_M} {A : Nat → Prop} {H H' : Heap} (h : bj_W G ad M A H) (oq : ∀ q : Nat, q < H.size → H'[q]? = H[q]?) : bj_W G ad M A H' :=
  ⟨fun k x hk => (h.1 k x hk).kept (oq _ (h.1 k x hk).lt), h.2.1, h.2.2⟩
/-! what stands as long as nothing outside A is written: the tables' words -/
def bj_F (G : bj_G) (A : Nat → Prop) (s : State) (H : Heap) : Prop :=
  ∀ (V : State) (a : Array Value), s.WarmedH V.vm → H.size ≤ V.heap.size → (∀ q : Nat, q < H.size → ¬ A q → V.heap[q]? = H[q]?) → (∀ w ∈ G.2.2.2.2, w.before a V = true) ∧ va_K G.2.1 G.2.2.1 G.2.2.2.1 V
theorem bj_F.go {G : bj_G} {A : Nat → Prop} {s U : State} {H H' : Heap} (h : bj_F G A s H) (hW : s.WarmedH U.vm) (hz : H.size ≤ H'.size) (hk : ∀ q : Nat, q < H.size → ¬ A q → H'[q]? = H[q]?) : bj_F G A U H' :=
  fun V a hV z k => h V a (State.WarmedH.trans hW hV) (Nat.le_trans hz z) (fun q hq hA => (k q (Nat.lt_of_lt_of_le hq hz) hA).trans (hk q hq hA))
def bj_C (G : bj_G) (Y : bj_Y) (A : Nat → Prop) (p : Program) (s : State) (m : MethodId) (args : Array Value) (meth : Method) (c : Code) : Prop :=
  p.tables.exec = Jvm.exec ∧ c.code = Y.2.2.1 ∧ c.maxLocals = Y.2.2.2.1 ∧ s.vm.findClass Y.1 = some m.cls ∧ meth.sig.returnType = Y.2.2.2.2.1 ∧ meth.locks = false ∧ meth.name = Y.2.1.name ∧ c.exceptionTable.toList = tableOf Y.2.2.2.2.2 ∧ bj_F G A s s.heap ∧ ∀ q : Nat, s.heap.size ≤ q → A q
section CX
variable {G : bj_G} {Y : bj_Y} {A : Nat → Prop} {p : Program} {s : State} {m : MethodId} {args : Array Value} {meth : Method} {c : Code}
theorem bj_C.ex (C : bj_C G Y A p s m args meth c) : p.tables.exec = Jvm.exec := C.1
theorem bj_C.by (C : bj_C G Y A p s m args meth c) : c.code = Y.2.2.1 := C.2.1
theorem bj_C.ml (C : bj_C G Y A p s m args meth c) : c.maxLocals = Y.2.2.2.1 := C.2.2.1
theorem bj_C.ow (C : bj_C G Y A p s m args meth c) : s.vm.findClass Y.1 = some m.cls := C.2.2.2.1
theorem bj_C.rt (C : bj_C G Y A p s m args meth c) : meth.sig.returnType = Y.2.2.2.2.1 := C.2.2.2.2.1
theorem bj_C.lk (C : bj_C G Y A p s m args meth c) : meth.locks = false := C.2.2.2.2.2.1
theorem bj_C.nm (C : bj_C G Y A p s m args meth c) : meth.name = Y.2.1.name := C.2.2.2.2.2.2.1
theorem bj_C.tb (C : bj_C G Y A p s m args meth c) : c.exceptionTable.toList = tableOf Y.2.2.2.2.2 := C.2.2.2.2.2.2.2.1
theorem bj_C.fc (C : bj_C G Y A p s m args meth c) : bj_F G A s s.heap := C.2.2.2.2.2.2.2.2.1
theorem bj_C.up (C : bj_C G Y A p s m args meth c) : ∀ q : Nat, s.heap.size ≤ q → A q := C.2.2.2.2.2.2.2.2.2
theorem bj_C.ts (C : bj_C G Y A p s m args meth c) : ∀ w ∈ G.2.2.2.2, w.before args s = true := (C.fc s args (State.WarmedH.refl s) (Nat.le_refl _) (fun _ _ _ => rfl)).1
theorem bj_C.k (C : bj_C G Y A p s m args meth c) : va_K G.2.1 G.2.2.1 G.2.2.2.1 s := (C.fc s args (State.WarmedH.refl s) (Nat.le_refl _) (fun _ _ _ => rfl)).2
end CX
/-- the end: returned (K.1 cells of K.2.1 slots made) or thrown (K.2.2.1 of K.2.2.2) -/
def bj_Q (G : bj_G) (ad : Nat → Nat) (Q : bj_R → bj_M → Prop) (K : bj_K) (A : Nat → Prop) (below : List Frame) (s : State) : State → Prop := fun t =>
  ∃ o, t.status = .running ∧ Ended t below o ∧
    ((∃ (v : Option Value) (M : bj_M) (L : List Loc), o = .returned v ∧ Q (.inl v) M ∧ bj_W G ad M A t.heap ∧ va_F A s t ∧ s.WarmedH t.vm ∧ s.sameButNew ({ t with vm := s.vm } : State) L K.1 K.2.1 ∧ ∀ q ∈ L, A q.base) ∨
     (∃ (x : Addr) (E : String) (ce : Cell) (M : bj_M) (L : List Loc), o = .threw x ∧ Q (.inr E) M ∧ bj_W G ad M A t.heap ∧ va_F A s t ∧ t.heap[x]? = some ce ∧ ce.vm = .none ∧ s.vm.findClass E = some ce.cls ∧ s.WarmedH t.vm ∧ s.sameButNew ({ t with vm := s.vm } : State) L K.2.2.1 K.2.2.2 ∧ ∀ q ∈ L, A q.base))
/-- THE JUDGEMENT: from pc, with locals L, stack st and cells M, the body ends as Q says -/
def bj_S (G : bj_G) (Y : bj_Y) (n : Nat) (K : bj_K) (ad : Nat → Nat) (Q : bj_R → bj_M → Prop) (cs sl pc : Nat) (L : List (Option Value)) (st : List Value) (M : bj_M) : Prop :=
  ∀ (p : Program) (e : Env) (s : State) (m : MethodId) (args : Array Value) (below : List Frame) (meth : Method) (c : Code) (A : Nat → Prop) (H : Heap) (locs : List Loc) (ls : Array Slot),
    bj_C G Y A p s m args meth c → bj_W G ad M A H → va_S A s.heap H locs → bj_L ls Y.2.2.2.1 L →
    W p G.1 e (bj_room n K) s m args below meth c H locs cs sl (bj_Q G ad Q K A below s) (F0 m pc ls st)
/-- a method's contract: its body from the start, with its arguments in the locals -/
def bj_ent (Y : bj_Y) (av : List Value) : List (Option Value) := av.map some ++ List.replicate (Y.2.2.2.1 - av.length) none
def bj_T (G : bj_G) (Y : bj_Y) (n : Nat) (K : bj_K) (ad : Nat → Nat) (Q : bj_R → bj_M → Prop) (av : List Value) (M : bj_M) : Prop := bj_S G Y n K ad Q 0 0 0 (bj_ent Y av) [] M
end BJ
end
section
/-! the judgement's rows: instructions that touch no cell (written by gen/rows.py) -/
section BR
variable {G : bj_G} {Y : bj_Y} {n : Nat} {K : bj_K} {ad : Nat → Nat} {Q : bj_R → bj_M → Prop} {cs sl pc : Nat} {L : List (Option Value)} {st : List Value} {M : bj_M}
theorem bj_iconst {v : Int32} {z : Int} (d : decode Y.2.2.1 pc = .ok (.iconst z, 1)) (hv : Int32.ofInt z = v) (kk : bj_S G Y n K ad Q cs sl (pc + 1) L (.int v :: st) M) : bj_S G Y n K ad Q cs sl pc L st M :=
  fun p e s m ar be me c A H lo ls C hW hS hl => lv_iconst C.ex C.by d hv (kk p e s m ar be me c A H lo ls C hW hS hl)
theorem bj_bipush {v : Int32} {z : Int} (d : decode Y.2.2.1 pc = .ok (.bipush z, 2)) (hv : (Int8.ofInt z).toInt32 = v) (kk : bj_S G Y n K ad Q cs sl (pc + 2) L (.int v :: st) M) : bj_S G Y n K ad Q cs sl pc L st M :=
  fun p e s m ar be me c A H lo ls C hW hS hl => lv_bipush C.ex C.by d hv (kk p e s m ar be me c A H lo ls C hW hS hl)
theorem bj_sipush {v : Int32} {z : Int} (d : decode Y.2.2.1 pc = .ok (.sipush z, 3)) (hv : (Int16.ofInt z).toInt32 = v) (kk : bj_S G Y n K ad Q cs sl (pc + 3) L (.int v :: st) M) : bj_S G Y n K ad Q cs sl pc L st M :=
  fun p e s m ar be me c A H lo ls C hW hS hl => lv_sipush C.ex C.by d hv (kk p e s m ar be me c A H lo ls C hW hS hl)
theorem bj_lconst {v : Int64} {z : Fin 2} (d : decode Y.2.2.1 pc = .ok (.lconst z, 1)) (hv : Int64.ofNat (z : Nat) = v) (kk : bj_S G Y n K ad Q cs sl (pc + 1) L (.long v :: st) M) : bj_S G Y n K ad Q cs sl pc L st M :=
  fun p e s m ar be me c A H lo ls C hW hS hl => lv_lconst C.ex C.by d hv (kk p e s m ar be me c A H lo ls C hW hS hl)
theorem bj_iload_n {i : Nat} {x : Int32} {z : Fin 4} (d : decode Y.2.2.1 pc = .ok (.iload_n z, 1)) (hi : (z : Nat) = i) (hx : L[i]? = some (some (.int x))) (kk : bj_S G Y n K ad Q cs sl (pc + 1) L (.int x :: st) M) : bj_S G Y n K ad Q cs sl pc L st M :=
  fun p e s m ar be me c A H lo ls C hW hS hl => lv_iload_n C.ex C.by d hi (hl.val hx) (kk p e s m ar be me c A H lo ls C hW hS hl)
theorem bj_iload {i : Nat} {x : Int32} (d : decode Y.2.2.1 pc = .ok (.iload i, 2)) (hx : L[i]? = some (some (.int x))) (kk : bj_S G Y n K ad Q cs sl (pc + 2) L (.int x :: st) M) : bj_S G Y n K ad Q cs sl pc L st M :=
  fun p e s m ar be me c A H lo ls C hW hS hl => lv_iload C.ex C.by d (hl.val hx) (kk p e s m ar be me c A H lo ls C hW hS hl)
theorem bj_istore_n {i : Nat} {x : Int32} {z : Fin 4} {L' : List (Option Value)} (d : decode Y.2.2.1 pc = .ok (.istore_n z, 1)) (hi : (z : Nat) = i) (hn : i < Y.2.2.2.1) (hL : L.set i (some (.int x)) = L') (kk : bj_S G Y n K ad Q cs sl (pc + 1) L' st M) : bj_S G Y n K ad Q cs sl pc L (.int x :: st) M :=
  fun p e s m ar be me c A H lo ls C hW hS hl => lv_istore_n C.ex C.by d hi hl.has hn rfl (fun ls' h' => kk p e s m ar be me c A H lo ls' C hW hS (hl.store rfl hn hL h'))
theorem bj_istore {i : Nat} {x : Int32} {L' : List (Option Value)} (d : decode Y.2.2.1 pc = .ok (.istore i, 2)) (hn : i < Y.2.2.2.1) (hL : L.set i (some (.int x)) = L') (kk : bj_S G Y n K ad Q cs sl (pc + 2) L' st M) : bj_S G Y n K ad Q cs sl pc L (.int x :: st) M :=
  fun p e s m ar be me c A H lo ls C hW hS hl => lv_istore C.ex C.by d hl.has hn rfl (fun ls' h' => kk p e s m ar be me c A H lo ls' C hW hS (hl.store rfl hn hL h'))
theorem bj_aload_n {i : Nat} {x : Nat} {z : Fin 4} (d : decode Y.2.2.1 pc = .ok (.aload_n z, 1)) (hi : (z : Nat) = i) (hx : L[i]? = some (some (.ref x))) (kk : bj_S G Y n K ad Q cs sl (pc + 1) L (.ref x :: st) M) : bj_S G Y n K ad Q cs sl pc L st M :=
  fun p e s m ar be me c A H lo ls C hW hS hl => lv_aload_n C.ex C.by d hi (hl.val hx) (kk p e s m ar be me c A H lo ls C hW hS hl)
theorem bj_aload {i : Nat} {x : Nat} (d : decode Y.2.2.1 pc = .ok (.aload i, 2)) (hx : L[i]? = some (some (.ref x))) (kk : bj_S G Y n K ad Q cs sl (pc + 2) L (.ref x :: st) M) : bj_S G Y n K ad Q cs sl pc L st M :=
  fun p e s m ar be me c A H lo ls C hW hS hl => lv_aload C.ex C.by d (hl.val hx) (kk p e s m ar be me c A H lo ls C hW hS hl)
theorem bj_astore_n {i : Nat} {x : Nat} {z : Fin 4} {L' : List (Option Value)} (d : decode Y.2.2.1 pc = .ok (.astore_n z, 1)) (hi : (z : Nat) = i) (hn : i < Y.2.2.2.1) (hL : L.set i (some (.ref x)) = L') (kk : bj_S G Y n K ad Q cs sl (pc + 1) L' st M) : bj_S G Y n K ad Q cs sl pc L (.ref x :: st) M :=
  fun p e s m ar be me c A H lo ls C hW hS hl => lv_astore_n C.ex C.by d hi hl.has hn rfl (fun ls' h' => kk p e s m ar be me c A H lo ls' C hW hS (hl.store rfl hn hL h'))
theorem bj_astore {i : Nat} {x : Nat} {L' : List (Option Value)} (d : decode Y.2.2.1 pc = .ok (.astore i, 2)) (hn : i < Y.2.2.2.1) (hL : L.set i (some (.ref x)) = L') (kk : bj_S G Y n K ad Q cs sl (pc + 2) L' st M) : bj_S G Y n K ad Q cs sl pc L (.ref x :: st) M :=
  fun p e s m ar be me c A H lo ls C hW hS hl => lv_astore C.ex C.by d hl.has hn rfl (fun ls' h' => kk p e s m ar be me c A H lo ls' C hW hS (hl.store rfl hn hL h'))
theorem bj_iinc {i : Nat} {x v : Int32} {z : Int} {L' : List (Option Value)} (d : decode Y.2.2.1 pc = .ok (.iinc i z, 3)) (hx : L[i]? = some (some (.int x))) (hv : x + Int32.ofInt z = v) (hn : i < Y.2.2.2.1) (hL : L.set i (some (.int v)) = L') (kk : bj_S G Y n K ad Q cs sl (pc + 3) L' st M) : bj_S G Y n K ad Q cs sl pc L st M :=
  fun p e s m ar be me c A H lo ls C hW hS hl => by
    obtain ⟨j, hj⟩ := List.getElem?_of_mem (bj_mem.mpr hx)
    exact lv_iinc C.ex C.by d hl.has hj hv hn rfl (fun ls' h' => kk p e s m ar be me c A H lo ls' C hW hS (hl.store rfl hn hL h'))
theorem bj_iadd {x y v : Int32} (d : decode Y.2.2.1 pc = .ok (.iadd, 1)) (hv : x + y = v) (kk : bj_S G Y n K ad Q cs sl (pc + 1) L (.int v :: st) M) : bj_S G Y n K ad Q cs sl pc L (.int y :: .int x :: st) M :=
  fun p e s m ar be me c A H lo ls C hW hS hl => by subst hv; exact lv_iadd C.ex C.by d (kk p e s m ar be me c A H lo ls C hW hS hl)
theorem bj_isub {x y v : Int32} (d : decode Y.2.2.1 pc = .ok (.isub, 1)) (hv : x - y = v) (kk : bj_S G Y n K ad Q cs sl (pc + 1) L (.int v :: st) M) : bj_S G Y n K ad Q cs sl pc L (.int y :: .int x :: st) M :=
  fun p e s m ar be me c A H lo ls C hW hS hl => by subst hv; exact lv_isub C.ex C.by d (kk p e s m ar be me c A H lo ls C hW hS hl)
theorem bj_imul {x y v : Int32} (d : decode Y.2.2.1 pc = .ok (.imul, 1)) (hv : x * y = v) (kk : bj_S G Y n K ad Q cs sl (pc + 1) L (.int v :: st) M) : bj_S G Y n K ad Q cs sl pc L (.int y :: .int x :: st) M :=
  fun p e s m ar be me c A H lo ls C hW hS hl => by subst hv; exact lv_imul C.ex C.by d (kk p e s m ar be me c A H lo ls C hW hS hl)
theorem bj_iand {x y v : Int32} (d : decode Y.2.2.1 pc = .ok (.iand, 1)) (hv : x &&& y = v) (kk : bj_S G Y n K ad Q cs sl (pc + 1) L (.int v :: st) M) : bj_S G Y n K ad Q cs sl pc L (.int y :: .int x :: st) M :=
  fun p e s m ar be me c A H lo ls C hW hS hl => by subst hv; exact lv_iand C.ex C.by d (kk p e s m ar be me c A H lo ls C hW hS hl)
theorem bj_ior {x y v : Int32} (d : decode Y.2.2.1 pc = .ok (.ior, 1)) (hv : x ||| y = v) (kk : bj_S G Y n K ad Q cs sl (pc + 1) L (.int v :: st) M) : bj_S G Y n K ad Q cs sl pc L (.int y :: .int x :: st) M :=
  fun p e s m ar be me c A H lo ls C hW hS hl => by subst hv; exact lv_ior C.ex C.by d (kk p e s m ar be me c A H lo ls C hW hS hl)
theorem bj_ixor {x y v : Int32} (d : decode Y.2.2.1 pc = .ok (.ixor, 1)) (hv : x ^^^ y = v) (kk : bj_S G Y n K ad Q cs sl (pc + 1) L (.int v :: st) M) : bj_S G Y n K ad Q cs sl pc L (.int y :: .int x :: st) M :=
  fun p e s m ar be me c A H lo ls C hW hS hl => by subst hv; exact lv_ixor C.ex C.by d (kk p e s m ar be me c A H lo ls C hW hS hl)
theorem bj_ishl {x y v : Int32} (d : decode Y.2.2.1 pc = .ok (.ishl, 1)) (hv : x <<< (y &&& 31) = v) (kk : bj_S G Y n K ad Q cs sl (pc + 1) L (.int v :: st) M) : bj_S G Y n K ad Q cs sl pc L (.int y :: .int x :: st) M :=
  fun p e s m ar be me c A H lo ls C hW hS hl => by subst hv; exact lv_ishl C.ex C.by d (kk p e s m ar be me c A H lo ls C hW hS hl)
theorem bj_ishr {x y v : Int32} (d : decode Y.2.2.1 pc = .ok (.ishr, 1)) (hv : x >>> (y &&& 31) = v) (kk : bj_S G Y n K ad Q cs sl (pc + 1) L (.int v :: st) M) : bj_S G Y n K ad Q cs sl pc L (.int y :: .int x :: st) M :=
  fun p e s m ar be me c A H lo ls C hW hS hl => by subst hv; exact lv_ishr C.ex C.by d (kk p e s m ar be me c A H lo ls C hW hS hl)
theorem bj_iushr {x y v : Int32} (d : decode Y.2.2.1 pc = .ok (.iushr, 1)) (hv : (x.toUInt32 >>> (y.toUInt32 &&& Int32.toUInt32 31)).toInt32 = v) (kk : bj_S G Y n K ad Q cs sl (pc + 1) L (.int v :: st) M) : bj_S G Y n K ad Q cs sl pc L (.int y :: .int x :: st) M :=
  fun p e s m ar be me c A H lo ls C hW hS hl => lv_iushr C.ex C.by d hv (kk p e s m ar be me c A H lo ls C hW hS hl)
theorem bj_idiv {x y v : Int32} (d : decode Y.2.2.1 pc = .ok (.idiv, 1)) (hne : ¬ y = 0) (hv : x / y = v) (kk : bj_S G Y n K ad Q cs sl (pc + 1) L (.int v :: st) M) : bj_S G Y n K ad Q cs sl pc L (.int y :: .int x :: st) M :=
  fun p e s m ar be me c A H lo ls C hW hS hl => by subst hv; exact lv_idiv C.ex C.by d hne (kk p e s m ar be me c A H lo ls C hW hS hl)
theorem bj_irem {x y v : Int32} (d : decode Y.2.2.1 pc = .ok (.irem, 1)) (hne : ¬ y = 0) (hv : x - x / y * y = v) (kk : bj_S G Y n K ad Q cs sl (pc + 1) L (.int v :: st) M) : bj_S G Y n K ad Q cs sl pc L (.int y :: .int x :: st) M :=
  fun p e s m ar be me c A H lo ls C hW hS hl => by subst hv; exact lv_irem C.ex C.by d hne (kk p e s m ar be me c A H lo ls C hW hS hl)
theorem bj_ineg {x v : Int32} (d : decode Y.2.2.1 pc = .ok (.ineg, 1)) (hv : -x = v) (kk : bj_S G Y n K ad Q cs sl (pc + 1) L (.int v :: st) M) : bj_S G Y n K ad Q cs sl pc L (.int x :: st) M :=
  fun p e s m ar be me c A H lo ls C hW hS hl => by subst hv; exact lv_ineg C.ex C.by d (kk p e s m ar be me c A H lo ls C hW hS hl)
theorem bj_i2l {x : Int32} {v : Int64} (d : decode Y.2.2.1 pc = .ok (.i2l, 1)) (hv : x.toInt64 = v) (kk : bj_S G Y n K ad Q cs sl (pc + 1) L (.long v :: st) M) : bj_S G Y n K ad Q cs sl pc L (.int x :: st) M :=
  fun p e s m ar be me c A H lo ls C hW hS hl => lv_i2l C.ex C.by d hv (kk p e s m ar be me c A H lo ls C hW hS hl)
theorem bj_lcmp {x y : Int64} (d : decode Y.2.2.1 pc = .ok (.lcmp, 1)) (kk : bj_S G Y n K ad Q cs sl (pc + 1) L (.int (lg_cmp x y) :: st) M) : bj_S G Y n K ad Q cs sl pc L (.long y :: .long x :: st) M :=
  fun p e s m ar be me c A H lo ls C hW hS hl => W.lcmp C.ex C.by d (kk p e s m ar be me c A H lo ls C hW hS hl)
theorem bj_dup {x : Value} (d : decode Y.2.2.1 pc = .ok (.dup, 1)) (hx : x.category = 1) (kk : bj_S G Y n K ad Q cs sl (pc + 1) L (x :: x :: st) M) : bj_S G Y n K ad Q cs sl pc L (x :: st) M :=
  fun p e s m ar be me c A H lo ls C hW hS hl => lv_dup C.ex C.by d hx (kk p e s m ar be me c A H lo ls C hW hS hl)
theorem bj_pop {x : Value} (d : decode Y.2.2.1 pc = .ok (.pop, 1)) (hx : x.category = 1) (kk : bj_S G Y n K ad Q cs sl (pc + 1) L st M) : bj_S G Y n K ad Q cs sl pc L (x :: st) M :=
  fun p e s m ar be me c A H lo ls C hW hS hl => lv_pop C.ex C.by d hx (kk p e s m ar be me c A H lo ls C hW hS hl)
theorem bj_dup_x1 {x y : Value} (d : decode Y.2.2.1 pc = .ok (.dup_x1, 1)) (hx : x.category = 1) (hy : y.category = 1) (kk : bj_S G Y n K ad Q cs sl (pc + 1) L (x :: y :: x :: st) M) : bj_S G Y n K ad Q cs sl pc L (x :: y :: st) M :=
  fun p e s m ar be me c A H lo ls C hW hS hl => lv_dup_x1 C.ex C.by d hx hy (kk p e s m ar be me c A H lo ls C hW hS hl)
theorem bj_dup_x2 {x y z : Value} (d : decode Y.2.2.1 pc = .ok (.dup_x2, 1)) (hx : x.category = 1) (hy : y.category = 1) (hz : z.category = 1) (kk : bj_S G Y n K ad Q cs sl (pc + 1) L (x :: y :: z :: x :: st) M) : bj_S G Y n K ad Q cs sl pc L (x :: y :: z :: st) M :=
  fun p e s m ar be me c A H lo ls C hW hS hl => lv_dup_x2 C.ex C.by d hx hy hz (kk p e s m ar be me c A H lo ls C hW hS hl)
theorem bj_dup2 {x y : Value} (d : decode Y.2.2.1 pc = .ok (.dup2, 1)) (hx : x.category = 1) (hy : y.category = 1) (kk : bj_S G Y n K ad Q cs sl (pc + 1) L (x :: y :: x :: y :: st) M) : bj_S G Y n K ad Q cs sl pc L (x :: y :: st) M :=
  fun p e s m ar be me c A H lo ls C hW hS hl => lv_dup2_11 C.ex C.by d hx hy (kk p e s m ar be me c A H lo ls C hW hS hl)
theorem bj_goto {off : Int} {tgt : Nat} (d : decode Y.2.2.1 pc = .ok (.goto off, 3)) (ht : (pc : Int) + off = (tgt : Int)) (kk : bj_S G Y n K ad Q cs sl tgt L st M) : bj_S G Y n K ad Q cs sl pc L st M :=
  fun p e s m ar be me c A H lo ls C hW hS hl => lv_goto C.ex C.by d ht (kk p e s m ar be me c A H lo ls C hW hS hl)
theorem bj_if_eq {x : Int32} {off : Int} {tgt : Nat} (d : decode Y.2.2.1 pc = .ok (.ifCond .eq off, 3)) (ht : (pc : Int) + off = (tgt : Int)) (kt : x = 0 → bj_S G Y n K ad Q cs sl tgt L st M) (kf : ¬ (x = 0) → bj_S G Y n K ad Q cs sl (pc + 3) L st M) : bj_S G Y n K ad Q cs sl pc L (.int x :: st) M :=
  fun p e s m ar be me c A H lo ls C hW hS hl => lv_if_eq C.ex C.by d ht (fun h => kt h p e s m ar be me c A H lo ls C hW hS hl) (fun h => kf h p e s m ar be me c A H lo ls C hW hS hl)
theorem bj_icmp_eq {x y : Int32} {off : Int} {tgt : Nat} (d : decode Y.2.2.1 pc = .ok (.if_icmp .eq off, 3)) (ht : (pc : Int) + off = (tgt : Int)) (kt : x = y → bj_S G Y n K ad Q cs sl tgt L st M) (kf : ¬ (x = y) → bj_S G Y n K ad Q cs sl (pc + 3) L st M) : bj_S G Y n K ad Q cs sl pc L (.int y :: .int x :: st) M :=
  fun p e s m ar be me c A H lo ls C hW hS hl => lv_icmp_eq C.ex C.by d ht (fun h => kt h p e s m ar be me c A H lo ls C hW hS hl) (fun h => kf h p e s m ar be me c A H lo ls C hW hS hl)
theorem bj_if_ne {x : Int32} {off : Int} {tgt : Nat} (d : decode Y.2.2.1 pc = .ok (.ifCond .ne off, 3)) (ht : (pc : Int) + off = (tgt : Int)) (kt : ¬ x = 0 → bj_S G Y n K ad Q cs sl tgt L st M) (kf : x = 0 → bj_S G Y n K ad Q cs sl (pc + 3) L st M) : bj_S G Y n K ad Q cs sl pc L (.int x :: st) M :=
  fun p e s m ar be me c A H lo ls C hW hS hl => lv_if_ne C.ex C.by d ht (fun h => kt h p e s m ar be me c A H lo ls C hW hS hl) (fun h => kf h p e s m ar be me c A H lo ls C hW hS hl)
theorem bj_icmp_ne {x y : Int32} {off : Int} {tgt : Nat} (d : decode Y.2.2.1 pc = .ok (.if_icmp .ne off, 3)) (ht : (pc : Int) + off = (tgt : Int)) (kt : ¬ x = y → bj_S G Y n K ad Q cs sl tgt L st M) (kf : x = y → bj_S G Y n K ad Q cs sl (pc + 3) L st M) : bj_S G Y n K ad Q cs sl pc L (.int y :: .int x :: st) M :=
  fun p e s m ar be me c A H lo ls C hW hS hl => lv_icmp_ne C.ex C.by d ht (fun h => kt h p e s m ar be me c A H lo ls C hW hS hl) (fun h => kf h p e s m ar be me c A H lo ls C hW hS hl)
theorem bj_if_lt {x : Int32} {off : Int} {tgt : Nat} (d : decode Y.2.2.1 pc = .ok (.ifCond .lt off, 3)) (ht : (pc : Int) + off = (tgt : Int)) (kt : x < 0 → bj_S G Y n K ad Q cs sl tgt L st M) (kf : ¬ (x < 0) → bj_S G Y n K ad Q cs sl (pc + 3) L st M) : bj_S G Y n K ad Q cs sl pc L (.int x :: st) M :=
  fun p e s m ar be me c A H lo ls C hW hS hl => lv_if_lt C.ex C.by d ht (fun h => kt h p e s m ar be me c A H lo ls C hW hS hl) (fun h => kf h p e s m ar be me c A H lo ls C hW hS hl)
theorem bj_icmp_lt {x y : Int32} {off : Int} {tgt : Nat} (d : decode Y.2.2.1 pc = .ok (.if_icmp .lt off, 3)) (ht : (pc : Int) + off = (tgt : Int)) (kt : x < y → bj_S G Y n K ad Q cs sl tgt L st M) (kf : ¬ (x < y) → bj_S G Y n K ad Q cs sl (pc + 3) L st M) : bj_S G Y n K ad Q cs sl pc L (.int y :: .int x :: st) M :=
  fun p e s m ar be me c A H lo ls C hW hS hl => lv_icmp_lt C.ex C.by d ht (fun h => kt h p e s m ar be me c A H lo ls C hW hS hl) (fun h => kf h p e s m ar be me c A H lo ls C hW hS hl)
theorem bj_if_ge {x : Int32} {off : Int} {tgt : Nat} (d : decode Y.2.2.1 pc = .ok (.ifCond .ge off, 3)) (ht : (pc : Int) + off = (tgt : Int)) (kt : 0 ≤ x → bj_S G Y n K ad Q cs sl tgt L st M) (kf : ¬ (0 ≤ x) → bj_S G Y n K ad Q cs sl (pc + 3) L st M) : bj_S G Y n K ad Q cs sl pc L (.int x :: st) M :=
  fun p e s m ar be me c A H lo ls C hW hS hl => lv_if_ge C.ex C.by d ht (fun h => kt h p e s m ar be me c A H lo ls C hW hS hl) (fun h => kf h p e s m ar be me c A H lo ls C hW hS hl)
theorem bj_icmp_ge {x y : Int32} {off : Int} {tgt : Nat} (d : decode Y.2.2.1 pc = .ok (.if_icmp .ge off, 3)) (ht : (pc : Int) + off = (tgt : Int)) (kt : y ≤ x → bj_S G Y n K ad Q cs sl tgt L st M) (kf : ¬ (y ≤ x) → bj_S G Y n K ad Q cs sl (pc + 3) L st M) : bj_S G Y n K ad Q cs sl pc L (.int y :: .int x :: st) M :=
  fun p e s m ar be me c A H lo ls C hW hS hl => lv_icmp_ge C.ex C.by d ht (fun h => kt h p e s m ar be me c A H lo ls C hW hS hl) (fun h => kf h p e s m ar be me c A H lo ls C hW hS hl)
theorem bj_if_gt {x : Int32} {off : Int} {tgt : Nat} (d : decode Y.2.2.1 pc = .ok (.ifCond .gt off, 3)) (ht : (pc : Int) + off = (tgt : Int)) (kt : 0 < x → bj_S G Y n K ad Q cs sl tgt L st M) (kf : ¬ (0 < x) → bj_S G Y n K ad Q cs sl (pc + 3) L st M) : bj_S G Y n K ad Q cs sl pc L (.int x :: st) M :=
  fun p e s m ar be me c A H lo ls C hW hS hl => lv_if_gt C.ex C.by d ht (fun h => kt h p e s m ar be me c A H lo ls C hW hS hl) (fun h => kf h p e s m ar be me c A H lo ls C hW hS hl)
theorem bj_icmp_gt {x y : Int32} {off : Int} {tgt : Nat} (d : decode Y.2.2.1 pc = .ok (.if_icmp .gt off, 3)) (ht : (pc : Int) + off = (tgt : Int)) (kt : y < x → bj_S G Y n K ad Q cs sl tgt L st M) (kf : ¬ (y < x) → bj_S G Y n K ad Q cs sl (pc + 3) L st M) : bj_S G Y n K ad Q cs sl pc L (.int y :: .int x :: st) M :=
  fun p e s m ar be me c A H lo ls C hW hS hl => lv_icmp_gt C.ex C.by d ht (fun h => kt h p e s m ar be me c A H lo ls C hW hS hl) (fun h => kf h p e s m ar be me c A H lo ls C hW hS hl)
theorem bj_if_le {x : Int32} {off : Int} {tgt : Nat} (d : decode Y.2.2.1 pc = .ok (.ifCond .le off, 3)) (ht : (pc : Int) + off = (tgt : Int)) (kt : x ≤ 0 → bj_S G Y n K ad Q cs sl tgt L st M) (kf : ¬ (x ≤ 0) → bj_S G Y n K ad Q cs sl (pc + 3) L st M) : bj_S G Y n K ad Q cs sl pc L (.int x :: st) M :=
  fun p e s m ar be me c A H lo ls C hW hS hl => lv_if_le C.ex C.by d ht (fun h => kt h p e s m ar be me c A H lo ls C hW hS hl) (fun h => kf h p e s m ar be me c A H lo ls C hW hS hl)
theorem bj_icmp_le {x y : Int32} {off : Int} {tgt : Nat} (d : decode Y.2.2.1 pc = .ok (.if_icmp .le off, 3)) (ht : (pc : Int) + off = (tgt : Int)) (kt : x ≤ y → bj_S G Y n K ad Q cs sl tgt L st M) (kf : ¬ (x ≤ y) → bj_S G Y n K ad Q cs sl (pc + 3) L st M) : bj_S G Y n K ad Q cs sl pc L (.int y :: .int x :: st) M :=
  fun p e s m ar be me c A H lo ls C hW hS hl => lv_icmp_le C.ex C.by d ht (fun h => kt h p e s m ar be me c A H lo ls C hW hS hl) (fun h => kf h p e s m ar be me c A H lo ls C hW hS hl)
theorem bj_swOut {dflt lo hi : Int} {offs : Array Int} {len : Nat} {x : Int32} {tgt : Nat} (d : decode Y.2.2.1 pc = .ok (.tableswitch dflt lo hi offs, len)) (h : x.toInt < lo ∨ hi < x.toInt) (ht : (pc : Int) + dflt = (tgt : Int)) (kk : bj_S G Y n K ad Q cs sl tgt L st M) : bj_S G Y n K ad Q cs sl pc L (.int x :: st) M :=
  fun p e s m ar be me c A H lo ls C hW hS hl => lv_tableOut C.ex C.by d h ht (kk p e s m ar be me c A H lo ls C hW hS hl)
theorem bj_swIn {dflt lo hi : Int} {offs : Array Int} {len : Nat} {x : Int32} {off : Int} {tgt : Nat} (d : decode Y.2.2.1 pc = .ok (.tableswitch dflt lo hi offs, len)) (h1 : ¬ x.toInt < lo) (h2 : ¬ hi < x.toInt) (ho : offs[(x.toInt - lo).toNat]? = some off) (ht : (pc : Int) + off = (tgt : Int)) (kk : bj_S G Y n K ad Q cs sl tgt L st M) : bj_S G Y n K ad Q cs sl pc L (.int x :: st) M :=
  fun p e s m ar be me c A H lo ls C hW hS hl => lv_tableIn C.ex C.by d h1 h2 ho ht (kk p e s m ar be me c A H lo ls C hW hS hl)
theorem bj_icmp_eqN {a b : Nat} {off : Int} {tgt : Nat} (d : decode Y.2.2.1 pc = .ok (.if_icmp .eq off, 3)) (ht : (pc : Int) + off = (tgt : Int)) (ha : a < 2 ^ 31) (hb : b < 2 ^ 31) (kt : a = b → bj_S G Y n K ad Q cs sl tgt L st M) (kf : a ≠ b → bj_S G Y n K ad Q cs sl (pc + 3) L st M) : bj_S G Y n K ad Q cs sl pc L (.int (nI b) :: .int (nI a) :: st) M :=
  bj_icmp_eq d ht (fun h => kt ((nI_eq ha hb).mp h)) (fun h => kf (fun q => h ((nI_eq ha hb).mpr q)))
theorem bj_icmp_neN {a b : Nat} {off : Int} {tgt : Nat} (d : decode Y.2.2.1 pc = .ok (.if_icmp .ne off, 3)) (ht : (pc : Int) + off = (tgt : Int)) (ha : a < 2 ^ 31) (hb : b < 2 ^ 31) (kt : a ≠ b → bj_S G Y n K ad Q cs sl tgt L st M) (kf : a = b → bj_S G Y n K ad Q cs sl (pc + 3) L st M) : bj_S G Y n K ad Q cs sl pc L (.int (nI b) :: .int (nI a) :: st) M :=
  bj_icmp_ne d ht (fun h => kt (fun q => h ((nI_eq ha hb).mpr q))) (fun h => kf ((nI_eq ha hb).mp h))
theorem bj_icmp_ltN {a b : Nat} {off : Int} {tgt : Nat} (d : decode Y.2.2.1 pc = .ok (.if_icmp .lt off, 3)) (ht : (pc : Int) + off = (tgt : Int)) (ha : a < 2 ^ 31) (hb : b < 2 ^ 31) (kt : a < b → bj_S G Y n K ad Q cs sl tgt L st M) (kf : b ≤ a → bj_S G Y n K ad Q cs sl (pc + 3) L st M) : bj_S G Y n K ad Q cs sl pc L (.int (nI b) :: .int (nI a) :: st) M :=
  bj_icmp_lt d ht (fun h => kt ((nI_ltI ha hb).mp h)) (fun h => kf (Nat.le_of_not_lt (fun q => h ((nI_ltI ha hb).mpr q))))
theorem bj_icmp_geN {a b : Nat} {off : Int} {tgt : Nat} (d : decode Y.2.2.1 pc = .ok (.if_icmp .ge off, 3)) (ht : (pc : Int) + off = (tgt : Int)) (ha : a < 2 ^ 31) (hb : b < 2 ^ 31) (kt : b ≤ a → bj_S G Y n K ad Q cs sl tgt L st M) (kf : a < b → bj_S G Y n K ad Q cs sl (pc + 3) L st M) : bj_S G Y n K ad Q cs sl pc L (.int (nI b) :: .int (nI a) :: st) M :=
  bj_icmp_ge d ht (fun h => kt ((nI_leI hb ha).mp h)) (fun h => kf (Nat.lt_of_not_le (fun q => h ((nI_leI hb ha).mpr q))))
theorem bj_icmp_gtN {a b : Nat} {off : Int} {tgt : Nat} (d : decode Y.2.2.1 pc = .ok (.if_icmp .gt off, 3)) (ht : (pc : Int) + off = (tgt : Int)) (ha : a < 2 ^ 31) (hb : b < 2 ^ 31) (kt : b < a → bj_S G Y n K ad Q cs sl tgt L st M) (kf : a ≤ b → bj_S G Y n K ad Q cs sl (pc + 3) L st M) : bj_S G Y n K ad Q cs sl pc L (.int (nI b) :: .int (nI a) :: st) M :=
  bj_icmp_gt d ht (fun h => kt ((nI_ltI hb ha).mp h)) (fun h => kf (Nat.le_of_not_lt (fun q => h ((nI_ltI hb ha).mpr q))))
theorem bj_icmp_leN {a b : Nat} {off : Int} {tgt : Nat} (d : decode Y.2.2.1 pc = .ok (.if_icmp .le off, 3)) (ht : (pc : Int) + off = (tgt : Int)) (ha : a < 2 ^ 31) (hb : b < 2 ^ 31) (kt : a ≤ b → bj_S G Y n K ad Q cs sl tgt L st M) (kf : b < a → bj_S G Y n K ad Q cs sl (pc + 3) L st M) : bj_S G Y n K ad Q cs sl pc L (.int (nI b) :: .int (nI a) :: st) M :=
  bj_icmp_le d ht (fun h => kt ((nI_leI ha hb).mp h)) (fun h => kf (Nat.lt_of_not_le (fun q => h ((nI_leI ha hb).mpr q))))
theorem bj_if_eqN {a : Nat} {off : Int} {tgt : Nat} (d : decode Y.2.2.1 pc = .ok (.ifCond .eq off, 3)) (ht : (pc : Int) + off = (tgt : Int)) (ha : a < 2 ^ 31) (kt : a = 0 → bj_S G Y n K ad Q cs sl tgt L st M) (kf : a ≠ 0 → bj_S G Y n K ad Q cs sl (pc + 3) L st M) : bj_S G Y n K ad Q cs sl pc L (.int (nI a) :: st) M :=
  bj_if_eq d ht (fun h => kt (Classical.byContradiction (fun q => nI_ne0 (Nat.pos_of_ne_zero q) ha h))) (fun h => kf (fun q => h (by rw [q]; exact nI_0)))
theorem bj_if_neN {a : Nat} {off : Int} {tgt : Nat} (d : decode Y.2.2.1 pc = .ok (.ifCond .ne off, 3)) (ht : (pc : Int) + off = (tgt : Int)) (ha : a < 2 ^ 31) (kt : a ≠ 0 → bj_S G Y n K ad Q cs sl tgt L st M) (kf : a = 0 → bj_S G Y n K ad Q cs sl (pc + 3) L st M) : bj_S G Y n K ad Q cs sl pc L (.int (nI a) :: st) M :=
  bj_if_ne d ht (fun h => kt (fun q => h (by rw [q]; exact nI_0))) (fun h => kf (Classical.byContradiction (fun q => nI_ne0 (Nat.pos_of_ne_zero q) ha h)))
theorem bj_if_gtN {a : Nat} {off : Int} {tgt : Nat} (d : decode Y.2.2.1 pc = .ok (.ifCond .gt off, 3)) (ht : (pc : Int) + off = (tgt : Int)) (ha : a < 2 ^ 31) (kt : 0 < a → bj_S G Y n K ad Q cs sl tgt L st M) (kf : a = 0 → bj_S G Y n K ad Q cs sl (pc + 3) L st M) : bj_S G Y n K ad Q cs sl pc L (.int (nI a) :: st) M :=
  bj_if_gt d ht (fun h => kt (Nat.pos_of_ne_zero (fun q => by rw [q, nI_0] at h; exact absurd h (by decide)))) (fun h => kf (Classical.byContradiction (fun q => h (by rw [← nI_0]; exact nI_lt (Nat.pos_of_ne_zero q) ha))))
theorem bj_if_leN {a : Nat} {off : Int} {tgt : Nat} (d : decode Y.2.2.1 pc = .ok (.ifCond .le off, 3)) (ht : (pc : Int) + off = (tgt : Int)) (ha : a < 2 ^ 31) (kt : a = 0 → bj_S G Y n K ad Q cs sl tgt L st M) (kf : 0 < a → bj_S G Y n K ad Q cs sl (pc + 3) L st M) : bj_S G Y n K ad Q cs sl pc L (.int (nI a) :: st) M :=
  bj_if_le d ht (fun h => kt (Classical.byContradiction (fun q => nI_nle (Nat.pos_of_ne_zero q) ha h))) (fun h => kf (Nat.pos_of_ne_zero (fun q => h (by rw [q, nI_0]; decide))))
theorem bj_if_ltN {a : Nat} {off : Int} (d : decode Y.2.2.1 pc = .ok (.ifCond .lt off, 3)) {tgt : Nat} (ht : (pc : Int) + off = (tgt : Int)) (ha : a < 2 ^ 31) (kf : bj_S G Y n K ad Q cs sl (pc + 3) L st M) : bj_S G Y n K ad Q cs sl pc L (.int (nI a) :: st) M :=
  bj_if_lt d ht (fun h => absurd h (nI_pos ha)) (fun _ => kf)
theorem bj_if_geN {a : Nat} {off : Int} (d : decode Y.2.2.1 pc = .ok (.ifCond .ge off, 3)) {tgt : Nat} (ht : (pc : Int) + off = (tgt : Int)) (ha : a < 2 ^ 31) (kt : bj_S G Y n K ad Q cs sl tgt L st M) : bj_S G Y n K ad Q cs sl pc L (.int (nI a) :: st) M :=
  bj_if_ge d ht (fun _ => kt) (fun h => absurd (nI_pos' ha) h)
end BR
end
section
/-! the judgement's rows: fields, arrays, answers -/
section BC
variable {G : bj_G} {Y : bj_Y} {n : Nat} {K : bj_K} {ad : Nat → Nat} {Q : bj_R → bj_M → Prop} {cs sl pc : Nat} {L : List (Option Value)} {st : List Value} {M : bj_M}
theorem bj_mono {p : Program} {l : Launch} {e : Env} {R : Room} {s : State} {m : MethodId} {args : Array Value} {below : List Frame} {meth : Method} {c : Code} {H : Heap} {locs : List Loc} {cells slots : Nat} {Q Q' : State → Prop} {g : JFrame} (h : W p l e R s m args below meth c H locs cells slots Q g) (hi : ∀ t, Q t → Q' t) : W p l e R s m args below meth c H locs cells slots Q' g := by
  intro T hT X
  obtain ⟨t, a, b⟩ := h T hT X
  exact ⟨t, a, hi t b⟩
/-- more cells and slots than were made -/
theorem bj_wide {cs' sl' : Nat} (h1 : cs ≤ cs') (h2 : sl ≤ sl') (kk : bj_S G Y n K ad Q cs' sl' pc L st M) : bj_S G Y n K ad Q cs sl pc L st M :=
  fun p e s m ar be me c A H lo ls C hW hS hl => W.widen h1 h2 (kk p e s m ar be me c A H lo ls C hW hS hl)
/-- the post may be weakened -/
theorem bj_post {Q' : bj_R → bj_M → Prop} (h : ∀ r M, Q r M → Q' r M) (kk : bj_S G Y n K ad Q cs sl pc L st M) : bj_S G Y n K ad Q' cs sl pc L st M :=
  fun p e s m ar be me c A H lo ls C hW hS hl => bj_mono (kk p e s m ar be me c A H lo ls C hW hS hl) (fun t ht => by
    obtain ⟨o, h1, h2, h3⟩ := ht
    refine ⟨o, h1, h2, ?_⟩
    rcases h3 with ⟨v, M', Lc, g1, g2, g3⟩ | ⟨x, E, ce, M', Lc, g1, g2, g3⟩
    · exact Or.inl ⟨v, M', Lc, g1, h _ _ g2, g3⟩
    · exact Or.inr ⟨x, E, ce, M', Lc, g1, h _ _ g2, g3⟩)
/-! answers -/
theorem bj_iret {x : Int32} {ty : FieldType} (d : decode Y.2.2.1 pc = .ok (.ireturn, 1)) (hr : Y.2.2.2.2.1 = some ty) (hn : narrow ty (.int x) = .int x) (hc : cs ≤ K.1) (hs : sl ≤ K.2.1) (hq : Q (.inl (some (.int x))) M) : bj_S G Y n K ad Q cs sl pc L [.int x] M := by
  intro p e s m ar be me c A H lo ls C hW hS hl
  refine W.widen hc hs (bj_mono (W.zret (Qc := fun _ _ o t => o = .returned (some (.int x)) ∧ t.heap = H) (free := A) C.ex C.by (C.rt.trans hr) hn (fun t ht _ => ⟨rfl, ht⟩) hS.2.2 d C.lk) ?_)
  rintro t ⟨o, h1, h2, ⟨ho, hH⟩, Lc, ⟨-, hw, hsm⟩, hL⟩
  exact ⟨o, h1, h2, Or.inl ⟨_, M, Lc, ho, hq, by rw [hH]; exact hW, hS.F hH, hw, hsm, hL⟩⟩
theorem bj_vret (d : decode Y.2.2.1 pc = .ok (.return_, 1)) (hr : Y.2.2.2.2.1 = none) (hc : cs ≤ K.1) (hs : sl ≤ K.2.1) (hq : Q (.inl none) M) : bj_S G Y n K ad Q cs sl pc L [] M := by
  intro p e s m ar be me c A H lo ls C hW hS hl
  refine W.widen hc hs (bj_mono (W.vret (Qc := fun _ _ o t => o = .returned none ∧ t.heap = H) (free := A) C.ex C.by (C.rt.trans hr) (fun t ht _ => ⟨rfl, ht⟩) hS.2.2 d C.lk) ?_)
  rintro t ⟨o, h1, h2, ⟨ho, hH⟩, Lc, ⟨-, hw, hsm⟩, hL⟩
  exact ⟨o, h1, h2, Or.inl ⟨_, M, Lc, ho, hq, by rw [hH]; exact hW, hS.F hH, hw, hsm, hL⟩⟩
/-! fields -/
theorem bj_one {D : va_G} {cl : List vw_C} {a : Nat} {x : va_E} {H : Heap} (h : va_at D cl (a, x) H) : va_P D cl [(a, x)] H := by
  intro j q hj
  cases j with
  | zero => cases hj; exact h
  | succ j => simp at hj
theorem bj_get {C ref : String} {T : u_T} {N ci index k f : Nat} {fs : List Value} {v : Value} (d : decode Y.2.2.1 pc = .ok (.getfield index, 3)) (hin : ∀ w ∈ u_ws C T N, w ∈ G.2.2.2.2) (hc : G.2.2.1[ci]? = some (C, T, N)) (hf : f < N) (hlink : Cond.fieldLink Y.1 index ref (T f).2.1 (T f).2.2.1 ∈ G.2.2.2.2) (href : (T f).1 = ref) (hM : M k = some (.inr (ci, fs))) (hv : fs[f]? = some v)
    (kk : bj_S G Y n K ad Q cs sl (pc + 3) L (v :: st) M) : bj_S G Y n K ad Q cs sl pc L (.ref (ad k) :: st) M :=
  fun p e s m ar be me c A H lo ls C hW hS hl => va_get (ws := [(ad k, .inr (ci, fs))]) C.ex C.by C.ts hin C.ow C.k (bj_one (hW.1 k _ hM)) 0 rfl hc f hf (C.ts _ hlink) (fun x hx => by rw [← href]; exact hx) hv d (kk p e s m ar be me c A H lo ls C hW hS hl)
theorem bj_getN {C ref host : String} {T : u_T} {N ci index k f : Nat} {fs : List Value} {v : Value} (d : decode Y.2.2.1 pc = .ok (.getfield index, 3)) (hin : ∀ w ∈ u_ws C T N, w ∈ G.2.2.2.2) (hc : G.2.2.1[ci]? = some (C, T, N)) (hf : f < N) (hlink : Cond.fieldLinkNest Y.1 index ref (T f).2.1 (T f).2.2.1 host ∈ G.2.2.2.2) (href : (T f).1 = ref) (hM : M k = some (.inr (ci, fs))) (hv : fs[f]? = some v)
    (kk : bj_S G Y n K ad Q cs sl (pc + 3) L (v :: st) M) : bj_S G Y n K ad Q cs sl pc L (.ref (ad k) :: st) M :=
  fun p e s m ar be me c A H lo ls C hW hS hl => va_getN (ws := [(ad k, .inr (ci, fs))]) C.ex C.by C.ts hin C.ow C.k (bj_one (hW.1 k _ hM)) 0 rfl hc f hf (C.ts _ hlink) (fun x hx => by rw [← href]; exact hx) hv d (kk p e s m ar be me c A H lo ls C hW hS hl)
theorem bj_put {C ref : String} {T : u_T} {N ci index k f : Nat} {fs : List Value} {v : Value} {ty : FieldType} {ty0 : Nat → FieldType} (d : decode Y.2.2.1 pc = .ok (.putfield index, 3)) (hin : ∀ w ∈ u_ws C T N, w ∈ G.2.2.2.2) (hty : ∀ k, k < N → parseFieldDescriptor (T k).2.2.1 = some (ty0 k)) (hnm : ∀ a, a < N → ∀ b, b < N → a ≠ b → (T a).2.1 ≠ (T b).2.1)
    (hc : G.2.2.1[ci]? = some (C, T, N)) (hf : f < N) (hlink : Cond.fieldLink Y.1 index ref (T f).2.1 (T f).2.2.1 ∈ G.2.2.2.2) (href : (T f).1 = ref) (hfin : (T f).2.2.2 = false) (hd : ty0 f = ty) (hn : narrow ty v = v) (hfit : fits ty v = true) (hl9 : f < fs.length) (hM : M k = some (.inr (ci, fs)))
    (kk : bj_S G Y n K ad Q cs sl (pc + 3) L st (va_up M k (some (.inr (ci, fs.set f v))))) : bj_S G Y n K ad Q cs sl pc L (v :: .ref (ad k) :: st) M := by
  intro p e s m ar be me c A H lo ls Cx hW hS hl
  have hK := Cx.k
  have hts := Cx.ts
  have hap := va_apart (own := Y.1) hts hin ty0 hty hnm hK hc
  obtain ⟨r, h1, cell, q1, q2, q3, q4⟩ := hW.1 k _ hM
  have hr : r = (C, T, N) := Option.some.inj (h1.symm.trans hc)
  subst hr
  obtain ⟨hSl, hfc, kC, hkC, hkind⟩ := hK.1 ci _ hc
  obtain ⟨cf, kf, fi, fd, hi, hsl⟩ := hSl f hf
  have hlay := hts _ (hin _ (u_in_lay hf))
  unfold u_lay at hlay
  rw [if_neg (by rw [hfin]; decide)] at hlay
  have hst := (u_facts hfc hkC (u_lays hts hin hf) hi).1
  have h6 := u_store hfc hkC hkind hlay hi ((hty f hf).trans (by rw [hd])) hn hfit
  have hi' : s.fieldFound? ref (T f).2.1 (T f).2.2.1 = some (cf, kf, fi, fd) := by rw [← href]; exact hi
  refine W.putK Cx.ex Cx.by (f := fd) ⟨Cx.ow, hts _ hlink, ⟨_, _, _, hi'⟩, hst⟩ (by rw [q2]; exact h6) q1 q3 (by rw [hsl]; exact k2_hasslot (q4 f hf)) rfl rfl d fun H' e1 e2 e3 => ?_
  rw [hsl] at e1
  exact kk p e s m ar be me c A H' _ ls Cx (hW.set hM ⟨_, hc, t_OB.to (V := updV (vp_V fs) f v) ⟨_, e1, q2, q3, t_set q4 hap hf v⟩ (fun j _ => vp_updV_set hl9 v j)⟩ e3) (hS.put e2 e3 (hW.2.2 k (bj_ne hM))) hl
theorem bj_putN {C ref host : String} {T : u_T} {N ci index k f : Nat} {fs : List Value} {v : Value} {ty : FieldType} {ty0 : Nat → FieldType} (d : decode Y.2.2.1 pc = .ok (.putfield index, 3)) (hin : ∀ w ∈ u_ws C T N, w ∈ G.2.2.2.2) (hty : ∀ k, k < N → parseFieldDescriptor (T k).2.2.1 = some (ty0 k)) (hnm : ∀ a, a < N → ∀ b, b < N → a ≠ b → (T a).2.1 ≠ (T b).2.1)
    (hc : G.2.2.1[ci]? = some (C, T, N)) (hf : f < N) (hlink : Cond.fieldLinkNest Y.1 index ref (T f).2.1 (T f).2.2.1 host ∈ G.2.2.2.2) (href : (T f).1 = ref) (hfin : (T f).2.2.2 = false) (hd : ty0 f = ty) (hn : narrow ty v = v) (hfit : fits ty v = true) (hl9 : f < fs.length) (hM : M k = some (.inr (ci, fs)))
    (kk : bj_S G Y n K ad Q cs sl (pc + 3) L st (va_up M k (some (.inr (ci, fs.set f v))))) : bj_S G Y n K ad Q cs sl pc L (v :: .ref (ad k) :: st) M := by
  intro p e s m ar be me c A H lo ls Cx hW hS hl
  have hK := Cx.k
  have hts := Cx.ts
  have hap := va_apart (own := Y.1) hts hin ty0 hty hnm hK hc
  obtain ⟨r, h1, cell, q1, q2, q3, q4⟩ := hW.1 k _ hM
  have hr : r = (C, T, N) := Option.some.inj (h1.symm.trans hc)
  subst hr
  obtain ⟨hSl, hfc, kC, hkC, hkind⟩ := hK.1 ci _ hc
  obtain ⟨cf, kf, fi, fd, hi, hsl⟩ := hSl f hf
  have hlay := hts _ (hin _ (u_in_lay hf))
  unfold u_lay at hlay
  rw [if_neg (by rw [hfin]; decide)] at hlay
  have hst := (u_facts hfc hkC (u_lays hts hin hf) hi).1
  have h6 := u_store hfc hkC hkind hlay hi ((hty f hf).trans (by rw [hd])) hn hfit
  have hi' : s.fieldFound? ref (T f).2.1 (T f).2.2.1 = some (cf, kf, fi, fd) := by rw [← href]; exact hi
  refine va_WputK Cx.ex Cx.by (f := fd) Cx.ow (hts _ hlink) hi' hst (by rw [q2]; exact h6) q1 q3 (by rw [hsl]; exact k2_hasslot (q4 f hf)) rfl rfl d fun H' e1 e2 e3 => ?_
  rw [hsl] at e1
  exact kk p e s m ar be me c A H' _ ls Cx (hW.set hM ⟨_, hc, t_OB.to (V := updV (vp_V fs) f v) ⟨_, e1, q2, q3, t_set q4 hap hf v⟩ (fun j _ => vp_updV_set hl9 v j)⟩ e3) (hS.put e2 e3 (hW.2.2 k (bj_ne hM))) hl
/-- a final field, in the constructor -/
theorem bj_putF {C ref : String} {T : u_T} {N ci index k f : Nat} {fs : List Value} {v : Value} {ty : FieldType} {ty0 : Nat → FieldType} (d : decode Y.2.2.1 pc = .ok (.putfield index, 3)) (hin : ∀ w ∈ u_ws C T N, w ∈ G.2.2.2.2) (hty : ∀ k, k < N → parseFieldDescriptor (T k).2.2.1 = some (ty0 k)) (hnm : ∀ a, a < N → ∀ b, b < N → a ≠ b → (T a).2.1 ≠ (T b).2.1)
    (hc : G.2.2.1[ci]? = some (C, T, N)) (hf : f < N) (hlink : Cond.fieldLink Y.1 index ref (T f).2.1 (T f).2.2.1 ∈ G.2.2.2.2) (href : (T f).1 = ref) (hfin : (T f).2.2.2 = true) (hini : Y.2.1.name = "<init>") (hown : (T f).1 = Y.1) (hd : ty0 f = ty) (hn : narrow ty v = v) (hfit : fits ty v = true) (hl9 : f < fs.length) (hM : M k = some (.inr (ci, fs)))
    (kk : bj_S G Y n K ad Q cs sl (pc + 3) L st (va_up M k (some (.inr (ci, fs.set f v))))) : bj_S G Y n K ad Q cs sl pc L (v :: .ref (ad k) :: st) M := by
  intro p e s m ar be me c A H lo ls Cx hW hS hl
  have hK := Cx.k
  have hts := Cx.ts
  have hap := va_apart (own := Y.1) hts hin ty0 hty hnm hK hc
  obtain ⟨r, h1, cell, q1, q2, q3, q4⟩ := hW.1 k _ hM
  have hr : r = (C, T, N) := Option.some.inj (h1.symm.trans hc)
  subst hr
  obtain ⟨hSl, hfc, kC, hkC, hkind⟩ := hK.1 ci _ hc
  obtain ⟨cf, kf, fi, fd, hi, hsl⟩ := hSl f hf
  have hlay := hts _ (hin _ (u_in_lay hf))
  unfold u_lay at hlay
  rw [if_pos hfin] at hlay
  have hst := (u_facts hfc hkC (u_lays hts hin hf) hi).1
  have hcf : m.cls = cf := by
    obtain ⟨_, _, c', _, _, _, -, -, hf', -, -, -, hown2, -⟩ := Cond.laysFinal_spec hlay
    have e1 : c' = cf := by have := hi.symm.trans hf'; simp at this; exact this.1.symm
    rw [hown] at hown2
    rw [← e1]; exact Option.some.inj (Cx.ow.symm.trans hown2)
  have h6 := u_fits hfc hkC hkind (Or.inr hlay) hi ((hty f hf).trans (by rw [hd])) hn hfit
  have hi' : s.fieldFound? ref (T f).2.1 (T f).2.2.1 = some (cf, kf, fi, fd) := by rw [← href]; exact hi
  refine W.putFinK Cx.ex Cx.by Cx.ow (hts _ hlink) hi' hst hcf (Cx.nm.trans hini) (by rw [q2]; exact h6) q1 q3 (by rw [hsl]; exact k2_hasslot (q4 f hf)) rfl rfl d fun H' e1 e2 e3 => ?_
  rw [hsl] at e1
  exact kk p e s m ar be me c A H' _ ls Cx (hW.set hM ⟨_, hc, t_OB.to (V := updV (vp_V fs) f v) ⟨_, e1, q2, q3, t_set q4 hap hf v⟩ (fun j _ => vp_updV_set hl9 v j)⟩ e3) (hS.put e2 e3 (hW.2.2 k (bj_ne hM))) hl
/-! arrays -/
theorem bj_iald {x : Int32} {k j N : Nat} {cA : ClassId} {f : Nat → Int32} (d : decode Y.2.2.1 pc = .ok (.iaload, 1)) (t : Nat) (ht : G.2.2.2.1[t]? = some (cA, .int)) (hM : M k = some (.inl (cA, N, .inl f))) (hx : x = nI j) (hj : j < N) (hN : N < 2 ^ 31)
    (kk : bj_S G Y n K ad Q cs sl (pc + 1) L (.int (f j) :: st) M) : bj_S G Y n K ad Q cs sl pc L (.int x :: .ref (ad k) :: st) M := by
  subst hx
  intro p e s m ar be me c A H lo ls C hW hS hl
  have e9 : (nI j).toNatClampNeg = j := nI_clamp (Nat.lt_trans hj hN)
  refine va_iald (ws := [(ad k, .inl (cA, N, .inl f))]) C.ex C.by C.k (bj_one (hW.1 k _ hM)) 0 t rfl ht (vp_in_nI hj hN) d ?_
  rw [e9]
  exact kk p e s m ar be me c A H lo ls C hW hS hl
theorem bj_zald {x : Int32} {k j N : Nat} {cA : ClassId} {f : Nat → Int32} (d : decode Y.2.2.1 pc = .ok (.baload, 1)) (t : Nat) (ht : G.2.2.2.1[t]? = some (cA, .boolean)) (hM : M k = some (.inl (cA, N, .inl f))) (hx : x = nI j) (hj : j < N) (hN : N < 2 ^ 31)
    (kk : bj_S G Y n K ad Q cs sl (pc + 1) L (.int (f j) :: st) M) : bj_S G Y n K ad Q cs sl pc L (.int x :: .ref (ad k) :: st) M := by
  subst hx
  intro p e s m ar be me c A H lo ls C hW hS hl
  have e9 : (nI j).toNatClampNeg = j := nI_clamp (Nat.lt_trans hj hN)
  refine va_zald (ws := [(ad k, .inl (cA, N, .inl f))]) C.ex C.by C.k (bj_one (hW.1 k _ hM)) 0 t rfl ht (vp_in_nI hj hN) d ?_
  rw [e9]
  exact kk p e s m ar be me c A H lo ls C hW hS hl
theorem bj_lald {x : Int32} {k j N : Nat} {cA : ClassId} {f : Nat → Int64} (d : decode Y.2.2.1 pc = .ok (.laload, 1)) (t : Nat) (ht : G.2.2.2.1[t]? = some (cA, .long)) (hM : M k = some (.inl (cA, N, .inr (.inl f)))) (hx : x = nI j) (hj : j < N) (hN : N < 2 ^ 31)
    (kk : bj_S G Y n K ad Q cs sl (pc + 1) L (.long (f j) :: st) M) : bj_S G Y n K ad Q cs sl pc L (.int x :: .ref (ad k) :: st) M := by
  subst hx
  intro p e s m ar be me c A H lo ls C hW hS hl
  have e9 : (nI j).toNatClampNeg = j := nI_clamp (Nat.lt_trans hj hN)
  refine va_lald (ws := [(ad k, .inl (cA, N, .inr (.inl f)))]) C.ex C.by C.k (bj_one (hW.1 k _ hM)) 0 t rfl ht (vp_in_nI hj hN) d ?_
  rw [e9]
  exact kk p e s m ar be me c A H lo ls C hW hS hl
theorem bj_aald {x : Int32} {k j N q : Nat} {cA : ClassId} {ty : FieldType} {f : Nat → Option Nat} (d : decode Y.2.2.1 pc = .ok (.aaload, 1)) (t : Nat) (ht : G.2.2.2.1[t]? = some (cA, ty)) (hty : ty.isReference = true) (hM : M k = some (.inl (cA, N, .inr (.inr (.inr (.inr f)))))) (hx : x = nI j) (hj : j < N) (hN : N < 2 ^ 31) (hq : f j = some q)
    (kk : bj_S G Y n K ad Q cs sl (pc + 1) L (.ref q :: st) M) : bj_S G Y n K ad Q cs sl pc L (.int x :: .ref (ad k) :: st) M := by
  subst hx
  intro p e s m ar be me c A H lo ls C hW hS hl
  have e9 : (nI j).toNatClampNeg = j := nI_clamp (Nat.lt_trans hj hN)
  have hcell : H[ad k]? = some (vp_cell cA (N, .inr (.inr (.inr (.inr f))))) := hW.1 k _ hM
  refine W.aald (v := .ref q) (ty := ty) C.ex C.by hcell ((C.k.2 t _ ht).1 N (fun j => va_rf (f j))) hty (fun z => by cases z) ?_ ?_ rfl rfl d (kk p e s m ar be me c A H lo ls C hW hS hl)
  · rw [vp_cell_q, arrV_size]
    exact vp_in_nI hj hN
  · rw [vp_cell_q, e9, arrV_read _ _ hj, hq]
    rfl
theorem bj_alen {k : Nat} {cA : ClassId} {x : vp_A} {ty : FieldType} {v : Int32} (d : decode Y.2.2.1 pc = .ok (.arraylength, 1)) (t : Nat) (ht : G.2.2.2.1[t]? = some (cA, ty)) (hM : M k = some (.inl (cA, x))) (hv : nI x.1 = v)
    (kk : bj_S G Y n K ad Q cs sl (pc + 1) L (.int v :: st) M) : bj_S G Y n K ad Q cs sl pc L (.ref (ad k) :: st) M :=
  fun p e s m ar be me c A H lo ls C hW hS hl => va_alen (ws := [(ad k, .inl (cA, x))]) C.ex C.by C.k (bj_one (hW.1 k _ hM)) 0 t rfl ht hv d (kk p e s m ar be me c A H lo ls C hW hS hl)
theorem bj_iast {x y : Int32} {k j N : Nat} {cA : ClassId} {f : Nat → Int32} (d : decode Y.2.2.1 pc = .ok (.iastore, 1)) (t : Nat) (ht : G.2.2.2.1[t]? = some (cA, .int)) (hM : M k = some (.inl (cA, N, .inl f))) (hx : x = nI j) (hj : j < N) (hN : N < 2 ^ 31)
    (kk : bj_S G Y n K ad Q cs sl (pc + 1) L st (va_up M k (some (.inl (cA, N, .inl (va_up f j y)))))) : bj_S G Y n K ad Q cs sl pc L (.int y :: .int x :: .ref (ad k) :: st) M := by
  subst hx
  intro p e s m ar be me c A H lo ls C hW hS hl
  have e9 : (nI j).toNatClampNeg = j := nI_clamp (Nat.lt_trans hj hN)
  have hcell : H[ad k]? = some (vp_cell cA (N, .inl f)) := hW.1 k _ hM
  refine W.iast C.ex C.by hcell ((C.k.2 t _ ht).1 N (fun j => .int (f j))) (fun z => by cases z) (by rw [vp_cell_i, arrV_size]; exact vp_in_nI hj hN) rfl rfl d fun H1 e1 z oq => ?_
  refine kk p e s m ar be me c A H1 _ ls C (hW.set hM ?_ oq) (hS.put z oq (hW.2.2 k (bj_ne hM))) hl
  show H1[ad k]? = some (vp_cell _ _)
  rw [e1, e9, vp_cell_i, vp_cell_i, arrV_store]
  congr 2
  funext q
  by_cases hq : q = j
  · subst hq
    simp [updV, va_up]
  · simp [updV, va_up, hq]
theorem bj_zast {x y : Int32} {k j N : Nat} {cA : ClassId} {f : Nat → Int32} (d : decode Y.2.2.1 pc = .ok (.bastore, 1)) (t : Nat) (ht : G.2.2.2.1[t]? = some (cA, .boolean)) (hM : M k = some (.inl (cA, N, .inl f))) (hx : x = nI j) (hj : j < N) (hN : N < 2 ^ 31) (hy : narrow .boolean (.int y) = .int y)
    (kk : bj_S G Y n K ad Q cs sl (pc + 1) L st (va_up M k (some (.inl (cA, N, .inl (va_up f j y)))))) : bj_S G Y n K ad Q cs sl pc L (.int y :: .int x :: .ref (ad k) :: st) M := by
  subst hx
  intro p e s m ar be me c A H lo ls C hW hS hl
  have e9 : (nI j).toNatClampNeg = j := nI_clamp (Nat.lt_trans hj hN)
  have hcell : H[ad k]? = some (vp_cell cA (N, .inl f)) := hW.1 k _ hM
  refine W.zast C.ex C.by hcell ((C.k.2 t _ ht).1 N (fun j => .int (f j))) (fun z => by cases z) (by rw [vp_cell_i, arrV_size]; exact vp_in_nI hj hN) rfl rfl d fun H1 e1 z oq => ?_
  refine kk p e s m ar be me c A H1 _ ls C (hW.set hM ?_ oq) (hS.put z oq (hW.2.2 k (bj_ne hM))) hl
  show H1[ad k]? = some (vp_cell _ _)
  rw [e1, e9, hy, vp_cell_i, vp_cell_i, arrV_store]
  congr 2
  funext q
  by_cases hq : q = j
  · subst hq
    simp [updV, va_up]
  · simp [updV, va_up, hq]
theorem bj_last {x : Int32} {y : Int64} {k j N : Nat} {cA : ClassId} {f : Nat → Int64} (d : decode Y.2.2.1 pc = .ok (.lastore, 1)) (t : Nat) (ht : G.2.2.2.1[t]? = some (cA, .long)) (hM : M k = some (.inl (cA, N, .inr (.inl f)))) (hx : x = nI j) (hj : j < N) (hN : N < 2 ^ 31)
    (kk : bj_S G Y n K ad Q cs sl (pc + 1) L st (va_up M k (some (.inl (cA, N, .inr (.inl (va_up f j y))))))) : bj_S G Y n K ad Q cs sl pc L (.long y :: .int x :: .ref (ad k) :: st) M := by
  subst hx
  intro p e s m ar be me c A H lo ls C hW hS hl
  have e9 : (nI j).toNatClampNeg = j := nI_clamp (Nat.lt_trans hj hN)
  have hcell : H[ad k]? = some (vp_cell cA (N, .inr (.inl f))) := hW.1 k _ hM
  refine W.last C.ex C.by hcell ((C.k.2 t _ ht).1 N (fun j => .long (f j))) (fun z => by cases z) (by rw [vp_cell_l, arrV_size]; exact vp_in_nI hj hN) rfl rfl d fun H1 e1 z oq => ?_
  refine kk p e s m ar be me c A H1 _ ls C (hW.set hM ?_ oq) (hS.put z oq (hW.2.2 k (bj_ne hM))) hl
  show H1[ad k]? = some (vp_cell _ _)
  rw [e1, e9, vp_cell_l, vp_cell_l, arrV_store]
  congr 2
  funext q
  by_cases hq : q = j
  · subst hq
    simp [updV, va_up]
  · simp [updV, va_up, hq]
end BC
end
section
/-! the judgement's rows: calls; a callee's body is entered, its contract used, and the caller goes on behind it, or is left by the exception -/
section BK
theorem bj_wk {tb : Tables} {e : Env} {f : Frame} {below : List Frame} {a b : State} (h : Steps tb e (f :: below) a b) : Steps tb e below a b := by
  obtain ⟨n, h1, h2⟩ := h
  exact ⟨n, h1, fun k hk => Within.weaken (mid := [f]) (h2 k hk)⟩
/-- the locals at a method's start -/
theorem bj_start (av : List Value) {n : Nat} (hc : ∀ v ∈ av, v.category = 1) (hn : av.length ≤ n) : bj_L ((av.map Slot.val ++ List.replicate (n - av.length) Slot.unset).toArray) n (av.map some ++ List.replicate (n - av.length) none) := by
  have key : ∀ (i : Nat) (z : Slot), ((av.map Slot.val ++ List.replicate (n - av.length) Slot.unset).toArray)[i]? = some z → (∃ v, v ∈ av ∧ z = .val v) ∨ z = .unset := by
    intro i z h
    rw [List.getElem?_toArray] at h
    rcases List.mem_append.mp (List.mem_of_getElem? h) with h1 | h1
    · obtain ⟨v, hv, rfl⟩ := List.mem_map.mp h1
      exact Or.inl ⟨v, hv, rfl⟩
    · exact Or.inr (List.eq_of_mem_replicate h1)
  refine ⟨⟨by simp; omega, ⟨fun i v h h2 => ?_, fun i h => ?_⟩, fun _ h => by cases h⟩, by simp; omega, fun i v h => ?_⟩
  · rcases key i _ h with ⟨w, hw, e⟩ | e
    · cases e
      have := hc v hw
      omega
    · cases e
  · rcases key i _ h with ⟨w, hw, e⟩ | e
    · cases e
    · cases e
  · by_cases hi : i < av.length
    · rw [List.getElem?_append_left (by simpa using hi), List.getElem?_map] at h
      rw [List.getElem?_toArray, List.getElem?_append_left (by simpa using hi), List.getElem?_map]
      cases hv : av[i]? with
      | none => rw [hv] at h; cases h
      | some w =>
        rw [hv] at h
        cases h
        exact ⟨rfl, hc _ (List.mem_of_getElem? hv)⟩
    · rw [List.getElem?_append_right (by simp; omega)] at h
      have := List.eq_of_mem_replicate (List.mem_of_getElem? h)
      cases this
/-- a method as the tables have it -/
def bj_H (Yk : bj_Y) (s : State) (mk : MethodId) : Prop := s.methodNamed? Yk.2.1 = some mk ∧ ∃ (methk : Method) (ck : Code), s.vm.method? mk = some methk ∧ methk.code = some ck ∧ ck.code = Yk.2.2.1 ∧ ck.maxLocals = Yk.2.2.2.1 ∧ methk.sig.returnType = Yk.2.2.2.2.1 ∧ methk.locks = false ∧ ck.exceptionTable.toList = tableOf Yk.2.2.2.2.2 ∧ parseMethodDescriptor Yk.2.1.desc = some methk.sig
/-- its word: with handlers, or without -/
def bj_cw (Yk : bj_Y) (TB : List Cond) : Prop := (Yk.2.2.2.2.2 = [] ∧ Cond.code Yk.2.1 Yk.2.2.1 Yk.2.2.2.1 Yk.2.2.2.2.1 ∈ TB) ∨ Cond.codeWith Yk.2.1 Yk.2.2.1 Yk.2.2.2.1 Yk.2.2.2.2.1 Yk.2.2.2.2.2 ∈ TB
theorem bj_has {Yk : bj_Y} {TB : List Cond} {args : Array Value} {s : State} (h : bj_cw Yk TB) (ht : ∀ w ∈ TB, w.before args s = true) : ∃ mk, bj_H Yk s mk := by
  rcases h with ⟨h0, h⟩ | h
  · obtain ⟨mk, hn⟩ := Cond.code_named (ht _ h)
    obtain ⟨methk, ck, h1, h2, h3, h4, h5, h6, h7, h8⟩ := Cond.code_spec hn (ht _ h)
    refine ⟨mk, hn, methk, ck, h1, h2, h3, h4, h5, h6, ?_, h8⟩
    rw [h0, Array.isEmpty_iff.mp h7]
    rfl
  · obtain ⟨mk, methk, ck, hn, h1, h2, h3, h4, h5, h6, h7, h8⟩ := Cond.codeWith_spec (ht _ h)
    refine ⟨mk, hn, methk, ck, h1, h2, h3, h4, h6, h7, ?_, h8⟩
    rw [← h5, table_eq]
/-- a callee's run, seen by its caller -/
theorem bj_run {G : bj_G} {Y Yk : bj_Y} {n nk : Nat} {K Kk : bj_K} {ad : Nat → Nat} {Qk : bj_R → bj_M → Prop} {cs sl : Nat} {M : bj_M} {A : Nat → Prop} {p : Program} {e : Env} {s U : State} {m mk : MethodId} {ar : Array Value} {be : List Frame} {me : Method} {c : Code} {lo : List Loc} {av : List Value} {g : JFrame} {ig : Instr}
    (X : Stand p G.1 e (bj_room n K) s m ar be me c U lo cs sl) (C : bj_C G Y A p s m ar me c) (hW : bj_W G ad M A U.heap) (hS : va_S A s.heap U.heap lo) (hT : bj_T G Yk nk Kk ad Qk av M)
    (hH : bj_H Yk s mk) (hown : Yk.1 = Yk.2.1.cls) (hpl : plainFor Yk.2.1 = true) (hav : ∀ v ∈ av, v.category = 1) (hlen : av.length ≤ Yk.2.2.2.1) (hn : nk + 1 ≤ n) (hml : Yk.2.2.2.1 ≤ 17)
    (hc : cs + (Kk.1 + Kk.2.2.1) ≤ K.1 + K.2.2.1) (hs : sl + (Kk.2.1 + Kk.2.2.2) ≤ K.2.1 + K.2.2.2)
    (hg : g.method = m) (hsize : g.locals.size = c.maxLocals) (hdg : decode c.code g.pc = .ok (ig, 3)) (hroom : 2 * g.monitorRoom + (g.stack.map fun v => v.category).sum ≤ 8) :
    ∃ t : State, (∀ acts, Steps p.tables e be (doInvoke e (U.setTop g) acts mk av.toArray).1 t) ∧
      ((∃ (v : Option Value) (M' : bj_M) (T' : State) (L' : List Loc), Qk (.inl v) M' ∧ bj_W G ad M' A T'.heap ∧ va_S A s.heap T'.heap (lo ++ L') ∧ Stand p G.1 e (bj_room n K) s m ar be me c T' (lo ++ L') (cs + Kk.1) (sl + Kk.2.1) ∧ t = T'.setTop { g with pc := g.pc + 3, stack := v.toList ++ g.stack }) ∨
       (∃ (x : Addr) (E : String) (ce : Cell) (M' : bj_M) (T' : State) (L' : List Loc), Qk (.inr E) M' ∧ bj_W G ad M' A T'.heap ∧ va_S A s.heap T'.heap (lo ++ L') ∧ T'.heap[x]? = some ce ∧ ce.vm = .none ∧ s.vm.findClass E = some ce.cls ∧ Stand p G.1 e (bj_room n K) s m ar be me c T' (lo ++ L') (cs + Kk.2.2.1) (sl + Kk.2.2.2) ∧ t = (T'.setTop g).pushFrame (.throwing x))) := by
  obtain ⟨hnm, methk, ck, h1, h2, h3, h4, h5, h6, h7, h8⟩ := hH
  have hal : s.vm.Alike U.vm := X.warmed.alike
  have hmU : U.vm.method? mk = some methk := by rw [hal.method?]; exact h1
  have hpk : U.plainMethod mk := State.plainMethod.of_named hpl (X.named hnm) hmU
  obtain ⟨Yst, hst⟩ := X.into (g := g) hg hsize hdg (mk := mk) (methk := methk) (ck := ck) av.toArray (R' := bj_room nk Kk) hmU h2 h6 hpk (by show nk + 1 ≤ n; omega)
    (by show 2 * g.monitorRoom + (g.stack.map fun v => v.category).sum + (ck.maxLocals + 11) + 36 * nk ≤ 36 * n; rw [h4]; omega) hc hs
  have hheap : (U.calling g mk av.toArray).heap = U.heap := rfl
  have Ck : bj_C G Yk A p (U.calling g mk av.toArray) mk av.toArray methk ck := by
    refine ⟨C.ex, h3, h4, ?_, h5, h6, (name_of_methodNamed hnm h1).1, h7, ?_, fun q hq => C.up q (Nat.le_trans hS.1 hq)⟩
    · show U.vm.findClass Yk.1 = some mk.cls
      rw [hal.findClass, hown]
      exact findClass_of_methodNamed hnm
    · exact C.fc.go X.warmed hS.1 hS.2.1
  have w := hT p e (U.calling g mk av.toArray) mk av.toArray (.java g :: be) methk ck A U.heap [] _ Ck hW va_S.rf (bj_start av hav hlen)
  obtain ⟨t, hs1, o, hrun, hend, hq⟩ := w ((U.setTop g).pushFrame (.java (entryFrame mk av.toArray ck.maxLocals))) rfl Yst
  refine ⟨t, fun acts => ?_, ?_⟩
  · rw [hst acts, h4, entry_eq mk av hav]
    rw [h4, entry_eq mk av hav] at hs1
    exact bj_wk hs1
  · rcases hq with ⟨v, M', L', rfl, hq1, hq2, hF, hw, hsm, hL⟩ | ⟨x, E, ce, M', L', rfl, hq1, hq2, hF, hce, hcv, hcl, hw, hsm, hL⟩
    · obtain ⟨T', X', -, -, ht⟩ := X.outOf hg hdg hend hw hsm
      have hh : t.heap = T'.heap := by rw [ht]; rfl
      refine Or.inl ⟨v, M', T', L', hq1, by rw [← hh]; exact hq2, ?_, X', ht⟩
      rw [← hh]
      exact ⟨Nat.le_trans hS.1 hF.1, fun q h9 hA => (hF.2 q (Nat.lt_of_lt_of_le h9 hS.1) hA).trans (hS.2.1 q h9 hA), fun q hq => by
        rcases List.mem_append.mp hq with h | h
        · exact hS.2.2 q h
        · exact hL q h⟩
    · obtain ⟨T', X', -, -, ht⟩ := X.outOfThrown hg hend hw hsm
      have hh : t.heap = T'.heap := by rw [ht]; rfl
      refine Or.inr ⟨x, E, ce, M', T', L', hq1, by rw [← hh]; exact hq2, ?_, by rw [← hh]; exact hce, hcv, ?_, X', ht⟩
      · rw [← hh]
        exact ⟨Nat.le_trans hS.1 hF.1, fun q h9 hA => (hF.2 q (Nat.lt_of_lt_of_le h9 hS.1) hA).trans (hS.2.1 q h9 hA), fun q hq => by
          rcases List.mem_append.mp hq with h | h
          · exact hS.2.2 q h
          · exact hL q h⟩
      · have h9 : U.vm.findClass E = some ce.cls := hcl
        rw [hal.findClass] at h9
        exact h9
/-- an exception of class E stands over the body at pc -/
def bj_X (G : bj_G) (Y : bj_Y) (n : Nat) (K : bj_K) (ad : Nat → Nat) (Q : bj_R → bj_M → Prop) (cs sl pc : Nat) (L : List (Option Value)) (E : String) (M : bj_M) : Prop :=
  ∀ (p : Program) (e : Env) (s : State) (m : MethodId) (args : Array Value) (below : List Frame) (meth : Method) (c : Code) (A : Nat → Prop) (H : Heap) (locs : List Loc) (ls : Array Slot) (x : Addr) (ce : Cell) (st : List Value) (T : State),
    bj_C G Y A p s m args meth c → bj_W G ad M A H → va_S A s.heap H locs → bj_L ls Y.2.2.2.1 L → H[x]? = some ce → ce.vm = .none → s.vm.findClass E = some ce.cls → T.heap = H → Stand p G.1 e (bj_room n K) s m args below meth c T locs cs sl →
    ∃ t, Steps p.tables e below ((T.setTop (F0 m pc ls st)).pushFrame (.throwing x)) t ∧ bj_Q G ad Q K A below s t
section Rows
variable {G : bj_G} {Y Yk : bj_Y} {n nk : Nat} {K Kk : bj_K} {ad : Nat → Nat} {Q Qk : bj_R → bj_M → Prop} {cs sl pc index : Nat} {L : List (Option Value)} {st st0 av : List Value} {M : bj_M}
/-- what every call asks -/
def bj_ok (Yk : bj_Y) (av : List Value) (nk n : Nat) (K Kk : bj_K) (cs sl : Nat) (st : List Value) : Prop :=
  Yk.1 = Yk.2.1.cls ∧ plainFor Yk.2.1 = true ∧ (∀ v ∈ av, v.category = 1) ∧ av.length ≤ Yk.2.2.2.1 ∧ nk + 1 ≤ n ∧ Yk.2.2.2.1 ≤ 17 ∧ cs + (Kk.1 + Kk.2.2.1) ≤ K.1 + K.2.2.1 ∧ sl + (Kk.2.1 + Kk.2.2.2) ≤ K.2.1 + K.2.2.2 ∧ (st.map fun v => v.category).sum ≤ 8 ∧ (Yk.2.1.cls ≠ "java/lang/invoke/MethodHandle" ∧ Yk.2.1.cls ≠ "java/lang/invoke/VarHandle")
theorem bj_back {p : Program} {e : Env} {s T U : State} {m mk : MethodId} {ar : Array Value} {be : List Frame} {me : Method} {c : Code} {A : Nat → Prop} {lo : List Loc} {ls : Array Slot} {ig : Instr} {g0 : JFrame}
    (X : Stand p G.1 e (bj_room n K) s m ar be me c U lo cs sl) (C : bj_C G Y A p s m ar me c) (hW : bj_W G ad M A U.heap) (hS : va_S A s.heap U.heap lo) (hl : bj_L ls Y.2.2.2.1 L) (hT : bj_T G Yk nk Kk ad Qk av M) (hH : bj_H Yk s mk) (ok : bj_ok Yk av nk n K Kk cs sl st)
    (hdg : decode c.code pc = .ok (ig, 3)) (step : ∀ target, (∀ acts, Steps p.tables e be (doInvoke e (U.setTop (F0 m pc ls st)) acts mk av.toArray).1 target) → Steps p.tables e be (T.setTop g0) target)
    (kr : ∀ v M', Qk (.inl v) M' → bj_S G Y n K ad Q (cs + Kk.1) (sl + Kk.2.1) (pc + 3) L (v.toList ++ st) M') (kx : ∀ E M', Qk (.inr E) M' → bj_X G Y n K ad Q (cs + Kk.2.2.1) (sl + Kk.2.2.2) pc L E M') : ∃ t, Steps p.tables e be (T.setTop g0) t ∧ bj_Q G ad Q K A be s t := by
  obtain ⟨o1, o2, o3, o4, o5, o6, o7, o8, o9, -⟩ := ok
  obtain ⟨t, ht, h⟩ := bj_run (g := F0 m pc ls st) X C hW hS hT hH o1 o2 o3 o4 o5 o6 o7 o8 rfl (hl.1.1.trans C.ml.symm) hdg (by show 2 * 0 + (st.map fun v => v.category).sum ≤ 8; omega)
  have h0 := step t ht
  rcases h with ⟨v, M', T', L', q1, q2, q3, q4, rfl⟩ | ⟨x, E, ce, M', T', L', q1, q2, q3, q5, q6, q7, q4, rfl⟩
  · obtain ⟨t2, a1, b1⟩ := kr v M' q1 p e s m ar be me c A T'.heap _ ls C q2 q3 hl T' rfl q4
    exact ⟨t2, h0.trans a1, b1⟩
  · obtain ⟨t2, a1, b1⟩ := kx E M' q1 p e s m ar be me c A T'.heap _ ls x ce st T' C q2 q3 hl q5 q6 q7 rfl q4
    exact ⟨t2, h0.trans a1, b1⟩
theorem bj_callS (d : decode Y.2.2.1 pc = .ok (.invokestatic index, 3)) (hT : bj_T G Yk nk Kk ad Qk av M) (w1 : Cond.methodLink Y.1 index Yk.2.1 ∈ G.2.2.2.2) (w2 : Cond.static Yk.2.1 ∈ G.2.2.2.2) (w3 : Cond.initialized Yk.2.1.cls ∈ G.2.2.2.2) (w4 : bj_cw Yk G.2.2.2.2)
    (hlen : (parseMethodDescriptor Yk.2.1.desc).map (fun d => d.parameters.length) = some av.length) (ok : bj_ok Yk av nk n K Kk cs sl st) (hst : st0 = av.reverse ++ st)
    (kr : ∀ v M', Qk (.inl v) M' → bj_S G Y n K ad Q (cs + Kk.1) (sl + Kk.2.1) (pc + 3) L (v.toList ++ st) M') (kx : ∀ E M', Qk (.inr E) M' → bj_X G Y n K ad Q (cs + Kk.2.2.1) (sl + Kk.2.2.2) pc L E M') : bj_S G Y n K ad Q cs sl pc L st0 M := by
  subst hst
  intro p e s m ar be me c A H lo ls C hW hS hl T hTh X
  subst hTh
  obtain ⟨mk, hH⟩ := bj_has w4 C.ts
  obtain ⟨hnm, methk, ck, h1, h2, h3, h4, h5, h6, h7, h8⟩ := id hH
  have hstat : methk.isStatic = true := Cond.static_spec hnm h1 (C.ts _ w2)
  obtain ⟨kP, hkP, -⟩ := className_of_methodNamed hnm
  have hinit : kP.init = .initialized := Cond.initialized_spec (findClass_of_methodNamed hnm) hkP (C.ts _ w3)
  have hln : av.length = methk.sig.parameters.length := by rw [h8] at hlen; exact (Option.some.inj hlen).symm
  have hdg : decode c.code pc = .ok (.invokestatic index, 3) := by rw [C.by]; exact d
  obtain ⟨vm₁, X₁, hstep⟩ := X.invokestatic C.ex C.ow (C.ts _ w1) hnm h1 hstat hkP hinit ok.2.2.2.2.2.2.2.2.2 (g := F0 m pc ls (av.reverse ++ st)) rfl (argsL := av) (rest := st) hln rfl hdg
  exact bj_back X₁ C hW hS hl hT hH ok hdg hstep kr kx
theorem bj_callSN {host : String} (d : decode Y.2.2.1 pc = .ok (.invokestatic index, 3)) (hT : bj_T G Yk nk Kk ad Qk av M) (w1 : Cond.methodLinkNest Y.1 index Yk.2.1 host ∈ G.2.2.2.2) (w2 : Cond.static Yk.2.1 ∈ G.2.2.2.2) (w3 : Cond.initialized Yk.2.1.cls ∈ G.2.2.2.2) (w4 : bj_cw Yk G.2.2.2.2)
    (hlen : (parseMethodDescriptor Yk.2.1.desc).map (fun d => d.parameters.length) = some av.length) (ok : bj_ok Yk av nk n K Kk cs sl st) (hst : st0 = av.reverse ++ st)
    (kr : ∀ v M', Qk (.inl v) M' → bj_S G Y n K ad Q (cs + Kk.1) (sl + Kk.2.1) (pc + 3) L (v.toList ++ st) M') (kx : ∀ E M', Qk (.inr E) M' → bj_X G Y n K ad Q (cs + Kk.2.2.1) (sl + Kk.2.2.2) pc L E M') : bj_S G Y n K ad Q cs sl pc L st0 M := by
  subst hst
  intro p e s m ar be me c A H lo ls C hW hS hl T hTh X
  subst hTh
  obtain ⟨mk, hH⟩ := bj_has w4 C.ts
  obtain ⟨hnm, methk, ck, h1, h2, h3, h4, h5, h6, h7, h8⟩ := id hH
  have hstat : methk.isStatic = true := Cond.static_spec hnm h1 (C.ts _ w2)
  obtain ⟨kP, hkP, -⟩ := className_of_methodNamed hnm
  have hinit : kP.init = .initialized := Cond.initialized_spec (findClass_of_methodNamed hnm) hkP (C.ts _ w3)
  have hln : av.length = methk.sig.parameters.length := by rw [h8] at hlen; exact (Option.some.inj hlen).symm
  have hdg : decode c.code pc = .ok (.invokestatic index, 3) := by rw [C.by]; exact d
  obtain ⟨vm₁, X₁, hstep⟩ := X.invokestaticNest C.ex C.ow (C.ts _ w1) hnm h1 hstat hkP hinit ok.2.2.2.2.2.2.2.2.2 (g := F0 m pc ls (av.reverse ++ st)) rfl (argsL := av) (rest := st) hln rfl hdg
  exact bj_back X₁ C hW hS hl hT hH ok hdg hstep kr kx
theorem bj_callV {k ci : Nat} {fs as : List Value} {r : vw_C} (d : decode Y.2.2.1 pc = .ok (.invokevirtual index, 3)) (hT : bj_T G Yk nk Kk ad Qk (.ref (ad k) :: as) M) (w1 : Cond.methodLink Y.1 index Yk.2.1 ∈ G.2.2.2.2) (w2 : Cond.instanceMethod Yk.2.1 ∈ G.2.2.2.2) (w3 : Cond.selects Yk.2.1.cls Yk.2.1 Yk.2.1 ∈ G.2.2.2.2) (w4 : bj_cw Yk G.2.2.2.2)
    (hlen : (parseMethodDescriptor Yk.2.1.desc).map (fun d => d.parameters.length) = some as.length) (ok : bj_ok Yk (.ref (ad k) :: as) nk n K Kk cs sl st) (hst : st0 = as.reverse ++ .ref (ad k) :: st) (hM : M k = some (.inr (ci, fs))) (hc : G.2.2.1[ci]? = some r) (hr : r.1 = Yk.2.1.cls)
    (kr : ∀ v M', Qk (.inl v) M' → bj_S G Y n K ad Q (cs + Kk.1) (sl + Kk.2.1) (pc + 3) L (v.toList ++ st) M') (kx : ∀ E M', Qk (.inr E) M' → bj_X G Y n K ad Q (cs + Kk.2.2.1) (sl + Kk.2.2.2) pc L E M') : bj_S G Y n K ad Q cs sl pc L st0 M := by
  subst hst
  intro p e s m ar be me c A H lo ls C hW hS hl T hTh X
  subst hTh
  obtain ⟨mk, hH⟩ := bj_has w4 C.ts
  obtain ⟨hnm, methk, ck, h1, h2, h3, h4, h5, h6, h7, h8⟩ := id hH
  obtain ⟨mk2, meth2, hnm2, h12, hst2, hab⟩ := Cond.instanceMethod_spec (C.ts _ w2)
  cases hnm.symm.trans hnm2
  cases h1.symm.trans h12
  obtain ⟨r', hr', cellB, g1, g2, g3, -⟩ := hW.1 k _ hM
  have hfc : s.vm.findClass Yk.2.1.cls = some cellB.cls := by
    rw [g2, ← hr]
    exact (C.k.1 ci r hc).2.1
  obtain ⟨c2, r2, m2, q1, q2, q3, q4, kP, hkP, hkPi⟩ := Cond.selects_spec (C.ts _ w3)
  cases hfc.symm.trans q1
  cases (State.methodFound?_of_named hnm ok.2.2.2.2.2.2.2.2.2).symm.trans q2
  cases hnm.symm.trans q3
  have hselP : selectMethod e.platform s.vm cellB.cls mk = .method mk := by rw [Launch.admits_selectMethod X.admits]; exact q4
  have hln : as.length = methk.sig.parameters.length := by rw [h8] at hlen; exact (Option.some.inj hlen).symm
  have hdg : decode c.code pc = .ok (.invokevirtual index, 3) := by rw [C.by]; exact d
  obtain ⟨vm₁, X₁, hstep⟩ := X.invokevirtual C.ex C.ow (C.ts _ w1) hnm h1 hst2 hkP hkPi ok.2.2.2.2.2.2.2.2.2 (a := ad k) (cell := cellB) g1 (fun z h => by rw [g3] at h; cases h) hselP h1 hab hkP hkPi (g := F0 m pc ls (as.reverse ++ .ref (ad k) :: st)) rfl (argsL := as) (rest := st) hln rfl hdg
  exact bj_back X₁ C hW hS hl hT hH ok hdg hstep kr kx
theorem bj_callI {k : Nat} {as : List Value} (d : decode Y.2.2.1 pc = .ok (.invokespecial index, 3)) (hT : bj_T G Yk nk Kk ad Qk (.ref k :: as) M) (w1 : Cond.methodLink Y.1 index Yk.2.1 ∈ G.2.2.2.2) (w2 : Cond.instanceMethod Yk.2.1 ∈ G.2.2.2.2) (w4 : Cond.code Yk.2.1 Yk.2.2.1 Yk.2.2.2.1 none ∈ G.2.2.2.2) (hh : Yk.2.2.2.2.2 = []) (hrt : Yk.2.2.2.2.1 = none) (hnm0 : Yk.2.1.name = "<init>")
    (hlen : (parseMethodDescriptor Yk.2.1.desc).map (fun d => d.parameters.length) = some as.length) (ok : bj_ok Yk (.ref k :: as) nk n K Kk cs sl st) (hst : st0 = as.reverse ++ .ref k :: st)
    (kr : ∀ v M', Qk (.inl v) M' → bj_S G Y n K ad Q (cs + Kk.1) (sl + Kk.2.1) (pc + 3) L (v.toList ++ st) M') (kx : ∀ E M', Qk (.inr E) M' → bj_X G Y n K ad Q (cs + Kk.2.2.1) (sl + Kk.2.2.2) pc L E M') : bj_S G Y n K ad Q cs sl pc L st0 M := by
  subst hst
  intro p e s m ar be me c A H lo ls C hW hS hl T hTh X
  subst hTh
  obtain ⟨mk, hH⟩ := bj_has (Yk := Yk) (TB := G.2.2.2.2) (Or.inl ⟨hh, by rw [hrt]; exact w4⟩) C.ts
  obtain ⟨hnm, methk, ck, h1, h2, h3, h4, h5, h6, h7, h8⟩ := id hH
  have hpl : e.platform.magicAccessors = ({} : Platform).magicAccessors := by rw [X.admits.platform]
  have hdg : decode c.code pc = .ok (.invokespecial index, 3) := by rw [C.by]; exact d
  obtain ⟨mk2, methM, cM, kP, vm₁, hnamed, -, -, -, -, -, -, -, hW₁, hstep⟩ := Steps.initColdArgs (e := e) X.here C.ex X.warmed hpl C.ow hnm0 ok.2.2.2.2.2.2.2.2.2 (C.ts _ w1) (C.ts _ w2) (C.ts _ w4) (f := F0 m pc ls (as.reverse ++ .ref k :: st)) rfl (a := k) (argsL := as) (rest := st) (fun sig h => by rw [h] at hlen; exact (Option.some.inj hlen).symm) rfl hdg
  cases hnm.symm.trans hnamed
  exact bj_back (X.noted hW₁) C hW hS hl hT hH ok hdg hstep kr kx
end Rows
end BK
end
section
/-! the judgement's rows: exceptions made and thrown, that leave a body, that are caught in it -/
section BT
/-- the same frame, looked at from here on -/
theorem bj_rebase {p : Program} {l : Launch} {e : Env} {R R' : Room} {s T : State} {m : MethodId} {args : Array Value} {below : List Frame} {meth : Method} {c : Code} {locs : List Loc} {cells slots : Nat} (X : Stand p l e R s m args below meth c T locs cells slots) (hf : R'.frames ≤ R.frames) (hl : R'.locals ≤ R.locals) (hc : cells + R'.cells ≤ R.cells) (hs : slots + R'.slots ≤ R.slots) :
    Stand p l e R' ((T.setVm s.vm).setFrames (.invoking m args :: below)) m args below meth c T [] 0 0 := by
  have htop : (T.setVm s.vm).topJava?.isSome := X.here.top
  have hcur : (T.setVm s.vm).cur < (T.setVm s.vm).threads.size := State.cur_lt_of_top htop
  have hF : ((T.setVm s.vm).setFrames (.invoking m args :: below)).frames = .invoking m args :: below := State.frames_setFrames _ hcur
  have hloc : ((T.setVm s.vm).setFrames (.invoking m args :: below)).localsInUse = s.localsInUse := by
    rw [State.localsInUse_invoking hF (meth := meth) (c := c) X.method X.code, State.localsInUse_invoking X.frames X.method X.code]
  obtain ⟨g₀, hfr⟩ := X.frames_eq
  obtain ⟨th, hth, -⟩ := State.frames_cons hfr
  obtain ⟨th', hth', -⟩ := State.frames_cons hF
  have hlim : e.platform.stackLimits ((T.setVm s.vm).setFrames (.invoking m args :: below)).me = e.platform.stackLimits s.me := by
    rw [State.stackLimits_setFrames]; exact X.limits
  have hby : ((T.setVm s.vm).setFrames (.invoking m args :: below)).me.stackBytes = s.me.stackBytes := by
    rw [State.stackBytes_setFrames]; exact X.bytes
  have hroom : ((T.setVm s.vm).setFrames (.invoking m args :: below)).hasRoom e.platform R' = true := by
    have h := X.room
    have q1 := X.heapSize
    have q2 := X.used
    have q3 := X.book
    simp only [State.hasRoom, Bool.and_eq_true, decide_eq_true_eq] at h ⊢
    obtain ⟨⟨⟨⟨h1, h2, h3, h4, h5, h6⟩, h7⟩, h8⟩, h9⟩ := h
    rw [X.frames] at h2 h3
    rw [hF, hloc, hlim, hby]
    refine ⟨⟨⟨⟨by omega, by omega, by omega, by omega, by omega, h6⟩, ?_⟩, ?_⟩, q3⟩
    · show T.heap.size + R'.cells ≤ e.platform.maxCells
      omega
    · show T.slotsUsed + R'.slots ≤ e.platform.maxSlots
      omega
  have hsame : ((T.setVm s.vm).setFrames (.invoking m args :: below)).sameButNew (T.setVm s.vm) [] 0 0 := by
    have h := (State.sameButNew.refl ((T.setVm s.vm).setFrames (.invoking m args :: below)) hth').setFrames (T.setVm s.vm).frames (State.cur_lt_of_frames hF)
    rw [State.setFrames_setFrames, State.setFrames_self (s := T.setVm s.vm) hth] at h
    exact h
  exact ⟨X.admits, X.cas, X.clock, hF, hroom, X.hears, X.method, X.code, X.here, X.tail, X.warmed, X.limits.trans hlim.symm, X.bytes.trans hby.symm, hsame⟩
/-- where nothing old was written, every old cell is what it was -/
theorem bj_old {s U : State} {k n : Nat} (h : s.sameButNew ({ U with vm := s.vm } : State) [] k n) : s.heap.size ≤ U.heap.size ∧ ∀ q : Nat, q < s.heap.size → U.heap[q]? = s.heap[q]? := by
  obtain ⟨-, h2, -, -, -, h6⟩ := h
  refine ⟨h2, fun q hq => ?_⟩
  obtain ⟨x, hx⟩ : ∃ x, s.heap[q]? = some x := ⟨s.heap[q], Array.getElem?_eq_getElem hq⟩
  obtain ⟨x', hx', e1, e2, e3⟩ := h6 q x hx
  have e4 : x'.slots = x.slots := Array.ext_getElem? (fun i => e3 i (fun z => by cases z))
  rw [e4] at e1
  have hU : U.heap[q]? = some x' := hx'
  rw [hU, hx, e1]
section Rows
variable {G : bj_G} {Y : bj_Y} {n : Nat} {K : bj_K} {ad : Nat → Nat} {Q : bj_R → bj_M → Prop} {cs sl pc : Nat} {L : List (Option Value)} {st : List Value} {M : bj_M}
set_option maxHeartbeats 4000000 in
/-- throw new E("text") -/
theorem bj_throw {cls text : String} {names : List String} {ik is ic : Nat} (d0 : decode Y.2.2.1 pc = .ok (.new ik, 3)) (d3 : decode Y.2.2.1 (pc + 3) = .ok (.dup, 1)) (d4 : decode Y.2.2.1 (pc + 4) = .ok (.ldc is, 2)) (d6 : decode Y.2.2.1 (pc + 6) = .ok (.invokespecial ic, 3)) (d9 : decode Y.2.2.1 (pc + 9) = .ok (.athrow, 1))
    (htr0 : G.1.stackTraces = false) (hcls : Bundle.fit cls = true) (hnames : ∀ x ∈ names, Bundle.fit x = true) (hnl : names.length ≤ 2) (hn6 : 6 ≤ n) (w1 : Cond.classLink Y.1 ik cls ∈ G.2.2.2.2) (w2 : Cond.initialized cls ∈ G.2.2.2.2) (w3 : Cond.stringRef Y.1 is text ∈ G.2.2.2.2) (w4 : ∀ w ∈ Bundle.ownAtoms Y.1 ic cls names, w ∈ G.2.2.2.2)
    (hout : ∀ x ∈ tableOf Y.2.2.2.2.2, covers x (pc + 9) = false) (hc : cs + 1 ≤ K.2.2.1) (hs : sl + 6 ≤ K.2.2.2) (hst : (st.map fun v => v.category).sum ≤ 8) (hq : Q (.inr cls) M) : bj_S G Y n K ad Q cs sl pc L st M := by
  intro p e s m ar be me c A H lo ls C hW hS hl T hT X
  subst hT
  have htr : e.platform.stackTraces = false := (show e.platform.stackTraces = G.1.stackTraces by rw [X.admits.platform]).trans htr0
  have Xb := bj_rebase X (R' := { frames := n, locals := 36 * n, cells := 1, slots := 6 }) (Nat.le_refl _) (Nat.le_refl _) (by show cs + 1 ≤ K.1 + K.2.2.1; omega) (by show sl + 6 ≤ K.2.1 + K.2.2.2; omega)
  have hw : ∀ w ∈ G.2.2.2.2, w.before ar ((T.setVm s.vm).setFrames (.invoking m ar :: be)) = true := (C.fc ((T.setVm s.vm).setFrames (.invoking m ar :: be)) ar (State.WarmedH.refl s) hS.1 hS.2.1).1
  have hown : ((T.setVm s.vm).setFrames (.invoking m ar :: be)).vm.findClass Y.1 = some m.cls := C.ow
  have hsame0 : ∀ U : State, ((T.setVm s.vm).setFrames (.invoking m ar :: be)).sameButNew ({ U with vm := s.vm } : State) [] (0 + 1) (0 + 6) → (T.setVm s.vm).sameButNew ({ U with vm := s.vm } : State) [] 1 6 := by
    intro U hU
    obtain ⟨e1, e2⟩ := hU
    rw [State.setFrames_setFrames] at e1
    exact ⟨e1, e2⟩
  have hheap : ((T.setVm s.vm).setFrames (.invoking m ar :: be)).heap = T.heap := rfl
  have hvm : ((T.setVm s.vm).setFrames (.invoking m ar :: be)).vm = s.vm := rfl
  generalize (T.setVm s.vm).setFrames (.invoking m ar :: be) = s' at Xb hw hown hsame0 hheap hvm
  have hins : (Cond.instantiable cls 6).before ar s' = true := hw _ (w4 _ (by simp [Bundle.ownAtoms]))
  obtain ⟨vm₁, cX, kX, hfX, hkX, -, -, X₁, st1⟩ := Xb.newCold C.ex (own := Y.1) (C := cls) (index := ik) (n := 6) hown (hw _ w1) hins (hw _ w2)
    (g := F0 m pc ls st) rfl (by rw [C.by]; exact d0) (Nat.le_refl _) (Nat.le_refl _)
  generalize hT1 : (T.setVm vm₁).pushCell { cls := cX, slots := kX.instanceTypes.map defaultValue, vm := .none } = T1 at X₁ st1
  have hcat : (Value.ref T.heap.size).category = 1 := rfl
  have hcellA : T1.heap[T.heap.size]? = some (freshCell cX kX) := by rw [← hT1]; exact State.heap_pushCell_size _ _
  have d3' : decode c.code (pc + 3) = .ok (.dup, 1) := by rw [C.by]; exact d3
  have d4' : decode c.code (pc + 4) = .ok (.ldc is, 2) := by rw [C.by]; exact d4
  obtain ⟨-, -, -, sa, -, -, -, -, -, hev⟩ := Cond.stringRef_spec hown (hw _ w3)
  obtain ⟨U, hsteps, hrun, hend, hWU, hsame, ce, hce, hO⟩ := X₁.ctorThrowS C.ex htr (own := Y.1) (cls := cls) (names := names) (ic := ic) hown hcls hnames (fun w h => hw _ (w4 w h)) (fun x hx => nomatch hx) hfX hkX hcellA (by rw [hheap]; exact Nat.le_refl _) (msg := .ref sa) rfl
    (g := { method := m, pc := pc + 6, locals := ls, stack := .ref sa :: .ref T.heap.size :: .ref T.heap.size :: st, locked := none }) rfl (hl.1.1.trans C.ml.symm) rfl rfl (rest := st) rfl
    (by rw [C.by]; exact d6) (by rw [C.by]; exact d9) (by rw [C.tb]; exact hout) (by show names.length + 3 < n; omega) (by
      show 2 * 0 + ((Value.ref T.heap.size :: st).map fun v => v.category).sum + (13 * (names.length + 1) + 42) ≤ 36 * n
      simp only [List.map_cons, List.sum_cons, hcat]; omega) C.lk
  rw [hvm] at hsame
  have hsm := hsame0 U hsame
  have hold := bj_old (s := T.setVm s.vm) hsm
  have hcl : s.vm.findClass cls = some ce.cls := by
    have h9 := hO.cls
    rw [hvm] at h9
    exact h9
  have hWs : s.WarmedH U.vm := State.WarmedH.trans (t := s') (by rw [hvm]; exact State.WarmedH.refl s) hWU
  have hall : s.sameButNew ({ U with vm := s.vm } : State) lo K.2.2.1 K.2.2.2 := by
    have h3 := X.same.trans hsm
    rw [List.append_nil] at h3
    exact h3.mono hc hs
  refine ⟨U, ?_, .threw T.heap.size, hrun, hend, Or.inr ⟨T.heap.size, cls, ce, M, lo, rfl, hq, hW.kept hold.2, ⟨Nat.le_trans hS.1 hold.1, fun q h1 h2 => (hold.2 q (Nat.lt_of_lt_of_le h1 hS.1)).trans (hS.2.1 q h1 h2)⟩, hce, hO.vm, hcl, hWs, hall, hS.2.2⟩⟩
  refine st1 _ ?_
  show Steps p.tables e be (T1.setTop { method := m, pc := pc + 3, locals := ls, stack := .ref T.heap.size :: st, locked := none }) _
  jvm_step X₁.here [X₁.here.top, C.ex, d3', Value.category]
  exact X₁.ldcString C.ex (own := Y.1) (text := text) (index := is) (a := sa) hown (hw _ w3) hev
    (g := { method := m, pc := pc + 4, locals := ls, stack := .ref T.heap.size :: .ref T.heap.size :: st, locked := none }) rfl d4' _ hsteps
/-- no handler here: the exception leaves the body -/
theorem bj_out {E : String} (hout : ∀ x ∈ tableOf Y.2.2.2.2.2, covers x pc = false) (hc : cs ≤ K.2.2.1) (hs : sl ≤ K.2.2.2) (hq : Q (.inr E) M) : bj_X G Y n K ad Q cs sl pc L E M := by
  intro p e s m ar be me c A H lo ls x ce st T C hW hS hl hx hv hcl hT X
  subst hT
  obtain ⟨st1, hrun, hend, hWU, hsm⟩ := X.leaveThrown x (g := F0 m pc ls st) rfl rfl rfl (by rw [C.tb]; exact hout) C.lk
  exact ⟨_, st1, .threw x, hrun, hend, Or.inr ⟨x, E, ce, M, lo, rfl, hq, hW, hS.F rfl, hx, hv, hcl, hWU, hsm.mono hc hs, hS.2.2⟩⟩
end Rows
/-! the search for a handler, its classes linked or not -/
theorem bj_goStep {Q : Handler → Pre} {E : CtlPost} {e : Env} {d : Bool} {acts : List Action} {s : State} {f : JFrame} {a : Addr} {x : ExceptionTableEntry} {t : List ExceptionTableEntry} {c : ClassId} {cell : Cell} {b : Bool} (hx : covers x f.pc = true) (h0 : x.catchType ≠ 0)
    (hl : s.vm.ClassLinks e.platform f.method.cls x.catchType c) (hcell : s.heap[a]? = some cell) (hobj : ∀ k, cell.vm ≠ .statics k) (hk : ∃ k, s.vm.classes[cell.cls]? = some k) (hc : ∃ k, s.vm.classes[c]? = some k) (hb : s.vm.assignable cell.cls c = b) :
    wp (findHandler.go f a (x :: t)) Q E e d acts s ↔ (if b = true then Q (.found x.handlerPc) d acts (s.setVm (s.vm.noted f.method.cls x.catchType (.cls c))) else wp (findHandler.go f a t) Q E e d acts (s.setVm (s.vm.noted f.method.cls x.catchType (.cls c)))) := by
  simp only [covers] at hx
  obtain ⟨ha, ht⟩ := (resolveClass_links e.toSetting hl).op (op := VmOp.resolveClass f.method.cls x.catchType) rfl
  have hal : s.vm.Alike (s.vm.noted f.method.cls x.catchType (.cls c)) := (Vm.Alike.refl s.vm).noted _ _ _
  obtain ⟨k1, hk1⟩ := hk
  obtain ⟨k2, hk2⟩ := hc
  obtain ⟨k1', hk1', -⟩ := hal.2.2 _ _ hk1
  obtain ⟨k2', hk2', -⟩ := hal.2.2 _ _ hk2
  have hb' : (s.vm.noted f.method.cls x.catchType (.cls c)).assignable cell.cls c = b := by rw [hal.assignable]; exact hb
  cases b <;> simp [findHandler.go, hx, h0, ha, ht, hcell, hobj, hk1', hk2', hb', VmOp.dirties, VmOp.acts]
theorem bj_caught {tb : Tables} {e : Env} {s target : State} {g : JFrame} {c : Code} {below : List Frame} {a : Addr} {pc : Nat} {vm' : Vm} (h : At s g.method c below)
    (hfind : ∀ (Q : Handler → Pre) (E : CtlPost) (d : Bool) (acts : List Action), wp (findHandler g a) Q E e d acts ((s.setTop g).pushFrame (.throwing a)) ↔ Q (.found pc) d acts (((s.setTop g).pushFrame (.throwing a)).setVm vm'))
    (hrest : Steps tb e below ((s.setVm vm').setTop { g with pc := pc, stack := [.ref a] }) target) : Steps tb e below ((s.setTop g).pushFrame (.throwing a)) target := by
  obtain ⟨hgo, hw⟩ := h.throwing a
  refine Steps.head hgo hw ?_
  have hstep : ∀ r : List Frame, (stepThrowing e ((s.setTop g).pushFrame (.throwing a)) a (.java g :: r)).Is ((((s.setTop g).pushFrame (.throwing a)).setVm vm').setFrames (.java { g with pc := pc, stack := [.ref a] } :: r)) [] := by
    intro r
    simp only [stepThrowing, searchFrame, vmDo]
    generalize hr : Sem.go _ e false [] ((s.setTop g).pushFrame (.throwing a)) = res
    obtain ⟨as, rfl, ha⟩ := Sem.eq_ok_of hr (a := Handler.found pc) (s' := ((s.setTop g).pushFrame (.throwing a)).setVm vm') (acts' := []) (by simp [hfind _ _ _ _])
    exact ⟨rfl, ha⟩
  rw [stepThread_throwing (frames_entered h.top _), (hstep _).1]
  obtain ⟨g₀, hg⟩ := Option.isSome_iff_exists.mp h.top
  obtain ⟨r, hr⟩ := State.topJava?_eq_some.mp hg
  have hr' : (s.setVm vm').frames = .java g₀ :: r := hr
  rw [State.setTop_of_frames _ hr'] at hrest
  rw [State.pushFrame, State.setTop_of_frames _ hr, State.setFrames_setFrames]
  rw [hr]
  show Steps tb e below (((s.setVm vm').setFrames (.throwing a :: (s.setFrames (.java g :: r)).frames)).setFrames (.java { g with pc := pc, stack := [.ref a] } :: r)) target
  rw [State.setFrames_setFrames]
  exact hrest
/-- what a row of the table does with an exception of class E: it is passed (b = false), or it catches (b = true) -/
def bj_hit (TB : List Cond) (own E : String) (b : Bool) (x : ExceptionTableEntry) (name : String) : Prop := x.catchType ≠ 0 ∧ Cond.classLink own x.catchType name ∈ TB ∧ (if b = true then Cond.castable E name ∈ TB else Cond.not (.castable E name) ∈ TB)
section Rows2
variable {G : bj_G} {Y : bj_Y} {n : Nat} {K : bj_K} {ad : Nat → Nat} {Q : bj_R → bj_M → Prop} {cs sl pc : Nat} {L : List (Option Value)} {st : List Value} {M : bj_M}
theorem bj_catch {E : String} (pre : List (ExceptionTableEntry × String)) (x : ExceptionTableEntry) (nm : String) (suf : List ExceptionTableEntry) (hsplit : tableOf Y.2.2.2.2.2 = pre.map (·.1) ++ x :: suf) (hpre : ∀ z ∈ pre, covers z.1 pc = true ∧ bj_hit G.2.2.2.2 Y.1 E false z.1 z.2) (hx : covers x pc = true) (hh : bj_hit G.2.2.2.2 Y.1 E true x nm)
    (kk : ∀ q : Nat, bj_S G Y n K ad Q cs sl x.handlerPc L [.ref q] M) : bj_X G Y n K ad Q cs sl pc L E M := by
  intro p e s m ar be me c A H lo ls q ce st T C hW hS hl hq hv hcl hT X
  subst hT
  have hpl : e.platform.magicAccessors = ({} : Platform).magicAccessors := by rw [X.admits.platform]
  have hobj : ∀ k, ce.vm ≠ .statics k := fun k h => by rw [hv] at h; cases h
  obtain ⟨k0, hk0, -⟩ := Vm.findClass_spec hcl
  -- one row of the table
  have row : ∀ (b : Bool) (z : ExceptionTableEntry) (name : String), bj_hit G.2.2.2.2 Y.1 E b z name → ∃ cz : ClassId, s.vm.ClassLinks e.platform m.cls z.catchType cz ∧ s.vm.assignable ce.cls cz = b := by
    intro b z name hz
    obtain ⟨cz, hcz, hlk⟩ := Cond.classLink_spec C.ow (C.ts _ hz.2.1) e.platform hpl
    refine ⟨cz, hlk, ?_⟩
    cases b with
    | true =>
      obtain ⟨c3, c4, hc3, hc4, hasg⟩ := Cond.castable_spec (C.ts _ (by simpa using hz.2.2))
      cases hc3.symm.trans hcl
      cases hc4.symm.trans hcz
      exact hasg
    | false =>
      have hno : (Cond.not (.castable E name)).before ar s = true := C.ts _ (by simpa using hz.2.2)
      have hv9 := Cond.holds_not_iff.mp hno
      simp only [Cond.value, hcl, hcz] at hv9
      exact Option.some.inj hv9
  have go : ∀ (l : List (ExceptionTableEntry × String)) (S : State), s.WarmedH S.vm → S.heap[q]? = some ce → (∀ z ∈ l, covers z.1 pc = true ∧ bj_hit G.2.2.2.2 Y.1 E false z.1 z.2) →
      ∃ vm', s.WarmedH vm' ∧ ∀ (Q : Handler → Pre) (E : CtlPost) (d : Bool) (acts : List Action), wp (findHandler.go (F0 m pc ls st) q (l.map (·.1) ++ x :: suf)) Q E e d acts S ↔ Q (.found x.handlerPc) d acts (S.setVm vm') := by
    intro l
    induction l with
    | nil =>
      intro S hWS hcS _
      obtain ⟨cz, hlk, hasg⟩ := row true x nm hh
      obtain ⟨dk, _, _, kt, hd, _, _, _, _, hkt, _, hopen⟩ := hlk.here
      obtain ⟨kt', hkt', -⟩ := hWS.alike.2.2 _ _ hkt
      obtain ⟨k0', hk0', -⟩ := hWS.alike.2.2 _ _ hk0
      exact ⟨_, hWS.noted hd hopen (State.rightAt_cls hlk), fun Q E d acts => by
        rw [List.map_nil, List.nil_append, bj_goStep (b := true) hx hh.1 (hWS.classLinks hlk) hcS hobj ⟨k0', hk0'⟩ ⟨kt', hkt'⟩ (by rw [hWS.alike.assignable]; exact hasg)]
        simp⟩
    | cons z zs ih =>
      intro S hWS hcS hz
      obtain ⟨hcov, hz1⟩ := hz z List.mem_cons_self
      obtain ⟨cz, hlk, hasg⟩ := row false z.1 z.2 hz1
      obtain ⟨dk, _, _, kt, hd, _, _, _, _, hkt, _, hopen⟩ := hlk.here
      obtain ⟨kt', hkt', -⟩ := hWS.alike.2.2 _ _ hkt
      obtain ⟨k0', hk0', -⟩ := hWS.alike.2.2 _ _ hk0
      obtain ⟨vm', hW', hq9⟩ := ih (S.setVm (S.vm.noted m.cls z.1.catchType (.cls cz))) (hWS.noted hd hopen (State.rightAt_cls hlk)) hcS (fun y hy => hz y (List.mem_cons_of_mem _ hy))
      exact ⟨vm', hW', fun Q E d acts => by
        rw [List.map_cons, List.cons_append, bj_goStep (b := false) hcov hz1.1 (hWS.classLinks hlk) hcS hobj ⟨k0', hk0'⟩ ⟨kt', hkt'⟩ (by rw [hWS.alike.assignable]; exact hasg)]
        simpa [State.setVm_twice] using hq9 Q E d acts⟩
  obtain ⟨vm', hW', hfind⟩ := go pre ((T.setTop (F0 m pc ls st)).pushFrame (.throwing q)) X.warmed hq hpre
  obtain ⟨t, a1, b1⟩ := kk q p e s m ar be me c A T.heap lo ls C hW hS hl (T.setVm vm') rfl (X.noted hW')
  refine ⟨t, bj_caught (g := F0 m pc ls st) (vm' := vm') X.here (fun Q E d acts => ?_) a1, b1⟩
  have hm9 : ((T.setTop (F0 m pc ls st)).pushFrame (.throwing q)).vm.method? m = some me := X.method'
  rw [W.findHandler_eq (f := F0 m pc ls st) hm9 X.code, C.tb, hsplit]
  exact hfind Q E d acts
end Rows2
end BT
end
section
/-! the judgement's rows: new cells; here a cell's number is its address (ad is the identity) -/
section BA
variable {G : bj_G} {Y : bj_Y} {n : Nat} {K : bj_K} {Q : bj_R → bj_M → Prop} {cs sl pc : Nat} {L : List (Option Value)} {st : List Value} {M : bj_M}
theorem bj_fresh {G : bj_G} {M : bj_M} {A : Nat → Prop} {H : Heap} (h : bj_W G (fun k => k) M A H) {q : Nat} (hq : H.size ≤ q) : M q = none := by
  cases hM : M q with
  | none => rfl
  | some x =>
    have h1 := (h.1 q x hM).lt
    have h2 : q < H.size := h1
    omega
theorem bj_W.push {G : bj_G} {M : bj_M} {A : Nat → Prop} {H H' : Heap} {x : va_E} (h : bj_W G (fun k => k) M A H) (he : va_at G.2.1 G.2.2.1 (H.size, x) H') (oq : ∀ q : Nat, q < H.size → H'[q]? = H[q]?) (hA : A H.size) : bj_W G (fun k => k) (va_up M H.size (some x)) A H' := by
  refine ⟨fun k y hk => ?_, fun i j _ _ e => e, fun k hk => ?_⟩
  · by_cases e : k = H.size
    · subst e
      rw [va_up_self] at hk
      cases hk
      exact he
    · rw [va_up_ne _ _ e] at hk
      exact (h.1 k y hk).kept (oq k (h.1 k y hk).lt)
  · by_cases e : k = H.size
    · subst e
      exact hA
    · rw [va_up_ne _ _ e] at hk
      exact h.2.2 k hk
theorem bj_S_push {A : Nat → Prop} {H0 H H' : Heap} {lo : List Loc} (h : va_S A H0 H lo) (z : H.size ≤ H'.size) (oq : ∀ q : Nat, q < H.size → H'[q]? = H[q]?) : va_S A H0 H' lo :=
  ⟨Nat.le_trans h.1 z, fun q h1 h2 => (oq q (Nat.lt_of_lt_of_le h1 h.1)).trans (h.2.1 q h1 h2), h.2.2⟩
theorem bj_new {C : String} {T : u_T} {N ci index : Nat} {fs : List Value} {ty0 : Nat → FieldType} (d : decode Y.2.2.1 pc = .ok (.new index, 3)) (hin : ∀ w ∈ u_ws C T N, w ∈ G.2.2.2.2) (hty : ∀ k, k < N → parseFieldDescriptor (T k).2.2.1 = some (ty0 k)) (hc : G.2.2.1[ci]? = some (C, T, N)) (w1 : Cond.classLink Y.1 index C ∈ G.2.2.2.2) (w2 : Cond.instantiable C N ∈ G.2.2.2.2) (w3 : Cond.initialized C ∈ G.2.2.2.2)
    (hfs : ∀ j, j < N → defaultValue (ty0 j) = vp_V fs j) (h1 : cs + 1 ≤ K.1 + K.2.2.1) (h2 : sl + N ≤ K.2.1 + K.2.2.2)
    (kk : ∀ q : Nat, M q = none → bj_S G Y n K (fun k => k) Q (cs + 1) (sl + N) (pc + 3) L (.ref q :: st) (va_up M q (some (.inr (ci, fs))))) : bj_S G Y n K (fun k => k) Q cs sl pc L st M := by
  intro p e s m ar be me c A H lo ls Cx hW hS hl
  have hKn := Cx.k.1 ci _ hc
  refine W.newcK Cx.ex Cx.by Cx.ow (Cx.ts _ w1) (Cx.ts _ w2) (Cx.ts _ w3) rfl d h1 h2 hKn.2.1 rfl fun H1 kC hkC e1 z1 o1 => ?_
  exact kk H.size (bj_fresh hW (Nat.le_refl _)) p e s m ar be me c A H1 lo ls Cx (hW.push ⟨_, hc, (u_born ty0 Cx.ts hin hKn hkC e1 hty).to hfs⟩ o1 (Cx.up _ hS.1)) (bj_S_push hS (by omega) o1) hl
/-- an array class is found by its name -/
theorem bj_acls {U : State} {tys : List (ClassId × FieldType)} {D : va_G} {cl : List vw_C} (h : va_K D cl tys U) {t : Nat} {cA c' : ClassId} {ty : FieldType} (ht : tys[t]? = some (cA, ty)) (hf : U.vm.findClass ("[" ++ ty.toString) = some c') : c' = cA := by
  have h2 := (h.2 t _ ht).2
  cases ty with
  | object C =>
    obtain ⟨kA, comp, -, -, -, h4⟩ := h2
    exact Option.some.inj (hf.symm.trans h4)
  | _ => exact Option.some.inj (hf.symm.trans h2)
theorem bj_newa {atype : ArrayType} {x : Int32} {N : Nat} {cA : ClassId} {a0 : vp_A} (d : decode Y.2.2.1 pc = .ok (.newarray atype, 2)) (t : Nat) (ht : G.2.2.2.1[t]? = some (cA, newarray.typeOf atype)) (w : Cond.arrayClass (newarray.typeOf atype) ∈ G.2.2.2.2) (ha : ∀ cA : ClassId, vp_cell cA a0 = arrV cA N (fun _ => defaultValue (newarray.typeOf atype))) (hx : x = nI N) (hN : N < 2 ^ 31) (hb : N * componentBytes (newarray.typeOf atype) ≤ 536870912) (h1 : cs + 1 ≤ K.1 + K.2.2.1) (h2 : sl + N ≤ K.2.1 + K.2.2.2)
    (kk : ∀ q : Nat, M q = none → bj_S G Y n K (fun k => k) Q (cs + 1) (sl + N) (pc + 2) L (.ref q :: st) (va_up M q (some (.inl (cA, a0))))) : bj_S G Y n K (fun k => k) Q cs sl pc L (.int x :: st) M := by
  subst hx
  intro p e s m ar be me c A H lo ls Cx hW hS hl
  refine va_newaK Cx.ex Cx.by (Cx.ts _ w) rfl d rfl (nI_pos hN) (nI_clamp hN) hb h1 h2 rfl fun H1 c' e1 z1 o1 hAr hNm => ?_
  have ec : c' = cA := bj_acls Cx.k ht hNm
  subst ec
  refine kk H.size (bj_fresh hW (Nat.le_refl _)) p e s m ar be me c A H1 lo ls Cx (hW.push ?_ o1 (Cx.up _ hS.1)) (bj_S_push hS (by omega) o1) hl
  show H1[H.size]? = some (vp_cell _ _)
  rw [ha]
  exact e1
theorem bj_newq {C : String} {index : Nat} {x : Int32} {N : Nat} {cA : ClassId} (d : decode Y.2.2.1 pc = .ok (.anewarray index, 3)) (t : Nat) (ht : G.2.2.2.1[t]? = some (cA, .object C)) (w1 : Cond.classLink Y.1 index C ∈ G.2.2.2.2) (w2 : Cond.arrayOver (.object C) ∈ G.2.2.2.2) (hx : x = nI N) (hN : N < 2 ^ 31) (hb : N * 4 ≤ 536870912) (h1 : cs + 1 ≤ K.1 + K.2.2.1) (h2 : sl + N ≤ K.2.1 + K.2.2.2)
    (kk : ∀ q : Nat, M q = none → bj_S G Y n K (fun k => k) Q (cs + 1) (sl + N) (pc + 3) L (.ref q :: st) (va_up M q (some (.inl (cA, N, .inr (.inr (.inr (.inr (fun _ => none))))))))) : bj_S G Y n K (fun k => k) Q cs sl pc L (.int x :: st) M := by
  subst hx
  intro p e s m ar be me c A H lo ls Cx hW hS hl
  have e9 : (nI N).toNatClampNeg = N := nI_clamp hN
  refine W.anew Cx.ex Cx.by Cx.ow (Cx.ts _ w1) (Cx.ts _ w2) rfl d rfl (nI_pos hN) (by rw [e9]; exact hb) h1 (by rw [e9]; exact h2) fun c' kA comp f1 f2 f3 f4 => ?_
  have ec : c' = cA := bj_acls Cx.k ht f1
  subst ec
  rw [e9]
  generalize hH1 : H.push ({ cls := c', slots := Array.replicate N .null, vm := .none } : Cell) = H1
  have z1 : H1.size = H.size + 1 := by rw [← hH1, Array.size_push]
  have e1 : H1[H.size]? = some (arrV c' N (fun _ => .null)) := by rw [← hH1, Array.getElem?_push_size, ← arrV_new]
  have o1 : ∀ q : Nat, q < H.size → H1[q]? = H[q]? := fun q hq => by rw [← hH1, Array.getElem?_push, if_neg (Nat.ne_of_lt hq)]
  refine kk H.size (bj_fresh hW (Nat.le_refl _)) p e s m ar be me c A H1 lo ls Cx (hW.push ?_ o1 (Cx.up _ hS.1)) (bj_S_push hS (by omega) o1) hl
  show H1[H.size]? = some (vp_cell _ _)
  rw [vp_cell_q]
  exact e1
end BA
end
section
/-! cells by what they show: an array's first places as a function; after a write a new picture that differs there alone -/
section BV
def bv_I (cI : ClassId) (M : bj_M) (k N : Nat) (g : Nat → Int32) : Prop := ∃ f : Nat → Int32, M k = some (.inl (cI, N, .inl f)) ∧ ∀ j, j < N → f j = g j
theorem bv_I.to {cI : ClassId} {M : bj_M} {k N : Nat} {g g' : Nat → Int32} (h : bv_I cI M k N g) (e : ∀ j, j < N → g j = g' j) : bv_I cI M k N g' := by
  obtain ⟨f, h1, h2⟩ := h
  exact ⟨f, h1, fun j hj => (h2 j hj).trans (e j hj)⟩
theorem bv_I.in {cI : ClassId} {M M' : bj_M} {k N : Nat} {g : Nat → Int32} (h : bv_I cI M k N g) (e : M' k = M k) : bv_I cI M' k N g := by
  obtain ⟨f, h1, h2⟩ := h
  exact ⟨f, e.trans h1, h2⟩
theorem bv_I.ne {cI : ClassId} {M : bj_M} {k N : Nat} {g : Nat → Int32} (h : bv_I cI M k N g) : M k ≠ none := by
  obtain ⟨f, h1, -⟩ := h
  exact bj_ne h1
variable {G : bj_G} {Y : bj_Y} {n : Nat} {K : bj_K} {ad : Nat → Nat} {Q : bj_R → bj_M → Prop} {cs sl pc : Nat} {L : List (Option Value)} {st : List Value} {M : bj_M}
theorem bv_iald {k j N : Nat} {cA : ClassId} {g : Nat → Int32} {v : Int32} (d : decode Y.2.2.1 pc = .ok (.iaload, 1)) (t : Nat) (ht : G.2.2.2.1[t]? = some (cA, .int)) (h : bv_I cA M k N g) (hj : j < N) (hN : N < 2 ^ 31) (hv : g j = v)
    (kk : bj_S G Y n K ad Q cs sl (pc + 1) L (.int v :: st) M) : bj_S G Y n K ad Q cs sl pc L (.int (nI j) :: .ref (ad k) :: st) M := by
  obtain ⟨f, h1, h2⟩ := h
  refine bj_iald d t ht h1 rfl hj hN ?_
  rw [h2 j hj, hv]
  exact kk
theorem bv_zald {k j N : Nat} {cA : ClassId} {g : Nat → Int32} {v : Int32} (d : decode Y.2.2.1 pc = .ok (.baload, 1)) (t : Nat) (ht : G.2.2.2.1[t]? = some (cA, .boolean)) (h : bv_I cA M k N g) (hj : j < N) (hN : N < 2 ^ 31) (hv : g j = v)
    (kk : bj_S G Y n K ad Q cs sl (pc + 1) L (.int v :: st) M) : bj_S G Y n K ad Q cs sl pc L (.int (nI j) :: .ref (ad k) :: st) M := by
  obtain ⟨f, h1, h2⟩ := h
  refine bj_zald d t ht h1 rfl hj hN ?_
  rw [h2 j hj, hv]
  exact kk
theorem bv_up_eq {N j : Nat} {f g : Nat → Int32} (y : Int32) (h : ∀ i, i < N → f i = g i) : ∀ i, i < N → va_up f j y i = va_up g j y i := by
  intro i hi
  unfold va_up
  split
  · rfl
  · exact h i hi
theorem bv_iast {k j N : Nat} {cA : ClassId} {g : Nat → Int32} {y : Int32} (d : decode Y.2.2.1 pc = .ok (.iastore, 1)) (t : Nat) (ht : G.2.2.2.1[t]? = some (cA, .int)) (h : bv_I cA M k N g) (hj : j < N) (hN : N < 2 ^ 31)
    (kk : ∀ M' : bj_M, bv_I cA M' k N (va_up g j y) → (∀ q, q ≠ k → M' q = M q) → bj_S G Y n K ad Q cs sl (pc + 1) L st M') : bj_S G Y n K ad Q cs sl pc L (.int y :: .int (nI j) :: .ref (ad k) :: st) M := by
  obtain ⟨f, h1, h2⟩ := h
  exact bj_iast d t ht h1 rfl hj hN (kk _ ⟨_, va_up_self _ _ _, bv_up_eq y h2⟩ (fun q hq => va_up_ne _ _ hq))
theorem bv_zast {k j N : Nat} {cA : ClassId} {g : Nat → Int32} {y : Int32} (d : decode Y.2.2.1 pc = .ok (.bastore, 1)) (t : Nat) (ht : G.2.2.2.1[t]? = some (cA, .boolean)) (h : bv_I cA M k N g) (hj : j < N) (hN : N < 2 ^ 31) (hy : narrow .boolean (.int y) = .int y)
    (kk : ∀ M' : bj_M, bv_I cA M' k N (va_up g j y) → (∀ q, q ≠ k → M' q = M q) → bj_S G Y n K ad Q cs sl (pc + 1) L st M') : bj_S G Y n K ad Q cs sl pc L (.int y :: .int (nI j) :: .ref (ad k) :: st) M := by
  obtain ⟨f, h1, h2⟩ := h
  exact bj_zast d t ht h1 rfl hj hN hy (kk _ ⟨_, va_up_self _ _ _, bv_up_eq y h2⟩ (fun q hq => va_up_ne _ _ hq))
end BV
end
section
/-! calls by their sites: all that a site needs of the tables in one word; callees that only answer; callees that never throw -/
section BX
/-- a post of a method that never throws -/
def bj_ret (R : Option Value → bj_M → Prop) : bj_R → bj_M → Prop := fun r M => match r with
  | .inl v => R v M
  | .inr _ => False
/-- a post of a method that answers an int and leaves the cells as they are -/
def bj_fn (x : Int32) (M : bj_M) : bj_R → bj_M → Prop := bj_ret (fun v M' => v = some (.int x) ∧ M' = M)
/-- what a call's site needs: the words, the callee's shape -/
def bj_sh (TB : List Cond) (Yk : bj_Y) (na : Nat) : Prop := bj_cw Yk TB ∧ (parseMethodDescriptor Yk.2.1.desc).map (fun d => d.parameters.length) = some na ∧ Yk.1 = Yk.2.1.cls ∧ plainFor Yk.2.1 = true ∧ (Yk.2.1.cls ≠ "java/lang/invoke/MethodHandle" ∧ Yk.2.1.cls ≠ "java/lang/invoke/VarHandle") ∧ Yk.2.2.2.1 ≤ 17
def bj_sv (TB : List Cond) (own : String) (idx : Nat) (Yk : bj_Y) (na : Nat) : Prop := Cond.methodLink own idx Yk.2.1 ∈ TB ∧ Cond.instanceMethod Yk.2.1 ∈ TB ∧ Cond.selects Yk.2.1.cls Yk.2.1 Yk.2.1 ∈ TB ∧ na + 1 ≤ Yk.2.2.2.1 ∧ bj_sh TB Yk na
def bj_ss (TB : List Cond) (own : String) (idx : Nat) (Yk : bj_Y) (na : Nat) : Prop := Cond.methodLink own idx Yk.2.1 ∈ TB ∧ Cond.static Yk.2.1 ∈ TB ∧ Cond.initialized Yk.2.1.cls ∈ TB ∧ na ≤ Yk.2.2.2.1 ∧ bj_sh TB Yk na
def bj_sn (TB : List Cond) (own host : String) (idx : Nat) (Yk : bj_Y) (na : Nat) : Prop := Cond.methodLinkNest own idx Yk.2.1 host ∈ TB ∧ Cond.static Yk.2.1 ∈ TB ∧ Cond.initialized Yk.2.1.cls ∈ TB ∧ na ≤ Yk.2.2.2.1 ∧ bj_sh TB Yk na
def bj_si (TB : List Cond) (own : String) (idx : Nat) (Yk : bj_Y) (na : Nat) : Prop := Cond.methodLink own idx Yk.2.1 ∈ TB ∧ Cond.instanceMethod Yk.2.1 ∈ TB ∧ Cond.code Yk.2.1 Yk.2.2.1 Yk.2.2.2.1 none ∈ TB ∧ Yk.2.2.2.2.2 = [] ∧ Yk.2.2.2.2.1 = none ∧ Yk.2.1.name = "<init>" ∧ na + 1 ≤ Yk.2.2.2.1 ∧ bj_sh TB Yk na
variable {G : bj_G} {Y Yk : bj_Y} {n nk : Nat} {K Kk : bj_K} {ad : Nat → Nat} {Q Qk : bj_R → bj_M → Prop} {cs sl pc index na : Nat} {L : List (Option Value)} {st st0 as : List Value} {M : bj_M}
/-- all arguments are of one slot -/
def bj_c1 (as : List Value) : Prop := as.all (fun v => decide (v.category = 1)) = true
theorem bj_c1.of {as : List Value} (h : bj_c1 as) : ∀ v ∈ as, v.category = 1 := fun v hv => by
  have := List.all_eq_true.mp h v hv
  simpa using this
theorem bj_cv {k ci : Nat} {fs : List Value} {r : vw_C} (h : bj_sv G.2.2.2.2 Y.1 index Yk na) (d : decode Y.2.2.1 pc = .ok (.invokevirtual index, 3)) (hT : bj_T G Yk nk Kk ad Qk (.ref (ad k) :: as) M) (ha : as.length = na) (hc1 : bj_c1 as) (hn : nk + 1 ≤ n) (hKc : cs + (Kk.1 + Kk.2.2.1) ≤ K.1 + K.2.2.1) (hKs : sl + (Kk.2.1 + Kk.2.2.2) ≤ K.2.1 + K.2.2.2) (h8 : (st.map fun v => v.category).sum ≤ 8) (hst : st0 = as.reverse ++ .ref (ad k) :: st) (hM : M k = some (.inr (ci, fs))) (hc : G.2.2.1[ci]? = some r) (hr : r.1 = Yk.2.1.cls)
    (kr : ∀ v M', Qk (.inl v) M' → bj_S G Y n K ad Q (cs + Kk.1) (sl + Kk.2.1) (pc + 3) L (v.toList ++ st) M') (kx : ∀ E M', Qk (.inr E) M' → bj_X G Y n K ad Q (cs + Kk.2.2.1) (sl + Kk.2.2.2) pc L E M') : bj_S G Y n K ad Q cs sl pc L st0 M := by
  obtain ⟨h1, h2, h3, h4, h5, h6, h7, h8', h9, h10⟩ := h
  refine bj_callV d hT h1 h2 h3 h5 (by rw [ha]; exact h6) ⟨h7, h8', ?_, by rw [List.length_cons, ha]; exact h4, hn, h10, hKc, hKs, h8, h9⟩ hst hM hc hr kr kx
  intro v hv
  rcases List.mem_cons.mp hv with rfl | hv
  · rfl
  · exact hc1.of v hv
theorem bj_cs (h : bj_ss G.2.2.2.2 Y.1 index Yk na) (d : decode Y.2.2.1 pc = .ok (.invokestatic index, 3)) (hT : bj_T G Yk nk Kk ad Qk as M) (ha : as.length = na) (hc1 : bj_c1 as) (hn : nk + 1 ≤ n) (hKc : cs + (Kk.1 + Kk.2.2.1) ≤ K.1 + K.2.2.1) (hKs : sl + (Kk.2.1 + Kk.2.2.2) ≤ K.2.1 + K.2.2.2) (h8 : (st.map fun v => v.category).sum ≤ 8) (hst : st0 = as.reverse ++ st)
    (kr : ∀ v M', Qk (.inl v) M' → bj_S G Y n K ad Q (cs + Kk.1) (sl + Kk.2.1) (pc + 3) L (v.toList ++ st) M') (kx : ∀ E M', Qk (.inr E) M' → bj_X G Y n K ad Q (cs + Kk.2.2.1) (sl + Kk.2.2.2) pc L E M') : bj_S G Y n K ad Q cs sl pc L st0 M := by
  obtain ⟨h1, h2, h3, h4, h5, h6, h7, h8', h9, h10⟩ := h
  exact bj_callS d hT h1 h2 h3 h5 (by rw [ha]; exact h6) ⟨h7, h8', hc1.of, by rw [ha]; exact h4, hn, h10, hKc, hKs, h8, h9⟩ hst kr kx
theorem bj_cn {host : String} (h : bj_sn G.2.2.2.2 Y.1 host index Yk na) (d : decode Y.2.2.1 pc = .ok (.invokestatic index, 3)) (hT : bj_T G Yk nk Kk ad Qk as M) (ha : as.length = na) (hc1 : bj_c1 as) (hn : nk + 1 ≤ n) (hKc : cs + (Kk.1 + Kk.2.2.1) ≤ K.1 + K.2.2.1) (hKs : sl + (Kk.2.1 + Kk.2.2.2) ≤ K.2.1 + K.2.2.2) (h8 : (st.map fun v => v.category).sum ≤ 8) (hst : st0 = as.reverse ++ st)
    (kr : ∀ v M', Qk (.inl v) M' → bj_S G Y n K ad Q (cs + Kk.1) (sl + Kk.2.1) (pc + 3) L (v.toList ++ st) M') (kx : ∀ E M', Qk (.inr E) M' → bj_X G Y n K ad Q (cs + Kk.2.2.1) (sl + Kk.2.2.2) pc L E M') : bj_S G Y n K ad Q cs sl pc L st0 M := by
  obtain ⟨h1, h2, h3, h4, h5, h6, h7, h8', h9, h10⟩ := h
  exact bj_callSN d hT h1 h2 h3 h5 (by rw [ha]; exact h6) ⟨h7, h8', hc1.of, by rw [ha]; exact h4, hn, h10, hKc, hKs, h8, h9⟩ hst kr kx
theorem bj_ci {k : Nat} (h : bj_si G.2.2.2.2 Y.1 index Yk na) (d : decode Y.2.2.1 pc = .ok (.invokespecial index, 3)) (hT : bj_T G Yk nk Kk ad Qk (.ref k :: as) M) (ha : as.length = na) (hc1 : bj_c1 as) (hn : nk + 1 ≤ n) (hKc : cs + (Kk.1 + Kk.2.2.1) ≤ K.1 + K.2.2.1) (hKs : sl + (Kk.2.1 + Kk.2.2.2) ≤ K.2.1 + K.2.2.2) (h8 : (st.map fun v => v.category).sum ≤ 8) (hst : st0 = as.reverse ++ .ref k :: st)
    (kr : ∀ v M', Qk (.inl v) M' → bj_S G Y n K ad Q (cs + Kk.1) (sl + Kk.2.1) (pc + 3) L (v.toList ++ st) M') (kx : ∀ E M', Qk (.inr E) M' → bj_X G Y n K ad Q (cs + Kk.2.2.1) (sl + Kk.2.2.2) pc L E M') : bj_S G Y n K ad Q cs sl pc L st0 M := by
  obtain ⟨h1, h2, h3, e1, e2, e3, h4, h5, h6, h7, h8', h9, h10⟩ := h
  refine bj_callI d hT h1 h2 h3 e1 e2 e3 (by rw [ha]; exact h6) ⟨h7, h8', ?_, by rw [List.length_cons, ha]; exact h4, hn, h10, hKc, hKs, h8, h9⟩ hst kr kx
  intro v hv
  rcases List.mem_cons.mp hv with rfl | hv
  · rfl
  · exact hc1.of v hv
/-! callees that make nothing and never throw -/
section Still
variable {R : Option Value → bj_M → Prop} {x : Int32}
theorem bj_cvR {k ci : Nat} {fs : List Value} {r : vw_C} (h : bj_sv G.2.2.2.2 Y.1 index Yk na) (d : decode Y.2.2.1 pc = .ok (.invokevirtual index, 3)) (hT : bj_T G Yk nk (0, 0, 0, 0) ad (bj_ret R) (.ref (ad k) :: as) M) (ha : as.length = na) (hc1 : bj_c1 as) (hn : nk + 1 ≤ n) (hKc : cs ≤ K.1 + K.2.2.1) (hKs : sl ≤ K.2.1 + K.2.2.2) (h8 : (st.map fun v => v.category).sum ≤ 8) (hst : st0 = as.reverse ++ .ref (ad k) :: st) (hM : M k = some (.inr (ci, fs))) (hc : G.2.2.1[ci]? = some r) (hr : r.1 = Yk.2.1.cls)
    (kr : ∀ v M', R v M' → bj_S G Y n K ad Q cs sl (pc + 3) L (v.toList ++ st) M') : bj_S G Y n K ad Q cs sl pc L st0 M :=
  bj_cv h d hT ha hc1 hn hKc hKs h8 hst hM hc hr kr (fun _ _ q => q.elim)
theorem bj_csR (h : bj_ss G.2.2.2.2 Y.1 index Yk na) (d : decode Y.2.2.1 pc = .ok (.invokestatic index, 3)) (hT : bj_T G Yk nk (0, 0, 0, 0) ad (bj_ret R) as M) (ha : as.length = na) (hc1 : bj_c1 as) (hn : nk + 1 ≤ n) (hKc : cs ≤ K.1 + K.2.2.1) (hKs : sl ≤ K.2.1 + K.2.2.2) (h8 : (st.map fun v => v.category).sum ≤ 8) (hst : st0 = as.reverse ++ st)
    (kr : ∀ v M', R v M' → bj_S G Y n K ad Q cs sl (pc + 3) L (v.toList ++ st) M') : bj_S G Y n K ad Q cs sl pc L st0 M :=
  bj_cs h d hT ha hc1 hn hKc hKs h8 hst kr (fun _ _ q => q.elim)
theorem bj_cnR {host : String} (h : bj_sn G.2.2.2.2 Y.1 host index Yk na) (d : decode Y.2.2.1 pc = .ok (.invokestatic index, 3)) (hT : bj_T G Yk nk (0, 0, 0, 0) ad (bj_ret R) as M) (ha : as.length = na) (hc1 : bj_c1 as) (hn : nk + 1 ≤ n) (hKc : cs ≤ K.1 + K.2.2.1) (hKs : sl ≤ K.2.1 + K.2.2.2) (h8 : (st.map fun v => v.category).sum ≤ 8) (hst : st0 = as.reverse ++ st)
    (kr : ∀ v M', R v M' → bj_S G Y n K ad Q cs sl (pc + 3) L (v.toList ++ st) M') : bj_S G Y n K ad Q cs sl pc L st0 M :=
  bj_cn h d hT ha hc1 hn hKc hKs h8 hst kr (fun _ _ q => q.elim)
/-! callees that only answer an int -/
theorem bj_cvF {k ci : Nat} {fs : List Value} {r : vw_C} (h : bj_sv G.2.2.2.2 Y.1 index Yk na) (d : decode Y.2.2.1 pc = .ok (.invokevirtual index, 3)) (hT : bj_T G Yk nk (0, 0, 0, 0) ad (bj_fn x M) (.ref (ad k) :: as) M) (ha : as.length = na) (hc1 : bj_c1 as) (hn : nk + 1 ≤ n) (hKc : cs ≤ K.1 + K.2.2.1) (hKs : sl ≤ K.2.1 + K.2.2.2) (h8 : (st.map fun v => v.category).sum ≤ 8) (hst : st0 = as.reverse ++ .ref (ad k) :: st) (hM : M k = some (.inr (ci, fs))) (hc : G.2.2.1[ci]? = some r) (hr : r.1 = Yk.2.1.cls)
    (kk : bj_S G Y n K ad Q cs sl (pc + 3) L (.int x :: st) M) : bj_S G Y n K ad Q cs sl pc L st0 M :=
  bj_cvR h d hT ha hc1 hn hKc hKs h8 hst hM hc hr (fun v M' q => by obtain ⟨rfl, rfl⟩ := q; exact kk)
theorem bj_csF (h : bj_ss G.2.2.2.2 Y.1 index Yk na) (d : decode Y.2.2.1 pc = .ok (.invokestatic index, 3)) (hT : bj_T G Yk nk (0, 0, 0, 0) ad (bj_fn x M) as M) (ha : as.length = na) (hc1 : bj_c1 as) (hn : nk + 1 ≤ n) (hKc : cs ≤ K.1 + K.2.2.1) (hKs : sl ≤ K.2.1 + K.2.2.2) (h8 : (st.map fun v => v.category).sum ≤ 8) (hst : st0 = as.reverse ++ st)
    (kk : bj_S G Y n K ad Q cs sl (pc + 3) L (.int x :: st) M) : bj_S G Y n K ad Q cs sl pc L st0 M :=
  bj_csR h d hT ha hc1 hn hKc hKs h8 hst (fun v M' q => by obtain ⟨rfl, rfl⟩ := q; exact kk)
theorem bj_cnF {host : String} (h : bj_sn G.2.2.2.2 Y.1 host index Yk na) (d : decode Y.2.2.1 pc = .ok (.invokestatic index, 3)) (hT : bj_T G Yk nk (0, 0, 0, 0) ad (bj_fn x M) as M) (ha : as.length = na) (hc1 : bj_c1 as) (hn : nk + 1 ≤ n) (hKc : cs ≤ K.1 + K.2.2.1) (hKs : sl ≤ K.2.1 + K.2.2.2) (h8 : (st.map fun v => v.category).sum ≤ 8) (hst : st0 = as.reverse ++ st)
    (kk : bj_S G Y n K ad Q cs sl (pc + 3) L (.int x :: st) M) : bj_S G Y n K ad Q cs sl pc L st0 M :=
  bj_cnR h d hT ha hc1 hn hKc hKs h8 hst (fun v M' q => by obtain ⟨rfl, rfl⟩ := q; exact kk)
end Still
end BX
end
section
/-! strongest ways: what both programs compute, by one mathematical value -/
section MG
def mg_st (dr : Nat → Nat → Nat) (n s : Nat) (x y : Nat) : Prop := x < n ∧ y < n ∧ s ≤ dr x y
theorem mg_st_le {dr : Nat → Nat → Nat} {n s s' a b : Nat} (h : Relation.TransGen (mg_st dr n s) a b) (hs : s' ≤ s) : Relation.TransGen (mg_st dr n s') a b := by
  induction h with
  | single h => exact .single ⟨h.1, h.2.1, Nat.le_trans hs h.2.2⟩
  | tail _ h ih => exact .tail ih ⟨h.1, h.2.1, Nat.le_trans hs h.2.2⟩
theorem mg_st_in {dr : Nat → Nat → Nat} {n s a b : Nat} (h : Relation.TransGen (mg_st dr n s) a b) : a < n ∧ b < n := by
  induction h with
  | single h => exact ⟨h.1, h.2.1⟩
  | tail _ h ih => exact ⟨ih.1, h.2.1⟩
/-- reached: each value that isn't zero is that of some way -/
def mg_ac (dr F : Nat → Nat → Nat) (n : Nat) : Prop := ∀ a b, a < n → b < n → 0 < F a b → Relation.TransGen (mg_st dr n (F a b)) a b
/-- closed over the first k: no detour by one of them is stronger -/
def mg_cl (dr F : Nat → Nat → Nat) (n k : Nat) : Prop := (∀ a b, a < n → b < n → dr a b ≤ F a b) ∧ ∀ a m b, a < n → m < k → b < n → min (F a m) (F m b) ≤ F a b
theorem mg_cl_le {dr F : Nat → Nat → Nat} {n s a b : Nat} (h : mg_cl dr F n n) (hp : Relation.TransGen (mg_st dr n s) a b) : s ≤ F a b := by
  induction hp with
  | single g => exact Nat.le_trans g.2.2 (h.1 _ _ g.1 g.2.1)
  | tail p g ih =>
    have h1 := h.2 _ _ _ (mg_st_in p).1 g.1 g.2.1
    have h2 := h.1 _ _ g.1 g.2.1
    have h3 := g.2.2
    omega
/-- one stage of the class: by the detour over k -/
def mg_fw (F : Nat → Nat → Nat) (k : Nat) : Nat → Nat → Nat := fun a b => max (F a b) (min (F a k) (F k b))
theorem mg_fw_cl {dr F : Nat → Nat → Nat} {n k : Nat} (hk : k < n) (h : mg_cl dr F n k) : mg_cl dr (mg_fw F k) n (k + 1) := by
  refine ⟨fun a b ha hb => Nat.le_trans (h.1 a b ha hb) (Nat.le_max_left _ _), fun a m b ha hm hb => ?_⟩
  unfold mg_fw
  rcases Nat.lt_or_ge m k with hmk | hmk
  · have h1 := h.2 a m b ha hmk hb
    have h2 := h.2 k m b hk hmk hb
    have h3 := h.2 a m k ha hmk hk
    omega
  · have e : m = k := by omega
    subst e
    omega
theorem mg_fw_ac {dr F : Nat → Nat → Nat} {n k : Nat} (hk : k < n) (h : mg_ac dr F n) : mg_ac dr (mg_fw F k) n := by
  intro a b ha hb hp
  unfold mg_fw at hp ⊢
  rcases Nat.lt_or_ge (F a b) (min (F a k) (F k b)) with h1 | h1
  · rw [Nat.max_eq_right (Nat.le_of_lt h1)]
    exact Relation.TransGen.trans (mg_st_le (h a k ha hk (by omega)) (Nat.min_le_left _ _)) (mg_st_le (h k b hk hb (by omega)) (Nat.min_le_right _ _))
  · rw [Nat.max_eq_left h1] at hp ⊢
    exact h a b ha hb hp
theorem mg_fw_0 {dr : Nat → Nat → Nat} {n : Nat} : mg_cl dr dr n 0 ∧ mg_ac dr dr n :=
  ⟨⟨fun _ _ _ _ => Nat.le_refl _, fun _ _ _ _ h _ => absurd h (Nat.not_lt_zero _)⟩, fun a b ha hb _ => .single ⟨ha, hb, Nat.le_refl _⟩⟩
/-- all stages -/
def mg_fws (dr : Nat → Nat → Nat) : Nat → Nat → Nat → Nat
  | 0 => dr
  | k + 1 => mg_fw (mg_fws dr k) k
theorem mg_fws_ok (dr : Nat → Nat → Nat) {n : Nat} : ∀ k, k ≤ n → mg_cl dr (mg_fws dr k) n k ∧ mg_ac dr (mg_fws dr k) n
  | 0, _ => mg_fw_0
  | k + 1, h => ⟨mg_fw_cl (by omega) (mg_fws_ok dr k (by omega)).1, mg_fw_ac (by omega) (mg_fws_ok dr k (by omega)).2⟩
/-- the reference's end: closed off the diagonal by one step more -/
def mg_fx (dr F : Nat → Nat → Nat) (n : Nat) : Prop := (∀ a b, a < n → b < n → dr a b ≤ F a b) ∧ ∀ a b c, a < n → b < n → c < n → a ≠ c → min (F a b) (dr b c) ≤ F a c
theorem mg_fx_le {dr F : Nat → Nat → Nat} {n s a b : Nat} (h : mg_fx dr F n) (hp : Relation.TransGen (mg_st dr n s) a b) : a ≠ b → s ≤ F a b := by
  induction hp with
  | single g => exact fun _ => Nat.le_trans g.2.2 (h.1 _ _ g.1 g.2.1)
  | @tail b c p g ih =>
    intro hc
    by_cases e : a = b
    · subst e
      exact Nat.le_trans g.2.2 (h.1 _ _ g.1 g.2.1)
    · have h1 := h.2 a b c (mg_st_in p).1 g.1 g.2.1 hc
      have h2 := ih e
      have h3 := g.2.2
      omega
/-- off the diagonal both are the same -/
theorem mg_same {dr F E : Nat → Nat → Nat} {n a b : Nat} (hF : mg_cl dr F n n) (hFa : mg_ac dr F n) (hE : mg_fx dr E n) (hEa : ∀ a b, a < n → b < n → a ≠ b → 0 < E a b → Relation.TransGen (mg_st dr n (E a b)) a b) (ha : a < n) (hb : b < n) (hab : a ≠ b) : F a b = E a b := by
  apply Nat.le_antisymm
  · rcases Nat.eq_zero_or_pos (F a b) with h | h
    · omega
    · exact mg_fx_le hE (hFa a b ha hb h) hab
  · rcases Nat.eq_zero_or_pos (E a b) with h | h
    · omega
    · exact mg_cl_le hF (hEa a b ha hb hab h)
/-- the strongest way's strength -/
def mg_F (dr : Nat → Nat → Nat) (n : Nat) : Nat → Nat → Nat := mg_fws dr n
theorem mg_F_cl (dr : Nat → Nat → Nat) (n : Nat) : mg_cl dr (mg_F dr n) n n := (mg_fws_ok dr n (Nat.le_refl n)).1
theorem mg_F_ac (dr : Nat → Nat → Nat) (n : Nat) : mg_ac dr (mg_F dr n) n := (mg_fws_ok dr n (Nat.le_refl n)).2
theorem mg_F_gt {dr : Nat → Nat → Nat} {n s a b : Nat} (ha : a < n) (hb : b < n) : s < mg_F dr n a b ↔ Relation.TransGen (mg_st dr n (s + 1)) a b :=
  ⟨fun h => mg_st_le (mg_F_ac dr n a b ha hb (by omega)) h, fun h => mg_cl_le (mg_F_cl dr n) h⟩
theorem mg_F_le {dr : Nat → Nat → Nat} {n B : Nat} (h : ∀ a b, a < n → b < n → dr a b ≤ B) : ∀ a b, a < n → b < n → mg_F dr n a b ≤ B := by
  intro a b ha hb
  rcases Nat.eq_zero_or_pos (mg_F dr n a b) with h0 | h0
  · omega
  · have hp := mg_F_ac dr n a b ha hb h0
    cases hp with
    | single g => exact Nat.le_trans g.2.2 (h _ _ g.1 g.2.1)
    | tail _ g => exact Nat.le_trans g.2.2 (h _ _ g.1 g.2.1)
end MG
end
section
/-! how far a candidate is from b by steps of a graph r (r c y: a step from c to y); what stands after as many rounds as there are candidates -/
section MN
def mn_cnt (p : Nat → Bool) : Nat → Nat
  | 0 => 0
  | n + 1 => mn_cnt p n + (if p n = true then 1 else 0)
theorem mn_cnt_le (p : Nat → Bool) : ∀ n, mn_cnt p n ≤ n
  | 0 => Nat.le_refl 0
  | n + 1 => by
    have h := mn_cnt_le p n
    unfold mn_cnt
    split <;> omega
theorem mn_cnt_mono {p q : Nat → Bool} : ∀ n, (∀ i, i < n → p i = true → q i = true) → mn_cnt p n ≤ mn_cnt q n
  | 0, _ => Nat.le_refl 0
  | n + 1, h => by
    have h1 := mn_cnt_mono n (fun i hi => h i (by omega))
    have h2 := h n (by omega)
    unfold mn_cnt
    by_cases hp : p n = true
    · rw [if_pos hp, if_pos (h2 hp)]
      omega
    · rw [if_neg hp]
      split <;> omega
theorem mn_cnt_lt {p q : Nat → Bool} {i : Nat} : ∀ n, (∀ i, i < n → p i = true → q i = true) → i < n → p i = false → q i = true → mn_cnt p n < mn_cnt q n
  | 0, _, hi, _, _ => absurd hi (Nat.not_lt_zero _)
  | n + 1, h, hi, hp, hq => by
    have h2 := h n (by omega)
    unfold mn_cnt
    by_cases e : i = n
    · subst e
      have h1 := mn_cnt_mono i (fun j hj => h j (by omega))
      rw [hp, hq]
      simp
      omega
    · have h1 := mn_cnt_lt n (fun j hj => h j (by omega)) (by omega) hp hq
      by_cases hpn : p n = true
      · rw [if_pos hpn, if_pos (h2 hpn)]
        omega
      · rw [if_neg hpn]
        split <;> omega
theorem mn_cnt_pos {p : Nat → Bool} {i n : Nat} (hi : i < n) (hp : p i = true) : 1 ≤ mn_cnt p n := by
  have h := mn_cnt_lt (p := fun _ => false) (q := p) n (fun _ _ h => by cases h) hi rfl hp
  omega
/-- within k steps of b -/
def mn_nr (r : Nat → Nat → Bool) (n b : Nat) : Nat → Nat → Bool
  | 0, c => c == b
  | k + 1, c => mn_nr r n b k c || (List.range n).any (fun y => r c y && mn_nr r n b k y)
variable {r : Nat → Nat → Bool} {n b : Nat}
theorem mn_nr_s {k c : Nat} : mn_nr r n b (k + 1) c = true ↔ mn_nr r n b k c = true ∨ ∃ y, y < n ∧ r c y = true ∧ mn_nr r n b k y = true := by
  show (mn_nr r n b k c || (List.range n).any (fun y => r c y && mn_nr r n b k y)) = true ↔ _
  rw [Bool.or_eq_true, List.any_eq_true]
  constructor
  · rintro (h | ⟨y, hy, h⟩)
    · exact Or.inl h
    · rw [Bool.and_eq_true] at h
      exact Or.inr ⟨y, List.mem_range.mp hy, h.1, h.2⟩
  · rintro (h | ⟨y, hy, h1, h2⟩)
    · exact Or.inl h
    · exact Or.inr ⟨y, List.mem_range.mpr hy, by rw [h1, h2]; rfl⟩
theorem mn_nr_0 {c : Nat} : mn_nr r n b 0 c = true ↔ c = b := by
  show (c == b) = true ↔ _
  exact beq_iff_eq
theorem mn_nr_le {j k c : Nat} (h : j ≤ k) (hc : mn_nr r n b j c = true) : mn_nr r n b k c = true := by
  induction k with
  | zero => have e : j = 0 := by omega
            subst e; exact hc
  | succ k ih =>
    rcases Nat.lt_or_ge j (k + 1) with h1 | h1
    · exact mn_nr_s.mpr (Or.inl (ih (by omega)))
    · have e : j = k + 1 := by omega
      subst e; exact hc
/-- where a round adds none, none comes later -/
theorem mn_nr_fix {k : Nat} (h : ∀ c, c < n → mn_nr r n b (k + 1) c = true → mn_nr r n b k c = true) : ∀ j c, c < n → mn_nr r n b (k + j) c = true → mn_nr r n b k c = true := by
  intro j
  induction j with
  | zero => exact fun c _ hc => hc
  | succ j ih =>
    intro c hc h1
    rcases mn_nr_s.mp (show mn_nr r n b (k + j + 1) c = true from h1) with h2 | ⟨y, hy, h2, h3⟩
    · exact ih c hc h2
    · exact h c hc (mn_nr_s.mpr (Or.inr ⟨y, hy, h2, ih y hy h3⟩))
theorem mn_grow (m : Nat) (h : ∀ k, k < m → ∃ c, c < n ∧ mn_nr r n b (k + 1) c = true ∧ mn_nr r n b k c = false) : mn_cnt (mn_nr r n b 0) n + m ≤ mn_cnt (mn_nr r n b m) n := by
  induction m with
  | zero => exact Nat.le_refl _
  | succ m ih =>
    have h1 := ih (fun k hk => h k (by omega))
    obtain ⟨c, hc, h2, h3⟩ := h m (by omega)
    have h4 := mn_cnt_lt (p := mn_nr r n b m) (q := mn_nr r n b (m + 1)) n (fun i _ hi => mn_nr_le (by omega) hi) hc h3 h2
    omega
/-- n - 1 rounds reach all -/
theorem mn_all (hb : b < n) {j c : Nat} (hc : c < n) (h : mn_nr r n b j c = true) : mn_nr r n b (n - 1) c = true := by
  by_cases hx : ∃ k, k < n ∧ ∀ c, c < n → mn_nr r n b (k + 1) c = true → mn_nr r n b k c = true
  · obtain ⟨k, hk, hf⟩ := hx
    exact mn_nr_le (show k ≤ n - 1 by omega) (by
      rcases Nat.lt_or_ge j k with h1 | h1
      · exact mn_nr_le (by omega) h
      · obtain ⟨d, rfl⟩ := Nat.exists_eq_add_of_le h1
        exact mn_nr_fix hf d c hc h)
  · exfalso
    have h1 := mn_grow (r := r) (n := n) (b := b) n (fun k hk => by
      refine Classical.byContradiction fun hn => hx ⟨k, hk, fun c hc h2 => ?_⟩
      cases h3 : mn_nr r n b k c with
      | true => rfl
      | false => exact absurd ⟨c, hc, h2, h3⟩ hn)
    have h2 := mn_cnt_le (mn_nr r n b n) n
    have h3 := mn_cnt_pos (p := mn_nr r n b 0) hb (mn_nr_0.mpr rfl)
    omega
/-- a number of steps for each: the least, or top if there is none -/
def mn_ds (r : Nat → Nat → Bool) (n b top : Nat) (S : Nat → Nat) : Prop := ∀ c, c < n → (S c = top ∧ ∀ k, mn_nr r n b k c = false) ∨ (S c < n ∧ mn_nr r n b (S c) c = true ∧ ∀ k, k < S c → mn_nr r n b k c = false)
theorem mn_ds_eq {S : Nat → Nat} {top k c : Nat} (h : mn_ds r n b top S) (hc : c < n) (hk : mn_nr r n b k c = true) (hl : ∀ j, j < k → mn_nr r n b j c = false) : S c = k := by
  rcases h c hc with ⟨-, h2⟩ | ⟨-, h2, h3⟩
  · rw [h2 k] at hk
    cases hk
  · rcases Nat.lt_trichotomy (S c) k with h4 | h4 | h4
    · rw [hl _ h4] at h2
      cases h2
    · exact h4
    · rw [h3 _ h4] at hk
      cases hk
theorem mn_ds_same {S S' : Nat → Nat} {top top' c : Nat} (h : mn_ds r n b top S) (h' : mn_ds r n b top' S') (hc : c < n) : S c = S' c ∨ (S c = top ∧ S' c = top') := by
  rcases h c hc with ⟨h1, h2⟩ | ⟨-, h2, h3⟩
  · rcases h' c hc with ⟨h4, -⟩ | ⟨-, h4, -⟩
    · exact Or.inr ⟨h1, h4⟩
    · rw [h2] at h4
      cases h4
  · exact Or.inl (mn_ds_eq h' hc h2 h3).symm
/-- from one that isn't b a step leads nearer -/
theorem mn_step {S : Nat → Nat} {top c : Nat} (h : mn_ds r n b top S) (ht : n ≤ top) (hc : c < n) (hf : S c < n) (hne : c ≠ b) : ∃ y, y < n ∧ r c y = true ∧ S y + 1 = S c := by
  rcases h c hc with ⟨h1, -⟩ | ⟨h1, h2, h3⟩
  · omega
  · cases hS : S c with
    | zero =>
      rw [hS] at h2
      exact absurd (mn_nr_0.mp h2) hne
    | succ k =>
      rw [hS] at h2
      have h4 := h3 k (by omega)
      rcases mn_nr_s.mp h2 with h5 | ⟨y, hy, h5, h6⟩
      · rw [h4] at h5
        cases h5
      · refine ⟨y, hy, h5, ?_⟩
        rw [mn_ds_eq h hy h6 (fun j hj => ?_)]
        cases h7 : mn_nr r n b j y with
        | false => rfl
        | true =>
          have h8 : mn_nr r n b (j + 1) c = true := mn_nr_s.mpr (Or.inr ⟨y, hy, h5, h7⟩)
          rw [h3 (j + 1) (by omega)] at h8
          cases h8
end MN
end
section
/-! pairs in their order; which are locked; who leads to whom; the line that comes of it -/
section ML
/-- the keys of a pair: its strength, who is against it, the drawn places of its upper and its lower -/
def ml_bf (d q pu pl : Nat → Nat) (x y : Nat) : Prop := d y < d x ∨ (d x = d y ∧ (q x < q y ∨ (q x = q y ∧ (pu x < pu y ∨ (pu x = pu y ∧ pl x < pl y)))))
theorem ml_bf_tr {d q pu pl : Nat → Nat} {x y z : Nat} (h1 : ml_bf d q pu pl x y) (h2 : ml_bf d q pu pl y z) : ml_bf d q pu pl x z := by
  unfold ml_bf at h1 h2 ⊢
  omega
theorem ml_bf_ir {d q pu pl : Nat → Nat} {x : Nat} : ¬ ml_bf d q pu pl x x := by
  unfold ml_bf
  omega
theorem ml_bf_to {d q pu pl : Nat → Nat} {x y : Nat} : ml_bf d q pu pl x y ∨ (d x = d y ∧ q x = q y ∧ pu x = pu y ∧ pl x = pl y) ∨ ml_bf d q pu pl y x := by
  unfold ml_bf
  omega
/-- one pair (a, b) comes: who leads to whom then -/
def ml_ld (ld : Nat → Nat → Bool) (a b : Nat) : Nat → Nat → Bool := fun x y => ld x y || ((x == a || ld x a) && (y == b || ld b y))
def ml_lk (lk : Nat → Nat → Bool) (a b : Nat) : Nat → Nat → Bool := fun x y => lk x y || (x == a && y == b)
/-- what stands after the first i of the pairs (u j, v j): locked, leads -/
def ml_run (u v : Nat → Nat) : Nat → (Nat → Nat → Bool) × (Nat → Nat → Bool)
  | 0 => (fun _ _ => false, fun _ _ => false)
  | i + 1 => if (ml_run u v i).2 (v i) (u i) = true then ml_run u v i else (ml_lk (ml_run u v i).1 (u i) (v i), ml_ld (ml_run u v i).2 (u i) (v i))
/-- no ring: leading is a strict order -/
def ml_ord (ld : Nat → Nat → Bool) : Prop := (∀ x, ld x x = false) ∧ ∀ x y z, ld x y = true → ld y z = true → ld x z = true
theorem ml_ld_ord {ld : Nat → Nat → Bool} {a b : Nat} (h : ml_ord ld) (hab : a ≠ b) (hn : ld b a = false) : ml_ord (ml_ld ld a b) := by
  obtain ⟨ir, tr⟩ := h
  have key : ∀ x y, ml_ld ld a b x y = true ↔ ld x y = true ∨ ((x = a ∨ ld x a = true) ∧ (y = b ∨ ld b y = true)) := by
    intro x y
    simp [ml_ld]
  refine ⟨fun x => ?_, fun x y z h1 h2 => ?_⟩
  · cases hx : ml_ld ld a b x x with
    | false => rfl
    | true =>
      exfalso
      rcases (key x x).mp hx with h | ⟨h1 | h1, h2 | h2⟩
      · rw [ir] at h; cases h
      · exact hab (h1.symm.trans h2)
      · rw [h1, hn] at h2; cases h2
      · rw [h2, hn] at h1; cases h1
      · have := tr _ _ _ h2 h1
        rw [hn] at this; cases this
  · rw [key] at h1 h2 ⊢
    rcases h1 with h1 | ⟨h1, h1'⟩
    · rcases h2 with h2 | ⟨h2, h2'⟩
      · exact Or.inl (tr _ _ _ h1 h2)
      · refine Or.inr ⟨Or.inr ?_, h2'⟩
        rcases h2 with h2 | h2
        · rw [← h2]; exact h1
        · exact tr _ _ _ h1 h2
    · rcases h2 with h2 | ⟨h2, h2'⟩
      · refine Or.inr ⟨h1, Or.inr ?_⟩
        rcases h1' with h3 | h3
        · rw [← h3]; exact h2
        · exact tr _ _ _ h3 h2
      · exact Or.inr ⟨h1, h2'⟩
theorem ml_run_ok {u v : Nat → Nat} : ∀ i, (∀ j, j < i → u j ≠ v j) → ml_ord (ml_run u v i).2 ∧ ∀ x y, (ml_run u v i).1 x y = true → (ml_run u v i).2 x y = true
  | 0, _ => ⟨⟨fun _ => rfl, fun _ _ _ h _ => by cases h⟩, fun _ _ h => by cases h⟩
  | i + 1, h => by
    obtain ⟨h1, h2⟩ := ml_run_ok i (fun j hj => h j (by omega))
    unfold ml_run
    by_cases hl : (ml_run u v i).2 (v i) (u i) = true
    · rw [if_pos hl]
      exact ⟨h1, h2⟩
    · rw [if_neg hl]
      refine ⟨ml_ld_ord h1 (h i (by omega)) (by simpa using hl), fun x y hxy => ?_⟩
      show ml_ld (ml_run u v i).2 (u i) (v i) x y = true
      have hxy' : ml_lk (ml_run u v i).1 (u i) (v i) x y = true := hxy
      unfold ml_lk at hxy'
      unfold ml_ld
      rw [Bool.or_eq_true, Bool.and_eq_true] at hxy'
      rcases hxy' with h3 | ⟨h3, h4⟩
      · rw [h2 x y h3]
        rfl
      · rw [h3, h4]
        simp
/-- in a set that isn't empty one is led to by none of it -/
theorem ml_first {ld : Nat → Nat → Bool} (h : ml_ord ld) {n : Nat} {S : Nat → Prop} (hn : ∀ x, S x → x < n) (hs : ∃ x, S x) : ∃ x, S x ∧ ∀ y, S y → ld y x = false := by
  obtain ⟨ir, tr⟩ := h
  obtain ⟨x0, hx0⟩ := hs
  obtain ⟨k, ⟨x, hx, hk⟩, hmin⟩ := pk_least (fun k => ∃ x, S x ∧ mn_cnt (fun y => ld y x) n = k) ⟨_, x0, hx0, rfl⟩
  refine ⟨x, hx, fun y hy => ?_⟩
  cases hl : ld y x with
  | false => rfl
  | true =>
    exfalso
    have h1 := mn_cnt_lt (p := fun z => ld z y) (q := fun z => ld z x) n (fun z _ hz => tr z y x hz hl) (hn y hy) (ir y) hl
    exact hmin _ (by rw [← hk]; exact h1) ⟨y, hy, rfl⟩
end ML
end
section
/-! the least set whose members beat all outside it -/
section MT
/-- whom a member does not beat (r) is a member -/
def mt_cl (r : Nat → Nat → Bool) (n : Nat) (T : Nat → Bool) : Prop := ∀ a b, a < n → b < n → T a = true → r a b = true → T b = true
theorem mt_eq {r : Nat → Nat → Bool} {n : Nat} {T S : Nat → Bool} (hr : ∀ a b, a < n → b < n → r a b = false → r b a = true) (hT : mt_cl r n T) (hS : mt_cl r n S) (hc : mn_cnt T n = mn_cnt S n) : ∀ x, x < n → T x = S x := by
  have key : ∀ (T S : Nat → Bool), mt_cl r n T → mt_cl r n S → mn_cnt T n = mn_cnt S n → ∀ x, x < n → T x = true → S x = true := by
    intro T S hT hS hc x hx h1
    cases h2 : S x with
    | true => rfl
    | false =>
      exfalso
      have h3 : ∀ b, b < n → S b = true → T b = true := by
        intro b hb h4
        cases h5 : r x b with
        | true => exact hT x b hx hb h1 h5
        | false =>
          have h6 := hS b x hb hx h4 (hr x b hx hb h5)
          rw [h2] at h6
          cases h6
      have h7 := mn_cnt_lt (p := S) (q := T) n h3 hx h2 h1
      omega
  intro x hx
  cases h1 : T x with
  | true => exact (key T S hT hS hc x hx h1).symm
  | false =>
    cases h2 : S x with
    | false => rfl
    | true =>
      have h3 := key S T hS hT hc.symm x hx h2
      rw [h1] at h3
      cases h3
/-- all that must be members if c is -/
def mt_of (r : Nat → Nat → Bool) (n c : Nat) : Nat → Bool := mn_nr (fun x y => r y x) n c (n - 1)
theorem mt_of_cl {r : Nat → Nat → Bool} {n c : Nat} (hc : c < n) : mt_cl r n (mt_of r n c) := by
  intro a b ha hb h1 h2
  exact mn_all hc hb (mn_nr_s.mpr (Or.inr ⟨a, ha, h2, h1⟩))
theorem mt_of_self {r : Nat → Nat → Bool} {n c : Nat} : mt_of r n c c = true := mn_nr_le (Nat.zero_le _) (mn_nr_0.mpr rfl)
theorem mt_of_in {r : Nat → Nat → Bool} {n c : Nat} {S : Nat → Bool} (hS : mt_cl r n S) (h : S c = true) : ∀ k x, x < n → mn_nr (fun x y => r y x) n c k x = true → S x = true := by
  intro k
  induction k with
  | zero =>
    intro x _ hx
    rw [mn_nr_0.mp hx]
    exact h
  | succ k ih =>
    intro x hx h1
    rcases mn_nr_s.mp h1 with h2 | ⟨y, hy, h2, h3⟩
    · exact ih x hx h2
    · exact hS y x hy hx (ih y hy h3) h2
theorem mt_top {r : Nat → Nat → Bool} {n c0 : Nat} {T : Nat → Bool} (hr : ∀ a b, a < n → b < n → r a b = false → r b a = true) (hc0 : c0 < n) (hmin : ∀ c, c < n → mn_cnt (mt_of r n c0) n ≤ mn_cnt (mt_of r n c) n)
    (hT : mt_cl r n T) (hne : ∃ c, c < n ∧ T c = true) (hle : ∀ S : Nat → Bool, mt_cl r n S → (∃ c, c < n ∧ S c = true) → mn_cnt T n ≤ mn_cnt S n) : ∀ x, x < n → T x = mt_of r n c0 x := by
  obtain ⟨c, hc, h1⟩ := hne
  have h2 : mn_cnt (mt_of r n c) n ≤ mn_cnt T n := mn_cnt_mono n (fun x hx h => mt_of_in hT h1 _ x hx h)
  have h3 := hmin c hc
  have h4 := hle _ (mt_of_cl hc0) ⟨c0, hc0, mt_of_self⟩
  exact mt_eq hr hT (mt_of_cl hc0) (by omega)
end MT
end
section
section MB
/-! bits of an int: the family 'Int32 by its bits' of kit/laws/BITS.to-paste stands here as given, with what this claim asks beside it -/
def bt (x : Int32) (i : Nat) : Bool := x.toBitVec.getLsbD i
theorem b_ext {x y : Int32} (h : ∀ i, i < 32 → bt x i = bt y i) : x = y := Int32.toBitVec_inj.mp (BitVec.eq_of_getLsbD_eq (fun i hi => h i hi))
theorem b_or (x y : Int32) (i : Nat) : bt (x ||| y) i = (bt x i || bt y i) := by unfold bt; rw [Int32.toBitVec_or, BitVec.getLsbD_or]
theorem b_and (x y : Int32) (i : Nat) : bt (x &&& y) i = (bt x i && bt y i) := by unfold bt; rw [Int32.toBitVec_and, BitVec.getLsbD_and]
theorem b_xor (x y : Int32) (i : Nat) : bt (x ^^^ y) i = (bt x i ^^ bt y i) := by unfold bt; rw [Int32.toBitVec_xor, BitVec.getLsbD_xor]
theorem b_big {x : Int32} {i : Nat} (h : 32 ≤ i) : bt x i = false := BitVec.getLsbD_of_ge _ _ h
theorem b_255 (i : Nat) : bt 255 i = decide (i < 8) := by
  rcases Nat.lt_or_ge i 32 with h | h
  · exact (by decide +kernel : ∀ i, i < 32 → bt 255 i = decide (i < 8)) i h
  · rw [b_big h, decide_eq_false (by omega)]
theorem b_m1 : ∀ i, i < 32 → bt (-1) i = true := by decide +kernel
theorem b_0 (i : Nat) : bt 0 i = false := BitVec.getLsbD_zero
theorem s_l : ∀ n, n < 32 → ((nI n &&& 31).toBitVec.smod 32).toNat = n := by decide +kernel
theorem s_u : ∀ n, n < 32 → (((nI n).toUInt32 &&& Int32.toUInt32 31).toBitVec % 32).toNat = n := by decide +kernel
theorem b_shl (n : Nat) (hn : n < 32) (x : Int32) {i : Nat} (hi : i < 32) : bt (x <<< (nI n &&& 31)) i = (decide (n ≤ i) && bt x (i - n)) := by
  unfold bt
  rw [Int32.toBitVec_shiftLeft]
  show (x.toBitVec <<< ((nI n &&& 31).toBitVec.smod 32).toNat).getLsbD i = _
  rw [s_l n hn, BitVec.getLsbD_shiftLeft]
  rcases Nat.lt_or_ge i n with h | h
  · simp [h, Nat.not_le.mpr h]
  · simp [hi, h, Nat.not_lt.mpr h]
theorem b_ushr (n : Nat) (hn : n < 32) (x : Int32) (i : Nat) : bt ((x.toUInt32 >>> ((nI n).toUInt32 &&& Int32.toUInt32 31)).toInt32) i = bt x (n + i) := by
  show (x.toUInt32 >>> ((nI n).toUInt32 &&& Int32.toUInt32 31)).toBitVec.getLsbD i = x.toUInt32.toBitVec.getLsbD (n + i)
  rw [UInt32.toBitVec_shiftRight]
  show (x.toUInt32.toBitVec >>> (((nI n).toUInt32 &&& Int32.toUInt32 31).toBitVec % 32).toNat).getLsbD i = _
  rw [s_u n hn, BitVec.getLsbD_ushiftRight]
theorem b_sshr (n : Nat) (hn : n < 32) (x : Int32) {i : Nat} (hi : i < 32) : bt (x >>> (nI n &&& 31)) i = if n + i < 32 then bt x (n + i) else bt x 31 := by
  unfold bt
  rw [Int32.toBitVec_shiftRight]
  show (x.toBitVec.sshiftRight ((nI n &&& 31).toBitVec.smod 32).toNat).getLsbD i = _
  rw [s_l n hn, BitVec.getLsbD_sshiftRight, BitVec.msb_eq_getLsbD_last]
  simp [hi]
theorem bt_1 (i : Nat) : bt 1 i = decide (i = 0) := by
  rcases Nat.lt_or_ge i 32 with h | h
  · exact (by decide +kernel : ∀ i, i < 32 → bt 1 i = decide (i = 0)) i h
  · rw [b_big h, decide_eq_false (by omega)]
/-- one bit as a number -/
def bt_n (b : Bool) : Int32 := if b = true then 1 else 0
theorem bt_n_bit (b : Bool) (i : Nat) : bt (bt_n b) i = (b && decide (i = 0)) := by
  cases b
  · show bt 0 i = _
    rw [b_0]; rfl
  · show bt 1 i = _
    rw [bt_1]; rfl
theorem bt_has (x : Int32) {c : Nat} (hc : c < 32) : (x.toUInt32 >>> ((nI c).toUInt32 &&& Int32.toUInt32 31)).toInt32 &&& 1 = bt_n (bt x c) := by
  apply b_ext
  intro i hi
  rw [b_and, b_ushr c hc, bt_1, bt_n_bit]
  by_cases e : i = 0
  · subst e; simp
  · simp [e]
theorem bt_shas (x : Int32) {c : Nat} (hc : c < 32) : (x >>> (nI c &&& 31)) &&& 1 = bt_n (bt x c) := by
  apply b_ext
  intro i hi
  rw [b_and, b_sshr c hc x hi, bt_1, bt_n_bit]
  by_cases e : i = 0
  · subst e; simp [hc]
  · simp [e]
theorem bt_one {c i : Nat} (hc : c < 32) (hi : i < 32) : bt ((1 : Int32) <<< (nI c &&& 31)) i = decide (i = c) := by
  rw [b_shl c hc 1 hi, bt_1]
  by_cases e : i = c
  · subst e; simp
  · by_cases h : c ≤ i
    · simp [h, e]; omega
    · simp [h, e]
theorem bt_n0 {b : Bool} : bt_n b = 0 ↔ b = false := by cases b <;> decide
theorem bt_n1 {b : Bool} : bt_n b = 1 ↔ b = true := by cases b <;> decide
/-- a place of a ranking, a step of a way: four bits -/
def nb (w : Int32) (i : Nat) : Nat := w.toBitVec.toNat / 2 ^ (4 * i) % 16
theorem nb_lt (w : Int32) (i : Nat) : nb w i < 16 := Nat.mod_lt _ (by decide)
theorem nb_get (w : Int32) {i : Nat} (hi : i < 8) : (w.toUInt32 >>> ((nI (4 * i)).toUInt32 &&& Int32.toUInt32 31)).toInt32 &&& 15 = nI (nb w i) := by
  rw [pk_and _ 4 (by decide), pk_ushr w (nI (4 * i)) (4 * i) (s_u (4 * i) (by omega))]
  rfl
end MB
end
section
/-! the first of those that do; the steps of the nearest way -/
section FT
/-- the first below N that does -/
def ft (q : Nat → Bool) (N : Nat) : Option Nat := (List.range N).find? q
theorem ft_eq {q : Nat → Bool} {N c : Nat} : ft q N = some c ↔ c < N ∧ q c = true ∧ ∀ j, j < c → q j = false := by
  induction N with
  | zero => simp [ft]
  | succ N ih =>
    unfold ft at ih ⊢
    rw [List.range_succ, List.find?_append]
    cases h : (List.range N).find? q with
    | some d =>
      have h1 : ∀ x, some d = some x ↔ x < N ∧ q x = true ∧ ∀ j, j < x → q j = false := fun x => by
        constructor
        · intro e
          cases e
          have := h
          have h2 := List.find?_range_eq_some.mp this
          exact ⟨by simpa using h2.2.1, h2.1, fun j hj => by simpa using h2.2.2 j hj⟩
        · intro e
          rw [← h]
          exact List.find?_range_eq_some.mpr ⟨e.2.1, by simpa using e.1, fun j hj => by simpa using e.2.2 j hj⟩
      show some d = some c ↔ _
      rw [h1 c]
      constructor
      · exact fun e => ⟨by omega, e.2⟩
      · intro e
        refine ⟨?_, e.2⟩
        obtain ⟨g1, g2, g3⟩ := (h1 d).mp rfl
        rcases Nat.lt_or_ge c N with g | g
        · exact g
        · have := e.2.2 d (by omega)
          rw [g2] at this
          cases this
    | none =>
      have h1 : ∀ j, j < N → q j = false := fun j hj => by
        have := List.find?_eq_none.mp h j (List.mem_range.mpr hj)
        simpa using this
      show (List.find? q [N]) = some c ↔ _
      cases hq : q N with
      | true =>
        simp only [List.find?, hq]
        constructor
        · intro e
          cases e
          exact ⟨by omega, hq, h1⟩
        · intro e
          rcases Nat.lt_or_ge c N with g | g
          · have := h1 c g
            rw [e.2.1] at this
            cases this
          · rw [show c = N by omega]
      | false =>
        simp only [List.find?, hq]
        constructor
        · intro e
          cases e
        · intro e
          rcases Nat.lt_or_ge c N with g | g
          · have := h1 c g
            rw [e.2.1] at this
            cases this
          · rw [show c = N by omega, hq] at e
            cases e.2.1
theorem ft_none {q : Nat → Bool} {N : Nat} : ft q N = none ↔ ∀ j, j < N → q j = false := by
  unfold ft
  rw [List.find?_eq_none]
  constructor
  · intro h j hj
    simpa using h j (List.mem_range.mpr hj)
  · intro h j hj
    simpa using h j (List.mem_range.mp hj)
theorem ft_to {q q' : Nat → Bool} {N : Nat} (h : ∀ j, j < N → q j = q' j) : ft q N = ft q' N := by
  cases e : ft q N with
  | none => exact (ft_none.mpr (fun j hj => by rw [← h j hj]; exact ft_none.mp e j hj)).symm
  | some d =>
    obtain ⟨g1, g2, g3⟩ := ft_eq.mp e
    exact (ft_eq.mpr ⟨g1, by rw [← h d g1]; exact g2, fun j hj => by rw [← h j (by omega)]; exact g3 j hj⟩).symm
/-- a number, or -1 -/
def oI : Option Nat → Int32
  | none => -1
  | some c => nI c
theorem oI_m1 {o : Option Nat} (h : ∀ c, o = some c → c < 2 ^ 31) : oI o = -1 ↔ o = none := by
  cases o with
  | none => exact ⟨fun _ => rfl, fun _ => rfl⟩
  | some c =>
    refine ⟨fun e => ?_, fun e => by cases e⟩
    have h1 := nI_toInt (h c rfl)
    have h2 : nI c = -1 := e
    rw [h2] at h1
    have h3 : (-1 : Int32).toInt = -1 := by decide
    omega
theorem ft_m1 {q : Nat → Bool} {N : Nat} (hN : N ≤ 2 ^ 31) : oI (ft q N) = -1 ↔ ft q N = none := oI_m1 (fun c e => by
  have := (ft_eq.mp e).1
  omega)
/-- how far, in the w-th round -/
def mn_up (r : Nat → Nat → Bool) (n b w : Nat) (S : Nat → Nat) (c : Nat) : Prop := (S c < w ∧ mn_nr r n b (S c) c = true ∧ ∀ k, k < S c → mn_nr r n b k c = false) ∨ (S c = n ∧ ∀ k, k < w → mn_nr r n b k c = false)
variable {r : Nat → Nat → Bool} {n b : Nat}
theorem mn_up_end {S : Nat → Nat} (hb : b < n) (h : ∀ c, c < n → mn_up r n b n S c) : mn_ds r n b n S := by
  intro c hc
  rcases h c hc with ⟨h1, h2, h3⟩ | ⟨h1, h2⟩
  · exact Or.inr ⟨h1, h2, h3⟩
  · refine Or.inl ⟨h1, fun k => ?_⟩
    cases e : mn_nr r n b k c with
    | false => rfl
    | true =>
      have := mn_all hb hc e
      rw [h2 _ (by omega)] at this
      cases this
theorem mn_up_0 {S : Nat → Nat} (h0 : S b = 0) (h1 : ∀ c, c < n → c ≠ b → S c = n) (c : Nat) (hc : c < n) : mn_up r n b 1 S c := by
  by_cases e : c = b
  · subst e
    exact Or.inl ⟨by omega, by rw [h0]; exact mn_nr_0.mpr rfl, fun k hk => by omega⟩
  · refine Or.inr ⟨h1 c hc e, fun k hk => ?_⟩
    rw [show k = 0 by omega]
    cases e2 : mn_nr r n b 0 c with
    | false => rfl
    | true => exact absurd (mn_nr_0.mp e2) e
theorem mn_up_far {S : Nat → Nat} {w c : Nat} (h : mn_up r n b w S c) (hc : S c ≠ n) : mn_up r n b (w + 1) S c := by
  rcases h with ⟨h1, h2⟩ | ⟨h1, -⟩
  · exact Or.inl ⟨by omega, h2⟩
  · exact absurd h1 hc
/-- one that has none at w - 1 to go to -/
theorem mn_up_no {S : Nat → Nat} {w c : Nat} (hw : 1 ≤ w) (hwn : w < n) (h : mn_up r n b w S c) (hc : S c = n) (ho : ∀ y, y < n → mn_up r n b w S y ∨ mn_up r n b (w + 1) S y) (hn : ∀ y, y < n → r c y = true → S y ≠ w - 1) : mn_up r n b (w + 1) S c := by
  rcases h with ⟨h1, -⟩ | ⟨h1, h2⟩
  · omega
  · refine Or.inr ⟨h1, fun k hk => ?_⟩
    rcases Nat.lt_or_ge k w with g | g
    · exact h2 k g
    · have e : k = w - 1 + 1 := by omega
      subst e
      cases e2 : mn_nr r n b (w - 1 + 1) c with
      | false => rfl
      | true =>
        exfalso
        rcases mn_nr_s.mp e2 with g1 | ⟨y, hy, g1, g2⟩
        · rw [h2 _ (by omega)] at g1
          cases g1
        · have g3 := hn y hy g1
          have g4 : S y < w - 1 ∧ mn_nr r n b (S y) y = true := by
            rcases ho y hy with (⟨q1, q2, q3⟩ | ⟨q1, q2⟩) | (⟨q1, q2, q3⟩ | ⟨q1, q2⟩)
            · exact ⟨by omega, q2⟩
            · rw [q2 _ (by omega)] at g2
              cases g2
            · refine ⟨?_, q2⟩
              rcases Nat.lt_or_ge (w - 1) (S y) with q4 | q4
              · rw [q3 _ q4] at g2
                cases g2
              · omega
            · rw [q2 _ (by omega)] at g2
              cases g2
          have g5 : mn_nr r n b (S y + 1) c = true := mn_nr_s.mpr (Or.inr ⟨y, hy, g1, g4.2⟩)
          rw [h2 _ (by omega)] at g5
          cases g5
theorem mn_up_yes {S : Nat → Nat} {w c y : Nat} (hw : 1 ≤ w) (hwn : w < n) (h : mn_up r n b w S c) (hc : S c = n) (hy : y < n) (ho : mn_up r n b w S y ∨ mn_up r n b (w + 1) S y) (hr : r c y = true) (hs : S y = w - 1) : mn_up r n b (w + 1) (va_up S c w) c := by
  rcases h with ⟨h1, -⟩ | ⟨h1, h2⟩
  · omega
  · have g : mn_nr r n b (w - 1) y = true := by
      rcases ho with (⟨q1, q2, q3⟩ | ⟨q1, q2⟩) | (⟨q1, q2, q3⟩ | ⟨q1, q2⟩)
      · rw [← hs]; exact q2
      · omega
      · rw [← hs]; exact q2
      · omega
    refine Or.inl ?_
    rw [va_up_self]
    refine ⟨by omega, ?_, h2⟩
    have := mn_nr_s (r := r) (n := n) (b := b) (k := w - 1) (c := c) |>.mpr (Or.inr ⟨y, hy, hr, g⟩)
    rwa [show w - 1 + 1 = w by omega] at this
theorem mn_up_ne {S : Nat → Nat} {w c d x : Nat} (h : mn_up r n b w S c) (hd : c ≠ d) : mn_up r n b w (va_up S d x) c := by
  unfold mn_up
  rw [va_up_ne _ _ hd]
  exact h
/-- where the way goes next -/
def wy_nx (r : Nat → Nat → Bool) (n : Nat) (S : Nat → Nat) (at_ : Nat) : Nat := (ft (fun c => decide (S c + 1 = S at_) && r at_ c) n).getD at_
theorem wy_nx_ok {S : Nat → Nat} {top c : Nat} (h : mn_ds r n b top S) (ht : n ≤ top) (hc : c < n) (hf : S c < n) (hne : c ≠ b) : ft (fun y => decide (S y + 1 = S c) && r c y) n = some (wy_nx r n S c) ∧ wy_nx r n S c < n ∧ r c (wy_nx r n S c) = true ∧ S (wy_nx r n S c) + 1 = S c := by
  obtain ⟨y, hy, h1, h2⟩ := mn_step h ht hc hf hne
  unfold wy_nx
  cases e : ft (fun y => decide (S y + 1 = S c) && r c y) n with
  | none =>
    have := ft_none.mp e y hy
    rw [h1, decide_eq_true h2] at this
    cases this
  | some d =>
    obtain ⟨g1, g2, -⟩ := ft_eq.mp e
    rw [Bool.and_eq_true] at g2
    exact ⟨rfl, g1, g2.2, of_decide_eq_true g2.1⟩
/-- the way's word: d steps are left, the i-th comes -/
def wy_w (nx : Nat → Nat) : Nat → Nat → Nat → Int32 → Int32
  | 0, _, _, w => w
  | d + 1, i, a, w => wy_w nx d (i + 1) (nx a) (w ||| (nI (nx a + 1) <<< (nI (4 * i) &&& 31)))
theorem mn_ds_b {S : Nat → Nat} {top : Nat} (h : mn_ds r n b top S) (hb : b < n) : S b = 0 := mn_ds_eq h hb (mn_nr_0.mpr rfl) (fun j hj => by omega)
theorem mn_ds_0 {S : Nat → Nat} {top c : Nat} (h : mn_ds r n b top S) (ht : n ≤ top) (hc : c < n) (h0 : S c = 0) : c = b := by
  rcases h c hc with ⟨h1, -⟩ | ⟨h1, h2, -⟩
  · omega
  · rw [h0] at h2
    exact mn_nr_0.mp h2
/-- the same word, however far is told -/
theorem wy_same {S S' : Nat → Nat} {top top' : Nat} (h : mn_ds r n b top S) (h' : mn_ds r n b top' S') (ht : n ≤ top) (ht' : n ≤ top') : ∀ d i a w, a < n → S a = d → d < n → wy_w (wy_nx r n S) d i a w = wy_w (wy_nx r n S') d i a w := by
  intro d
  induction d with
  | zero => intros; rfl
  | succ d ih =>
    intro i a w ha hS hd
    have hab : a ≠ b := by
      intro e
      subst e
      rw [mn_ds_b h ha] at hS
      cases hS
    have hsm : ∀ c, c < n → S c < n → S' c = S c := fun c hc h1 => by
      rcases mn_ds_same h h' hc with e | ⟨e, -⟩ <;> omega
    have hsm' : ∀ c, c < n → S' c < n → S' c = S c := fun c hc h1 => by
      rcases mn_ds_same h h' hc with e | ⟨-, e⟩ <;> omega
    have e : wy_nx r n S a = wy_nx r n S' a := by
      unfold wy_nx
      rw [ft_to (q' := fun c => decide (S' c + 1 = S' a) && r a c) (fun c hc => ?_)]
      have h1 := hsm a ha (by omega)
      have : (S c + 1 = S a) ↔ (S' c + 1 = S' a) := by
        constructor
        · intro g
          have := hsm c hc (by omega)
          omega
        · intro g
          have := hsm' c hc (by omega)
          omega
      show (decide (S c + 1 = S a) && r a c) = (decide (S' c + 1 = S' a) && r a c)
      rw [decide_eq_decide.mpr this]
    obtain ⟨-, g1, g2, g3⟩ := wy_nx_ok h ht ha (by omega) hab
    unfold wy_w
    rw [← e]
    exact ih _ _ _ g1 (by omega) (by omega)
/-- a way is there: the steps are fewer than n -/
theorem mn_ds_lt {S : Nat → Nat} {top c k : Nat} (h : mn_ds r n b top S) (hc : c < n) (hk : mn_nr r n b k c = true) : S c < n := by
  rcases h c hc with ⟨-, h2⟩ | ⟨h1, -⟩
  · rw [h2 k] at hk
    cases hk
  · exact h1
theorem mn_of_tg {dr : Nat → Nat → Nat} {s a c : Nat} (hp : Relation.TransGen (mg_st dr n s) a c) : ∀ k, mn_nr (fun x y => decide (s ≤ dr x y)) n b k c = true → ∃ k, mn_nr (fun x y => decide (s ≤ dr x y)) n b k a = true := by
  induction hp with
  | single g => exact fun k hk => ⟨k + 1, mn_nr_s.mpr (Or.inr ⟨_, g.2.1, decide_eq_true g.2.2, hk⟩)⟩
  | tail _ g ih => exact fun k hk => ih (k + 1) (mn_nr_s.mpr (Or.inr ⟨_, g.2.1, decide_eq_true g.2.2, hk⟩))
end FT
end
section
/-! pairs put into their order one by one; the line that the locked pairs leave -/
section SO
/-- direct strengths as numbers -/
def drn (p : Nat → Nat → Nat) (a b : Nat) : Nat := if p b a < p a b then p a b else 0
/-- a pair (a, b) is 8 a + b; ps: the places in the drawn order -/
def so_bf (p : Nat → Nat → Nat) (ps : Nat → Nat) (x y : Nat) : Prop := ml_bf (fun x => drn p (x / 8) (x % 8)) (fun x => p (x % 8) (x / 8)) (fun x => ps (x / 8)) (fun x => ps (x % 8)) x y
def so_ov (p : Nat → Nat → Nat) (x y : Nat) : Prop := drn p (y / 8) (y % 8) < drn p (x / 8) (x % 8) ∨ (drn p (x / 8) (x % 8) = drn p (y / 8) (y % 8) ∧ p (x % 8) (x / 8) < p (y % 8) (y / 8))
/-- y was drawn before x -/
def so_dr (ps : Nat → Nat) (y x : Nat) : Prop := ps (y / 8) < ps (x / 8) ∨ (ps (y / 8) = ps (x / 8) ∧ ps (y % 8) < ps (x % 8))
variable {p : Nat → Nat → Nat} {ps : Nat → Nat} {e : Nat → Nat} {x y pn : Nat}
theorem so_ov_bf (h : so_ov p x y) : so_bf p ps x y := by
  unfold so_ov at h
  unfold so_bf ml_bf
  dsimp only
  omega
theorem so_no_bf (h : ¬ so_ov p x y) (hd : so_dr ps y x) : so_bf p ps y x := by
  unfold so_ov at h
  unfold so_dr at hd
  unfold so_bf ml_bf
  dsimp only
  omega
theorem so_bf_tr {z : Nat} (h1 : so_bf p ps x y) (h2 : so_bf p ps y z) : so_bf p ps x z := ml_bf_tr h1 h2
theorem so_bf_ir : ¬ so_bf p ps x x := ml_bf_ir
def so_st (p : Nat → Nat → Nat) (ps : Nat → Nat) (e : Nat → Nat) (pn : Nat) : Prop := ∀ i j, i < j → j < pn → so_bf p ps (e i) (e j)
def so_in (e : Nat → Nat) (k x i : Nat) : Nat := if i < k then e i else if i = k then x else e (i - 1)
theorem so_in_lt {k i : Nat} (h : i < k) : so_in e k x i = e i := if_pos h
theorem so_in_eq {k i : Nat} (h : i = k) : so_in e k x i = x := by unfold so_in; rw [if_neg (by omega), if_pos h]
theorem so_in_gt {k i : Nat} (h : k < i) : so_in e k x i = e (i - 1) := by unfold so_in; rw [if_neg (by omega), if_neg (by omega)]
theorem so_ins {k : Nat} (h : so_st p ps e pn) (hk : k ≤ pn) (hd : ∀ i, i < pn → so_dr ps (e i) x) (h1 : k = 0 ∨ ¬ so_ov p x (e (k - 1))) (h2 : ∀ i, k ≤ i → i < pn → so_ov p x (e i)) : so_st p ps (so_in e k x) (pn + 1) := by
  have hlo : ∀ i, i < k → so_bf p ps (e i) x := fun i hi => by
    rcases h1 with h1 | h1
    · omega
    · have g := so_no_bf (ps := ps) h1 (hd (k - 1) (by omega))
      rcases Nat.lt_or_ge i (k - 1) with q | q
      · exact so_bf_tr (h i (k - 1) q (by omega)) g
      · rw [show i = k - 1 by omega]; exact g
  intro i j hij hj
  rcases Nat.lt_trichotomy j k with q | q | q
  · rw [so_in_lt q, so_in_lt (by omega)]
    exact h i j hij (by omega)
  · rw [so_in_eq q, so_in_lt (by omega)]
    exact hlo i (by omega)
  · rw [so_in_gt q]
    rcases Nat.lt_trichotomy i k with g | g | g
    · rw [so_in_lt g]
      exact h i (j - 1) (by omega) (by omega)
    · rw [so_in_eq g]
      exact so_ov_bf (h2 (j - 1) (by omega) (by omega))
    · rw [so_in_gt g]
      exact h (i - 1) (j - 1) (by omega) (by omega)
theorem so_in_mem {k : Nat} (hk : k ≤ pn) : (∃ i, i < pn + 1 ∧ so_in e k x i = y) ↔ (y = x ∨ ∃ i, i < pn ∧ e i = y) := by
  constructor
  · rintro ⟨i, hi, h⟩
    rcases Nat.lt_trichotomy i k with q | q | q
    · rw [so_in_lt q] at h
      exact Or.inr ⟨i, by omega, h⟩
    · rw [so_in_eq q] at h
      exact Or.inl h.symm
    · rw [so_in_gt q] at h
      exact Or.inr ⟨i - 1, by omega, h⟩
  · rintro (h | ⟨i, hi, h⟩)
    · exact ⟨k, by omega, by rw [so_in_eq rfl, h]⟩
    · rcases Nat.lt_or_ge i k with q | q
      · exact ⟨i, by omega, by rw [so_in_lt q, h]⟩
      · exact ⟨i + 1, by omega, by rw [so_in_gt (by omega), Nat.add_sub_cancel, h]⟩
/-- the drawn order and its places -/
def pm_ok (N : Nat) (dw ps : Nat → Nat) : Prop := (∀ i, i < N → dw i < N ∧ ps (dw i) = i) ∧ ∀ a, a < N → ps a < N ∧ dw (ps a) = a
/-- all pairs in their order -/
def so_all (p : Nat → Nat → Nat) (ps : Nat → Nat) (N : Nat) (e : Nat → Nat) (pn : Nat) : Prop := so_st p ps e pn ∧ (∀ i, i < pn → e i / 8 < N ∧ e i % 8 < N ∧ 0 < drn p (e i / 8) (e i % 8)) ∧ ∀ a b, a < N → b < N → 0 < drn p a b → ∃ i, i < pn ∧ e i = 8 * a + b
/-- those drawn before the place (i0, j0) -/
def so_to (p : Nat → Nat → Nat) (ps dw : Nat → Nat) (N i0 j0 : Nat) (e : Nat → Nat) (pn : Nat) : Prop := so_st p ps e pn ∧ pn ≤ i0 * N + j0 ∧ ∀ y, (∃ t, t < pn ∧ e t = y) ↔ ∃ i j, i < N ∧ j < N ∧ (i < i0 ∨ (i = i0 ∧ j < j0)) ∧ 0 < drn p (dw i) (dw j) ∧ y = 8 * dw i + dw j
variable {dw : Nat → Nat} {N i0 j0 : Nat}
theorem so_to_no (h : so_to p ps dw N i0 j0 e pn) (hz : ¬ 0 < drn p (dw i0) (dw j0)) : so_to p ps dw N i0 (j0 + 1) e pn := by
  obtain ⟨h1, h2, h3⟩ := h
  refine ⟨h1, by omega, fun y => (h3 y).trans ⟨?_, ?_⟩⟩
  · rintro ⟨i, j, g1, g2, g3, g4⟩
    exact ⟨i, j, g1, g2, by omega, g4⟩
  · rintro ⟨i, j, g1, g2, g3, g4, g5⟩
    refine ⟨i, j, g1, g2, ?_, g4, g5⟩
    rcases g3 with g | ⟨g, g'⟩
    · exact Or.inl g
    · rcases Nat.lt_or_ge j j0 with q | q
      · exact Or.inr ⟨g, q⟩
      · subst g
        rw [show j = j0 by omega] at g4
        exact absurd g4 hz
theorem so_to_row (h : so_to p ps dw N i0 N e pn) : so_to p ps dw N (i0 + 1) 0 e pn := by
  obtain ⟨h1, h2, h3⟩ := h
  refine ⟨h1, by rw [Nat.add_mul]; omega, fun y => (h3 y).trans ⟨?_, ?_⟩⟩
  · rintro ⟨i, j, g1, g2, g3, g4⟩
    exact ⟨i, j, g1, g2, by omega, g4⟩
  · rintro ⟨i, j, g1, g2, g3, g4⟩
    exact ⟨i, j, g1, g2, by omega, g4⟩
theorem so_to_dr (hN : N ≤ 8) (hp : pm_ok N dw ps) (h : so_to p ps dw N i0 j0 e pn) (hi : i0 < N) (hj : j0 < N) : ∀ t, t < pn → so_dr ps (e t) (8 * dw i0 + dw j0) := by
  intro t ht
  obtain ⟨i, j, g1, g2, g3, -, g5⟩ := (h.2.2 (e t)).mp ⟨t, ht, rfl⟩
  have a1 := hp.1 i g1
  have a2 := hp.1 j g2
  have a3 := hp.1 i0 hi
  have a4 := hp.1 j0 hj
  unfold so_dr
  rw [g5, show (8 * dw i + dw j) / 8 = dw i by omega, show (8 * dw i + dw j) % 8 = dw j by omega, show (8 * dw i0 + dw j0) / 8 = dw i0 by omega, show (8 * dw i0 + dw j0) % 8 = dw j0 by omega, a1.2, a2.2, a3.2, a4.2]
  omega
theorem so_to_yes {k : Nat} (hN : N ≤ 8) (hp : pm_ok N dw ps) (h : so_to p ps dw N i0 j0 e pn) (hi : i0 < N) (hj : j0 < N) (hz : 0 < drn p (dw i0) (dw j0)) (hk : k ≤ pn) (g1 : k = 0 ∨ ¬ so_ov p (8 * dw i0 + dw j0) (e (k - 1))) (g2 : ∀ i, k ≤ i → i < pn → so_ov p (8 * dw i0 + dw j0) (e i)) : so_to p ps dw N i0 (j0 + 1) (so_in e k (8 * dw i0 + dw j0)) (pn + 1) := by
  have hd := so_to_dr hN hp h hi hj
  obtain ⟨h1, h2, h3⟩ := h
  refine ⟨so_ins h1 hk hd g1 g2, by omega, fun y => (so_in_mem hk).trans ?_⟩
  rw [h3 y]
  constructor
  · rintro (q | ⟨i, j, q1, q2, q3, q4⟩)
    · exact ⟨i0, j0, hi, hj, by omega, hz, q⟩
    · exact ⟨i, j, q1, q2, by omega, q4⟩
  · rintro ⟨i, j, q1, q2, q3, q4, q5⟩
    rcases q3 with q | ⟨q, q'⟩
    · exact Or.inr ⟨i, j, q1, q2, Or.inl q, q4, q5⟩
    · rcases Nat.lt_or_ge j j0 with g | g
      · exact Or.inr ⟨i, j, q1, q2, Or.inr ⟨q, g⟩, q4, q5⟩
      · subst q
        rw [show j = j0 by omega] at q5
        exact Or.inl q5
theorem so_to_end (hN : N ≤ 8) (hp : pm_ok N dw ps) (h : so_to p ps dw N N 0 e pn) : so_all p ps N e pn := by
  obtain ⟨h1, h2, h3⟩ := h
  refine ⟨h1, fun t ht => ?_, fun a b ha hb hd => ?_⟩
  · obtain ⟨i, j, g1, g2, -, g4, g5⟩ := (h3 (e t)).mp ⟨t, ht, rfl⟩
    have a1 := hp.1 i g1
    have a2 := hp.1 j g2
    rw [g5, show (8 * dw i + dw j) / 8 = dw i by omega, show (8 * dw i + dw j) % 8 = dw j by omega]
    exact ⟨a1.1, a2.1, g4⟩
  · have a1 := hp.2 a ha
    have a2 := hp.2 b hb
    exact (h3 _).mpr ⟨ps a, ps b, a1.1, a2.1, by omega, by rw [a1.2, a2.2]; exact hd, by rw [a1.2, a2.2]⟩
theorem so_to_0 : so_to p ps dw N 0 0 e 0 := ⟨fun _ _ _ h => absurd h (Nat.not_lt_zero _), Nat.zero_le _, fun y => ⟨fun ⟨_, h, _⟩ => absurd h (Nat.not_lt_zero _), fun ⟨_, _, _, _, h, _⟩ => by omega⟩⟩
/-! who leads: only candidates -/
theorem ml_run_in {u v : Nat → Nat} : ∀ i, (∀ j, j < i → u j < N ∧ v j < N) → ∀ x y, (ml_run u v i).2 x y = true → x < N ∧ y < N
  | 0, _ => fun _ _ h => by cases h
  | i + 1, h => by
    have ih := ml_run_in i (fun j hj => h j (by omega))
    have h1 := h i (by omega)
    unfold ml_run
    split
    · exact ih
    · intro x y hxy
      have hxy' : ml_ld (ml_run u v i).2 (u i) (v i) x y = true := hxy
      unfold ml_ld at hxy'
      rw [Bool.or_eq_true, Bool.and_eq_true, Bool.or_eq_true, Bool.or_eq_true, beq_iff_eq, beq_iff_eq] at hxy'
      rcases hxy' with q | ⟨q | q, q' | q'⟩
      · exact ih x y q
      · exact ⟨by omega, by omega⟩
      · exact ⟨by omega, (ih _ _ q').2⟩
      · exact ⟨(ih _ _ q).1, by omega⟩
      · exact ⟨(ih _ _ q).1, (ih _ _ q').2⟩
/-! the line -/
def ln_q (lk : Nat → Nat → Bool) (dw : Nat → Nat) (N : Nat) (L : Nat → Bool) (i : Nat) : Bool := L (dw i) && decide (∀ b, b < N → L b = true → lk b (dw i) = false)
def ln_nx (lk : Nat → Nat → Bool) (dw : Nat → Nat) (N : Nat) (L : Nat → Bool) : Nat := dw ((ft (ln_q lk dw N L) N).getD 0)
def ln_left (lk : Nat → Nat → Bool) (dw : Nat → Nat) (N : Nat) : Nat → Nat → Bool
  | 0 => fun x => decide (x < N)
  | j + 1 => fun x => ln_left lk dw N j x && !(x == ln_nx lk dw N (ln_left lk dw N j))
def ln_at (lk : Nat → Nat → Bool) (dw : Nat → Nat) (N j : Nat) : Nat := ln_nx lk dw N (ln_left lk dw N j)
theorem mn_cnt_rm (q : Nat → Bool) (a : Nat) : ∀ n, mn_cnt q n ≤ mn_cnt (fun x => q x && !(x == a)) n + 1 ∧ (n ≤ a → mn_cnt q n = mn_cnt (fun x => q x && !(x == a)) n)
  | 0 => ⟨by show 0 ≤ _; omega, fun _ => rfl⟩
  | n + 1 => by
    obtain ⟨h1, h2⟩ := mn_cnt_rm q a n
    unfold mn_cnt
    by_cases e : n = a
    · subst e
      have := h2 (Nat.le_refl _)
      refine ⟨?_, fun h => by omega⟩
      simp only [beq_self_eq_true, Bool.not_true, Bool.and_false]
      split <;> simp <;> omega
    · have e2 : (q n && !(n == a)) = q n := by simp [e]
      rw [e2]
      exact ⟨by omega, fun h => by rw [h2 (by omega)]⟩
theorem mn_cnt_all : ∀ n m, n ≤ m → mn_cnt (fun x => decide (x < m)) n = n
  | 0, _, _ => rfl
  | n + 1, m, h => by
    unfold mn_cnt
    rw [mn_cnt_all n m (by omega), if_pos (decide_eq_true (by omega))]
theorem ln_left_cnt {lk : Nat → Nat → Bool} : ∀ j, N ≤ mn_cnt (ln_left lk dw N j) N + j
  | 0 => Nat.le_of_eq (mn_cnt_all N N (Nat.le_refl _)).symm
  | j + 1 => by
    have h := ln_left_cnt (lk := lk) j
    have h2 := (mn_cnt_rm (ln_left lk dw N j) (ln_nx lk dw N (ln_left lk dw N j)) N).1
    show N ≤ mn_cnt (fun x => ln_left lk dw N j x && !(x == ln_nx lk dw N (ln_left lk dw N j))) N + (j + 1)
    omega
theorem ln_left_in {lk : Nat → Nat → Bool} : ∀ j x, ln_left lk dw N j x = true → x < N
  | 0, x, h => of_decide_eq_true h
  | j + 1, x, h => by
    have h' : (ln_left lk dw N j x && !(x == ln_nx lk dw N (ln_left lk dw N j))) = true := h
    rw [Bool.and_eq_true] at h'
    exact ln_left_in j x h'.1
theorem mn_cnt_ex {q : Nat → Bool} : ∀ n, 0 < mn_cnt q n → ∃ x, x < n ∧ q x = true
  | 0, h => absurd h (Nat.not_lt_zero _)
  | n + 1, h => by
    by_cases e : q n = true
    · exact ⟨n, by omega, e⟩
    · unfold mn_cnt at h
      rw [if_neg e] at h
      obtain ⟨x, h1, h2⟩ := mn_cnt_ex n h
      exact ⟨x, by omega, h2⟩
/-- one is free as long as one is left -/
theorem ln_free {lk ld : Nat → Nat → Bool} (hp : pm_ok N dw ps) (ho : ml_ord ld) (hl : ∀ x y, lk x y = true → ld x y = true) {j : Nat} (hj : j < N) : ∃ i, i < N ∧ ft (ln_q lk dw N (ln_left lk dw N j)) N = some i ∧ ln_at lk dw N j = dw i ∧ ln_left lk dw N j (dw i) = true := by
  have hc := ln_left_cnt (lk := lk) (dw := dw) (N := N) j
  obtain ⟨x0, h0, h0'⟩ := mn_cnt_ex (q := ln_left lk dw N j) N (by omega)
  obtain ⟨x, hx, hf⟩ := ml_first ho (n := N) (S := fun x => ln_left lk dw N j x = true) (fun x h => ln_left_in j x h) ⟨x0, h0'⟩
  have hxN := ln_left_in j x hx
  obtain ⟨hs, hs'⟩ := hp.2 x hxN
  have hq : ln_q lk dw N (ln_left lk dw N j) (ps x) = true := by
    unfold ln_q
    rw [hs', hx, Bool.true_and]
    refine decide_eq_true (fun b _ hb => ?_)
    cases e : lk b x with
    | false => rfl
    | true =>
      have := hf b hb
      rw [hl _ _ e] at this
      cases this
  cases e : ft (ln_q lk dw N (ln_left lk dw N j)) N with
  | none =>
    rw [ft_none.mp e _ hs] at hq
    cases hq
  | some i =>
    obtain ⟨g1, g2, -⟩ := ft_eq.mp e
    unfold ln_q at g2
    rw [Bool.and_eq_true] at g2
    refine ⟨i, g1, rfl, ?_, g2.1⟩
    unfold ln_at ln_nx
    rw [e]
    rfl
end SO
end
section
/-! names, words, sites: written by gen/names.py out of the task's papers -/
def T_Ba : u_T := fun k => match k with
  | 0 => ("BeatPathOffice$Batch", "stage", "I", false)
  | 1 => ("BeatPathOffice$Batch", "size", "I", false)
  | 2 => ("BeatPathOffice$Batch", "rankings", "[I", true)
  | _ => ("BeatPathOffice$Batch", "times", "[I", true)
def ty_Ba : Nat → FieldType := fun k => match k with
  | 0 => .int
  | 1 => .int
  | 2 => .array .int
  | _ => .array .int
theorem nm_Ba : ∀ a, a < 4 → ∀ b, b < 4 → a ≠ b → (T_Ba a).2.1 ≠ (T_Ba b).2.1 := by decide +kernel
theorem ok_Ba : ∀ k, k < 4 → parseFieldDescriptor (T_Ba k).2.2.1 = some (ty_Ba k) := by decide +kernel
def T_Pa : u_T := fun k => match k with
  | 0 => ("BeatPathOffice$BeatPaths", "n", "I", true)
  | 1 => ("BeatPathOffice$BeatPaths", "strongest", "[[I", true)
  | _ => ("BeatPathOffice$BeatPaths", "steps", "[I", true)
def ty_Pa : Nat → FieldType := fun k => match k with
  | 0 => .int
  | 1 => .array (.array .int)
  | _ => .array .int
theorem nm_Pa : ∀ a, a < 3 → ∀ b, b < 3 → a ≠ b → (T_Pa a).2.1 ≠ (T_Pa b).2.1 := by decide +kernel
theorem ok_Pa : ∀ k, k < 3 → parseFieldDescriptor (T_Pa k).2.2.1 = some (ty_Pa k) := by decide +kernel
def T_Co : u_T := fun k => match k with
  | 0 => ("BeatPathOffice$Count", "n", "I", true)
  | 1 => ("BeatPathOffice$Count", "voterSum", "I", false)
  | _ => ("BeatPathOffice$Count", "preferring", "[[I", true)
def ty_Co : Nat → FieldType := fun k => match k with
  | 0 => .int
  | 1 => .int
  | _ => .array (.array .int)
theorem nm_Co : ∀ a, a < 3 → ∀ b, b < 3 → a ≠ b → (T_Co a).2.1 ≠ (T_Co b).2.1 := by decide +kernel
theorem ok_Co : ∀ k, k < 3 → parseFieldDescriptor (T_Co k).2.2.1 = some (ty_Co k) := by decide +kernel
def T_Lo : u_T := fun k => match k with
  | 0 => ("BeatPathOffice$Locks", "n", "I", true)
  | 1 => ("BeatPathOffice$Locks", "lockedOver", "[I", true)
  | 2 => ("BeatPathOffice$Locks", "comesTo", "[I", true)
  | 3 => ("BeatPathOffice$Locks", "upper", "[I", true)
  | 4 => ("BeatPathOffice$Locks", "lower", "[I", true)
  | _ => ("BeatPathOffice$Locks", "pairs", "I", false)
def ty_Lo : Nat → FieldType := fun k => match k with
  | 0 => .int
  | 1 => .array .int
  | 2 => .array .int
  | 3 => .array .int
  | 4 => .array .int
  | _ => .int
theorem nm_Lo : ∀ a, a < 6 → ∀ b, b < 6 → a ≠ b → (T_Lo a).2.1 ≠ (T_Lo b).2.1 := by decide +kernel
theorem ok_Lo : ∀ k, k < 6 → parseFieldDescriptor (T_Lo k).2.2.1 = some (ty_Lo k) := by decide +kernel
def T_Of : u_T := fun k => match k with
  | 0 => ("BeatPathOffice", "candidates", "I", true)
  | 1 => ("BeatPathOffice", "drawnOrder", "[I", true)
  | 2 => ("BeatPathOffice", "batches", "[LBeatPathOffice$Batch;", true)
  | 3 => ("BeatPathOffice", "opened", "I", false)
  | 4 => ("BeatPathOffice", "sealed", "Z", false)
  | 5 => ("BeatPathOffice", "count", "LBeatPathOffice$Count;", true)
  | 6 => ("BeatPathOffice", "trial", "LBeatPathOffice$Count;", true)
  | 7 => ("BeatPathOffice", "paths", "LBeatPathOffice$BeatPaths;", true)
  | _ => ("BeatPathOffice", "locks", "LBeatPathOffice$Locks;", true)
def ty_Of : Nat → FieldType := fun k => match k with
  | 0 => .int
  | 1 => .array .int
  | 2 => .array (.object "BeatPathOffice$Batch")
  | 3 => .int
  | 4 => .boolean
  | 5 => .object "BeatPathOffice$Count"
  | 6 => .object "BeatPathOffice$Count"
  | 7 => .object "BeatPathOffice$BeatPaths"
  | _ => .object "BeatPathOffice$Locks"
theorem nm_Of : ∀ a, a < 9 → ∀ b, b < 9 → a ≠ b → (T_Of a).2.1 ≠ (T_Of b).2.1 := by decide +kernel
theorem ok_Of : ∀ k, k < 9 → parseFieldDescriptor (T_Of k).2.2.1 = some (ty_Of k) := by decide +kernel
def T_Mo : u_T := fun k => match k with
  | 0 => ("BeatPathOfficeModel", "many", "I", true)
  | 1 => ("BeatPathOfficeModel", "code", "I", false)
  | 2 => ("BeatPathOfficeModel", "sealed", "Z", false)
  | 3 => ("BeatPathOfficeModel", "drawn", "[I", true)
  | 4 => ("BeatPathOfficeModel", "batches", "I", false)
  | 5 => ("BeatPathOfficeModel", "state", "[I", true)
  | 6 => ("BeatPathOfficeModel", "sizes", "[I", true)
  | 7 => ("BeatPathOfficeModel", "ranking", "[I", true)
  | 8 => ("BeatPathOfficeModel", "times", "[I", true)
  | 9 => ("BeatPathOfficeModel", "prefer", "[I", true)
  | 10 => ("BeatPathOfficeModel", "direct", "[I", true)
  | 11 => ("BeatPathOfficeModel", "strength", "[I", true)
  | 12 => ("BeatPathOfficeModel", "locked", "[Z", true)
  | 13 => ("BeatPathOfficeModel", "leads", "[Z", true)
  | 14 => ("BeatPathOfficeModel", "far", "[I", true)
  | 15 => ("BeatPathOfficeModel", "listed", "I", false)
  | _ => ("BeatPathOfficeModel", "list", "[I", true)
def ty_Mo : Nat → FieldType := fun k => match k with
  | 0 => .int
  | 1 => .int
  | 2 => .boolean
  | 3 => .array .int
  | 4 => .int
  | 5 => .array .int
  | 6 => .array .int
  | 7 => .array .int
  | 8 => .array .int
  | 9 => .array .int
  | 10 => .array .int
  | 11 => .array .int
  | 12 => .array .boolean
  | 13 => .array .boolean
  | 14 => .array .int
  | 15 => .int
  | _ => .array .int
theorem nm_Mo : ∀ a, a < 17 → ∀ b, b < 17 → a ≠ b → (T_Mo a).2.1 ≠ (T_Mo b).2.1 := by decide +kernel
theorem ok_Mo : ∀ k, k < 17 → parseFieldDescriptor (T_Mo k).2.2.1 = some (ty_Mo k) := by decide +kernel
abbrev bw_cl : List vw_C := [("BeatPathOffice$Batch", T_Ba, 4), ("BeatPathOffice$BeatPaths", T_Pa, 3), ("BeatPathOffice$Count", T_Co, 3), ("BeatPathOffice$Locks", T_Lo, 6), ("BeatPathOffice", T_Of, 9), ("BeatPathOfficeModel", T_Mo, 17)]
def bw_ext : List Cond := [.isRef (.static "java/lang/Throwable" "UNASSIGNED_STACK" "[Ljava/lang/StackTraceElement;"), .isRef (.static "java/lang/Throwable" "SUPPRESSED_SENTINEL" "Ljava/util/List;"), .not (.castable "java/lang/IllegalStateException" "java/lang/IllegalArgumentException"), .not (.castable "java/lang/IndexOutOfBoundsException" "java/lang/IllegalArgumentException"), .not (.castable "java/lang/IllegalArgumentException" "java/lang/IllegalStateException"), .not (.castable "java/lang/IndexOutOfBoundsException" "java/lang/IllegalStateException"), .not (.castable "java/lang/IllegalArgumentException" "java/lang/IndexOutOfBoundsException"), .not (.castable "java/lang/IllegalStateException" "java/lang/IndexOutOfBoundsException")]
def bw_TB : List Cond := lw_tbl ++ bw_ext
theorem bw_t {w : Cond} {i : Nat} (h : tables_1[i]? = some w) : w ∈ bw_TB := List.mem_append_left _ (List.mem_append_right _ (List.mem_of_getElem? h))
theorem bw_p {w : Cond} {i : Nat} (h : (k2_sels lw_privs)[i]? = some w) : w ∈ bw_TB := List.mem_append_left _ (List.mem_append_left _ (List.mem_of_getElem? h))
theorem bw_e {w : Cond} {i : Nat} (h : bw_ext[i]? = some w) : w ∈ bw_TB := List.mem_append_right _ (List.mem_of_getElem? h)
abbrev Y_Of_init : bj_Y := ("BeatPathOffice", ⟨"BeatPathOffice", "<init>", "(I)V"⟩, prog_1_method_1_code, 3, none, [])
abbrev Y_Ba_init : bj_Y := ("BeatPathOffice$Batch", ⟨"BeatPathOffice$Batch", "<init>", "()V"⟩, prog_2_method_1_code, 1, none, [])
abbrev Y_Co_init : bj_Y := ("BeatPathOffice$Count", ⟨"BeatPathOffice$Count", "<init>", "(I)V"⟩, prog_4_method_1_code, 2, none, [])
abbrev Y_Pa_init : bj_Y := ("BeatPathOffice$BeatPaths", ⟨"BeatPathOffice$BeatPaths", "<init>", "(I)V"⟩, prog_3_method_1_code, 2, none, [])
abbrev Y_Lo_init : bj_Y := ("BeatPathOffice$Locks", ⟨"BeatPathOffice$Locks", "<init>", "(I)V"⟩, prog_5_method_1_code, 2, none, [])
abbrev Y_Of_voters : bj_Y := ("BeatPathOffice", ⟨"BeatPathOffice", "voters", "()I"⟩, prog_1_method_9_code, 1, (some .int), [])
abbrev Y_Of_seal : bj_Y := ("BeatPathOffice", ⟨"BeatPathOffice", "seal", "()Z"⟩, prog_1_method_20_code, 2, (some .boolean), [])
abbrev Y_La_cell : bj_Y := ("BeatPathOfficeLaw", ⟨"BeatPathOfficeLaw", "cell", "([II)I"⟩, method_2_code, 2, (some .int), [])
abbrev Y_La_tie : bj_Y := ("BeatPathOfficeLaw", ⟨"BeatPathOfficeLaw", "tie", "(LBeatPathOffice;II)I"⟩, method_3_code, 4, (some .int), [(0, 6, 9, 13), (0, 6, 12, 15)])
abbrev Y_Of_tie : bj_Y := ("BeatPathOffice", ⟨"BeatPathOffice", "tie", "(II)V"⟩, prog_1_method_2_code, 3, none, [])
abbrev Y_Of_needCandidate : bj_Y := ("BeatPathOffice", ⟨"BeatPathOffice", "needCandidate", "(I)V"⟩, prog_1_method_22_code, 2, none, [])
abbrev Y_Of_isCandidate : bj_Y := ("BeatPathOffice", ⟨"BeatPathOffice", "isCandidate", "(I)Z"⟩, prog_1_method_21_code, 2, (some .boolean), [])
abbrev Y_Of_needUnsealed : bj_Y := ("BeatPathOffice", ⟨"BeatPathOffice", "needUnsealed", "()V"⟩, prog_1_method_26_code, 1, none, [])
abbrev Y_Of_moveInDrawnOrder : bj_Y := ("BeatPathOffice", ⟨"BeatPathOffice", "moveInDrawnOrder", "(II)V"⟩, prog_1_method_30_code, 5, none, [])
abbrev Y_La_drawn : bj_Y := ("BeatPathOfficeLaw", ⟨"BeatPathOfficeLaw", "drawn", "(LBeatPathOffice;I[J)I"⟩, method_4_code, 4, (some .int), [(0, 9, 12, 21)])
abbrev Y_Of_drawn : bj_Y := ("BeatPathOffice", ⟨"BeatPathOffice", "drawn", "(I)I"⟩, prog_1_method_3_code, 2, (some .int), [])
abbrev Y_La_open : bj_Y := ("BeatPathOfficeLaw", ⟨"BeatPathOfficeLaw", "open", "(LBeatPathOffice;[J)I"⟩, method_5_code, 3, (some .int), [(0, 8, 11, 15)])
abbrev Y_Of_open : bj_Y := ("BeatPathOffice", ⟨"BeatPathOffice", "open", "()I"⟩, prog_1_method_4_code, 1, (some .int), [])
abbrev Y_La_ballot : bj_Y := ("BeatPathOfficeLaw", ⟨"BeatPathOfficeLaw", "ballot", "(LBeatPathOffice;III[J)I"⟩, method_6_code, 6, (some .int), [(0, 12, 15, 13), (0, 12, 19, 15)])
abbrev Y_Of_ballot : bj_Y := ("BeatPathOffice", ⟨"BeatPathOffice", "ballot", "(III)I"⟩, prog_1_method_5_code, 5, (some .int), [])
abbrev Y_Of_needBatch : bj_Y := ("BeatPathOffice", ⟨"BeatPathOffice", "needBatch", "(I)V"⟩, prog_1_method_24_code, 2, none, [])
abbrev Y_Of_needRanking : bj_Y := ("BeatPathOffice", ⟨"BeatPathOffice", "needRanking", "(I)V"⟩, prog_1_method_25_code, 2, none, [])
abbrev Y_Of_isRanking : bj_Y := ("BeatPathOffice", ⟨"BeatPathOffice", "isRanking", "(I)Z"⟩, prog_1_method_28_code, 3, (some .boolean), [])
abbrev Y_Of_nibble : bj_Y := ("BeatPathOffice", ⟨"BeatPathOffice", "nibble", "(II)I"⟩, prog_1_method_35_code, 2, (some .int), [])
abbrev Y_Ba_put : bj_Y := ("BeatPathOffice$Batch", ⟨"BeatPathOffice$Batch", "put", "(II)I"⟩, prog_2_method_2_code, 3, (some .int), [])
abbrev Y_La_turn : bj_Y := ("BeatPathOfficeLaw", ⟨"BeatPathOfficeLaw", "turn", "(LBeatPathOffice;II)I"⟩, method_7_code, 4, (some .int), [(0, 6, 9, 13), (0, 6, 12, 15)])
abbrev Y_Of_turn : bj_Y := ("BeatPathOffice", ⟨"BeatPathOffice", "turn", "(II)V"⟩, prog_1_method_6_code, 4, none, [])
abbrev Y_Of_stageBefore : bj_Y := ("BeatPathOffice", ⟨"BeatPathOffice", "stageBefore", "(I)I"⟩, prog_1_method_29_code, 1, (some .int), [])
abbrev Y_Co_takeOut : bj_Y := ("BeatPathOffice$Count", ⟨"BeatPathOffice$Count", "takeOut", "(LBeatPathOffice$Batch;)V"⟩, prog_4_method_4_code, 3, none, [])
abbrev Y_Co_add : bj_Y := ("BeatPathOffice$Count", ⟨"BeatPathOffice$Count", "add", "(II)V"⟩, prog_4_method_5_code, 5, none, [])
abbrev Y_Co_comesBefore : bj_Y := ("BeatPathOffice$Count", ⟨"BeatPathOffice$Count", "comesBefore", "(III)Z"⟩, prog_4_method_6_code, 5, (some .boolean), [])
abbrev Y_Co_putIn : bj_Y := ("BeatPathOffice$Count", ⟨"BeatPathOffice$Count", "putIn", "(LBeatPathOffice$Batch;)V"⟩, prog_4_method_3_code, 3, none, [])
abbrev Y_La_correct : bj_Y := ("BeatPathOfficeLaw", ⟨"BeatPathOfficeLaw", "correct", "(LBeatPathOffice;III[J)I"⟩, method_8_code, 6, (some .int), [(0, 12, 15, 13), (0, 12, 19, 21), (0, 12, 23, 15)])
abbrev Y_Of_correct : bj_Y := ("BeatPathOffice", ⟨"BeatPathOffice", "correct", "(III)I"⟩, prog_1_method_7_code, 6, (some .int), [])
abbrev Y_La_state : bj_Y := ("BeatPathOfficeLaw", ⟨"BeatPathOfficeLaw", "state", "(LBeatPathOffice;I[J)I"⟩, method_9_code, 4, (some .int), [(0, 9, 12, 13)])
abbrev Y_Of_state : bj_Y := ("BeatPathOffice", ⟨"BeatPathOffice", "state", "(I)I"⟩, prog_1_method_8_code, 2, (some .int), [])
abbrev Y_La_prefer : bj_Y := ("BeatPathOfficeLaw", ⟨"BeatPathOfficeLaw", "prefer", "(LBeatPathOffice;II[J)I"⟩, method_10_code, 5, (some .int), [(0, 10, 13, 13)])
abbrev Y_Of_prefer : bj_Y := ("BeatPathOffice", ⟨"BeatPathOffice", "prefer", "(II)I"⟩, prog_1_method_10_code, 3, (some .int), [])
abbrev Y_Of_needPair : bj_Y := ("BeatPathOffice", ⟨"BeatPathOffice", "needPair", "(II)V"⟩, prog_1_method_23_code, 3, none, [])
abbrev Y_La_strength : bj_Y := ("BeatPathOfficeLaw", ⟨"BeatPathOfficeLaw", "strength", "(LBeatPathOffice;II[J)I"⟩, method_11_code, 5, (some .int), [(0, 10, 13, 13)])
abbrev Y_Of_strength : bj_Y := ("BeatPathOffice", ⟨"BeatPathOffice", "strength", "(II)I"⟩, prog_1_method_11_code, 3, (some .int), [])
abbrev Y_Pa_weigh : bj_Y := ("BeatPathOffice$BeatPaths", ⟨"BeatPathOffice$BeatPaths", "weigh", "(LBeatPathOffice$Count;)V"⟩, prog_3_method_2_code, 4, none, [])
abbrev Y_Co_direct : bj_Y := ("BeatPathOffice$Count", ⟨"BeatPathOffice$Count", "direct", "(II)I"⟩, prog_4_method_7_code, 3, (some .int), [])
abbrev Y_Pa_widen : bj_Y := ("BeatPathOffice$BeatPaths", ⟨"BeatPathOffice$BeatPaths", "widen", "(II)V"⟩, prog_3_method_3_code, 5, none, [])
abbrev Y_La_way : bj_Y := ("BeatPathOfficeLaw", ⟨"BeatPathOfficeLaw", "way", "(LBeatPathOffice;II[J)I"⟩, method_12_code, 5, (some .int), [(0, 10, 13, 13)])
abbrev Y_Of_way : bj_Y := ("BeatPathOffice", ⟨"BeatPathOffice", "way", "(II)I"⟩, prog_1_method_12_code, 3, (some .int), [])
abbrev Y_Pa_strongestWay : bj_Y := ("BeatPathOffice$BeatPaths", ⟨"BeatPathOffice$BeatPaths", "strongestWay", "(LBeatPathOffice$Count;II)I"⟩, prog_3_method_7_code, 8, (some .int), [])
abbrev Y_Pa_countSteps : bj_Y := ("BeatPathOffice$BeatPaths", ⟨"BeatPathOffice$BeatPaths", "countSteps", "(LBeatPathOffice$Count;II)V"⟩, prog_3_method_8_code, 6, none, [])
abbrev Y_Ar_fill : bj_Y := ("java/util/Arrays", ⟨"java/util/Arrays", "fill", "([II)V"⟩, prog_18_method_103_code, 4, none, [])
abbrev Y_Pa_nextAt : bj_Y := ("BeatPathOffice$BeatPaths", ⟨"BeatPathOffice$BeatPaths", "nextAt", "(LBeatPathOffice$Count;III)I"⟩, prog_3_method_10_code, 6, (some .int), [])
abbrev Y_Pa_nextTowards : bj_Y := ("BeatPathOffice$BeatPaths", ⟨"BeatPathOffice$BeatPaths", "nextTowards", "(LBeatPathOffice$Count;II)I"⟩, prog_3_method_9_code, 5, (some .int), [])
abbrev Y_La_cut : bj_Y := ("BeatPathOfficeLaw", ⟨"BeatPathOfficeLaw", "cut", "(LBeatPathOffice;II[J)I"⟩, method_13_code, 5, (some .int), [(0, 10, 13, 13)])
abbrev Y_Of_cut : bj_Y := ("BeatPathOffice", ⟨"BeatPathOffice", "cut", "(II)I"⟩, prog_1_method_13_code, 3, (some .int), [])
abbrev Y_Pa_reachedAbove : bj_Y := ("BeatPathOffice$BeatPaths", ⟨"BeatPathOffice$BeatPaths", "reachedAbove", "(II)I"⟩, prog_3_method_4_code, 5, (some .int), [])
abbrev Y_La_proves : bj_Y := ("BeatPathOfficeLaw", ⟨"BeatPathOfficeLaw", "proves", "(LBeatPathOffice;IIIII[J)I"⟩, method_14_code, 8, (some .int), [(0, 23, 26, 13)])
abbrev Y_Of_proves : bj_Y := ("BeatPathOffice", ⟨"BeatPathOffice", "proves", "(IIIII)Z"⟩, prog_1_method_14_code, 7, (some .boolean), [])
abbrev Y_Co_isWay : bj_Y := ("BeatPathOffice$Count", ⟨"BeatPathOffice$Count", "isWay", "(IIII)Z"⟩, prog_4_method_8_code, 9, (some .boolean), [])
abbrev Y_Of_has : bj_Y := ("BeatPathOffice", ⟨"BeatPathOffice", "has", "(II)Z"⟩, prog_1_method_34_code, 2, (some .boolean), [])
abbrev Y_Co_isHeldIn : bj_Y := ("BeatPathOffice$Count", ⟨"BeatPathOffice$Count", "isHeldIn", "(II)Z"⟩, prog_4_method_9_code, 5, (some .boolean), [])
abbrev Y_La_winner : bj_Y := ("BeatPathOfficeLaw", ⟨"BeatPathOfficeLaw", "winner", "(LBeatPathOffice;I[J)I"⟩, method_15_code, 4, (some .int), [(0, 9, 12, 21)])
abbrev Y_Of_winner : bj_Y := ("BeatPathOffice", ⟨"BeatPathOffice", "winner", "(I)I"⟩, prog_1_method_15_code, 2, (some .int), [])
abbrev Y_Of_winnerSet : bj_Y := ("BeatPathOffice", ⟨"BeatPathOffice", "winnerSet", "(LBeatPathOffice$Count;)I"⟩, prog_1_method_31_code, 2, (some .int), [])
abbrev Y_Pa_unbeaten : bj_Y := ("BeatPathOffice$BeatPaths", ⟨"BeatPathOffice$BeatPaths", "unbeaten", "()I"⟩, prog_3_method_5_code, 3, (some .int), [])
abbrev Y_Pa_isUnbeaten : bj_Y := ("BeatPathOffice$BeatPaths", ⟨"BeatPathOffice$BeatPaths", "isUnbeaten", "(I)Z"⟩, prog_3_method_6_code, 3, (some .boolean), [])
abbrev Y_Of_member : bj_Y := ("BeatPathOffice", ⟨"BeatPathOffice", "member", "(II)I"⟩, prog_1_method_33_code, 4, (some .int), [])
abbrev Y_Of_needFound : bj_Y := ("BeatPathOffice", ⟨"BeatPathOffice", "needFound", "(I)I"⟩, prog_1_method_27_code, 1, (some .int), [])
abbrev Y_La_locked : bj_Y := ("BeatPathOfficeLaw", ⟨"BeatPathOfficeLaw", "locked", "(LBeatPathOffice;II[J)I"⟩, method_16_code, 5, (some .int), [(0, 17, 20, 13)])
abbrev Y_Of_locked : bj_Y := ("BeatPathOffice", ⟨"BeatPathOffice", "locked", "(II)Z"⟩, prog_1_method_16_code, 3, (some .boolean), [])
abbrev Y_Lo_lockPairs : bj_Y := ("BeatPathOffice$Locks", ⟨"BeatPathOffice$Locks", "lockPairs", "(LBeatPathOffice$Count;[I)V"⟩, prog_5_method_2_code, 4, none, [])
abbrev Y_Lo_sortPairs : bj_Y := ("BeatPathOffice$Locks", ⟨"BeatPathOffice$Locks", "sortPairs", "(LBeatPathOffice$Count;[I)V"⟩, prog_5_method_3_code, 5, none, [])
abbrev Y_Lo_insert : bj_Y := ("BeatPathOffice$Locks", ⟨"BeatPathOffice$Locks", "insert", "(LBeatPathOffice$Count;II)V"⟩, prog_5_method_4_code, 5, none, [])
abbrev Y_Lo_overtakes : bj_Y := ("BeatPathOffice$Locks", ⟨"BeatPathOffice$Locks", "overtakes", "(LBeatPathOffice$Count;III)Z"⟩, prog_5_method_5_code, 7, (some .boolean), [])
abbrev Y_Lo_lock : bj_Y := ("BeatPathOffice$Locks", ⟨"BeatPathOffice$Locks", "lock", "(II)V"⟩, prog_5_method_6_code, 5, none, [])
abbrev Y_La_order : bj_Y := ("BeatPathOfficeLaw", ⟨"BeatPathOfficeLaw", "order", "(LBeatPathOffice;I[J)I"⟩, method_17_code, 4, (some .int), [(0, 9, 12, 21)])
abbrev Y_Of_order : bj_Y := ("BeatPathOffice", ⟨"BeatPathOffice", "order", "(I)I"⟩, prog_1_method_17_code, 2, (some .int), [])
abbrev Y_Of_inOrder : bj_Y := ("BeatPathOffice", ⟨"BeatPathOffice", "inOrder", "(LBeatPathOffice$Count;I)I"⟩, prog_1_method_32_code, 3, (some .int), [])
abbrev Y_Lo_lineUp : bj_Y := ("BeatPathOffice$Locks", ⟨"BeatPathOffice$Locks", "lineUp", "([II)I"⟩, prog_5_method_7_code, 6, (some .int), [])
abbrev Y_Lo_firstFree : bj_Y := ("BeatPathOffice$Locks", ⟨"BeatPathOffice$Locks", "firstFree", "([II)I"⟩, prog_5_method_8_code, 4, (some .int), [])
abbrev Y_La_top : bj_Y := ("BeatPathOfficeLaw", ⟨"BeatPathOfficeLaw", "top", "(LBeatPathOffice;I[J)I"⟩, method_18_code, 4, (some .int), [(0, 9, 12, 21)])
abbrev Y_Of_top : bj_Y := ("BeatPathOffice", ⟨"BeatPathOffice", "top", "(I)I"⟩, prog_1_method_18_code, 2, (some .int), [])
abbrev Y_Co_topSet : bj_Y := ("BeatPathOffice$Count", ⟨"BeatPathOffice$Count", "topSet", "()I"⟩, prog_4_method_10_code, 4, (some .int), [])
abbrev Y_Co_beatingSetAround : bj_Y := ("BeatPathOffice$Count", ⟨"BeatPathOffice$Count", "beatingSetAround", "(I)I"⟩, prog_4_method_11_code, 5, (some .int), [])
abbrev Y_Co_notBeatenBy : bj_Y := ("BeatPathOffice$Count", ⟨"BeatPathOffice$Count", "notBeatenBy", "(I)I"⟩, prog_4_method_12_code, 4, (some .int), [])
abbrev Y_In_bitCount : bj_Y := ("java/lang/Integer", ⟨"java/lang/Integer", "bitCount", "(I)I"⟩, prog_12_method_49_code, 1, (some .int), [])
abbrev Y_La_without : bj_Y := ("BeatPathOfficeLaw", ⟨"BeatPathOfficeLaw", "without", "(LBeatPathOffice;III[J)I"⟩, method_19_code, 6, (some .int), [(0, 12, 15, 13), (0, 12, 19, 21)])
abbrev Y_Of_without : bj_Y := ("BeatPathOffice", ⟨"BeatPathOffice", "without", "(III)I"⟩, prog_1_method_19_code, 4, (some .int), [])
abbrev Y_Co_copy : bj_Y := ("BeatPathOffice$Count", ⟨"BeatPathOffice$Count", "copy", "(LBeatPathOffice$Count;)V"⟩, prog_4_method_2_code, 3, none, [])
abbrev Y_Mo_init : bj_Y := ("BeatPathOfficeModel", ⟨"BeatPathOfficeModel", "<init>", "(I)V"⟩, prog_7_method_1_code, 3, none, [])
abbrev Y_Mo_thrown : bj_Y := ("BeatPathOfficeModel", ⟨"BeatPathOfficeModel", "thrown", "()I"⟩, prog_7_method_2_code, 1, (some .int), [])
abbrev Y_Mo_tie : bj_Y := ("BeatPathOfficeModel", ⟨"BeatPathOfficeModel", "tie", "(II)V"⟩, prog_7_method_5_code, 5, none, [])
abbrev Y_Mo_isCandidate : bj_Y := ("BeatPathOfficeModel", ⟨"BeatPathOfficeModel", "isCandidate", "(I)Z"⟩, prog_7_method_3_code, 2, (some .boolean), [])
abbrev Y_Mo_placeOf : bj_Y := ("BeatPathOfficeModel", ⟨"BeatPathOfficeModel", "placeOf", "(I)I"⟩, prog_7_method_6_code, 3, (some .int), [])
abbrev Y_Mo_drawn : bj_Y := ("BeatPathOfficeModel", ⟨"BeatPathOfficeModel", "drawn", "(I)I"⟩, prog_7_method_7_code, 2, (some .int), [])
abbrev Y_Mo_open : bj_Y := ("BeatPathOfficeModel", ⟨"BeatPathOfficeModel", "open", "()I"⟩, prog_7_method_8_code, 1, (some .int), [])
abbrev Y_Mo_ballot : bj_Y := ("BeatPathOfficeModel", ⟨"BeatPathOfficeModel", "ballot", "(III)I"⟩, prog_7_method_11_code, 4, (some .int), [])
abbrev Y_Mo_isBatch : bj_Y := ("BeatPathOfficeModel", ⟨"BeatPathOfficeModel", "isBatch", "(I)Z"⟩, prog_7_method_4_code, 2, (some .boolean), [])
abbrev Y_Mo_isRanking : bj_Y := ("BeatPathOfficeModel", ⟨"BeatPathOfficeModel", "isRanking", "(I)Z"⟩, prog_7_method_10_code, 4, (some .boolean), [])
abbrev Y_Mo_place : bj_Y := ("BeatPathOfficeModel", ⟨"BeatPathOfficeModel", "place", "(II)I"⟩, prog_7_method_9_code, 2, (some .int), [])
abbrev Y_Mo_turn : bj_Y := ("BeatPathOfficeModel", ⟨"BeatPathOfficeModel", "turn", "(II)V"⟩, prog_7_method_12_code, 3, none, [])
abbrev Y_Mo_correct : bj_Y := ("BeatPathOfficeModel", ⟨"BeatPathOfficeModel", "correct", "(III)I"⟩, prog_7_method_13_code, 5, (some .int), [])
abbrev Y_Mo_state : bj_Y := ("BeatPathOfficeModel", ⟨"BeatPathOfficeModel", "state", "(I)I"⟩, prog_7_method_14_code, 2, (some .int), [])
abbrev Y_Mo_voters : bj_Y := ("BeatPathOfficeModel", ⟨"BeatPathOfficeModel", "voters", "()I"⟩, prog_7_method_15_code, 4, (some .int), [])
abbrev Y_Mo_prefer : bj_Y := ("BeatPathOfficeModel", ⟨"BeatPathOfficeModel", "prefer", "(II)I"⟩, prog_7_method_21_code, 3, (some .int), [])
abbrev Y_Mo_lacks : bj_Y := ("BeatPathOfficeModel", ⟨"BeatPathOfficeModel", "lacks", "(II)Z"⟩, prog_7_method_20_code, 3, (some .boolean), [])
abbrev Y_Mo_count : bj_Y := ("BeatPathOfficeModel", ⟨"BeatPathOfficeModel", "count", "(I)V"⟩, prog_7_method_16_code, 4, none, [])
abbrev Y_Mo_add : bj_Y := ("BeatPathOfficeModel", ⟨"BeatPathOfficeModel", "add", "(II)V"⟩, prog_7_method_17_code, 8, none, [])
abbrev Y_Mo_strengthen : bj_Y := ("BeatPathOfficeModel", ⟨"BeatPathOfficeModel", "strengthen", "()V"⟩, prog_7_method_19_code, 7, none, [])
abbrev Y_Mo_lesser : bj_Y := ("BeatPathOfficeModel", ⟨"BeatPathOfficeModel", "lesser", "(II)I"⟩, prog_7_method_18_code, 2, (some .int), [])
abbrev Y_Mo_strength : bj_Y := ("BeatPathOfficeModel", ⟨"BeatPathOfficeModel", "strength", "(II)I"⟩, prog_7_method_22_code, 3, (some .int), [])
abbrev Y_Mo_way : bj_Y := ("BeatPathOfficeModel", ⟨"BeatPathOfficeModel", "way", "(II)I"⟩, prog_7_method_23_code, 9, (some .int), [])
abbrev Y_Mo_cut : bj_Y := ("BeatPathOfficeModel", ⟨"BeatPathOfficeModel", "cut", "(II)I"⟩, prog_7_method_24_code, 7, (some .int), [])
abbrev Y_Mo_proves : bj_Y := ("BeatPathOfficeModel", ⟨"BeatPathOfficeModel", "proves", "(IIIII)Z"⟩, prog_7_method_26_code, 9, (some .boolean), [])
abbrev Y_Mo_isWay : bj_Y := ("BeatPathOfficeModel", ⟨"BeatPathOfficeModel", "isWay", "(IIII)Z"⟩, prog_7_method_25_code, 10, (some .boolean), [])
abbrev Y_Mo_winner : bj_Y := ("BeatPathOfficeModel", ⟨"BeatPathOfficeModel", "winner", "(I)I"⟩, prog_7_method_35_code, 2, (some .int), [])
abbrev Y_Mo_tell : bj_Y := ("BeatPathOfficeModel", ⟨"BeatPathOfficeModel", "tell", "(IIII)I"⟩, prog_7_method_34_code, 5, (some .int), [])
abbrev Y_Mo_winners : bj_Y := ("BeatPathOfficeModel", ⟨"BeatPathOfficeModel", "winners", "()V"⟩, prog_7_method_27_code, 4, none, [])
abbrev Y_Mo_orderAll : bj_Y := ("BeatPathOfficeModel", ⟨"BeatPathOfficeModel", "orderAll", "()V"⟩, prog_7_method_31_code, 7, none, [])
abbrev Y_Mo_lockAll : bj_Y := ("BeatPathOfficeModel", ⟨"BeatPathOfficeModel", "lockAll", "()V"⟩, prog_7_method_30_code, 6, none, [])
abbrev Y_Mo_isBefore : bj_Y := ("BeatPathOfficeModel", ⟨"BeatPathOfficeModel", "isBefore", "(II)Z"⟩, prog_7_method_28_code, 5, (some .boolean), [])
abbrev Y_Mo_lock : bj_Y := ("BeatPathOfficeModel", ⟨"BeatPathOfficeModel", "lock", "(I)V"⟩, prog_7_method_29_code, 7, none, [])
abbrev Y_Mo_topAll : bj_Y := ("BeatPathOfficeModel", ⟨"BeatPathOfficeModel", "topAll", "()V"⟩, prog_7_method_32_code, 6, none, [])
abbrev Y_Mo_sizeOf : bj_Y := ("BeatPathOfficeModel", ⟨"BeatPathOfficeModel", "sizeOf", "(I)I"⟩, prog_7_method_33_code, 3, (some .int), [])
abbrev Y_Mo_locked : bj_Y := ("BeatPathOfficeModel", ⟨"BeatPathOfficeModel", "locked", "(II)Z"⟩, prog_7_method_36_code, 3, (some .boolean), [])
abbrev Y_Mo_order : bj_Y := ("BeatPathOfficeModel", ⟨"BeatPathOfficeModel", "order", "(I)I"⟩, prog_7_method_37_code, 2, (some .int), [])
abbrev Y_Mo_top : bj_Y := ("BeatPathOfficeModel", ⟨"BeatPathOfficeModel", "top", "(I)I"⟩, prog_7_method_38_code, 2, (some .int), [])
abbrev Y_Mo_without : bj_Y := ("BeatPathOfficeModel", ⟨"BeatPathOfficeModel", "without", "(III)I"⟩, prog_7_method_39_code, 4, (some .int), [])
abbrev Y_Mo_seal : bj_Y := ("BeatPathOfficeModel", ⟨"BeatPathOfficeModel", "seal", "()Z"⟩, prog_7_method_40_code, 2, (some .boolean), [])
abbrev Y_La_law : bj_Y := ("BeatPathOfficeLaw", ⟨"BeatPathOfficeLaw", "law", "([I)Z"⟩, code, 7, (some .boolean), [])
/-! the fields of each class stand in the tables -/
theorem in_Ba : ∀ w ∈ u_ws "BeatPathOffice$Batch" T_Ba 4, w ∈ bw_TB := by
  intro w hw
  have h : u_ws "BeatPathOffice$Batch" T_Ba 4 = [43, 45, 47, 49].filterMap (fun i => tables_1[i]?) := by decide +kernel
  rw [h] at hw
  obtain ⟨i, -, hi⟩ := List.mem_filterMap.mp hw
  exact bw_t hi
theorem in_Pa : ∀ w ∈ u_ws "BeatPathOffice$BeatPaths" T_Pa 3, w ∈ bw_TB := by
  intro w hw
  have h : u_ws "BeatPathOffice$BeatPaths" T_Pa 3 = [85, 87, 89].filterMap (fun i => tables_1[i]?) := by decide +kernel
  rw [h] at hw
  obtain ⟨i, -, hi⟩ := List.mem_filterMap.mp hw
  exact bw_t hi
theorem in_Co : ∀ w ∈ u_ws "BeatPathOffice$Count" T_Co 3, w ∈ bw_TB := by
  intro w hw
  have h : u_ws "BeatPathOffice$Count" T_Co 3 = [67, 69, 71].filterMap (fun i => tables_1[i]?) := by decide +kernel
  rw [h] at hw
  obtain ⟨i, -, hi⟩ := List.mem_filterMap.mp hw
  exact bw_t hi
theorem in_Lo : ∀ w ∈ u_ws "BeatPathOffice$Locks" T_Lo 6, w ∈ bw_TB := by
  intro w hw
  have h : u_ws "BeatPathOffice$Locks" T_Lo 6 = [105, 107, 109, 111, 113, 115].filterMap (fun i => tables_1[i]?) := by decide +kernel
  rw [h] at hw
  obtain ⟨i, -, hi⟩ := List.mem_filterMap.mp hw
  exact bw_t hi
theorem in_Of : ∀ w ∈ u_ws "BeatPathOffice" T_Of 9, w ∈ bw_TB := by
  intro w hw
  have h : u_ws "BeatPathOffice" T_Of 9 = [127, 129, 131, 133, 135, 137, 139, 141, 143].filterMap (fun i => tables_1[i]?) := by decide +kernel
  rw [h] at hw
  obtain ⟨i, -, hi⟩ := List.mem_filterMap.mp hw
  exact bw_t hi
theorem in_Mo : ∀ w ∈ u_ws "BeatPathOfficeModel" T_Mo 17, w ∈ bw_TB := by
  intro w hw
  have h : u_ws "BeatPathOfficeModel" T_Mo 17 = [606, 608, 610, 612, 614, 616, 618, 620, 622, 624, 626, 628, 630, 632, 634, 636, 638].filterMap (fun i => tables_1[i]?) := by decide +kernel
  rw [h] at hw
  obtain ⟨i, -, hi⟩ := List.mem_filterMap.mp hw
  exact bw_t hi
/-! links of fields -/
theorem wf_Ba_9 : (Jvm.Cond.fieldLink "BeatPathOffice$Batch" (9 : Nat) "BeatPathOffice$Batch" "stage" "I") ∈ bw_TB := bw_t (i := 32) (by decide +kernel)
theorem wf_Of_96 : (Jvm.Cond.fieldLinkNest "BeatPathOffice" (96 : Nat) "BeatPathOffice$Batch" "stage" "I" "BeatPathOffice") ∈ bw_TB := bw_t (i := 33) (by decide +kernel)
theorem wf_Ba_15 : (Jvm.Cond.fieldLink "BeatPathOffice$Batch" (15 : Nat) "BeatPathOffice$Batch" "size" "I") ∈ bw_TB := bw_t (i := 34) (by decide +kernel)
theorem wf_Co_29 : (Jvm.Cond.fieldLinkNest "BeatPathOffice$Count" (29 : Nat) "BeatPathOffice$Batch" "size" "I" "BeatPathOffice") ∈ bw_TB := bw_t (i := 35) (by decide +kernel)
theorem wf_Of_99 : (Jvm.Cond.fieldLinkNest "BeatPathOffice" (99 : Nat) "BeatPathOffice$Batch" "size" "I" "BeatPathOffice") ∈ bw_TB := bw_t (i := 36) (by decide +kernel)
theorem wf_Ba_18 : (Jvm.Cond.fieldLink "BeatPathOffice$Batch" (18 : Nat) "BeatPathOffice$Batch" "rankings" "[I") ∈ bw_TB := bw_t (i := 37) (by decide +kernel)
theorem wf_Co_34 : (Jvm.Cond.fieldLinkNest "BeatPathOffice$Count" (34 : Nat) "BeatPathOffice$Batch" "rankings" "[I" "BeatPathOffice") ∈ bw_TB := bw_t (i := 38) (by decide +kernel)
theorem wf_Of_127 : (Jvm.Cond.fieldLinkNest "BeatPathOffice" (127 : Nat) "BeatPathOffice$Batch" "rankings" "[I" "BeatPathOffice") ∈ bw_TB := bw_t (i := 39) (by decide +kernel)
theorem wf_Ba_22 : (Jvm.Cond.fieldLink "BeatPathOffice$Batch" (22 : Nat) "BeatPathOffice$Batch" "times" "[I") ∈ bw_TB := bw_t (i := 40) (by decide +kernel)
theorem wf_Co_38 : (Jvm.Cond.fieldLinkNest "BeatPathOffice$Count" (38 : Nat) "BeatPathOffice$Batch" "times" "[I" "BeatPathOffice") ∈ bw_TB := bw_t (i := 41) (by decide +kernel)
theorem wf_Of_130 : (Jvm.Cond.fieldLinkNest "BeatPathOffice" (130 : Nat) "BeatPathOffice$Batch" "times" "[I" "BeatPathOffice") ∈ bw_TB := bw_t (i := 42) (by decide +kernel)
theorem wf_Co_9 : (Jvm.Cond.fieldLink "BeatPathOffice$Count" (9 : Nat) "BeatPathOffice$Count" "n" "I") ∈ bw_TB := bw_t (i := 61) (by decide +kernel)
theorem wf_Co_15 : (Jvm.Cond.fieldLink "BeatPathOffice$Count" (15 : Nat) "BeatPathOffice$Count" "voterSum" "I") ∈ bw_TB := bw_t (i := 62) (by decide +kernel)
theorem wf_Of_135 : (Jvm.Cond.fieldLinkNest "BeatPathOffice" (135 : Nat) "BeatPathOffice$Count" "voterSum" "I" "BeatPathOffice") ∈ bw_TB := bw_t (i := 63) (by decide +kernel)
theorem wf_Co_20 : (Jvm.Cond.fieldLink "BeatPathOffice$Count" (20 : Nat) "BeatPathOffice$Count" "preferring" "[[I") ∈ bw_TB := bw_t (i := 64) (by decide +kernel)
theorem wf_Lo_63 : (Jvm.Cond.fieldLinkNest "BeatPathOffice$Locks" (63 : Nat) "BeatPathOffice$Count" "preferring" "[[I" "BeatPathOffice") ∈ bw_TB := bw_t (i := 65) (by decide +kernel)
theorem wf_Of_141 : (Jvm.Cond.fieldLinkNest "BeatPathOffice" (141 : Nat) "BeatPathOffice$Count" "preferring" "[[I" "BeatPathOffice") ∈ bw_TB := bw_t (i := 66) (by decide +kernel)
theorem wf_Pa_9 : (Jvm.Cond.fieldLink "BeatPathOffice$BeatPaths" (9 : Nat) "BeatPathOffice$BeatPaths" "n" "I") ∈ bw_TB := bw_t (i := 81) (by decide +kernel)
theorem wf_Pa_17 : (Jvm.Cond.fieldLink "BeatPathOffice$BeatPaths" (17 : Nat) "BeatPathOffice$BeatPaths" "strongest" "[[I") ∈ bw_TB := bw_t (i := 82) (by decide +kernel)
theorem wf_Of_149 : (Jvm.Cond.fieldLinkNest "BeatPathOffice" (149 : Nat) "BeatPathOffice$BeatPaths" "strongest" "[[I" "BeatPathOffice") ∈ bw_TB := bw_t (i := 83) (by decide +kernel)
theorem wf_Pa_20 : (Jvm.Cond.fieldLink "BeatPathOffice$BeatPaths" (20 : Nat) "BeatPathOffice$BeatPaths" "steps" "[I") ∈ bw_TB := bw_t (i := 84) (by decide +kernel)
theorem wf_Lo_9 : (Jvm.Cond.fieldLink "BeatPathOffice$Locks" (9 : Nat) "BeatPathOffice$Locks" "n" "I") ∈ bw_TB := bw_t (i := 98) (by decide +kernel)
theorem wf_Lo_15 : (Jvm.Cond.fieldLink "BeatPathOffice$Locks" (15 : Nat) "BeatPathOffice$Locks" "lockedOver" "[I") ∈ bw_TB := bw_t (i := 99) (by decide +kernel)
theorem wf_Of_184 : (Jvm.Cond.fieldLinkNest "BeatPathOffice" (184 : Nat) "BeatPathOffice$Locks" "lockedOver" "[I" "BeatPathOffice") ∈ bw_TB := bw_t (i := 100) (by decide +kernel)
theorem wf_Lo_19 : (Jvm.Cond.fieldLink "BeatPathOffice$Locks" (19 : Nat) "BeatPathOffice$Locks" "comesTo" "[I") ∈ bw_TB := bw_t (i := 101) (by decide +kernel)
theorem wf_Lo_22 : (Jvm.Cond.fieldLink "BeatPathOffice$Locks" (22 : Nat) "BeatPathOffice$Locks" "upper" "[I") ∈ bw_TB := bw_t (i := 102) (by decide +kernel)
theorem wf_Lo_25 : (Jvm.Cond.fieldLink "BeatPathOffice$Locks" (25 : Nat) "BeatPathOffice$Locks" "lower" "[I") ∈ bw_TB := bw_t (i := 103) (by decide +kernel)
theorem wf_Lo_28 : (Jvm.Cond.fieldLink "BeatPathOffice$Locks" (28 : Nat) "BeatPathOffice$Locks" "pairs" "I") ∈ bw_TB := bw_t (i := 104) (by decide +kernel)
theorem wf_Of_9 : (Jvm.Cond.fieldLink "BeatPathOffice" (9 : Nat) "BeatPathOffice" "candidates" "I") ∈ bw_TB := bw_t (i := 118) (by decide +kernel)
theorem wf_Of_13 : (Jvm.Cond.fieldLink "BeatPathOffice" (13 : Nat) "BeatPathOffice" "drawnOrder" "[I") ∈ bw_TB := bw_t (i := 119) (by decide +kernel)
theorem wf_Of_19 : (Jvm.Cond.fieldLink "BeatPathOffice" (19 : Nat) "BeatPathOffice" "batches" "[LBeatPathOffice$Batch;") ∈ bw_TB := bw_t (i := 120) (by decide +kernel)
theorem wf_Of_24 : (Jvm.Cond.fieldLink "BeatPathOffice" (24 : Nat) "BeatPathOffice" "opened" "I") ∈ bw_TB := bw_t (i := 121) (by decide +kernel)
theorem wf_Of_27 : (Jvm.Cond.fieldLink "BeatPathOffice" (27 : Nat) "BeatPathOffice" "sealed" "Z") ∈ bw_TB := bw_t (i := 122) (by decide +kernel)
theorem wf_Of_36 : (Jvm.Cond.fieldLink "BeatPathOffice" (36 : Nat) "BeatPathOffice" "count" "LBeatPathOffice$Count;") ∈ bw_TB := bw_t (i := 123) (by decide +kernel)
theorem wf_Of_40 : (Jvm.Cond.fieldLink "BeatPathOffice" (40 : Nat) "BeatPathOffice" "trial" "LBeatPathOffice$Count;") ∈ bw_TB := bw_t (i := 124) (by decide +kernel)
theorem wf_Of_46 : (Jvm.Cond.fieldLink "BeatPathOffice" (46 : Nat) "BeatPathOffice" "paths" "LBeatPathOffice$BeatPaths;") ∈ bw_TB := bw_t (i := 125) (by decide +kernel)
theorem wf_Of_53 : (Jvm.Cond.fieldLink "BeatPathOffice" (53 : Nat) "BeatPathOffice" "locks" "LBeatPathOffice$Locks;") ∈ bw_TB := bw_t (i := 126) (by decide +kernel)
theorem wf_Mo_47 : (Jvm.Cond.fieldLink "BeatPathOfficeModel" (47 : Nat) "BeatPathOfficeModel" "many" "I") ∈ bw_TB := bw_t (i := 589) (by decide +kernel)
theorem wf_Mo_51 : (Jvm.Cond.fieldLink "BeatPathOfficeModel" (51 : Nat) "BeatPathOfficeModel" "code" "I") ∈ bw_TB := bw_t (i := 590) (by decide +kernel)
theorem wf_Mo_61 : (Jvm.Cond.fieldLink "BeatPathOfficeModel" (61 : Nat) "BeatPathOfficeModel" "sealed" "Z") ∈ bw_TB := bw_t (i := 591) (by decide +kernel)
theorem wf_Mo_7 : (Jvm.Cond.fieldLink "BeatPathOfficeModel" (7 : Nat) "BeatPathOfficeModel" "drawn" "[I") ∈ bw_TB := bw_t (i := 592) (by decide +kernel)
theorem wf_Mo_54 : (Jvm.Cond.fieldLink "BeatPathOfficeModel" (54 : Nat) "BeatPathOfficeModel" "batches" "I") ∈ bw_TB := bw_t (i := 593) (by decide +kernel)
theorem wf_Mo_13 : (Jvm.Cond.fieldLink "BeatPathOfficeModel" (13 : Nat) "BeatPathOfficeModel" "state" "[I") ∈ bw_TB := bw_t (i := 594) (by decide +kernel)
theorem wf_Mo_16 : (Jvm.Cond.fieldLink "BeatPathOfficeModel" (16 : Nat) "BeatPathOfficeModel" "sizes" "[I") ∈ bw_TB := bw_t (i := 595) (by decide +kernel)
theorem wf_Mo_19 : (Jvm.Cond.fieldLink "BeatPathOfficeModel" (19 : Nat) "BeatPathOfficeModel" "ranking" "[I") ∈ bw_TB := bw_t (i := 596) (by decide +kernel)
theorem wf_Mo_22 : (Jvm.Cond.fieldLink "BeatPathOfficeModel" (22 : Nat) "BeatPathOfficeModel" "times" "[I") ∈ bw_TB := bw_t (i := 597) (by decide +kernel)
theorem wf_Mo_25 : (Jvm.Cond.fieldLink "BeatPathOfficeModel" (25 : Nat) "BeatPathOfficeModel" "prefer" "[I") ∈ bw_TB := bw_t (i := 598) (by decide +kernel)
theorem wf_Mo_28 : (Jvm.Cond.fieldLink "BeatPathOfficeModel" (28 : Nat) "BeatPathOfficeModel" "direct" "[I") ∈ bw_TB := bw_t (i := 599) (by decide +kernel)
theorem wf_Mo_31 : (Jvm.Cond.fieldLink "BeatPathOfficeModel" (31 : Nat) "BeatPathOfficeModel" "strength" "[I") ∈ bw_TB := bw_t (i := 600) (by decide +kernel)
theorem wf_Mo_34 : (Jvm.Cond.fieldLink "BeatPathOfficeModel" (34 : Nat) "BeatPathOfficeModel" "locked" "[Z") ∈ bw_TB := bw_t (i := 601) (by decide +kernel)
theorem wf_Mo_38 : (Jvm.Cond.fieldLink "BeatPathOfficeModel" (38 : Nat) "BeatPathOfficeModel" "leads" "[Z") ∈ bw_TB := bw_t (i := 602) (by decide +kernel)
theorem wf_Mo_41 : (Jvm.Cond.fieldLink "BeatPathOfficeModel" (41 : Nat) "BeatPathOfficeModel" "far" "[I") ∈ bw_TB := bw_t (i := 603) (by decide +kernel)
theorem wf_Mo_101 : (Jvm.Cond.fieldLink "BeatPathOfficeModel" (101 : Nat) "BeatPathOfficeModel" "listed" "I") ∈ bw_TB := bw_t (i := 604) (by decide +kernel)
theorem wf_Mo_44 : (Jvm.Cond.fieldLink "BeatPathOfficeModel" (44 : Nat) "BeatPathOfficeModel" "list" "[I") ∈ bw_TB := bw_t (i := 605) (by decide +kernel)
/-! other words -/
theorem wi_La : (Jvm.Cond.initialized "BeatPathOfficeLaw") ∈ bw_TB := bw_t (i := 0) (by decide +kernel)
theorem wi_Of : (Jvm.Cond.initialized "BeatPathOffice") ∈ bw_TB := bw_t (i := 1) (by decide +kernel)
theorem wi_Ba : (Jvm.Cond.initialized "BeatPathOffice$Batch") ∈ bw_TB := bw_t (i := 2) (by decide +kernel)
theorem wi_Co : (Jvm.Cond.initialized "BeatPathOffice$Count") ∈ bw_TB := bw_t (i := 3) (by decide +kernel)
theorem wi_Pa : (Jvm.Cond.initialized "BeatPathOffice$BeatPaths") ∈ bw_TB := bw_t (i := 4) (by decide +kernel)
theorem wi_Lo : (Jvm.Cond.initialized "BeatPathOffice$Locks") ∈ bw_TB := bw_t (i := 5) (by decide +kernel)
theorem wi_Mo : (Jvm.Cond.initialized "BeatPathOfficeModel") ∈ bw_TB := bw_t (i := 6) (by decide +kernel)
theorem wi_Throwable : (Jvm.Cond.initialized "java/lang/Throwable") ∈ bw_TB := bw_t (i := 7) (by decide +kernel)
theorem wi_Exception : (Jvm.Cond.initialized "java/lang/Exception") ∈ bw_TB := bw_t (i := 8) (by decide +kernel)
theorem wi_RuntimeException : (Jvm.Cond.initialized "java/lang/RuntimeException") ∈ bw_TB := bw_t (i := 9) (by decide +kernel)
theorem wi_IllegalArgumentException : (Jvm.Cond.initialized "java/lang/IllegalArgumentException") ∈ bw_TB := bw_t (i := 10) (by decide +kernel)
theorem wi_IllegalStateException : (Jvm.Cond.initialized "java/lang/IllegalStateException") ∈ bw_TB := bw_t (i := 11) (by decide +kernel)
theorem wi_IndexOutOfBoundsException : (Jvm.Cond.initialized "java/lang/IndexOutOfBoundsException") ∈ bw_TB := bw_t (i := 12) (by decide +kernel)
theorem wi_Math : (Jvm.Cond.initialized "java/lang/Math") ∈ bw_TB := bw_t (i := 13) (by decide +kernel)
theorem wi_Ar : (Jvm.Cond.initialized "java/util/Arrays") ∈ bw_TB := bw_t (i := 14) (by decide +kernel)
theorem wi_In : (Jvm.Cond.initialized "java/lang/Integer") ∈ bw_TB := bw_t (i := 15) (by decide +kernel)
theorem wi_System : (Jvm.Cond.initialized "java/lang/System") ∈ bw_TB := bw_t (i := 16) (by decide +kernel)
theorem wc_La_8 : (Jvm.Cond.classLink "BeatPathOfficeLaw" (8 : Nat) "BeatPathOffice") ∈ bw_TB := bw_t (i := 17) (by decide +kernel)
theorem wn_Of : (Jvm.Cond.instantiable "BeatPathOffice" (9 : Nat)) ∈ bw_TB := bw_t (i := 18) (by decide +kernel)
theorem wc_Of_17 : (Jvm.Cond.classLink "BeatPathOffice" (17 : Nat) "BeatPathOffice$Batch") ∈ bw_TB := bw_t (i := 25) (by decide +kernel)
theorem wz_26 : (Jvm.Cond.arrayOver (Jvm.ClassFile.FieldType.object "BeatPathOffice$Batch")) ∈ bw_TB := bw_t (i := 26) (by decide +kernel) -- arrayOver
theorem wn_Ba : (Jvm.Cond.instantiable "BeatPathOffice$Batch" (4 : Nat)) ∈ bw_TB := bw_t (i := 27) (by decide +kernel)
theorem wz_52 : (Jvm.Cond.arrayClass Jvm.ClassFile.FieldType.int) ∈ bw_TB := bw_t (i := 52) (by decide +kernel) -- arrayClass
theorem wc_Of_31 : (Jvm.Cond.classLink "BeatPathOffice" (31 : Nat) "BeatPathOffice$Count") ∈ bw_TB := bw_t (i := 53) (by decide +kernel)
theorem wn_Co : (Jvm.Cond.instantiable "BeatPathOffice$Count" (3 : Nat)) ∈ bw_TB := bw_t (i := 54) (by decide +kernel)
theorem wc_Co_18 : (Jvm.Cond.classLink "BeatPathOffice$Count" (18 : Nat) "[[I") ∈ bw_TB := bw_t (i := 59) (by decide +kernel)
theorem wz_60 : (Jvm.Cond.arrayOver (Jvm.ClassFile.FieldType.array Jvm.ClassFile.FieldType.int)) ∈ bw_TB := bw_t (i := 60) (by decide +kernel) -- arrayOver
theorem wc_Of_43 : (Jvm.Cond.classLink "BeatPathOffice" (43 : Nat) "BeatPathOffice$BeatPaths") ∈ bw_TB := bw_t (i := 74) (by decide +kernel)
theorem wn_Pa : (Jvm.Cond.instantiable "BeatPathOffice$BeatPaths" (3 : Nat)) ∈ bw_TB := bw_t (i := 75) (by decide +kernel)
theorem wc_Pa_15 : (Jvm.Cond.classLink "BeatPathOffice$BeatPaths" (15 : Nat) "[[I") ∈ bw_TB := bw_t (i := 80) (by decide +kernel)
theorem wc_Of_50 : (Jvm.Cond.classLink "BeatPathOffice" (50 : Nat) "BeatPathOffice$Locks") ∈ bw_TB := bw_t (i := 92) (by decide +kernel)
theorem wn_Lo : (Jvm.Cond.instantiable "BeatPathOffice$Locks" (6 : Nat)) ∈ bw_TB := bw_t (i := 93) (by decide +kernel)
theorem wc_La_13 : (Jvm.Cond.classLink "BeatPathOfficeLaw" (13 : Nat) "java/lang/IllegalArgumentException") ∈ bw_TB := bw_t (i := 160) (by decide +kernel)
theorem wc_La_15 : (Jvm.Cond.classLink "BeatPathOfficeLaw" (15 : Nat) "java/lang/IllegalStateException") ∈ bw_TB := bw_t (i := 161) (by decide +kernel)
theorem wc_Of_64 : (Jvm.Cond.classLink "BeatPathOffice" (64 : Nat) "java/lang/IllegalArgumentException") ∈ bw_TB := bw_t (i := 174) (by decide +kernel)
theorem wn_IllegalArgumentException : (Jvm.Cond.instantiable "java/lang/IllegalArgumentException" (6 : Nat)) ∈ bw_TB := bw_t (i := 175) (by decide +kernel)
theorem wz_176 : (Jvm.Cond.castable "java/lang/IllegalArgumentException" "java/lang/IllegalArgumentException") ∈ bw_TB := bw_t (i := 176) (by decide +kernel) -- castable
theorem wn_Throwable : (Jvm.Cond.instantiable "java/lang/Throwable" (6 : Nat)) ∈ bw_TB := bw_t (i := 213) (by decide +kernel)
theorem wz_214 : (Jvm.Cond.native ({ cls := "java/lang/Throwable", name := "fillInStackTrace", desc := "(I)Ljava/lang/Throwable;" } : Jvm.MethodName)) ∈ bw_TB := bw_t (i := 214) (by decide +kernel) -- native
theorem wt_Of_200 : (Jvm.Cond.stringRef "BeatPathOffice" (200 : Nat) "no such candidate") ∈ bw_TB := bw_t (i := 215) (by decide +kernel)
theorem wz_241 : (Jvm.Cond.arrayClass Jvm.ClassFile.FieldType.byte) ∈ bw_TB := bw_t (i := 241) (by decide +kernel) -- arrayClass
theorem wt_Of_66 : (Jvm.Cond.stringRef "BeatPathOffice" (66 : Nat) "no such place") ∈ bw_TB := bw_t (i := 242) (by decide +kernel)
theorem wc_Of_74 : (Jvm.Cond.classLink "BeatPathOffice" (74 : Nat) "java/lang/IllegalStateException") ∈ bw_TB := bw_t (i := 247) (by decide +kernel)
theorem wn_IllegalStateException : (Jvm.Cond.instantiable "java/lang/IllegalStateException" (6 : Nat)) ∈ bw_TB := bw_t (i := 248) (by decide +kernel)
theorem wz_249 : (Jvm.Cond.castable "java/lang/IllegalStateException" "java/lang/IllegalStateException") ∈ bw_TB := bw_t (i := 249) (by decide +kernel) -- castable
theorem wt_Of_211 : (Jvm.Cond.stringRef "BeatPathOffice" (211 : Nat) "the count is sealed") ∈ bw_TB := bw_t (i := 256) (by decide +kernel)
theorem wt_Of_76 : (Jvm.Cond.stringRef "BeatPathOffice" (76 : Nat) "a batch was opened") ∈ bw_TB := bw_t (i := 263) (by decide +kernel)
theorem wc_La_21 : (Jvm.Cond.classLink "BeatPathOfficeLaw" (21 : Nat) "java/lang/IndexOutOfBoundsException") ∈ bw_TB := bw_t (i := 271) (by decide +kernel)
theorem wc_Of_83 : (Jvm.Cond.classLink "BeatPathOffice" (83 : Nat) "java/lang/IndexOutOfBoundsException") ∈ bw_TB := bw_t (i := 276) (by decide +kernel)
theorem wn_IndexOutOfBoundsException : (Jvm.Cond.instantiable "java/lang/IndexOutOfBoundsException" (6 : Nat)) ∈ bw_TB := bw_t (i := 277) (by decide +kernel)
theorem wz_278 : (Jvm.Cond.castable "java/lang/IndexOutOfBoundsException" "java/lang/IndexOutOfBoundsException") ∈ bw_TB := bw_t (i := 278) (by decide +kernel) -- castable
theorem wt_Of_86 : (Jvm.Cond.stringRef "BeatPathOffice" (86 : Nat) "no more batches") ∈ bw_TB := bw_t (i := 298) (by decide +kernel)
theorem wt_Of_204 : (Jvm.Cond.stringRef "BeatPathOffice" (204 : Nat) "no such batch") ∈ bw_TB := bw_t (i := 310) (by decide +kernel)
theorem wt_Of_209 : (Jvm.Cond.stringRef "BeatPathOffice" (209 : Nat) "no ranking") ∈ bw_TB := bw_t (i := 322) (by decide +kernel)
theorem wt_Of_94 : (Jvm.Cond.stringRef "BeatPathOffice" (94 : Nat) "times") ∈ bw_TB := bw_t (i := 323) (by decide +kernel)
theorem wt_Of_102 : (Jvm.Cond.stringRef "BeatPathOffice" (102 : Nat) "the batch takes no ballot") ∈ bw_TB := bw_t (i := 324) (by decide +kernel)
theorem wt_Of_108 : (Jvm.Cond.stringRef "BeatPathOffice" (108 : Nat) "no such turn") ∈ bw_TB := bw_t (i := 336) (by decide +kernel)
theorem wt_Of_114 : (Jvm.Cond.stringRef "BeatPathOffice" (114 : Nat) "the batch can't be turned so") ∈ bw_TB := bw_t (i := 340) (by decide +kernel)
theorem wt_Of_123 : (Jvm.Cond.stringRef "BeatPathOffice" (123 : Nat) "no such ballot") ∈ bw_TB := bw_t (i := 364) (by decide +kernel)
theorem wt_Of_125 : (Jvm.Cond.stringRef "BeatPathOffice" (125 : Nat) "the batch is open") ∈ bw_TB := bw_t (i := 365) (by decide +kernel)
theorem wt_Of_202 : (Jvm.Cond.stringRef "BeatPathOffice" (202 : Nat) "the same candidate twice") ∈ bw_TB := bw_t (i := 385) (by decide +kernel)
theorem wt_Of_213 : (Jvm.Cond.stringRef "BeatPathOffice" (213 : Nat) "there is none") ∈ bw_TB := bw_t (i := 493) (by decide +kernel)
theorem wk_In_265 : (Jvm.Cond.constant "java/lang/Integer" (265 : Nat) (1431655765 : Int32)) ∈ bw_TB := bw_t (i := 565) (by decide +kernel)
theorem wk_In_266 : (Jvm.Cond.constant "java/lang/Integer" (266 : Nat) (858993459 : Int32)) ∈ bw_TB := bw_t (i := 566) (by decide +kernel)
theorem wk_In_267 : (Jvm.Cond.constant "java/lang/Integer" (267 : Nat) (252645135 : Int32)) ∈ bw_TB := bw_t (i := 567) (by decide +kernel)
theorem wt_Of_195 : (Jvm.Cond.stringRef "BeatPathOffice" (195 : Nat) "no such question") ∈ bw_TB := bw_t (i := 575) (by decide +kernel)
theorem wz_582 : (Jvm.Cond.native ({ cls := "java/lang/System", name := "arraycopy", desc := "(Ljava/lang/Object;ILjava/lang/Object;II)V" } : Jvm.MethodName)) ∈ bw_TB := bw_t (i := 582) (by decide +kernel) -- native
theorem wc_La_82 : (Jvm.Cond.classLink "BeatPathOfficeLaw" (82 : Nat) "BeatPathOfficeModel") ∈ bw_TB := bw_t (i := 583) (by decide +kernel)
theorem wn_Mo : (Jvm.Cond.instantiable "BeatPathOfficeModel" (17 : Nat)) ∈ bw_TB := bw_t (i := 584) (by decide +kernel)
theorem wz_641 : (Jvm.Cond.arrayClass Jvm.ClassFile.FieldType.boolean) ∈ bw_TB := bw_t (i := 641) (by decide +kernel) -- arrayClass
theorem wz_795 : (Jvm.Cond.arrayClass Jvm.ClassFile.FieldType.long) ∈ bw_TB := bw_t (i := 795) (by decide +kernel) -- arrayClass
/-! shapes of callees, sites of calls -/
theorem sh_Of_init : bj_sh bw_TB Y_Of_init 1 := ⟨Or.inl ⟨rfl, bw_t (i := 21) (by decide +kernel)⟩, by decide +kernel, rfl, by decide +kernel, by decide +kernel, by decide⟩
theorem sh_Ba_init : bj_sh bw_TB Y_Ba_init 0 := ⟨Or.inl ⟨rfl, bw_t (i := 30) (by decide +kernel)⟩, by decide +kernel, rfl, by decide +kernel, by decide +kernel, by decide⟩
theorem sh_Co_init : bj_sh bw_TB Y_Co_init 1 := ⟨Or.inl ⟨rfl, bw_t (i := 57) (by decide +kernel)⟩, by decide +kernel, rfl, by decide +kernel, by decide +kernel, by decide⟩
theorem sh_Pa_init : bj_sh bw_TB Y_Pa_init 1 := ⟨Or.inl ⟨rfl, bw_t (i := 78) (by decide +kernel)⟩, by decide +kernel, rfl, by decide +kernel, by decide +kernel, by decide⟩
theorem sh_Lo_init : bj_sh bw_TB Y_Lo_init 1 := ⟨Or.inl ⟨rfl, bw_t (i := 96) (by decide +kernel)⟩, by decide +kernel, rfl, by decide +kernel, by decide +kernel, by decide⟩
theorem sh_Of_voters : bj_sh bw_TB Y_Of_voters 0 := ⟨Or.inl ⟨rfl, bw_t (i := 149) (by decide +kernel)⟩, by decide +kernel, rfl, by decide +kernel, by decide +kernel, by decide⟩
theorem sh_Of_seal : bj_sh bw_TB Y_Of_seal 0 := ⟨Or.inl ⟨rfl, bw_t (i := 153) (by decide +kernel)⟩, by decide +kernel, rfl, by decide +kernel, by decide +kernel, by decide⟩
theorem sh_La_cell : bj_sh bw_TB Y_La_cell 2 := ⟨Or.inl ⟨rfl, bw_t (i := 156) (by decide +kernel)⟩, by decide +kernel, rfl, by decide +kernel, by decide +kernel, by decide⟩
theorem sh_La_tie : bj_sh bw_TB Y_La_tie 3 := ⟨Or.inr (bw_t (i := 159) (by decide +kernel)), by decide +kernel, rfl, by decide +kernel, by decide +kernel, by decide⟩
theorem sh_Of_tie : bj_sh bw_TB Y_Of_tie 2 := ⟨Or.inl ⟨rfl, bw_t (i := 165) (by decide +kernel)⟩, by decide +kernel, rfl, by decide +kernel, by decide +kernel, by decide⟩
theorem sh_Of_needCandidate : bj_sh bw_TB Y_Of_needCandidate 1 := ⟨Or.inl ⟨rfl, bw_t (i := 169) (by decide +kernel)⟩, by decide +kernel, rfl, by decide +kernel, by decide +kernel, by decide⟩
theorem sh_Of_isCandidate : bj_sh bw_TB Y_Of_isCandidate 1 := ⟨Or.inl ⟨rfl, bw_t (i := 173) (by decide +kernel)⟩, by decide +kernel, rfl, by decide +kernel, by decide +kernel, by decide⟩
theorem sh_Of_needUnsealed : bj_sh bw_TB Y_Of_needUnsealed 0 := ⟨Or.inl ⟨rfl, bw_t (i := 246) (by decide +kernel)⟩, by decide +kernel, rfl, by decide +kernel, by decide +kernel, by decide⟩
theorem sh_Of_moveInDrawnOrder : bj_sh bw_TB Y_Of_moveInDrawnOrder 2 := ⟨Or.inl ⟨rfl, bw_t (i := 267) (by decide +kernel)⟩, by decide +kernel, rfl, by decide +kernel, by decide +kernel, by decide⟩
theorem sh_La_drawn : bj_sh bw_TB Y_La_drawn 3 := ⟨Or.inr (bw_t (i := 270) (by decide +kernel)), by decide +kernel, rfl, by decide +kernel, by decide +kernel, by decide⟩
theorem sh_Of_drawn : bj_sh bw_TB Y_Of_drawn 1 := ⟨Or.inl ⟨rfl, bw_t (i := 275) (by decide +kernel)⟩, by decide +kernel, rfl, by decide +kernel, by decide +kernel, by decide⟩
theorem sh_La_open : bj_sh bw_TB Y_La_open 2 := ⟨Or.inr (bw_t (i := 293) (by decide +kernel)), by decide +kernel, rfl, by decide +kernel, by decide +kernel, by decide⟩
theorem sh_Of_open : bj_sh bw_TB Y_Of_open 0 := ⟨Or.inl ⟨rfl, bw_t (i := 297) (by decide +kernel)⟩, by decide +kernel, rfl, by decide +kernel, by decide +kernel, by decide⟩
theorem sh_La_ballot : bj_sh bw_TB Y_La_ballot 5 := ⟨Or.inr (bw_t (i := 301) (by decide +kernel)), by decide +kernel, rfl, by decide +kernel, by decide +kernel, by decide⟩
theorem sh_Of_ballot : bj_sh bw_TB Y_Of_ballot 3 := ⟨Or.inl ⟨rfl, bw_t (i := 305) (by decide +kernel)⟩, by decide +kernel, rfl, by decide +kernel, by decide +kernel, by decide⟩
theorem sh_Of_needBatch : bj_sh bw_TB Y_Of_needBatch 1 := ⟨Or.inl ⟨rfl, bw_t (i := 309) (by decide +kernel)⟩, by decide +kernel, rfl, by decide +kernel, by decide +kernel, by decide⟩
theorem sh_Of_needRanking : bj_sh bw_TB Y_Of_needRanking 1 := ⟨Or.inl ⟨rfl, bw_t (i := 314) (by decide +kernel)⟩, by decide +kernel, rfl, by decide +kernel, by decide +kernel, by decide⟩
theorem sh_Of_isRanking : bj_sh bw_TB Y_Of_isRanking 1 := ⟨Or.inl ⟨rfl, bw_t (i := 318) (by decide +kernel)⟩, by decide +kernel, rfl, by decide +kernel, by decide +kernel, by decide⟩
theorem sh_Of_nibble : bj_sh bw_TB Y_Of_nibble 2 := ⟨Or.inl ⟨rfl, bw_t (i := 321) (by decide +kernel)⟩, by decide +kernel, rfl, by decide +kernel, by decide +kernel, by decide⟩
theorem sh_Ba_put : bj_sh bw_TB Y_Ba_put 2 := ⟨Or.inl ⟨rfl, bw_t (i := 328) (by decide +kernel)⟩, by decide +kernel, rfl, by decide +kernel, by decide +kernel, by decide⟩
theorem sh_La_turn : bj_sh bw_TB Y_La_turn 3 := ⟨Or.inr (bw_t (i := 331) (by decide +kernel)), by decide +kernel, rfl, by decide +kernel, by decide +kernel, by decide⟩
theorem sh_Of_turn : bj_sh bw_TB Y_Of_turn 2 := ⟨Or.inl ⟨rfl, bw_t (i := 335) (by decide +kernel)⟩, by decide +kernel, rfl, by decide +kernel, by decide +kernel, by decide⟩
theorem sh_Of_stageBefore : bj_sh bw_TB Y_Of_stageBefore 1 := ⟨Or.inl ⟨rfl, bw_t (i := 339) (by decide +kernel)⟩, by decide +kernel, rfl, by decide +kernel, by decide +kernel, by decide⟩
theorem sh_Co_takeOut : bj_sh bw_TB Y_Co_takeOut 1 := ⟨Or.inl ⟨rfl, bw_t (i := 344) (by decide +kernel)⟩, by decide +kernel, rfl, by decide +kernel, by decide +kernel, by decide⟩
theorem sh_Co_add : bj_sh bw_TB Y_Co_add 2 := ⟨Or.inl ⟨rfl, bw_t (i := 348) (by decide +kernel)⟩, by decide +kernel, rfl, by decide +kernel, by decide +kernel, by decide⟩
theorem sh_Co_comesBefore : bj_sh bw_TB Y_Co_comesBefore 3 := ⟨Or.inl ⟨rfl, bw_t (i := 351) (by decide +kernel)⟩, by decide +kernel, rfl, by decide +kernel, by decide +kernel, by decide⟩
theorem sh_Co_putIn : bj_sh bw_TB Y_Co_putIn 1 := ⟨Or.inl ⟨rfl, bw_t (i := 356) (by decide +kernel)⟩, by decide +kernel, rfl, by decide +kernel, by decide +kernel, by decide⟩
theorem sh_La_correct : bj_sh bw_TB Y_La_correct 5 := ⟨Or.inr (bw_t (i := 359) (by decide +kernel)), by decide +kernel, rfl, by decide +kernel, by decide +kernel, by decide⟩
theorem sh_Of_correct : bj_sh bw_TB Y_Of_correct 3 := ⟨Or.inl ⟨rfl, bw_t (i := 363) (by decide +kernel)⟩, by decide +kernel, rfl, by decide +kernel, by decide +kernel, by decide⟩
theorem sh_La_state : bj_sh bw_TB Y_La_state 3 := ⟨Or.inr (bw_t (i := 369) (by decide +kernel)), by decide +kernel, rfl, by decide +kernel, by decide +kernel, by decide⟩
theorem sh_Of_state : bj_sh bw_TB Y_Of_state 1 := ⟨Or.inl ⟨rfl, bw_t (i := 373) (by decide +kernel)⟩, by decide +kernel, rfl, by decide +kernel, by decide +kernel, by decide⟩
theorem sh_La_prefer : bj_sh bw_TB Y_La_prefer 4 := ⟨Or.inr (bw_t (i := 376) (by decide +kernel)), by decide +kernel, rfl, by decide +kernel, by decide +kernel, by decide⟩
theorem sh_Of_prefer : bj_sh bw_TB Y_Of_prefer 2 := ⟨Or.inl ⟨rfl, bw_t (i := 380) (by decide +kernel)⟩, by decide +kernel, rfl, by decide +kernel, by decide +kernel, by decide⟩
theorem sh_Of_needPair : bj_sh bw_TB Y_Of_needPair 2 := ⟨Or.inl ⟨rfl, bw_t (i := 384) (by decide +kernel)⟩, by decide +kernel, rfl, by decide +kernel, by decide +kernel, by decide⟩
theorem sh_La_strength : bj_sh bw_TB Y_La_strength 4 := ⟨Or.inr (bw_t (i := 388) (by decide +kernel)), by decide +kernel, rfl, by decide +kernel, by decide +kernel, by decide⟩
theorem sh_Of_strength : bj_sh bw_TB Y_Of_strength 2 := ⟨Or.inl ⟨rfl, bw_t (i := 392) (by decide +kernel)⟩, by decide +kernel, rfl, by decide +kernel, by decide +kernel, by decide⟩
theorem sh_Pa_weigh : bj_sh bw_TB Y_Pa_weigh 1 := ⟨Or.inl ⟨rfl, bw_t (i := 396) (by decide +kernel)⟩, by decide +kernel, rfl, by decide +kernel, by decide +kernel, by decide⟩
theorem sh_Co_direct : bj_sh bw_TB Y_Co_direct 2 := ⟨Or.inl ⟨rfl, bw_t (i := 400) (by decide +kernel)⟩, by decide +kernel, rfl, by decide +kernel, by decide +kernel, by decide⟩
theorem sh_Pa_widen : bj_sh bw_TB Y_Pa_widen 2 := ⟨Or.inl ⟨rfl, bw_t (i := 404) (by decide +kernel)⟩, by decide +kernel, rfl, by decide +kernel, by decide +kernel, by decide⟩
theorem sh_La_way : bj_sh bw_TB Y_La_way 4 := ⟨Or.inr (bw_t (i := 413) (by decide +kernel)), by decide +kernel, rfl, by decide +kernel, by decide +kernel, by decide⟩
theorem sh_Of_way : bj_sh bw_TB Y_Of_way 2 := ⟨Or.inl ⟨rfl, bw_t (i := 417) (by decide +kernel)⟩, by decide +kernel, rfl, by decide +kernel, by decide +kernel, by decide⟩
theorem sh_Pa_strongestWay : bj_sh bw_TB Y_Pa_strongestWay 3 := ⟨Or.inl ⟨rfl, bw_t (i := 421) (by decide +kernel)⟩, by decide +kernel, rfl, by decide +kernel, by decide +kernel, by decide⟩
theorem sh_Pa_countSteps : bj_sh bw_TB Y_Pa_countSteps 3 := ⟨Or.inl ⟨rfl, bw_t (i := 425) (by decide +kernel)⟩, by decide +kernel, rfl, by decide +kernel, by decide +kernel, by decide⟩
theorem sh_Ar_fill : bj_sh bw_TB Y_Ar_fill 2 := ⟨Or.inl ⟨rfl, bw_t (i := 428) (by decide +kernel)⟩, by decide +kernel, rfl, by decide +kernel, by decide +kernel, by decide⟩
theorem sh_Pa_nextAt : bj_sh bw_TB Y_Pa_nextAt 4 := ⟨Or.inl ⟨rfl, bw_t (i := 432) (by decide +kernel)⟩, by decide +kernel, rfl, by decide +kernel, by decide +kernel, by decide⟩
theorem sh_Pa_nextTowards : bj_sh bw_TB Y_Pa_nextTowards 3 := ⟨Or.inl ⟨rfl, bw_t (i := 436) (by decide +kernel)⟩, by decide +kernel, rfl, by decide +kernel, by decide +kernel, by decide⟩
theorem sh_La_cut : bj_sh bw_TB Y_La_cut 4 := ⟨Or.inr (bw_t (i := 439) (by decide +kernel)), by decide +kernel, rfl, by decide +kernel, by decide +kernel, by decide⟩
theorem sh_Of_cut : bj_sh bw_TB Y_Of_cut 2 := ⟨Or.inl ⟨rfl, bw_t (i := 443) (by decide +kernel)⟩, by decide +kernel, rfl, by decide +kernel, by decide +kernel, by decide⟩
theorem sh_Pa_reachedAbove : bj_sh bw_TB Y_Pa_reachedAbove 2 := ⟨Or.inl ⟨rfl, bw_t (i := 447) (by decide +kernel)⟩, by decide +kernel, rfl, by decide +kernel, by decide +kernel, by decide⟩
theorem sh_La_proves : bj_sh bw_TB Y_La_proves 7 := ⟨Or.inr (bw_t (i := 450) (by decide +kernel)), by decide +kernel, rfl, by decide +kernel, by decide +kernel, by decide⟩
theorem sh_Of_proves : bj_sh bw_TB Y_Of_proves 5 := ⟨Or.inl ⟨rfl, bw_t (i := 454) (by decide +kernel)⟩, by decide +kernel, rfl, by decide +kernel, by decide +kernel, by decide⟩
theorem sh_Co_isWay : bj_sh bw_TB Y_Co_isWay 4 := ⟨Or.inl ⟨rfl, bw_t (i := 458) (by decide +kernel)⟩, by decide +kernel, rfl, by decide +kernel, by decide +kernel, by decide⟩
theorem sh_Of_has : bj_sh bw_TB Y_Of_has 2 := ⟨Or.inl ⟨rfl, bw_t (i := 462) (by decide +kernel)⟩, by decide +kernel, rfl, by decide +kernel, by decide +kernel, by decide⟩
theorem sh_Co_isHeldIn : bj_sh bw_TB Y_Co_isHeldIn 2 := ⟨Or.inl ⟨rfl, bw_t (i := 466) (by decide +kernel)⟩, by decide +kernel, rfl, by decide +kernel, by decide +kernel, by decide⟩
theorem sh_La_winner : bj_sh bw_TB Y_La_winner 3 := ⟨Or.inr (bw_t (i := 470) (by decide +kernel)), by decide +kernel, rfl, by decide +kernel, by decide +kernel, by decide⟩
theorem sh_Of_winner : bj_sh bw_TB Y_Of_winner 1 := ⟨Or.inl ⟨rfl, bw_t (i := 474) (by decide +kernel)⟩, by decide +kernel, rfl, by decide +kernel, by decide +kernel, by decide⟩
theorem sh_Of_winnerSet : bj_sh bw_TB Y_Of_winnerSet 1 := ⟨Or.inl ⟨rfl, bw_t (i := 478) (by decide +kernel)⟩, by decide +kernel, rfl, by decide +kernel, by decide +kernel, by decide⟩
theorem sh_Pa_unbeaten : bj_sh bw_TB Y_Pa_unbeaten 0 := ⟨Or.inl ⟨rfl, bw_t (i := 482) (by decide +kernel)⟩, by decide +kernel, rfl, by decide +kernel, by decide +kernel, by decide⟩
theorem sh_Pa_isUnbeaten : bj_sh bw_TB Y_Pa_isUnbeaten 1 := ⟨Or.inl ⟨rfl, bw_t (i := 486) (by decide +kernel)⟩, by decide +kernel, rfl, by decide +kernel, by decide +kernel, by decide⟩
theorem sh_Of_member : bj_sh bw_TB Y_Of_member 2 := ⟨Or.inl ⟨rfl, bw_t (i := 489) (by decide +kernel)⟩, by decide +kernel, rfl, by decide +kernel, by decide +kernel, by decide⟩
theorem sh_Of_needFound : bj_sh bw_TB Y_Of_needFound 1 := ⟨Or.inl ⟨rfl, bw_t (i := 492) (by decide +kernel)⟩, by decide +kernel, rfl, by decide +kernel, by decide +kernel, by decide⟩
theorem sh_La_locked : bj_sh bw_TB Y_La_locked 4 := ⟨Or.inr (bw_t (i := 496) (by decide +kernel)), by decide +kernel, rfl, by decide +kernel, by decide +kernel, by decide⟩
theorem sh_Of_locked : bj_sh bw_TB Y_Of_locked 2 := ⟨Or.inl ⟨rfl, bw_t (i := 500) (by decide +kernel)⟩, by decide +kernel, rfl, by decide +kernel, by decide +kernel, by decide⟩
theorem sh_Lo_lockPairs : bj_sh bw_TB Y_Lo_lockPairs 2 := ⟨Or.inl ⟨rfl, bw_t (i := 504) (by decide +kernel)⟩, by decide +kernel, rfl, by decide +kernel, by decide +kernel, by decide⟩
theorem sh_Lo_sortPairs : bj_sh bw_TB Y_Lo_sortPairs 2 := ⟨Or.inl ⟨rfl, bw_t (i := 509) (by decide +kernel)⟩, by decide +kernel, rfl, by decide +kernel, by decide +kernel, by decide⟩
theorem sh_Lo_insert : bj_sh bw_TB Y_Lo_insert 3 := ⟨Or.inl ⟨rfl, bw_t (i := 514) (by decide +kernel)⟩, by decide +kernel, rfl, by decide +kernel, by decide +kernel, by decide⟩
theorem sh_Lo_overtakes : bj_sh bw_TB Y_Lo_overtakes 4 := ⟨Or.inl ⟨rfl, bw_t (i := 518) (by decide +kernel)⟩, by decide +kernel, rfl, by decide +kernel, by decide +kernel, by decide⟩
theorem sh_Lo_lock : bj_sh bw_TB Y_Lo_lock 2 := ⟨Or.inl ⟨rfl, bw_t (i := 523) (by decide +kernel)⟩, by decide +kernel, rfl, by decide +kernel, by decide +kernel, by decide⟩
theorem sh_La_order : bj_sh bw_TB Y_La_order 3 := ⟨Or.inr (bw_t (i := 526) (by decide +kernel)), by decide +kernel, rfl, by decide +kernel, by decide +kernel, by decide⟩
theorem sh_Of_order : bj_sh bw_TB Y_Of_order 1 := ⟨Or.inl ⟨rfl, bw_t (i := 530) (by decide +kernel)⟩, by decide +kernel, rfl, by decide +kernel, by decide +kernel, by decide⟩
theorem sh_Of_inOrder : bj_sh bw_TB Y_Of_inOrder 2 := ⟨Or.inl ⟨rfl, bw_t (i := 534) (by decide +kernel)⟩, by decide +kernel, rfl, by decide +kernel, by decide +kernel, by decide⟩
theorem sh_Lo_lineUp : bj_sh bw_TB Y_Lo_lineUp 2 := ⟨Or.inl ⟨rfl, bw_t (i := 538) (by decide +kernel)⟩, by decide +kernel, rfl, by decide +kernel, by decide +kernel, by decide⟩
theorem sh_Lo_firstFree : bj_sh bw_TB Y_Lo_firstFree 2 := ⟨Or.inl ⟨rfl, bw_t (i := 542) (by decide +kernel)⟩, by decide +kernel, rfl, by decide +kernel, by decide +kernel, by decide⟩
theorem sh_La_top : bj_sh bw_TB Y_La_top 3 := ⟨Or.inr (bw_t (i := 545) (by decide +kernel)), by decide +kernel, rfl, by decide +kernel, by decide +kernel, by decide⟩
theorem sh_Of_top : bj_sh bw_TB Y_Of_top 1 := ⟨Or.inl ⟨rfl, bw_t (i := 549) (by decide +kernel)⟩, by decide +kernel, rfl, by decide +kernel, by decide +kernel, by decide⟩
theorem sh_Co_topSet : bj_sh bw_TB Y_Co_topSet 0 := ⟨Or.inl ⟨rfl, bw_t (i := 553) (by decide +kernel)⟩, by decide +kernel, rfl, by decide +kernel, by decide +kernel, by decide⟩
theorem sh_Co_beatingSetAround : bj_sh bw_TB Y_Co_beatingSetAround 1 := ⟨Or.inl ⟨rfl, bw_t (i := 557) (by decide +kernel)⟩, by decide +kernel, rfl, by decide +kernel, by decide +kernel, by decide⟩
theorem sh_Co_notBeatenBy : bj_sh bw_TB Y_Co_notBeatenBy 1 := ⟨Or.inl ⟨rfl, bw_t (i := 561) (by decide +kernel)⟩, by decide +kernel, rfl, by decide +kernel, by decide +kernel, by decide⟩
theorem sh_In_bitCount : bj_sh bw_TB Y_In_bitCount 1 := ⟨Or.inl ⟨rfl, bw_t (i := 564) (by decide +kernel)⟩, by decide +kernel, rfl, by decide +kernel, by decide +kernel, by decide⟩
theorem sh_La_without : bj_sh bw_TB Y_La_without 5 := ⟨Or.inr (bw_t (i := 570) (by decide +kernel)), by decide +kernel, rfl, by decide +kernel, by decide +kernel, by decide⟩
theorem sh_Of_without : bj_sh bw_TB Y_Of_without 3 := ⟨Or.inl ⟨rfl, bw_t (i := 574) (by decide +kernel)⟩, by decide +kernel, rfl, by decide +kernel, by decide +kernel, by decide⟩
theorem sh_Co_copy : bj_sh bw_TB Y_Co_copy 1 := ⟨Or.inl ⟨rfl, bw_t (i := 579) (by decide +kernel)⟩, by decide +kernel, rfl, by decide +kernel, by decide +kernel, by decide⟩
theorem sh_Mo_init : bj_sh bw_TB Y_Mo_init 1 := ⟨Or.inl ⟨rfl, bw_t (i := 587) (by decide +kernel)⟩, by decide +kernel, rfl, by decide +kernel, by decide +kernel, by decide⟩
theorem sh_Mo_thrown : bj_sh bw_TB Y_Mo_thrown 0 := ⟨Or.inl ⟨rfl, bw_t (i := 645) (by decide +kernel)⟩, by decide +kernel, rfl, by decide +kernel, by decide +kernel, by decide⟩
theorem sh_Mo_tie : bj_sh bw_TB Y_Mo_tie 2 := ⟨Or.inl ⟨rfl, bw_t (i := 649) (by decide +kernel)⟩, by decide +kernel, rfl, by decide +kernel, by decide +kernel, by decide⟩
theorem sh_Mo_isCandidate : bj_sh bw_TB Y_Mo_isCandidate 1 := ⟨Or.inl ⟨rfl, bw_t (i := 653) (by decide +kernel)⟩, by decide +kernel, rfl, by decide +kernel, by decide +kernel, by decide⟩
theorem sh_Mo_placeOf : bj_sh bw_TB Y_Mo_placeOf 1 := ⟨Or.inl ⟨rfl, bw_t (i := 657) (by decide +kernel)⟩, by decide +kernel, rfl, by decide +kernel, by decide +kernel, by decide⟩
theorem sh_Mo_drawn : bj_sh bw_TB Y_Mo_drawn 1 := ⟨Or.inl ⟨rfl, bw_t (i := 661) (by decide +kernel)⟩, by decide +kernel, rfl, by decide +kernel, by decide +kernel, by decide⟩
theorem sh_Mo_open : bj_sh bw_TB Y_Mo_open 0 := ⟨Or.inl ⟨rfl, bw_t (i := 665) (by decide +kernel)⟩, by decide +kernel, rfl, by decide +kernel, by decide +kernel, by decide⟩
theorem sh_Mo_ballot : bj_sh bw_TB Y_Mo_ballot 3 := ⟨Or.inl ⟨rfl, bw_t (i := 669) (by decide +kernel)⟩, by decide +kernel, rfl, by decide +kernel, by decide +kernel, by decide⟩
theorem sh_Mo_isBatch : bj_sh bw_TB Y_Mo_isBatch 1 := ⟨Or.inl ⟨rfl, bw_t (i := 673) (by decide +kernel)⟩, by decide +kernel, rfl, by decide +kernel, by decide +kernel, by decide⟩
theorem sh_Mo_isRanking : bj_sh bw_TB Y_Mo_isRanking 1 := ⟨Or.inl ⟨rfl, bw_t (i := 677) (by decide +kernel)⟩, by decide +kernel, rfl, by decide +kernel, by decide +kernel, by decide⟩
theorem sh_Mo_place : bj_sh bw_TB Y_Mo_place 2 := ⟨Or.inl ⟨rfl, bw_t (i := 680) (by decide +kernel)⟩, by decide +kernel, rfl, by decide +kernel, by decide +kernel, by decide⟩
theorem sh_Mo_turn : bj_sh bw_TB Y_Mo_turn 2 := ⟨Or.inl ⟨rfl, bw_t (i := 684) (by decide +kernel)⟩, by decide +kernel, rfl, by decide +kernel, by decide +kernel, by decide⟩
theorem sh_Mo_correct : bj_sh bw_TB Y_Mo_correct 3 := ⟨Or.inl ⟨rfl, bw_t (i := 688) (by decide +kernel)⟩, by decide +kernel, rfl, by decide +kernel, by decide +kernel, by decide⟩
theorem sh_Mo_state : bj_sh bw_TB Y_Mo_state 1 := ⟨Or.inl ⟨rfl, bw_t (i := 692) (by decide +kernel)⟩, by decide +kernel, rfl, by decide +kernel, by decide +kernel, by decide⟩
theorem sh_Mo_voters : bj_sh bw_TB Y_Mo_voters 0 := ⟨Or.inl ⟨rfl, bw_t (i := 696) (by decide +kernel)⟩, by decide +kernel, rfl, by decide +kernel, by decide +kernel, by decide⟩
theorem sh_Mo_prefer : bj_sh bw_TB Y_Mo_prefer 2 := ⟨Or.inl ⟨rfl, bw_t (i := 700) (by decide +kernel)⟩, by decide +kernel, rfl, by decide +kernel, by decide +kernel, by decide⟩
theorem sh_Mo_lacks : bj_sh bw_TB Y_Mo_lacks 2 := ⟨Or.inl ⟨rfl, bw_t (i := 704) (by decide +kernel)⟩, by decide +kernel, rfl, by decide +kernel, by decide +kernel, by decide⟩
theorem sh_Mo_count : bj_sh bw_TB Y_Mo_count 1 := ⟨Or.inl ⟨rfl, bw_t (i := 708) (by decide +kernel)⟩, by decide +kernel, rfl, by decide +kernel, by decide +kernel, by decide⟩
theorem sh_Mo_add : bj_sh bw_TB Y_Mo_add 2 := ⟨Or.inl ⟨rfl, bw_t (i := 712) (by decide +kernel)⟩, by decide +kernel, rfl, by decide +kernel, by decide +kernel, by decide⟩
theorem sh_Mo_strengthen : bj_sh bw_TB Y_Mo_strengthen 0 := ⟨Or.inl ⟨rfl, bw_t (i := 716) (by decide +kernel)⟩, by decide +kernel, rfl, by decide +kernel, by decide +kernel, by decide⟩
theorem sh_Mo_lesser : bj_sh bw_TB Y_Mo_lesser 2 := ⟨Or.inl ⟨rfl, bw_t (i := 719) (by decide +kernel)⟩, by decide +kernel, rfl, by decide +kernel, by decide +kernel, by decide⟩
theorem sh_Mo_strength : bj_sh bw_TB Y_Mo_strength 2 := ⟨Or.inl ⟨rfl, bw_t (i := 723) (by decide +kernel)⟩, by decide +kernel, rfl, by decide +kernel, by decide +kernel, by decide⟩
theorem sh_Mo_way : bj_sh bw_TB Y_Mo_way 2 := ⟨Or.inl ⟨rfl, bw_t (i := 727) (by decide +kernel)⟩, by decide +kernel, rfl, by decide +kernel, by decide +kernel, by decide⟩
theorem sh_Mo_cut : bj_sh bw_TB Y_Mo_cut 2 := ⟨Or.inl ⟨rfl, bw_t (i := 731) (by decide +kernel)⟩, by decide +kernel, rfl, by decide +kernel, by decide +kernel, by decide⟩
theorem sh_Mo_proves : bj_sh bw_TB Y_Mo_proves 5 := ⟨Or.inl ⟨rfl, bw_t (i := 735) (by decide +kernel)⟩, by decide +kernel, rfl, by decide +kernel, by decide +kernel, by decide⟩
theorem sh_Mo_isWay : bj_sh bw_TB Y_Mo_isWay 4 := ⟨Or.inl ⟨rfl, bw_t (i := 739) (by decide +kernel)⟩, by decide +kernel, rfl, by decide +kernel, by decide +kernel, by decide⟩
theorem sh_Mo_winner : bj_sh bw_TB Y_Mo_winner 1 := ⟨Or.inl ⟨rfl, bw_t (i := 743) (by decide +kernel)⟩, by decide +kernel, rfl, by decide +kernel, by decide +kernel, by decide⟩
theorem sh_Mo_tell : bj_sh bw_TB Y_Mo_tell 4 := ⟨Or.inl ⟨rfl, bw_t (i := 747) (by decide +kernel)⟩, by decide +kernel, rfl, by decide +kernel, by decide +kernel, by decide⟩
theorem sh_Mo_winners : bj_sh bw_TB Y_Mo_winners 0 := ⟨Or.inl ⟨rfl, bw_t (i := 751) (by decide +kernel)⟩, by decide +kernel, rfl, by decide +kernel, by decide +kernel, by decide⟩
theorem sh_Mo_orderAll : bj_sh bw_TB Y_Mo_orderAll 0 := ⟨Or.inl ⟨rfl, bw_t (i := 755) (by decide +kernel)⟩, by decide +kernel, rfl, by decide +kernel, by decide +kernel, by decide⟩
theorem sh_Mo_lockAll : bj_sh bw_TB Y_Mo_lockAll 0 := ⟨Or.inl ⟨rfl, bw_t (i := 759) (by decide +kernel)⟩, by decide +kernel, rfl, by decide +kernel, by decide +kernel, by decide⟩
theorem sh_Mo_isBefore : bj_sh bw_TB Y_Mo_isBefore 2 := ⟨Or.inl ⟨rfl, bw_t (i := 763) (by decide +kernel)⟩, by decide +kernel, rfl, by decide +kernel, by decide +kernel, by decide⟩
theorem sh_Mo_lock : bj_sh bw_TB Y_Mo_lock 1 := ⟨Or.inl ⟨rfl, bw_t (i := 767) (by decide +kernel)⟩, by decide +kernel, rfl, by decide +kernel, by decide +kernel, by decide⟩
theorem sh_Mo_topAll : bj_sh bw_TB Y_Mo_topAll 0 := ⟨Or.inl ⟨rfl, bw_t (i := 771) (by decide +kernel)⟩, by decide +kernel, rfl, by decide +kernel, by decide +kernel, by decide⟩
theorem sh_Mo_sizeOf : bj_sh bw_TB Y_Mo_sizeOf 1 := ⟨Or.inl ⟨rfl, bw_t (i := 774) (by decide +kernel)⟩, by decide +kernel, rfl, by decide +kernel, by decide +kernel, by decide⟩
theorem sh_Mo_locked : bj_sh bw_TB Y_Mo_locked 2 := ⟨Or.inl ⟨rfl, bw_t (i := 778) (by decide +kernel)⟩, by decide +kernel, rfl, by decide +kernel, by decide +kernel, by decide⟩
theorem sh_Mo_order : bj_sh bw_TB Y_Mo_order 1 := ⟨Or.inl ⟨rfl, bw_t (i := 782) (by decide +kernel)⟩, by decide +kernel, rfl, by decide +kernel, by decide +kernel, by decide⟩
theorem sh_Mo_top : bj_sh bw_TB Y_Mo_top 1 := ⟨Or.inl ⟨rfl, bw_t (i := 786) (by decide +kernel)⟩, by decide +kernel, rfl, by decide +kernel, by decide +kernel, by decide⟩
theorem sh_Mo_without : bj_sh bw_TB Y_Mo_without 3 := ⟨Or.inl ⟨rfl, bw_t (i := 790) (by decide +kernel)⟩, by decide +kernel, rfl, by decide +kernel, by decide +kernel, by decide⟩
theorem sh_Mo_seal : bj_sh bw_TB Y_Mo_seal 0 := ⟨Or.inl ⟨rfl, bw_t (i := 794) (by decide +kernel)⟩, by decide +kernel, rfl, by decide +kernel, by decide +kernel, by decide⟩
theorem si_La_79 : bj_si bw_TB "BeatPathOfficeLaw" 79 Y_Of_init 1 := ⟨bw_t (i := 19) (by decide +kernel), bw_t (i := 20) (by decide +kernel), bw_t (i := 21) (by decide +kernel), rfl, rfl, rfl, by decide, sh_Of_init⟩
theorem si_Of_23 : bj_si bw_TB "BeatPathOffice" 23 Y_Ba_init 0 := ⟨bw_t (i := 28) (by decide +kernel), bw_t (i := 29) (by decide +kernel), bw_t (i := 30) (by decide +kernel), rfl, rfl, rfl, by decide, sh_Ba_init⟩
theorem si_Of_33 : bj_si bw_TB "BeatPathOffice" 33 Y_Co_init 1 := ⟨bw_t (i := 55) (by decide +kernel), bw_t (i := 56) (by decide +kernel), bw_t (i := 57) (by decide +kernel), rfl, rfl, rfl, by decide, sh_Co_init⟩
theorem si_Of_45 : bj_si bw_TB "BeatPathOffice" 45 Y_Pa_init 1 := ⟨bw_t (i := 76) (by decide +kernel), bw_t (i := 77) (by decide +kernel), bw_t (i := 78) (by decide +kernel), rfl, rfl, rfl, by decide, sh_Pa_init⟩
theorem si_Of_52 : bj_si bw_TB "BeatPathOffice" 52 Y_Lo_init 1 := ⟨bw_t (i := 94) (by decide +kernel), bw_t (i := 95) (by decide +kernel), bw_t (i := 96) (by decide +kernel), rfl, rfl, rfl, by decide, sh_Lo_init⟩
theorem sv_La_113 : bj_sv bw_TB "BeatPathOfficeLaw" 113 Y_Of_voters 0 := ⟨bw_t (i := 146) (by decide +kernel), bw_t (i := 147) (by decide +kernel), bw_t (i := 148) (by decide +kernel), by decide, sh_Of_voters⟩
theorem sv_La_149 : bj_sv bw_TB "BeatPathOfficeLaw" 149 Y_Of_seal 0 := ⟨bw_t (i := 150) (by decide +kernel), bw_t (i := 151) (by decide +kernel), bw_t (i := 152) (by decide +kernel), by decide, sh_Of_seal⟩
theorem ss_La_73 : bj_ss bw_TB "BeatPathOfficeLaw" 73 Y_La_cell 2 := ⟨bw_t (i := 154) (by decide +kernel), bw_t (i := 155) (by decide +kernel), bw_t (i := 0) (by decide +kernel), by decide, sh_La_cell⟩
theorem ss_La_85 : bj_ss bw_TB "BeatPathOfficeLaw" 85 Y_La_tie 3 := ⟨bw_t (i := 157) (by decide +kernel), bw_t (i := 158) (by decide +kernel), bw_t (i := 0) (by decide +kernel), by decide, sh_La_tie⟩
theorem sv_La_7 : bj_sv bw_TB "BeatPathOfficeLaw" 7 Y_Of_tie 2 := ⟨bw_t (i := 162) (by decide +kernel), bw_t (i := 163) (by decide +kernel), bw_t (i := 164) (by decide +kernel), by decide, sh_Of_tie⟩
theorem sv_Of_57 : bj_sv bw_TB "BeatPathOffice" 57 Y_Of_needCandidate 1 := ⟨bw_t (i := 166) (by decide +kernel), bw_t (i := 168) (by decide +kernel), bw_p (i := 0) (by decide +kernel), by decide, sh_Of_needCandidate⟩
theorem sv_Of_60 : bj_sv bw_TB "BeatPathOffice" 60 Y_Of_isCandidate 1 := ⟨bw_t (i := 170) (by decide +kernel), bw_t (i := 172) (by decide +kernel), bw_p (i := 1) (by decide +kernel), by decide, sh_Of_isCandidate⟩
theorem sv_Of_71 : bj_sv bw_TB "BeatPathOffice" 71 Y_Of_needUnsealed 0 := ⟨bw_t (i := 243) (by decide +kernel), bw_t (i := 245) (by decide +kernel), bw_p (i := 3) (by decide +kernel), by decide, sh_Of_needUnsealed⟩
theorem sv_Of_79 : bj_sv bw_TB "BeatPathOffice" 79 Y_Of_moveInDrawnOrder 2 := ⟨bw_t (i := 264) (by decide +kernel), bw_t (i := 266) (by decide +kernel), bw_p (i := 4) (by decide +kernel), by decide, sh_Of_moveInDrawnOrder⟩
theorem ss_La_92 : bj_ss bw_TB "BeatPathOfficeLaw" 92 Y_La_drawn 3 := ⟨bw_t (i := 268) (by decide +kernel), bw_t (i := 269) (by decide +kernel), bw_t (i := 0) (by decide +kernel), by decide, sh_La_drawn⟩
theorem sv_La_17 : bj_sv bw_TB "BeatPathOfficeLaw" 17 Y_Of_drawn 1 := ⟨bw_t (i := 272) (by decide +kernel), bw_t (i := 273) (by decide +kernel), bw_t (i := 274) (by decide +kernel), by decide, sh_Of_drawn⟩
theorem ss_La_96 : bj_ss bw_TB "BeatPathOfficeLaw" 96 Y_La_open 2 := ⟨bw_t (i := 291) (by decide +kernel), bw_t (i := 292) (by decide +kernel), bw_t (i := 0) (by decide +kernel), by decide, sh_La_open⟩
theorem sv_La_23 : bj_sv bw_TB "BeatPathOfficeLaw" 23 Y_Of_open 0 := ⟨bw_t (i := 294) (by decide +kernel), bw_t (i := 295) (by decide +kernel), bw_t (i := 296) (by decide +kernel), by decide, sh_Of_open⟩
theorem ss_La_100 : bj_ss bw_TB "BeatPathOfficeLaw" 100 Y_La_ballot 5 := ⟨bw_t (i := 299) (by decide +kernel), bw_t (i := 300) (by decide +kernel), bw_t (i := 0) (by decide +kernel), by decide, sh_La_ballot⟩
theorem sv_La_27 : bj_sv bw_TB "BeatPathOfficeLaw" 27 Y_Of_ballot 3 := ⟨bw_t (i := 302) (by decide +kernel), bw_t (i := 303) (by decide +kernel), bw_t (i := 304) (by decide +kernel), by decide, sh_Of_ballot⟩
theorem sv_Of_88 : bj_sv bw_TB "BeatPathOffice" 88 Y_Of_needBatch 1 := ⟨bw_t (i := 306) (by decide +kernel), bw_t (i := 308) (by decide +kernel), bw_p (i := 5) (by decide +kernel), by decide, sh_Of_needBatch⟩
theorem sv_Of_91 : bj_sv bw_TB "BeatPathOffice" 91 Y_Of_needRanking 1 := ⟨bw_t (i := 311) (by decide +kernel), bw_t (i := 313) (by decide +kernel), bw_p (i := 6) (by decide +kernel), by decide, sh_Of_needRanking⟩
theorem sv_Of_206 : bj_sv bw_TB "BeatPathOffice" 206 Y_Of_isRanking 1 := ⟨bw_t (i := 315) (by decide +kernel), bw_t (i := 317) (by decide +kernel), bw_p (i := 7) (by decide +kernel), by decide, sh_Of_isRanking⟩
theorem ss_Of_215 : bj_ss bw_TB "BeatPathOffice" 215 Y_Of_nibble 2 := ⟨bw_t (i := 319) (by decide +kernel), bw_t (i := 320) (by decide +kernel), bw_t (i := 1) (by decide +kernel), by decide, sh_Of_nibble⟩
theorem sv_Of_104 : bj_sv bw_TB "BeatPathOffice" 104 Y_Ba_put 2 := ⟨bw_t (i := 325) (by decide +kernel), bw_t (i := 326) (by decide +kernel), bw_t (i := 327) (by decide +kernel), by decide, sh_Ba_put⟩
theorem ss_La_104 : bj_ss bw_TB "BeatPathOfficeLaw" 104 Y_La_turn 3 := ⟨bw_t (i := 329) (by decide +kernel), bw_t (i := 330) (by decide +kernel), bw_t (i := 0) (by decide +kernel), by decide, sh_La_turn⟩
theorem sv_La_31 : bj_sv bw_TB "BeatPathOfficeLaw" 31 Y_Of_turn 2 := ⟨bw_t (i := 332) (by decide +kernel), bw_t (i := 333) (by decide +kernel), bw_t (i := 334) (by decide +kernel), by decide, sh_Of_turn⟩
theorem ss_Of_110 : bj_ss bw_TB "BeatPathOffice" 110 Y_Of_stageBefore 1 := ⟨bw_t (i := 337) (by decide +kernel), bw_t (i := 338) (by decide +kernel), bw_t (i := 1) (by decide +kernel), by decide, sh_Of_stageBefore⟩
theorem sv_Of_116 : bj_sv bw_TB "BeatPathOffice" 116 Y_Co_takeOut 1 := ⟨bw_t (i := 341) (by decide +kernel), bw_t (i := 342) (by decide +kernel), bw_t (i := 343) (by decide +kernel), by decide, sh_Co_takeOut⟩
theorem sv_Co_41 : bj_sv bw_TB "BeatPathOffice$Count" 41 Y_Co_add 2 := ⟨bw_t (i := 345) (by decide +kernel), bw_t (i := 346) (by decide +kernel), bw_t (i := 347) (by decide +kernel), by decide, sh_Co_add⟩
theorem ss_Co_45 : bj_ss bw_TB "BeatPathOffice$Count" 45 Y_Co_comesBefore 3 := ⟨bw_t (i := 349) (by decide +kernel), bw_t (i := 350) (by decide +kernel), bw_t (i := 3) (by decide +kernel), by decide, sh_Co_comesBefore⟩
theorem sn_Co_49 : bj_sn bw_TB "BeatPathOffice$Count" "BeatPathOffice" 49 Y_Of_nibble 2 := ⟨bw_t (i := 352) (by decide +kernel), bw_t (i := 320) (by decide +kernel), bw_t (i := 1) (by decide +kernel), by decide, sh_Of_nibble⟩
theorem sv_Of_120 : bj_sv bw_TB "BeatPathOffice" 120 Y_Co_putIn 1 := ⟨bw_t (i := 353) (by decide +kernel), bw_t (i := 354) (by decide +kernel), bw_t (i := 355) (by decide +kernel), by decide, sh_Co_putIn⟩
theorem ss_La_107 : bj_ss bw_TB "BeatPathOfficeLaw" 107 Y_La_correct 5 := ⟨bw_t (i := 357) (by decide +kernel), bw_t (i := 358) (by decide +kernel), bw_t (i := 0) (by decide +kernel), by decide, sh_La_correct⟩
theorem sv_La_34 : bj_sv bw_TB "BeatPathOfficeLaw" 34 Y_Of_correct 3 := ⟨bw_t (i := 360) (by decide +kernel), bw_t (i := 361) (by decide +kernel), bw_t (i := 362) (by decide +kernel), by decide, sh_Of_correct⟩
theorem sv_Of_132 : bj_sv bw_TB "BeatPathOffice" 132 Y_Co_add 2 := ⟨bw_t (i := 366) (by decide +kernel), bw_t (i := 346) (by decide +kernel), bw_t (i := 347) (by decide +kernel), by decide, sh_Co_add⟩
theorem ss_La_110 : bj_ss bw_TB "BeatPathOfficeLaw" 110 Y_La_state 3 := ⟨bw_t (i := 367) (by decide +kernel), bw_t (i := 368) (by decide +kernel), bw_t (i := 0) (by decide +kernel), by decide, sh_La_state⟩
theorem sv_La_37 : bj_sv bw_TB "BeatPathOfficeLaw" 37 Y_Of_state 1 := ⟨bw_t (i := 370) (by decide +kernel), bw_t (i := 371) (by decide +kernel), bw_t (i := 372) (by decide +kernel), by decide, sh_Of_state⟩
theorem ss_La_117 : bj_ss bw_TB "BeatPathOfficeLaw" 117 Y_La_prefer 4 := ⟨bw_t (i := 374) (by decide +kernel), bw_t (i := 375) (by decide +kernel), bw_t (i := 0) (by decide +kernel), by decide, sh_La_prefer⟩
theorem sv_La_40 : bj_sv bw_TB "BeatPathOfficeLaw" 40 Y_Of_prefer 2 := ⟨bw_t (i := 377) (by decide +kernel), bw_t (i := 378) (by decide +kernel), bw_t (i := 379) (by decide +kernel), by decide, sh_Of_prefer⟩
theorem sv_Of_138 : bj_sv bw_TB "BeatPathOffice" 138 Y_Of_needPair 2 := ⟨bw_t (i := 381) (by decide +kernel), bw_t (i := 383) (by decide +kernel), bw_p (i := 8) (by decide +kernel), by decide, sh_Of_needPair⟩
theorem ss_La_121 : bj_ss bw_TB "BeatPathOfficeLaw" 121 Y_La_strength 4 := ⟨bw_t (i := 386) (by decide +kernel), bw_t (i := 387) (by decide +kernel), bw_t (i := 0) (by decide +kernel), by decide, sh_La_strength⟩
theorem sv_La_44 : bj_sv bw_TB "BeatPathOfficeLaw" 44 Y_Of_strength 2 := ⟨bw_t (i := 389) (by decide +kernel), bw_t (i := 390) (by decide +kernel), bw_t (i := 391) (by decide +kernel), by decide, sh_Of_strength⟩
theorem sv_Of_145 : bj_sv bw_TB "BeatPathOffice" 145 Y_Pa_weigh 1 := ⟨bw_t (i := 393) (by decide +kernel), bw_t (i := 394) (by decide +kernel), bw_t (i := 395) (by decide +kernel), by decide, sh_Pa_weigh⟩
theorem sv_Pa_24 : bj_sv bw_TB "BeatPathOffice$BeatPaths" 24 Y_Co_direct 2 := ⟨bw_t (i := 397) (by decide +kernel), bw_t (i := 398) (by decide +kernel), bw_t (i := 399) (by decide +kernel), by decide, sh_Co_direct⟩
theorem sv_Pa_30 : bj_sv bw_TB "BeatPathOffice$BeatPaths" 30 Y_Pa_widen 2 := ⟨bw_t (i := 401) (by decide +kernel), bw_t (i := 403) (by decide +kernel), bw_p (i := 9) (by decide +kernel), by decide, sh_Pa_widen⟩
theorem ss_La_124 : bj_ss bw_TB "BeatPathOfficeLaw" 124 Y_La_way 4 := ⟨bw_t (i := 411) (by decide +kernel), bw_t (i := 412) (by decide +kernel), bw_t (i := 0) (by decide +kernel), by decide, sh_La_way⟩
theorem sv_La_47 : bj_sv bw_TB "BeatPathOfficeLaw" 47 Y_Of_way 2 := ⟨bw_t (i := 414) (by decide +kernel), bw_t (i := 415) (by decide +kernel), bw_t (i := 416) (by decide +kernel), by decide, sh_Of_way⟩
theorem sv_Of_152 : bj_sv bw_TB "BeatPathOffice" 152 Y_Pa_strongestWay 3 := ⟨bw_t (i := 418) (by decide +kernel), bw_t (i := 419) (by decide +kernel), bw_t (i := 420) (by decide +kernel), by decide, sh_Pa_strongestWay⟩
theorem sv_Pa_46 : bj_sv bw_TB "BeatPathOffice$BeatPaths" 46 Y_Pa_countSteps 3 := ⟨bw_t (i := 422) (by decide +kernel), bw_t (i := 424) (by decide +kernel), bw_p (i := 10) (by decide +kernel), by decide, sh_Pa_countSteps⟩
theorem ss_Pa_54 : bj_ss bw_TB "BeatPathOffice$BeatPaths" 54 Y_Ar_fill 2 := ⟨bw_t (i := 426) (by decide +kernel), bw_t (i := 427) (by decide +kernel), bw_t (i := 14) (by decide +kernel), by decide, sh_Ar_fill⟩
theorem sv_Pa_60 : bj_sv bw_TB "BeatPathOffice$BeatPaths" 60 Y_Pa_nextAt 4 := ⟨bw_t (i := 429) (by decide +kernel), bw_t (i := 431) (by decide +kernel), bw_p (i := 11) (by decide +kernel), by decide, sh_Pa_nextAt⟩
theorem sv_Pa_50 : bj_sv bw_TB "BeatPathOffice$BeatPaths" 50 Y_Pa_nextTowards 3 := ⟨bw_t (i := 433) (by decide +kernel), bw_t (i := 435) (by decide +kernel), bw_p (i := 12) (by decide +kernel), by decide, sh_Pa_nextTowards⟩
theorem ss_La_127 : bj_ss bw_TB "BeatPathOfficeLaw" 127 Y_La_cut 4 := ⟨bw_t (i := 437) (by decide +kernel), bw_t (i := 438) (by decide +kernel), bw_t (i := 0) (by decide +kernel), by decide, sh_La_cut⟩
theorem sv_La_50 : bj_sv bw_TB "BeatPathOfficeLaw" 50 Y_Of_cut 2 := ⟨bw_t (i := 440) (by decide +kernel), bw_t (i := 441) (by decide +kernel), bw_t (i := 442) (by decide +kernel), by decide, sh_Of_cut⟩
theorem sv_Of_156 : bj_sv bw_TB "BeatPathOffice" 156 Y_Pa_reachedAbove 2 := ⟨bw_t (i := 444) (by decide +kernel), bw_t (i := 445) (by decide +kernel), bw_t (i := 446) (by decide +kernel), by decide, sh_Pa_reachedAbove⟩
theorem ss_La_130 : bj_ss bw_TB "BeatPathOfficeLaw" 130 Y_La_proves 7 := ⟨bw_t (i := 448) (by decide +kernel), bw_t (i := 449) (by decide +kernel), bw_t (i := 0) (by decide +kernel), by decide, sh_La_proves⟩
theorem sv_La_53 : bj_sv bw_TB "BeatPathOfficeLaw" 53 Y_Of_proves 5 := ⟨bw_t (i := 451) (by decide +kernel), bw_t (i := 452) (by decide +kernel), bw_t (i := 453) (by decide +kernel), by decide, sh_Of_proves⟩
theorem sv_Of_159 : bj_sv bw_TB "BeatPathOffice" 159 Y_Co_isWay 4 := ⟨bw_t (i := 455) (by decide +kernel), bw_t (i := 456) (by decide +kernel), bw_t (i := 457) (by decide +kernel), by decide, sh_Co_isWay⟩
theorem sv_Co_53 : bj_sv bw_TB "BeatPathOffice$Count" 53 Y_Co_direct 2 := ⟨bw_t (i := 459) (by decide +kernel), bw_t (i := 398) (by decide +kernel), bw_t (i := 399) (by decide +kernel), by decide, sh_Co_direct⟩
theorem ss_Of_163 : bj_ss bw_TB "BeatPathOffice" 163 Y_Of_has 2 := ⟨bw_t (i := 460) (by decide +kernel), bw_t (i := 461) (by decide +kernel), bw_t (i := 1) (by decide +kernel), by decide, sh_Of_has⟩
theorem sv_Of_167 : bj_sv bw_TB "BeatPathOffice" 167 Y_Co_isHeldIn 2 := ⟨bw_t (i := 463) (by decide +kernel), bw_t (i := 464) (by decide +kernel), bw_t (i := 465) (by decide +kernel), by decide, sh_Co_isHeldIn⟩
theorem sn_Co_56 : bj_sn bw_TB "BeatPathOffice$Count" "BeatPathOffice" 56 Y_Of_has 2 := ⟨bw_t (i := 467) (by decide +kernel), bw_t (i := 461) (by decide +kernel), bw_t (i := 1) (by decide +kernel), by decide, sh_Of_has⟩
theorem ss_La_134 : bj_ss bw_TB "BeatPathOfficeLaw" 134 Y_La_winner 3 := ⟨bw_t (i := 468) (by decide +kernel), bw_t (i := 469) (by decide +kernel), bw_t (i := 0) (by decide +kernel), by decide, sh_La_winner⟩
theorem sv_La_57 : bj_sv bw_TB "BeatPathOfficeLaw" 57 Y_Of_winner 1 := ⟨bw_t (i := 471) (by decide +kernel), bw_t (i := 472) (by decide +kernel), bw_t (i := 473) (by decide +kernel), by decide, sh_Of_winner⟩
theorem sv_Of_170 : bj_sv bw_TB "BeatPathOffice" 170 Y_Of_winnerSet 1 := ⟨bw_t (i := 475) (by decide +kernel), bw_t (i := 477) (by decide +kernel), bw_p (i := 13) (by decide +kernel), by decide, sh_Of_winnerSet⟩
theorem sv_Of_218 : bj_sv bw_TB "BeatPathOffice" 218 Y_Pa_unbeaten 0 := ⟨bw_t (i := 479) (by decide +kernel), bw_t (i := 480) (by decide +kernel), bw_t (i := 481) (by decide +kernel), by decide, sh_Pa_unbeaten⟩
theorem sv_Pa_42 : bj_sv bw_TB "BeatPathOffice$BeatPaths" 42 Y_Pa_isUnbeaten 1 := ⟨bw_t (i := 483) (by decide +kernel), bw_t (i := 485) (by decide +kernel), bw_p (i := 14) (by decide +kernel), by decide, sh_Pa_isUnbeaten⟩
theorem ss_Of_174 : bj_ss bw_TB "BeatPathOffice" 174 Y_Of_member 2 := ⟨bw_t (i := 487) (by decide +kernel), bw_t (i := 488) (by decide +kernel), bw_t (i := 1) (by decide +kernel), by decide, sh_Of_member⟩
theorem ss_Of_177 : bj_ss bw_TB "BeatPathOffice" 177 Y_Of_needFound 1 := ⟨bw_t (i := 490) (by decide +kernel), bw_t (i := 491) (by decide +kernel), bw_t (i := 1) (by decide +kernel), by decide, sh_Of_needFound⟩
theorem ss_La_137 : bj_ss bw_TB "BeatPathOfficeLaw" 137 Y_La_locked 4 := ⟨bw_t (i := 494) (by decide +kernel), bw_t (i := 495) (by decide +kernel), bw_t (i := 0) (by decide +kernel), by decide, sh_La_locked⟩
theorem sv_La_60 : bj_sv bw_TB "BeatPathOfficeLaw" 60 Y_Of_locked 2 := ⟨bw_t (i := 497) (by decide +kernel), bw_t (i := 498) (by decide +kernel), bw_t (i := 499) (by decide +kernel), by decide, sh_Of_locked⟩
theorem sv_Of_180 : bj_sv bw_TB "BeatPathOffice" 180 Y_Lo_lockPairs 2 := ⟨bw_t (i := 501) (by decide +kernel), bw_t (i := 502) (by decide +kernel), bw_t (i := 503) (by decide +kernel), by decide, sh_Lo_lockPairs⟩
theorem ss_Lo_31 : bj_ss bw_TB "BeatPathOffice$Locks" 31 Y_Ar_fill 2 := ⟨bw_t (i := 505) (by decide +kernel), bw_t (i := 427) (by decide +kernel), bw_t (i := 14) (by decide +kernel), by decide, sh_Ar_fill⟩
theorem sv_Lo_37 : bj_sv bw_TB "BeatPathOffice$Locks" 37 Y_Lo_sortPairs 2 := ⟨bw_t (i := 506) (by decide +kernel), bw_t (i := 508) (by decide +kernel), bw_p (i := 15) (by decide +kernel), by decide, sh_Lo_sortPairs⟩
theorem sv_Lo_49 : bj_sv bw_TB "BeatPathOffice$Locks" 49 Y_Co_direct 2 := ⟨bw_t (i := 510) (by decide +kernel), bw_t (i := 398) (by decide +kernel), bw_t (i := 399) (by decide +kernel), by decide, sh_Co_direct⟩
theorem sv_Lo_55 : bj_sv bw_TB "BeatPathOffice$Locks" 55 Y_Lo_insert 3 := ⟨bw_t (i := 511) (by decide +kernel), bw_t (i := 513) (by decide +kernel), bw_p (i := 16) (by decide +kernel), by decide, sh_Lo_insert⟩
theorem sv_Lo_59 : bj_sv bw_TB "BeatPathOffice$Locks" 59 Y_Lo_overtakes 4 := ⟨bw_t (i := 515) (by decide +kernel), bw_t (i := 517) (by decide +kernel), bw_p (i := 17) (by decide +kernel), by decide, sh_Lo_overtakes⟩
theorem sn_Lo_41 : bj_sn bw_TB "BeatPathOffice$Locks" "BeatPathOffice" 41 Y_Of_has 2 := ⟨bw_t (i := 519) (by decide +kernel), bw_t (i := 461) (by decide +kernel), bw_t (i := 1) (by decide +kernel), by decide, sh_Of_has⟩
theorem sv_Lo_45 : bj_sv bw_TB "BeatPathOffice$Locks" 45 Y_Lo_lock 2 := ⟨bw_t (i := 520) (by decide +kernel), bw_t (i := 522) (by decide +kernel), bw_p (i := 18) (by decide +kernel), by decide, sh_Lo_lock⟩
theorem ss_La_140 : bj_ss bw_TB "BeatPathOfficeLaw" 140 Y_La_order 3 := ⟨bw_t (i := 524) (by decide +kernel), bw_t (i := 525) (by decide +kernel), bw_t (i := 0) (by decide +kernel), by decide, sh_La_order⟩
theorem sv_La_64 : bj_sv bw_TB "BeatPathOfficeLaw" 64 Y_Of_order 1 := ⟨bw_t (i := 527) (by decide +kernel), bw_t (i := 528) (by decide +kernel), bw_t (i := 529) (by decide +kernel), by decide, sh_Of_order⟩
theorem sv_Of_187 : bj_sv bw_TB "BeatPathOffice" 187 Y_Of_inOrder 2 := ⟨bw_t (i := 531) (by decide +kernel), bw_t (i := 533) (by decide +kernel), bw_p (i := 19) (by decide +kernel), by decide, sh_Of_inOrder⟩
theorem sv_Of_221 : bj_sv bw_TB "BeatPathOffice" 221 Y_Lo_lineUp 2 := ⟨bw_t (i := 535) (by decide +kernel), bw_t (i := 536) (by decide +kernel), bw_t (i := 537) (by decide +kernel), by decide, sh_Lo_lineUp⟩
theorem sv_Lo_67 : bj_sv bw_TB "BeatPathOffice$Locks" 67 Y_Lo_firstFree 2 := ⟨bw_t (i := 539) (by decide +kernel), bw_t (i := 541) (by decide +kernel), bw_p (i := 20) (by decide +kernel), by decide, sh_Lo_firstFree⟩
theorem ss_La_143 : bj_ss bw_TB "BeatPathOfficeLaw" 143 Y_La_top 3 := ⟨bw_t (i := 543) (by decide +kernel), bw_t (i := 544) (by decide +kernel), bw_t (i := 0) (by decide +kernel), by decide, sh_La_top⟩
theorem sv_La_67 : bj_sv bw_TB "BeatPathOfficeLaw" 67 Y_Of_top 1 := ⟨bw_t (i := 546) (by decide +kernel), bw_t (i := 547) (by decide +kernel), bw_t (i := 548) (by decide +kernel), by decide, sh_Of_top⟩
theorem sv_Of_191 : bj_sv bw_TB "BeatPathOffice" 191 Y_Co_topSet 0 := ⟨bw_t (i := 550) (by decide +kernel), bw_t (i := 551) (by decide +kernel), bw_t (i := 552) (by decide +kernel), by decide, sh_Co_topSet⟩
theorem sv_Co_60 : bj_sv bw_TB "BeatPathOffice$Count" 60 Y_Co_beatingSetAround 1 := ⟨bw_t (i := 554) (by decide +kernel), bw_t (i := 556) (by decide +kernel), bw_p (i := 21) (by decide +kernel), by decide, sh_Co_beatingSetAround⟩
theorem sv_Co_69 : bj_sv bw_TB "BeatPathOffice$Count" 69 Y_Co_notBeatenBy 1 := ⟨bw_t (i := 558) (by decide +kernel), bw_t (i := 560) (by decide +kernel), bw_p (i := 22) (by decide +kernel), by decide, sh_Co_notBeatenBy⟩
theorem ss_Co_64 : bj_ss bw_TB "BeatPathOffice$Count" 64 Y_In_bitCount 1 := ⟨bw_t (i := 562) (by decide +kernel), bw_t (i := 563) (by decide +kernel), bw_t (i := 15) (by decide +kernel), by decide, sh_In_bitCount⟩
theorem ss_La_146 : bj_ss bw_TB "BeatPathOfficeLaw" 146 Y_La_without 5 := ⟨bw_t (i := 568) (by decide +kernel), bw_t (i := 569) (by decide +kernel), bw_t (i := 0) (by decide +kernel), by decide, sh_La_without⟩
theorem sv_La_70 : bj_sv bw_TB "BeatPathOfficeLaw" 70 Y_Of_without 3 := ⟨bw_t (i := 571) (by decide +kernel), bw_t (i := 572) (by decide +kernel), bw_t (i := 573) (by decide +kernel), by decide, sh_Of_without⟩
theorem sv_Of_197 : bj_sv bw_TB "BeatPathOffice" 197 Y_Co_copy 1 := ⟨bw_t (i := 576) (by decide +kernel), bw_t (i := 577) (by decide +kernel), bw_t (i := 578) (by decide +kernel), by decide, sh_Co_copy⟩
theorem si_La_84 : bj_si bw_TB "BeatPathOfficeLaw" 84 Y_Mo_init 1 := ⟨bw_t (i := 585) (by decide +kernel), bw_t (i := 586) (by decide +kernel), bw_t (i := 587) (by decide +kernel), rfl, rfl, rfl, by decide, sh_Mo_init⟩
theorem sv_La_89 : bj_sv bw_TB "BeatPathOfficeLaw" 89 Y_Mo_thrown 0 := ⟨bw_t (i := 642) (by decide +kernel), bw_t (i := 643) (by decide +kernel), bw_t (i := 644) (by decide +kernel), by decide, sh_Mo_thrown⟩
theorem sv_La_88 : bj_sv bw_TB "BeatPathOfficeLaw" 88 Y_Mo_tie 2 := ⟨bw_t (i := 646) (by decide +kernel), bw_t (i := 647) (by decide +kernel), bw_t (i := 648) (by decide +kernel), by decide, sh_Mo_tie⟩
theorem sv_Mo_57 : bj_sv bw_TB "BeatPathOfficeModel" 57 Y_Mo_isCandidate 1 := ⟨bw_t (i := 650) (by decide +kernel), bw_t (i := 652) (by decide +kernel), bw_p (i := 23) (by decide +kernel), by decide, sh_Mo_isCandidate⟩
theorem sv_Mo_65 : bj_sv bw_TB "BeatPathOfficeModel" 65 Y_Mo_placeOf 1 := ⟨bw_t (i := 654) (by decide +kernel), bw_t (i := 656) (by decide +kernel), bw_p (i := 24) (by decide +kernel), by decide, sh_Mo_placeOf⟩
theorem sv_La_95 : bj_sv bw_TB "BeatPathOfficeLaw" 95 Y_Mo_drawn 1 := ⟨bw_t (i := 658) (by decide +kernel), bw_t (i := 659) (by decide +kernel), bw_t (i := 660) (by decide +kernel), by decide, sh_Mo_drawn⟩
theorem sv_La_99 : bj_sv bw_TB "BeatPathOfficeLaw" 99 Y_Mo_open 0 := ⟨bw_t (i := 662) (by decide +kernel), bw_t (i := 663) (by decide +kernel), bw_t (i := 664) (by decide +kernel), by decide, sh_Mo_open⟩
theorem sv_La_103 : bj_sv bw_TB "BeatPathOfficeLaw" 103 Y_Mo_ballot 3 := ⟨bw_t (i := 666) (by decide +kernel), bw_t (i := 667) (by decide +kernel), bw_t (i := 668) (by decide +kernel), by decide, sh_Mo_ballot⟩
theorem sv_Mo_73 : bj_sv bw_TB "BeatPathOfficeModel" 73 Y_Mo_isBatch 1 := ⟨bw_t (i := 670) (by decide +kernel), bw_t (i := 672) (by decide +kernel), bw_p (i := 25) (by decide +kernel), by decide, sh_Mo_isBatch⟩
theorem sv_Mo_76 : bj_sv bw_TB "BeatPathOfficeModel" 76 Y_Mo_isRanking 1 := ⟨bw_t (i := 674) (by decide +kernel), bw_t (i := 676) (by decide +kernel), bw_p (i := 26) (by decide +kernel), by decide, sh_Mo_isRanking⟩
theorem ss_Mo_69 : bj_ss bw_TB "BeatPathOfficeModel" 69 Y_Mo_place 2 := ⟨bw_t (i := 678) (by decide +kernel), bw_t (i := 679) (by decide +kernel), bw_t (i := 6) (by decide +kernel), by decide, sh_Mo_place⟩
theorem sv_La_106 : bj_sv bw_TB "BeatPathOfficeLaw" 106 Y_Mo_turn 2 := ⟨bw_t (i := 681) (by decide +kernel), bw_t (i := 682) (by decide +kernel), bw_t (i := 683) (by decide +kernel), by decide, sh_Mo_turn⟩
theorem sv_La_109 : bj_sv bw_TB "BeatPathOfficeLaw" 109 Y_Mo_correct 3 := ⟨bw_t (i := 685) (by decide +kernel), bw_t (i := 686) (by decide +kernel), bw_t (i := 687) (by decide +kernel), by decide, sh_Mo_correct⟩
theorem sv_La_112 : bj_sv bw_TB "BeatPathOfficeLaw" 112 Y_Mo_state 1 := ⟨bw_t (i := 689) (by decide +kernel), bw_t (i := 690) (by decide +kernel), bw_t (i := 691) (by decide +kernel), by decide, sh_Mo_state⟩
theorem sv_La_116 : bj_sv bw_TB "BeatPathOfficeLaw" 116 Y_Mo_voters 0 := ⟨bw_t (i := 693) (by decide +kernel), bw_t (i := 694) (by decide +kernel), bw_t (i := 695) (by decide +kernel), by decide, sh_Mo_voters⟩
theorem sv_La_120 : bj_sv bw_TB "BeatPathOfficeLaw" 120 Y_Mo_prefer 2 := ⟨bw_t (i := 697) (by decide +kernel), bw_t (i := 698) (by decide +kernel), bw_t (i := 699) (by decide +kernel), by decide, sh_Mo_prefer⟩
theorem sv_Mo_93 : bj_sv bw_TB "BeatPathOfficeModel" 93 Y_Mo_lacks 2 := ⟨bw_t (i := 701) (by decide +kernel), bw_t (i := 703) (by decide +kernel), bw_p (i := 27) (by decide +kernel), by decide, sh_Mo_lacks⟩
theorem sv_Mo_86 : bj_sv bw_TB "BeatPathOfficeModel" 86 Y_Mo_count 1 := ⟨bw_t (i := 705) (by decide +kernel), bw_t (i := 707) (by decide +kernel), bw_p (i := 28) (by decide +kernel), by decide, sh_Mo_count⟩
theorem sv_Mo_79 : bj_sv bw_TB "BeatPathOfficeModel" 79 Y_Mo_add 2 := ⟨bw_t (i := 709) (by decide +kernel), bw_t (i := 711) (by decide +kernel), bw_p (i := 29) (by decide +kernel), by decide, sh_Mo_add⟩
theorem sv_Mo_90 : bj_sv bw_TB "BeatPathOfficeModel" 90 Y_Mo_strengthen 0 := ⟨bw_t (i := 713) (by decide +kernel), bw_t (i := 715) (by decide +kernel), bw_p (i := 30) (by decide +kernel), by decide, sh_Mo_strengthen⟩
theorem ss_Mo_83 : bj_ss bw_TB "BeatPathOfficeModel" 83 Y_Mo_lesser 2 := ⟨bw_t (i := 717) (by decide +kernel), bw_t (i := 718) (by decide +kernel), bw_t (i := 6) (by decide +kernel), by decide, sh_Mo_lesser⟩
theorem sv_La_123 : bj_sv bw_TB "BeatPathOfficeLaw" 123 Y_Mo_strength 2 := ⟨bw_t (i := 720) (by decide +kernel), bw_t (i := 721) (by decide +kernel), bw_t (i := 722) (by decide +kernel), by decide, sh_Mo_strength⟩
theorem sv_La_126 : bj_sv bw_TB "BeatPathOfficeLaw" 126 Y_Mo_way 2 := ⟨bw_t (i := 724) (by decide +kernel), bw_t (i := 725) (by decide +kernel), bw_t (i := 726) (by decide +kernel), by decide, sh_Mo_way⟩
theorem sv_La_129 : bj_sv bw_TB "BeatPathOfficeLaw" 129 Y_Mo_cut 2 := ⟨bw_t (i := 728) (by decide +kernel), bw_t (i := 729) (by decide +kernel), bw_t (i := 730) (by decide +kernel), by decide, sh_Mo_cut⟩
theorem sv_La_133 : bj_sv bw_TB "BeatPathOfficeLaw" 133 Y_Mo_proves 5 := ⟨bw_t (i := 732) (by decide +kernel), bw_t (i := 733) (by decide +kernel), bw_t (i := 734) (by decide +kernel), by decide, sh_Mo_proves⟩
theorem sv_Mo_97 : bj_sv bw_TB "BeatPathOfficeModel" 97 Y_Mo_isWay 4 := ⟨bw_t (i := 736) (by decide +kernel), bw_t (i := 738) (by decide +kernel), bw_p (i := 31) (by decide +kernel), by decide, sh_Mo_isWay⟩
theorem sv_La_136 : bj_sv bw_TB "BeatPathOfficeLaw" 136 Y_Mo_winner 1 := ⟨bw_t (i := 740) (by decide +kernel), bw_t (i := 741) (by decide +kernel), bw_t (i := 742) (by decide +kernel), by decide, sh_Mo_winner⟩
theorem sv_Mo_125 : bj_sv bw_TB "BeatPathOfficeModel" 125 Y_Mo_tell 4 := ⟨bw_t (i := 744) (by decide +kernel), bw_t (i := 746) (by decide +kernel), bw_p (i := 32) (by decide +kernel), by decide, sh_Mo_tell⟩
theorem sv_Mo_116 : bj_sv bw_TB "BeatPathOfficeModel" 116 Y_Mo_winners 0 := ⟨bw_t (i := 748) (by decide +kernel), bw_t (i := 750) (by decide +kernel), bw_p (i := 33) (by decide +kernel), by decide, sh_Mo_winners⟩
theorem sv_Mo_119 : bj_sv bw_TB "BeatPathOfficeModel" 119 Y_Mo_orderAll 0 := ⟨bw_t (i := 752) (by decide +kernel), bw_t (i := 754) (by decide +kernel), bw_p (i := 34) (by decide +kernel), by decide, sh_Mo_orderAll⟩
theorem sv_Mo_110 : bj_sv bw_TB "BeatPathOfficeModel" 110 Y_Mo_lockAll 0 := ⟨bw_t (i := 756) (by decide +kernel), bw_t (i := 758) (by decide +kernel), bw_p (i := 35) (by decide +kernel), by decide, sh_Mo_lockAll⟩
theorem sv_Mo_104 : bj_sv bw_TB "BeatPathOfficeModel" 104 Y_Mo_isBefore 2 := ⟨bw_t (i := 760) (by decide +kernel), bw_t (i := 762) (by decide +kernel), bw_p (i := 36) (by decide +kernel), by decide, sh_Mo_isBefore⟩
theorem sv_Mo_107 : bj_sv bw_TB "BeatPathOfficeModel" 107 Y_Mo_lock 1 := ⟨bw_t (i := 764) (by decide +kernel), bw_t (i := 766) (by decide +kernel), bw_p (i := 37) (by decide +kernel), by decide, sh_Mo_lock⟩
theorem sv_Mo_122 : bj_sv bw_TB "BeatPathOfficeModel" 122 Y_Mo_topAll 0 := ⟨bw_t (i := 768) (by decide +kernel), bw_t (i := 770) (by decide +kernel), bw_p (i := 38) (by decide +kernel), by decide, sh_Mo_topAll⟩
theorem ss_Mo_113 : bj_ss bw_TB "BeatPathOfficeModel" 113 Y_Mo_sizeOf 1 := ⟨bw_t (i := 772) (by decide +kernel), bw_t (i := 773) (by decide +kernel), bw_t (i := 6) (by decide +kernel), by decide, sh_Mo_sizeOf⟩
theorem sv_La_139 : bj_sv bw_TB "BeatPathOfficeLaw" 139 Y_Mo_locked 2 := ⟨bw_t (i := 775) (by decide +kernel), bw_t (i := 776) (by decide +kernel), bw_t (i := 777) (by decide +kernel), by decide, sh_Mo_locked⟩
theorem sv_La_142 : bj_sv bw_TB "BeatPathOfficeLaw" 142 Y_Mo_order 1 := ⟨bw_t (i := 779) (by decide +kernel), bw_t (i := 780) (by decide +kernel), bw_t (i := 781) (by decide +kernel), by decide, sh_Mo_order⟩
theorem sv_La_145 : bj_sv bw_TB "BeatPathOfficeLaw" 145 Y_Mo_top 1 := ⟨bw_t (i := 783) (by decide +kernel), bw_t (i := 784) (by decide +kernel), bw_t (i := 785) (by decide +kernel), by decide, sh_Mo_top⟩
theorem sv_La_148 : bj_sv bw_TB "BeatPathOfficeLaw" 148 Y_Mo_without 3 := ⟨bw_t (i := 787) (by decide +kernel), bw_t (i := 788) (by decide +kernel), bw_t (i := 789) (by decide +kernel), by decide, sh_Mo_without⟩
theorem sv_La_153 : bj_sv bw_TB "BeatPathOfficeLaw" 153 Y_Mo_seal 0 := ⟨bw_t (i := 791) (by decide +kernel), bw_t (i := 792) (by decide +kernel), bw_t (i := 793) (by decide +kernel), by decide, sh_Mo_seal⟩
end
section
/-! decode rows, written by gen/dec.py -/
theorem d_Ba_init_0 : decode Y_Ba_init.2.2.1 0 = .ok (.aload_n 0, 1) := by decide +kernel
theorem d_Ba_init_1 : decode Y_Ba_init.2.2.1 1 = .ok (.invokespecial 3, 3) := by decide +kernel
theorem d_Ba_init_4 : decode Y_Ba_init.2.2.1 4 = .ok (.aload_n 0, 1) := by decide +kernel
theorem d_Ba_init_5 : decode Y_Ba_init.2.2.1 5 = .ok (.iconst 0, 1) := by decide +kernel
theorem d_Ba_init_6 : decode Y_Ba_init.2.2.1 6 = .ok (.putfield 9, 3) := by decide +kernel
theorem d_Ba_init_9 : decode Y_Ba_init.2.2.1 9 = .ok (.aload_n 0, 1) := by decide +kernel
theorem d_Ba_init_10 : decode Y_Ba_init.2.2.1 10 = .ok (.iconst 0, 1) := by decide +kernel
theorem d_Ba_init_11 : decode Y_Ba_init.2.2.1 11 = .ok (.putfield 15, 3) := by decide +kernel
theorem d_Ba_init_14 : decode Y_Ba_init.2.2.1 14 = .ok (.aload_n 0, 1) := by decide +kernel
theorem d_Ba_init_15 : decode Y_Ba_init.2.2.1 15 = .ok (.bipush 6, 2) := by decide +kernel
theorem d_Ba_init_17 : decode Y_Ba_init.2.2.1 17 = .ok (.newarray .int, 2) := by decide +kernel
theorem d_Ba_init_19 : decode Y_Ba_init.2.2.1 19 = .ok (.putfield 18, 3) := by decide +kernel
theorem d_Ba_init_22 : decode Y_Ba_init.2.2.1 22 = .ok (.aload_n 0, 1) := by decide +kernel
theorem d_Ba_init_23 : decode Y_Ba_init.2.2.1 23 = .ok (.bipush 6, 2) := by decide +kernel
theorem d_Ba_init_25 : decode Y_Ba_init.2.2.1 25 = .ok (.newarray .int, 2) := by decide +kernel
theorem d_Ba_init_27 : decode Y_Ba_init.2.2.1 27 = .ok (.putfield 22, 3) := by decide +kernel
theorem d_Ba_init_30 : decode Y_Ba_init.2.2.1 30 = .ok (.return_, 1) := by decide +kernel
theorem d_Ba_put_0 : decode Y_Ba_put.2.2.1 0 = .ok (.aload_n 0, 1) := by decide +kernel
theorem d_Ba_put_1 : decode Y_Ba_put.2.2.1 1 = .ok (.getfield 18, 3) := by decide +kernel
theorem d_Ba_put_4 : decode Y_Ba_put.2.2.1 4 = .ok (.aload_n 0, 1) := by decide +kernel
theorem d_Ba_put_5 : decode Y_Ba_put.2.2.1 5 = .ok (.getfield 15, 3) := by decide +kernel
theorem d_Ba_put_8 : decode Y_Ba_put.2.2.1 8 = .ok (.iload_n 1, 1) := by decide +kernel
theorem d_Ba_put_9 : decode Y_Ba_put.2.2.1 9 = .ok (.iastore, 1) := by decide +kernel
theorem d_Ba_put_10 : decode Y_Ba_put.2.2.1 10 = .ok (.aload_n 0, 1) := by decide +kernel
theorem d_Ba_put_11 : decode Y_Ba_put.2.2.1 11 = .ok (.getfield 22, 3) := by decide +kernel
theorem d_Ba_put_14 : decode Y_Ba_put.2.2.1 14 = .ok (.aload_n 0, 1) := by decide +kernel
theorem d_Ba_put_15 : decode Y_Ba_put.2.2.1 15 = .ok (.getfield 15, 3) := by decide +kernel
theorem d_Ba_put_18 : decode Y_Ba_put.2.2.1 18 = .ok (.iload_n 2, 1) := by decide +kernel
theorem d_Ba_put_19 : decode Y_Ba_put.2.2.1 19 = .ok (.iastore, 1) := by decide +kernel
theorem d_Ba_put_20 : decode Y_Ba_put.2.2.1 20 = .ok (.aload_n 0, 1) := by decide +kernel
theorem d_Ba_put_21 : decode Y_Ba_put.2.2.1 21 = .ok (.dup, 1) := by decide +kernel
theorem d_Ba_put_22 : decode Y_Ba_put.2.2.1 22 = .ok (.getfield 15, 3) := by decide +kernel
theorem d_Ba_put_25 : decode Y_Ba_put.2.2.1 25 = .ok (.iconst 1, 1) := by decide +kernel
theorem d_Ba_put_26 : decode Y_Ba_put.2.2.1 26 = .ok (.iadd, 1) := by decide +kernel
theorem d_Ba_put_27 : decode Y_Ba_put.2.2.1 27 = .ok (.putfield 15, 3) := by decide +kernel
theorem d_Ba_put_30 : decode Y_Ba_put.2.2.1 30 = .ok (.aload_n 0, 1) := by decide +kernel
theorem d_Ba_put_31 : decode Y_Ba_put.2.2.1 31 = .ok (.getfield 15, 3) := by decide +kernel
theorem d_Ba_put_34 : decode Y_Ba_put.2.2.1 34 = .ok (.iconst 1, 1) := by decide +kernel
theorem d_Ba_put_35 : decode Y_Ba_put.2.2.1 35 = .ok (.isub, 1) := by decide +kernel
theorem d_Ba_put_36 : decode Y_Ba_put.2.2.1 36 = .ok (.ireturn, 1) := by decide +kernel
end
section
/-! decode rows, written by gen/dec.py -/
theorem d_Co_init_0 : decode Y_Co_init.2.2.1 0 = .ok (.aload_n 0, 1) := by decide +kernel
theorem d_Co_init_1 : decode Y_Co_init.2.2.1 1 = .ok (.invokespecial 3, 3) := by decide +kernel
theorem d_Co_init_4 : decode Y_Co_init.2.2.1 4 = .ok (.aload_n 0, 1) := by decide +kernel
theorem d_Co_init_5 : decode Y_Co_init.2.2.1 5 = .ok (.iload_n 1, 1) := by decide +kernel
theorem d_Co_init_6 : decode Y_Co_init.2.2.1 6 = .ok (.putfield 9, 3) := by decide +kernel
theorem d_Co_init_9 : decode Y_Co_init.2.2.1 9 = .ok (.aload_n 0, 1) := by decide +kernel
theorem d_Co_init_10 : decode Y_Co_init.2.2.1 10 = .ok (.iconst 0, 1) := by decide +kernel
theorem d_Co_init_11 : decode Y_Co_init.2.2.1 11 = .ok (.putfield 15, 3) := by decide +kernel
theorem d_Co_init_14 : decode Y_Co_init.2.2.1 14 = .ok (.aload_n 0, 1) := by decide +kernel
theorem d_Co_init_15 : decode Y_Co_init.2.2.1 15 = .ok (.iload_n 1, 1) := by decide +kernel
theorem d_Co_init_16 : decode Y_Co_init.2.2.1 16 = .ok (.iload_n 1, 1) := by decide +kernel
theorem d_Co_init_17 : decode Y_Co_init.2.2.1 17 = .ok (.multianewarray 18 2, 4) := by decide +kernel
theorem d_Co_init_21 : decode Y_Co_init.2.2.1 21 = .ok (.putfield 20, 3) := by decide +kernel
theorem d_Co_init_24 : decode Y_Co_init.2.2.1 24 = .ok (.return_, 1) := by decide +kernel
theorem d_Co_copy_0 : decode Y_Co_copy.2.2.1 0 = .ok (.aload_n 0, 1) := by decide +kernel
theorem d_Co_copy_1 : decode Y_Co_copy.2.2.1 1 = .ok (.aload_n 1, 1) := by decide +kernel
theorem d_Co_copy_2 : decode Y_Co_copy.2.2.1 2 = .ok (.getfield 15, 3) := by decide +kernel
theorem d_Co_copy_5 : decode Y_Co_copy.2.2.1 5 = .ok (.putfield 15, 3) := by decide +kernel
theorem d_Co_copy_8 : decode Y_Co_copy.2.2.1 8 = .ok (.iconst 0, 1) := by decide +kernel
theorem d_Co_copy_9 : decode Y_Co_copy.2.2.1 9 = .ok (.istore_n 2, 1) := by decide +kernel
theorem d_Co_copy_10 : decode Y_Co_copy.2.2.1 10 = .ok (.iload_n 2, 1) := by decide +kernel
theorem d_Co_copy_11 : decode Y_Co_copy.2.2.1 11 = .ok (.aload_n 0, 1) := by decide +kernel
theorem d_Co_copy_12 : decode Y_Co_copy.2.2.1 12 = .ok (.getfield 9, 3) := by decide +kernel
theorem d_Co_copy_15 : decode Y_Co_copy.2.2.1 15 = .ok (.if_icmp .ge 30, 3) := by decide +kernel
theorem d_Co_copy_18 : decode Y_Co_copy.2.2.1 18 = .ok (.aload_n 1, 1) := by decide +kernel
theorem d_Co_copy_19 : decode Y_Co_copy.2.2.1 19 = .ok (.getfield 20, 3) := by decide +kernel
theorem d_Co_copy_22 : decode Y_Co_copy.2.2.1 22 = .ok (.iload_n 2, 1) := by decide +kernel
theorem d_Co_copy_23 : decode Y_Co_copy.2.2.1 23 = .ok (.aaload, 1) := by decide +kernel
theorem d_Co_copy_24 : decode Y_Co_copy.2.2.1 24 = .ok (.iconst 0, 1) := by decide +kernel
theorem d_Co_copy_25 : decode Y_Co_copy.2.2.1 25 = .ok (.aload_n 0, 1) := by decide +kernel
theorem d_Co_copy_26 : decode Y_Co_copy.2.2.1 26 = .ok (.getfield 20, 3) := by decide +kernel
theorem d_Co_copy_29 : decode Y_Co_copy.2.2.1 29 = .ok (.iload_n 2, 1) := by decide +kernel
theorem d_Co_copy_30 : decode Y_Co_copy.2.2.1 30 = .ok (.aaload, 1) := by decide +kernel
theorem d_Co_copy_31 : decode Y_Co_copy.2.2.1 31 = .ok (.iconst 0, 1) := by decide +kernel
theorem d_Co_copy_32 : decode Y_Co_copy.2.2.1 32 = .ok (.aload_n 0, 1) := by decide +kernel
theorem d_Co_copy_33 : decode Y_Co_copy.2.2.1 33 = .ok (.getfield 9, 3) := by decide +kernel
theorem d_Co_copy_36 : decode Y_Co_copy.2.2.1 36 = .ok (.invokestatic 23, 3) := by decide +kernel
theorem d_Co_copy_39 : decode Y_Co_copy.2.2.1 39 = .ok (.iinc 2 1, 3) := by decide +kernel
theorem d_Co_copy_42 : decode Y_Co_copy.2.2.1 42 = .ok (.goto (-32), 3) := by decide +kernel
theorem d_Co_copy_45 : decode Y_Co_copy.2.2.1 45 = .ok (.return_, 1) := by decide +kernel
theorem d_Co_putIn_0 : decode Y_Co_putIn.2.2.1 0 = .ok (.iconst 0, 1) := by decide +kernel
theorem d_Co_putIn_1 : decode Y_Co_putIn.2.2.1 1 = .ok (.istore_n 2, 1) := by decide +kernel
theorem d_Co_putIn_2 : decode Y_Co_putIn.2.2.1 2 = .ok (.iload_n 2, 1) := by decide +kernel
theorem d_Co_putIn_3 : decode Y_Co_putIn.2.2.1 3 = .ok (.aload_n 1, 1) := by decide +kernel
theorem d_Co_putIn_4 : decode Y_Co_putIn.2.2.1 4 = .ok (.getfield 29, 3) := by decide +kernel
theorem d_Co_putIn_7 : decode Y_Co_putIn.2.2.1 7 = .ok (.if_icmp .ge 25, 3) := by decide +kernel
theorem d_Co_putIn_10 : decode Y_Co_putIn.2.2.1 10 = .ok (.aload_n 0, 1) := by decide +kernel
theorem d_Co_putIn_11 : decode Y_Co_putIn.2.2.1 11 = .ok (.aload_n 1, 1) := by decide +kernel
theorem d_Co_putIn_12 : decode Y_Co_putIn.2.2.1 12 = .ok (.getfield 34, 3) := by decide +kernel
theorem d_Co_putIn_15 : decode Y_Co_putIn.2.2.1 15 = .ok (.iload_n 2, 1) := by decide +kernel
theorem d_Co_putIn_16 : decode Y_Co_putIn.2.2.1 16 = .ok (.iaload, 1) := by decide +kernel
theorem d_Co_putIn_17 : decode Y_Co_putIn.2.2.1 17 = .ok (.aload_n 1, 1) := by decide +kernel
theorem d_Co_putIn_18 : decode Y_Co_putIn.2.2.1 18 = .ok (.getfield 38, 3) := by decide +kernel
theorem d_Co_putIn_21 : decode Y_Co_putIn.2.2.1 21 = .ok (.iload_n 2, 1) := by decide +kernel
theorem d_Co_putIn_22 : decode Y_Co_putIn.2.2.1 22 = .ok (.iaload, 1) := by decide +kernel
theorem d_Co_putIn_23 : decode Y_Co_putIn.2.2.1 23 = .ok (.invokevirtual 41, 3) := by decide +kernel
theorem d_Co_putIn_26 : decode Y_Co_putIn.2.2.1 26 = .ok (.iinc 2 1, 3) := by decide +kernel
theorem d_Co_putIn_29 : decode Y_Co_putIn.2.2.1 29 = .ok (.goto (-27), 3) := by decide +kernel
theorem d_Co_putIn_32 : decode Y_Co_putIn.2.2.1 32 = .ok (.return_, 1) := by decide +kernel
theorem d_Co_takeOut_0 : decode Y_Co_takeOut.2.2.1 0 = .ok (.iconst 0, 1) := by decide +kernel
theorem d_Co_takeOut_1 : decode Y_Co_takeOut.2.2.1 1 = .ok (.istore_n 2, 1) := by decide +kernel
theorem d_Co_takeOut_2 : decode Y_Co_takeOut.2.2.1 2 = .ok (.iload_n 2, 1) := by decide +kernel
theorem d_Co_takeOut_3 : decode Y_Co_takeOut.2.2.1 3 = .ok (.aload_n 1, 1) := by decide +kernel
theorem d_Co_takeOut_4 : decode Y_Co_takeOut.2.2.1 4 = .ok (.getfield 29, 3) := by decide +kernel
theorem d_Co_takeOut_7 : decode Y_Co_takeOut.2.2.1 7 = .ok (.if_icmp .ge 26, 3) := by decide +kernel
theorem d_Co_takeOut_10 : decode Y_Co_takeOut.2.2.1 10 = .ok (.aload_n 0, 1) := by decide +kernel
theorem d_Co_takeOut_11 : decode Y_Co_takeOut.2.2.1 11 = .ok (.aload_n 1, 1) := by decide +kernel
theorem d_Co_takeOut_12 : decode Y_Co_takeOut.2.2.1 12 = .ok (.getfield 34, 3) := by decide +kernel
theorem d_Co_takeOut_15 : decode Y_Co_takeOut.2.2.1 15 = .ok (.iload_n 2, 1) := by decide +kernel
theorem d_Co_takeOut_16 : decode Y_Co_takeOut.2.2.1 16 = .ok (.iaload, 1) := by decide +kernel
theorem d_Co_takeOut_17 : decode Y_Co_takeOut.2.2.1 17 = .ok (.aload_n 1, 1) := by decide +kernel
theorem d_Co_takeOut_18 : decode Y_Co_takeOut.2.2.1 18 = .ok (.getfield 38, 3) := by decide +kernel
theorem d_Co_takeOut_21 : decode Y_Co_takeOut.2.2.1 21 = .ok (.iload_n 2, 1) := by decide +kernel
theorem d_Co_takeOut_22 : decode Y_Co_takeOut.2.2.1 22 = .ok (.iaload, 1) := by decide +kernel
theorem d_Co_takeOut_23 : decode Y_Co_takeOut.2.2.1 23 = .ok (.ineg, 1) := by decide +kernel
theorem d_Co_takeOut_24 : decode Y_Co_takeOut.2.2.1 24 = .ok (.invokevirtual 41, 3) := by decide +kernel
theorem d_Co_takeOut_27 : decode Y_Co_takeOut.2.2.1 27 = .ok (.iinc 2 1, 3) := by decide +kernel
theorem d_Co_takeOut_30 : decode Y_Co_takeOut.2.2.1 30 = .ok (.goto (-28), 3) := by decide +kernel
theorem d_Co_takeOut_33 : decode Y_Co_takeOut.2.2.1 33 = .ok (.return_, 1) := by decide +kernel
theorem d_Co_add_0 : decode Y_Co_add.2.2.1 0 = .ok (.aload_n 0, 1) := by decide +kernel
theorem d_Co_add_1 : decode Y_Co_add.2.2.1 1 = .ok (.dup, 1) := by decide +kernel
theorem d_Co_add_2 : decode Y_Co_add.2.2.1 2 = .ok (.getfield 15, 3) := by decide +kernel
theorem d_Co_add_5 : decode Y_Co_add.2.2.1 5 = .ok (.iload_n 2, 1) := by decide +kernel
theorem d_Co_add_6 : decode Y_Co_add.2.2.1 6 = .ok (.iadd, 1) := by decide +kernel
theorem d_Co_add_7 : decode Y_Co_add.2.2.1 7 = .ok (.putfield 15, 3) := by decide +kernel
theorem d_Co_add_10 : decode Y_Co_add.2.2.1 10 = .ok (.iconst 0, 1) := by decide +kernel
theorem d_Co_add_11 : decode Y_Co_add.2.2.1 11 = .ok (.istore_n 3, 1) := by decide +kernel
theorem d_Co_add_12 : decode Y_Co_add.2.2.1 12 = .ok (.iload_n 3, 1) := by decide +kernel
theorem d_Co_add_13 : decode Y_Co_add.2.2.1 13 = .ok (.aload_n 0, 1) := by decide +kernel
theorem d_Co_add_14 : decode Y_Co_add.2.2.1 14 = .ok (.getfield 9, 3) := by decide +kernel
theorem d_Co_add_17 : decode Y_Co_add.2.2.1 17 = .ok (.if_icmp .ge 50, 3) := by decide +kernel
theorem d_Co_add_20 : decode Y_Co_add.2.2.1 20 = .ok (.iconst 0, 1) := by decide +kernel
theorem d_Co_add_21 : decode Y_Co_add.2.2.1 21 = .ok (.istore 4, 2) := by decide +kernel
theorem d_Co_add_23 : decode Y_Co_add.2.2.1 23 = .ok (.iload 4, 2) := by decide +kernel
theorem d_Co_add_25 : decode Y_Co_add.2.2.1 25 = .ok (.aload_n 0, 1) := by decide +kernel
theorem d_Co_add_26 : decode Y_Co_add.2.2.1 26 = .ok (.getfield 9, 3) := by decide +kernel
theorem d_Co_add_29 : decode Y_Co_add.2.2.1 29 = .ok (.if_icmp .ge 32, 3) := by decide +kernel
theorem d_Co_add_32 : decode Y_Co_add.2.2.1 32 = .ok (.iload_n 1, 1) := by decide +kernel
theorem d_Co_add_33 : decode Y_Co_add.2.2.1 33 = .ok (.iload_n 3, 1) := by decide +kernel
theorem d_Co_add_34 : decode Y_Co_add.2.2.1 34 = .ok (.iload 4, 2) := by decide +kernel
theorem d_Co_add_36 : decode Y_Co_add.2.2.1 36 = .ok (.invokestatic 45, 3) := by decide +kernel
theorem d_Co_add_39 : decode Y_Co_add.2.2.1 39 = .ok (.ifCond .eq 16, 3) := by decide +kernel
theorem d_Co_add_42 : decode Y_Co_add.2.2.1 42 = .ok (.aload_n 0, 1) := by decide +kernel
theorem d_Co_add_43 : decode Y_Co_add.2.2.1 43 = .ok (.getfield 20, 3) := by decide +kernel
theorem d_Co_add_46 : decode Y_Co_add.2.2.1 46 = .ok (.iload_n 3, 1) := by decide +kernel
theorem d_Co_add_47 : decode Y_Co_add.2.2.1 47 = .ok (.aaload, 1) := by decide +kernel
theorem d_Co_add_48 : decode Y_Co_add.2.2.1 48 = .ok (.iload 4, 2) := by decide +kernel
theorem d_Co_add_50 : decode Y_Co_add.2.2.1 50 = .ok (.dup2, 1) := by decide +kernel
theorem d_Co_add_51 : decode Y_Co_add.2.2.1 51 = .ok (.iaload, 1) := by decide +kernel
theorem d_Co_add_52 : decode Y_Co_add.2.2.1 52 = .ok (.iload_n 2, 1) := by decide +kernel
theorem d_Co_add_53 : decode Y_Co_add.2.2.1 53 = .ok (.iadd, 1) := by decide +kernel
theorem d_Co_add_54 : decode Y_Co_add.2.2.1 54 = .ok (.iastore, 1) := by decide +kernel
theorem d_Co_add_55 : decode Y_Co_add.2.2.1 55 = .ok (.iinc 4 1, 3) := by decide +kernel
theorem d_Co_add_58 : decode Y_Co_add.2.2.1 58 = .ok (.goto (-35), 3) := by decide +kernel
theorem d_Co_add_61 : decode Y_Co_add.2.2.1 61 = .ok (.iinc 3 1, 3) := by decide +kernel
theorem d_Co_add_64 : decode Y_Co_add.2.2.1 64 = .ok (.goto (-52), 3) := by decide +kernel
theorem d_Co_add_67 : decode Y_Co_add.2.2.1 67 = .ok (.return_, 1) := by decide +kernel
theorem d_Co_comesBefore_0 : decode Y_Co_comesBefore.2.2.1 0 = .ok (.iload_n 0, 1) := by decide +kernel
theorem d_Co_comesBefore_1 : decode Y_Co_comesBefore.2.2.1 1 = .ok (.iload_n 1, 1) := by decide +kernel
theorem d_Co_comesBefore_2 : decode Y_Co_comesBefore.2.2.1 2 = .ok (.invokestatic 49, 3) := by decide +kernel
theorem d_Co_comesBefore_5 : decode Y_Co_comesBefore.2.2.1 5 = .ok (.istore_n 3, 1) := by decide +kernel
theorem d_Co_comesBefore_6 : decode Y_Co_comesBefore.2.2.1 6 = .ok (.iload_n 0, 1) := by decide +kernel
theorem d_Co_comesBefore_7 : decode Y_Co_comesBefore.2.2.1 7 = .ok (.iload_n 2, 1) := by decide +kernel
theorem d_Co_comesBefore_8 : decode Y_Co_comesBefore.2.2.1 8 = .ok (.invokestatic 49, 3) := by decide +kernel
theorem d_Co_comesBefore_11 : decode Y_Co_comesBefore.2.2.1 11 = .ok (.istore 4, 2) := by decide +kernel
theorem d_Co_comesBefore_13 : decode Y_Co_comesBefore.2.2.1 13 = .ok (.iload_n 3, 1) := by decide +kernel
theorem d_Co_comesBefore_14 : decode Y_Co_comesBefore.2.2.1 14 = .ok (.ifCond .eq 18, 3) := by decide +kernel
theorem d_Co_comesBefore_17 : decode Y_Co_comesBefore.2.2.1 17 = .ok (.iload 4, 2) := by decide +kernel
theorem d_Co_comesBefore_19 : decode Y_Co_comesBefore.2.2.1 19 = .ok (.ifCond .eq 9, 3) := by decide +kernel
theorem d_Co_comesBefore_22 : decode Y_Co_comesBefore.2.2.1 22 = .ok (.iload_n 3, 1) := by decide +kernel
theorem d_Co_comesBefore_23 : decode Y_Co_comesBefore.2.2.1 23 = .ok (.iload 4, 2) := by decide +kernel
theorem d_Co_comesBefore_25 : decode Y_Co_comesBefore.2.2.1 25 = .ok (.if_icmp .ge 7, 3) := by decide +kernel
theorem d_Co_comesBefore_28 : decode Y_Co_comesBefore.2.2.1 28 = .ok (.iconst 1, 1) := by decide +kernel
theorem d_Co_comesBefore_29 : decode Y_Co_comesBefore.2.2.1 29 = .ok (.goto 4, 3) := by decide +kernel
theorem d_Co_comesBefore_32 : decode Y_Co_comesBefore.2.2.1 32 = .ok (.iconst 0, 1) := by decide +kernel
theorem d_Co_comesBefore_33 : decode Y_Co_comesBefore.2.2.1 33 = .ok (.ireturn, 1) := by decide +kernel
theorem d_Co_direct_0 : decode Y_Co_direct.2.2.1 0 = .ok (.aload_n 0, 1) := by decide +kernel
theorem d_Co_direct_1 : decode Y_Co_direct.2.2.1 1 = .ok (.getfield 20, 3) := by decide +kernel
theorem d_Co_direct_4 : decode Y_Co_direct.2.2.1 4 = .ok (.iload_n 1, 1) := by decide +kernel
theorem d_Co_direct_5 : decode Y_Co_direct.2.2.1 5 = .ok (.aaload, 1) := by decide +kernel
theorem d_Co_direct_6 : decode Y_Co_direct.2.2.1 6 = .ok (.iload_n 2, 1) := by decide +kernel
theorem d_Co_direct_7 : decode Y_Co_direct.2.2.1 7 = .ok (.iaload, 1) := by decide +kernel
theorem d_Co_direct_8 : decode Y_Co_direct.2.2.1 8 = .ok (.aload_n 0, 1) := by decide +kernel
theorem d_Co_direct_9 : decode Y_Co_direct.2.2.1 9 = .ok (.getfield 20, 3) := by decide +kernel
theorem d_Co_direct_12 : decode Y_Co_direct.2.2.1 12 = .ok (.iload_n 2, 1) := by decide +kernel
theorem d_Co_direct_13 : decode Y_Co_direct.2.2.1 13 = .ok (.aaload, 1) := by decide +kernel
theorem d_Co_direct_14 : decode Y_Co_direct.2.2.1 14 = .ok (.iload_n 1, 1) := by decide +kernel
theorem d_Co_direct_15 : decode Y_Co_direct.2.2.1 15 = .ok (.iaload, 1) := by decide +kernel
theorem d_Co_direct_16 : decode Y_Co_direct.2.2.1 16 = .ok (.if_icmp .le 14, 3) := by decide +kernel
theorem d_Co_direct_19 : decode Y_Co_direct.2.2.1 19 = .ok (.aload_n 0, 1) := by decide +kernel
theorem d_Co_direct_20 : decode Y_Co_direct.2.2.1 20 = .ok (.getfield 20, 3) := by decide +kernel
theorem d_Co_direct_23 : decode Y_Co_direct.2.2.1 23 = .ok (.iload_n 1, 1) := by decide +kernel
theorem d_Co_direct_24 : decode Y_Co_direct.2.2.1 24 = .ok (.aaload, 1) := by decide +kernel
theorem d_Co_direct_25 : decode Y_Co_direct.2.2.1 25 = .ok (.iload_n 2, 1) := by decide +kernel
theorem d_Co_direct_26 : decode Y_Co_direct.2.2.1 26 = .ok (.iaload, 1) := by decide +kernel
theorem d_Co_direct_27 : decode Y_Co_direct.2.2.1 27 = .ok (.goto 4, 3) := by decide +kernel
theorem d_Co_direct_30 : decode Y_Co_direct.2.2.1 30 = .ok (.iconst 0, 1) := by decide +kernel
theorem d_Co_direct_31 : decode Y_Co_direct.2.2.1 31 = .ok (.ireturn, 1) := by decide +kernel
theorem d_Co_isWay_0 : decode Y_Co_isWay.2.2.1 0 = .ok (.iload 4, 2) := by decide +kernel
theorem d_Co_isWay_2 : decode Y_Co_isWay.2.2.1 2 = .ok (.iconst 0, 1) := by decide +kernel
theorem d_Co_isWay_3 : decode Y_Co_isWay.2.2.1 3 = .ok (.invokestatic 49, 3) := by decide +kernel
theorem d_Co_isWay_6 : decode Y_Co_isWay.2.2.1 6 = .ok (.iload_n 1, 1) := by decide +kernel
theorem d_Co_isWay_7 : decode Y_Co_isWay.2.2.1 7 = .ok (.iconst 1, 1) := by decide +kernel
theorem d_Co_isWay_8 : decode Y_Co_isWay.2.2.1 8 = .ok (.iadd, 1) := by decide +kernel
theorem d_Co_isWay_9 : decode Y_Co_isWay.2.2.1 9 = .ok (.if_icmp .eq 5, 3) := by decide +kernel
theorem d_Co_isWay_12 : decode Y_Co_isWay.2.2.1 12 = .ok (.iconst 0, 1) := by decide +kernel
theorem d_Co_isWay_13 : decode Y_Co_isWay.2.2.1 13 = .ok (.ireturn, 1) := by decide +kernel
theorem d_Co_isWay_14 : decode Y_Co_isWay.2.2.1 14 = .ok (.iload_n 1, 1) := by decide +kernel
theorem d_Co_isWay_15 : decode Y_Co_isWay.2.2.1 15 = .ok (.istore 5, 2) := by decide +kernel
theorem d_Co_isWay_17 : decode Y_Co_isWay.2.2.1 17 = .ok (.iload 4, 2) := by decide +kernel
theorem d_Co_isWay_19 : decode Y_Co_isWay.2.2.1 19 = .ok (.iconst 4, 1) := by decide +kernel
theorem d_Co_isWay_20 : decode Y_Co_isWay.2.2.1 20 = .ok (.iushr, 1) := by decide +kernel
theorem d_Co_isWay_21 : decode Y_Co_isWay.2.2.1 21 = .ok (.istore 6, 2) := by decide +kernel
theorem d_Co_isWay_23 : decode Y_Co_isWay.2.2.1 23 = .ok (.iconst 1, 1) := by decide +kernel
theorem d_Co_isWay_24 : decode Y_Co_isWay.2.2.1 24 = .ok (.istore 7, 2) := by decide +kernel
theorem d_Co_isWay_26 : decode Y_Co_isWay.2.2.1 26 = .ok (.iload 7, 2) := by decide +kernel
theorem d_Co_isWay_28 : decode Y_Co_isWay.2.2.1 28 = .ok (.bipush 8, 2) := by decide +kernel
theorem d_Co_isWay_30 : decode Y_Co_isWay.2.2.1 30 = .ok (.if_icmp .ge 62, 3) := by decide +kernel
theorem d_Co_isWay_33 : decode Y_Co_isWay.2.2.1 33 = .ok (.iload 6, 2) := by decide +kernel
theorem d_Co_isWay_35 : decode Y_Co_isWay.2.2.1 35 = .ok (.ifCond .eq 57, 3) := by decide +kernel
theorem d_Co_isWay_38 : decode Y_Co_isWay.2.2.1 38 = .ok (.iload 6, 2) := by decide +kernel
theorem d_Co_isWay_40 : decode Y_Co_isWay.2.2.1 40 = .ok (.iconst 0, 1) := by decide +kernel
theorem d_Co_isWay_41 : decode Y_Co_isWay.2.2.1 41 = .ok (.invokestatic 49, 3) := by decide +kernel
theorem d_Co_isWay_44 : decode Y_Co_isWay.2.2.1 44 = .ok (.iconst 1, 1) := by decide +kernel
theorem d_Co_isWay_45 : decode Y_Co_isWay.2.2.1 45 = .ok (.isub, 1) := by decide +kernel
theorem d_Co_isWay_46 : decode Y_Co_isWay.2.2.1 46 = .ok (.istore 8, 2) := by decide +kernel
theorem d_Co_isWay_48 : decode Y_Co_isWay.2.2.1 48 = .ok (.iload 8, 2) := by decide +kernel
theorem d_Co_isWay_50 : decode Y_Co_isWay.2.2.1 50 = .ok (.ifCond .lt 24, 3) := by decide +kernel
theorem d_Co_isWay_53 : decode Y_Co_isWay.2.2.1 53 = .ok (.iload 8, 2) := by decide +kernel
theorem d_Co_isWay_55 : decode Y_Co_isWay.2.2.1 55 = .ok (.aload_n 0, 1) := by decide +kernel
theorem d_Co_isWay_56 : decode Y_Co_isWay.2.2.1 56 = .ok (.getfield 9, 3) := by decide +kernel
theorem d_Co_isWay_59 : decode Y_Co_isWay.2.2.1 59 = .ok (.if_icmp .ge 15, 3) := by decide +kernel
theorem d_Co_isWay_62 : decode Y_Co_isWay.2.2.1 62 = .ok (.aload_n 0, 1) := by decide +kernel
theorem d_Co_isWay_63 : decode Y_Co_isWay.2.2.1 63 = .ok (.iload 5, 2) := by decide +kernel
theorem d_Co_isWay_65 : decode Y_Co_isWay.2.2.1 65 = .ok (.iload 8, 2) := by decide +kernel
theorem d_Co_isWay_67 : decode Y_Co_isWay.2.2.1 67 = .ok (.invokevirtual 53, 3) := by decide +kernel
theorem d_Co_isWay_70 : decode Y_Co_isWay.2.2.1 70 = .ok (.iload_n 3, 1) := by decide +kernel
theorem d_Co_isWay_71 : decode Y_Co_isWay.2.2.1 71 = .ok (.if_icmp .ge 5, 3) := by decide +kernel
theorem d_Co_isWay_74 : decode Y_Co_isWay.2.2.1 74 = .ok (.iconst 0, 1) := by decide +kernel
theorem d_Co_isWay_75 : decode Y_Co_isWay.2.2.1 75 = .ok (.ireturn, 1) := by decide +kernel
theorem d_Co_isWay_76 : decode Y_Co_isWay.2.2.1 76 = .ok (.iload 8, 2) := by decide +kernel
theorem d_Co_isWay_78 : decode Y_Co_isWay.2.2.1 78 = .ok (.istore 5, 2) := by decide +kernel
theorem d_Co_isWay_80 : decode Y_Co_isWay.2.2.1 80 = .ok (.iload 6, 2) := by decide +kernel
theorem d_Co_isWay_82 : decode Y_Co_isWay.2.2.1 82 = .ok (.iconst 4, 1) := by decide +kernel
theorem d_Co_isWay_83 : decode Y_Co_isWay.2.2.1 83 = .ok (.iushr, 1) := by decide +kernel
theorem d_Co_isWay_84 : decode Y_Co_isWay.2.2.1 84 = .ok (.istore 6, 2) := by decide +kernel
theorem d_Co_isWay_86 : decode Y_Co_isWay.2.2.1 86 = .ok (.iinc 7 1, 3) := by decide +kernel
theorem d_Co_isWay_89 : decode Y_Co_isWay.2.2.1 89 = .ok (.goto (-63), 3) := by decide +kernel
theorem d_Co_isWay_92 : decode Y_Co_isWay.2.2.1 92 = .ok (.iload 5, 2) := by decide +kernel
theorem d_Co_isWay_94 : decode Y_Co_isWay.2.2.1 94 = .ok (.iload_n 2, 1) := by decide +kernel
theorem d_Co_isWay_95 : decode Y_Co_isWay.2.2.1 95 = .ok (.if_icmp .ne 7, 3) := by decide +kernel
theorem d_Co_isWay_98 : decode Y_Co_isWay.2.2.1 98 = .ok (.iconst 1, 1) := by decide +kernel
theorem d_Co_isWay_99 : decode Y_Co_isWay.2.2.1 99 = .ok (.goto 4, 3) := by decide +kernel
theorem d_Co_isWay_102 : decode Y_Co_isWay.2.2.1 102 = .ok (.iconst 0, 1) := by decide +kernel
theorem d_Co_isWay_103 : decode Y_Co_isWay.2.2.1 103 = .ok (.ireturn, 1) := by decide +kernel
theorem d_Co_isHeldIn_0 : decode Y_Co_isHeldIn.2.2.1 0 = .ok (.iload_n 1, 1) := by decide +kernel
theorem d_Co_isHeldIn_1 : decode Y_Co_isHeldIn.2.2.1 1 = .ok (.aload_n 0, 1) := by decide +kernel
theorem d_Co_isHeldIn_2 : decode Y_Co_isHeldIn.2.2.1 2 = .ok (.getfield 9, 3) := by decide +kernel
theorem d_Co_isHeldIn_5 : decode Y_Co_isHeldIn.2.2.1 5 = .ok (.iushr, 1) := by decide +kernel
theorem d_Co_isHeldIn_6 : decode Y_Co_isHeldIn.2.2.1 6 = .ok (.ifCond .eq 5, 3) := by decide +kernel
theorem d_Co_isHeldIn_9 : decode Y_Co_isHeldIn.2.2.1 9 = .ok (.iconst 0, 1) := by decide +kernel
theorem d_Co_isHeldIn_10 : decode Y_Co_isHeldIn.2.2.1 10 = .ok (.ireturn, 1) := by decide +kernel
theorem d_Co_isHeldIn_11 : decode Y_Co_isHeldIn.2.2.1 11 = .ok (.iconst 0, 1) := by decide +kernel
theorem d_Co_isHeldIn_12 : decode Y_Co_isHeldIn.2.2.1 12 = .ok (.istore_n 3, 1) := by decide +kernel
theorem d_Co_isHeldIn_13 : decode Y_Co_isHeldIn.2.2.1 13 = .ok (.iload_n 3, 1) := by decide +kernel
theorem d_Co_isHeldIn_14 : decode Y_Co_isHeldIn.2.2.1 14 = .ok (.aload_n 0, 1) := by decide +kernel
theorem d_Co_isHeldIn_15 : decode Y_Co_isHeldIn.2.2.1 15 = .ok (.getfield 9, 3) := by decide +kernel
theorem d_Co_isHeldIn_18 : decode Y_Co_isHeldIn.2.2.1 18 = .ok (.if_icmp .ge 57, 3) := by decide +kernel
theorem d_Co_isHeldIn_21 : decode Y_Co_isHeldIn.2.2.1 21 = .ok (.iconst 0, 1) := by decide +kernel
theorem d_Co_isHeldIn_22 : decode Y_Co_isHeldIn.2.2.1 22 = .ok (.istore 4, 2) := by decide +kernel
theorem d_Co_isHeldIn_24 : decode Y_Co_isHeldIn.2.2.1 24 = .ok (.iload 4, 2) := by decide +kernel
theorem d_Co_isHeldIn_26 : decode Y_Co_isHeldIn.2.2.1 26 = .ok (.aload_n 0, 1) := by decide +kernel
theorem d_Co_isHeldIn_27 : decode Y_Co_isHeldIn.2.2.1 27 = .ok (.getfield 9, 3) := by decide +kernel
theorem d_Co_isHeldIn_30 : decode Y_Co_isHeldIn.2.2.1 30 = .ok (.if_icmp .ge 39, 3) := by decide +kernel
theorem d_Co_isHeldIn_33 : decode Y_Co_isHeldIn.2.2.1 33 = .ok (.iload_n 1, 1) := by decide +kernel
theorem d_Co_isHeldIn_34 : decode Y_Co_isHeldIn.2.2.1 34 = .ok (.iload_n 3, 1) := by decide +kernel
theorem d_Co_isHeldIn_35 : decode Y_Co_isHeldIn.2.2.1 35 = .ok (.invokestatic 56, 3) := by decide +kernel
theorem d_Co_isHeldIn_38 : decode Y_Co_isHeldIn.2.2.1 38 = .ok (.ifCond .eq 25, 3) := by decide +kernel
theorem d_Co_isHeldIn_41 : decode Y_Co_isHeldIn.2.2.1 41 = .ok (.iload_n 1, 1) := by decide +kernel
theorem d_Co_isHeldIn_42 : decode Y_Co_isHeldIn.2.2.1 42 = .ok (.iload 4, 2) := by decide +kernel
theorem d_Co_isHeldIn_44 : decode Y_Co_isHeldIn.2.2.1 44 = .ok (.invokestatic 56, 3) := by decide +kernel
theorem d_Co_isHeldIn_47 : decode Y_Co_isHeldIn.2.2.1 47 = .ok (.ifCond .ne 16, 3) := by decide +kernel
theorem d_Co_isHeldIn_50 : decode Y_Co_isHeldIn.2.2.1 50 = .ok (.aload_n 0, 1) := by decide +kernel
theorem d_Co_isHeldIn_51 : decode Y_Co_isHeldIn.2.2.1 51 = .ok (.iload_n 3, 1) := by decide +kernel
theorem d_Co_isHeldIn_52 : decode Y_Co_isHeldIn.2.2.1 52 = .ok (.iload 4, 2) := by decide +kernel
theorem d_Co_isHeldIn_54 : decode Y_Co_isHeldIn.2.2.1 54 = .ok (.invokevirtual 53, 3) := by decide +kernel
theorem d_Co_isHeldIn_57 : decode Y_Co_isHeldIn.2.2.1 57 = .ok (.iload_n 2, 1) := by decide +kernel
theorem d_Co_isHeldIn_58 : decode Y_Co_isHeldIn.2.2.1 58 = .ok (.if_icmp .le 5, 3) := by decide +kernel
theorem d_Co_isHeldIn_61 : decode Y_Co_isHeldIn.2.2.1 61 = .ok (.iconst 0, 1) := by decide +kernel
theorem d_Co_isHeldIn_62 : decode Y_Co_isHeldIn.2.2.1 62 = .ok (.ireturn, 1) := by decide +kernel
theorem d_Co_isHeldIn_63 : decode Y_Co_isHeldIn.2.2.1 63 = .ok (.iinc 4 1, 3) := by decide +kernel
theorem d_Co_isHeldIn_66 : decode Y_Co_isHeldIn.2.2.1 66 = .ok (.goto (-42), 3) := by decide +kernel
theorem d_Co_isHeldIn_69 : decode Y_Co_isHeldIn.2.2.1 69 = .ok (.iinc 3 1, 3) := by decide +kernel
theorem d_Co_isHeldIn_72 : decode Y_Co_isHeldIn.2.2.1 72 = .ok (.goto (-59), 3) := by decide +kernel
theorem d_Co_isHeldIn_75 : decode Y_Co_isHeldIn.2.2.1 75 = .ok (.iconst 1, 1) := by decide +kernel
theorem d_Co_isHeldIn_76 : decode Y_Co_isHeldIn.2.2.1 76 = .ok (.ireturn, 1) := by decide +kernel
theorem d_Co_topSet_0 : decode Y_Co_topSet.2.2.1 0 = .ok (.aload_n 0, 1) := by decide +kernel
theorem d_Co_topSet_1 : decode Y_Co_topSet.2.2.1 1 = .ok (.iconst 0, 1) := by decide +kernel
theorem d_Co_topSet_2 : decode Y_Co_topSet.2.2.1 2 = .ok (.invokevirtual 60, 3) := by decide +kernel
theorem d_Co_topSet_5 : decode Y_Co_topSet.2.2.1 5 = .ok (.istore_n 1, 1) := by decide +kernel
theorem d_Co_topSet_6 : decode Y_Co_topSet.2.2.1 6 = .ok (.iconst 1, 1) := by decide +kernel
theorem d_Co_topSet_7 : decode Y_Co_topSet.2.2.1 7 = .ok (.istore_n 2, 1) := by decide +kernel
theorem d_Co_topSet_8 : decode Y_Co_topSet.2.2.1 8 = .ok (.iload_n 2, 1) := by decide +kernel
theorem d_Co_topSet_9 : decode Y_Co_topSet.2.2.1 9 = .ok (.aload_n 0, 1) := by decide +kernel
theorem d_Co_topSet_10 : decode Y_Co_topSet.2.2.1 10 = .ok (.getfield 9, 3) := by decide +kernel
theorem d_Co_topSet_13 : decode Y_Co_topSet.2.2.1 13 = .ok (.if_icmp .ge 28, 3) := by decide +kernel
theorem d_Co_topSet_16 : decode Y_Co_topSet.2.2.1 16 = .ok (.aload_n 0, 1) := by decide +kernel
theorem d_Co_topSet_17 : decode Y_Co_topSet.2.2.1 17 = .ok (.iload_n 2, 1) := by decide +kernel
theorem d_Co_topSet_18 : decode Y_Co_topSet.2.2.1 18 = .ok (.invokevirtual 60, 3) := by decide +kernel
theorem d_Co_topSet_21 : decode Y_Co_topSet.2.2.1 21 = .ok (.istore_n 3, 1) := by decide +kernel
theorem d_Co_topSet_22 : decode Y_Co_topSet.2.2.1 22 = .ok (.iload_n 3, 1) := by decide +kernel
theorem d_Co_topSet_23 : decode Y_Co_topSet.2.2.1 23 = .ok (.invokestatic 64, 3) := by decide +kernel
theorem d_Co_topSet_26 : decode Y_Co_topSet.2.2.1 26 = .ok (.iload_n 1, 1) := by decide +kernel
theorem d_Co_topSet_27 : decode Y_Co_topSet.2.2.1 27 = .ok (.invokestatic 64, 3) := by decide +kernel
theorem d_Co_topSet_30 : decode Y_Co_topSet.2.2.1 30 = .ok (.if_icmp .ge 5, 3) := by decide +kernel
theorem d_Co_topSet_33 : decode Y_Co_topSet.2.2.1 33 = .ok (.iload_n 3, 1) := by decide +kernel
theorem d_Co_topSet_34 : decode Y_Co_topSet.2.2.1 34 = .ok (.istore_n 1, 1) := by decide +kernel
theorem d_Co_topSet_35 : decode Y_Co_topSet.2.2.1 35 = .ok (.iinc 2 1, 3) := by decide +kernel
theorem d_Co_topSet_38 : decode Y_Co_topSet.2.2.1 38 = .ok (.goto (-30), 3) := by decide +kernel
theorem d_Co_topSet_41 : decode Y_Co_topSet.2.2.1 41 = .ok (.iload_n 1, 1) := by decide +kernel
theorem d_Co_topSet_42 : decode Y_Co_topSet.2.2.1 42 = .ok (.ireturn, 1) := by decide +kernel
theorem d_Co_beatingSetAround_0 : decode Y_Co_beatingSetAround.2.2.1 0 = .ok (.iconst 1, 1) := by decide +kernel
theorem d_Co_beatingSetAround_1 : decode Y_Co_beatingSetAround.2.2.1 1 = .ok (.iload_n 1, 1) := by decide +kernel
theorem d_Co_beatingSetAround_2 : decode Y_Co_beatingSetAround.2.2.1 2 = .ok (.ishl, 1) := by decide +kernel
theorem d_Co_beatingSetAround_3 : decode Y_Co_beatingSetAround.2.2.1 3 = .ok (.istore_n 2, 1) := by decide +kernel
theorem d_Co_beatingSetAround_4 : decode Y_Co_beatingSetAround.2.2.1 4 = .ok (.iconst 0, 1) := by decide +kernel
theorem d_Co_beatingSetAround_5 : decode Y_Co_beatingSetAround.2.2.1 5 = .ok (.istore_n 3, 1) := by decide +kernel
theorem d_Co_beatingSetAround_6 : decode Y_Co_beatingSetAround.2.2.1 6 = .ok (.iload_n 3, 1) := by decide +kernel
theorem d_Co_beatingSetAround_7 : decode Y_Co_beatingSetAround.2.2.1 7 = .ok (.aload_n 0, 1) := by decide +kernel
theorem d_Co_beatingSetAround_8 : decode Y_Co_beatingSetAround.2.2.1 8 = .ok (.getfield 9, 3) := by decide +kernel
theorem d_Co_beatingSetAround_11 : decode Y_Co_beatingSetAround.2.2.1 11 = .ok (.if_icmp .ge 45, 3) := by decide +kernel
theorem d_Co_beatingSetAround_14 : decode Y_Co_beatingSetAround.2.2.1 14 = .ok (.iconst 0, 1) := by decide +kernel
theorem d_Co_beatingSetAround_15 : decode Y_Co_beatingSetAround.2.2.1 15 = .ok (.istore 4, 2) := by decide +kernel
theorem d_Co_beatingSetAround_17 : decode Y_Co_beatingSetAround.2.2.1 17 = .ok (.iload 4, 2) := by decide +kernel
theorem d_Co_beatingSetAround_19 : decode Y_Co_beatingSetAround.2.2.1 19 = .ok (.aload_n 0, 1) := by decide +kernel
theorem d_Co_beatingSetAround_20 : decode Y_Co_beatingSetAround.2.2.1 20 = .ok (.getfield 9, 3) := by decide +kernel
theorem d_Co_beatingSetAround_23 : decode Y_Co_beatingSetAround.2.2.1 23 = .ok (.if_icmp .ge 27, 3) := by decide +kernel
theorem d_Co_beatingSetAround_26 : decode Y_Co_beatingSetAround.2.2.1 26 = .ok (.iload_n 2, 1) := by decide +kernel
theorem d_Co_beatingSetAround_27 : decode Y_Co_beatingSetAround.2.2.1 27 = .ok (.iload 4, 2) := by decide +kernel
theorem d_Co_beatingSetAround_29 : decode Y_Co_beatingSetAround.2.2.1 29 = .ok (.invokestatic 56, 3) := by decide +kernel
theorem d_Co_beatingSetAround_32 : decode Y_Co_beatingSetAround.2.2.1 32 = .ok (.ifCond .eq 12, 3) := by decide +kernel
theorem d_Co_beatingSetAround_35 : decode Y_Co_beatingSetAround.2.2.1 35 = .ok (.iload_n 2, 1) := by decide +kernel
theorem d_Co_beatingSetAround_36 : decode Y_Co_beatingSetAround.2.2.1 36 = .ok (.aload_n 0, 1) := by decide +kernel
theorem d_Co_beatingSetAround_37 : decode Y_Co_beatingSetAround.2.2.1 37 = .ok (.iload 4, 2) := by decide +kernel
theorem d_Co_beatingSetAround_39 : decode Y_Co_beatingSetAround.2.2.1 39 = .ok (.invokevirtual 69, 3) := by decide +kernel
theorem d_Co_beatingSetAround_42 : decode Y_Co_beatingSetAround.2.2.1 42 = .ok (.ior, 1) := by decide +kernel
theorem d_Co_beatingSetAround_43 : decode Y_Co_beatingSetAround.2.2.1 43 = .ok (.istore_n 2, 1) := by decide +kernel
theorem d_Co_beatingSetAround_44 : decode Y_Co_beatingSetAround.2.2.1 44 = .ok (.iinc 4 1, 3) := by decide +kernel
theorem d_Co_beatingSetAround_47 : decode Y_Co_beatingSetAround.2.2.1 47 = .ok (.goto (-30), 3) := by decide +kernel
theorem d_Co_beatingSetAround_50 : decode Y_Co_beatingSetAround.2.2.1 50 = .ok (.iinc 3 1, 3) := by decide +kernel
theorem d_Co_beatingSetAround_53 : decode Y_Co_beatingSetAround.2.2.1 53 = .ok (.goto (-47), 3) := by decide +kernel
theorem d_Co_beatingSetAround_56 : decode Y_Co_beatingSetAround.2.2.1 56 = .ok (.iload_n 2, 1) := by decide +kernel
theorem d_Co_beatingSetAround_57 : decode Y_Co_beatingSetAround.2.2.1 57 = .ok (.ireturn, 1) := by decide +kernel
theorem d_Co_notBeatenBy_0 : decode Y_Co_notBeatenBy.2.2.1 0 = .ok (.iconst 0, 1) := by decide +kernel
theorem d_Co_notBeatenBy_1 : decode Y_Co_notBeatenBy.2.2.1 1 = .ok (.istore_n 2, 1) := by decide +kernel
theorem d_Co_notBeatenBy_2 : decode Y_Co_notBeatenBy.2.2.1 2 = .ok (.iconst 0, 1) := by decide +kernel
theorem d_Co_notBeatenBy_3 : decode Y_Co_notBeatenBy.2.2.1 3 = .ok (.istore_n 3, 1) := by decide +kernel
theorem d_Co_notBeatenBy_4 : decode Y_Co_notBeatenBy.2.2.1 4 = .ok (.iload_n 3, 1) := by decide +kernel
theorem d_Co_notBeatenBy_5 : decode Y_Co_notBeatenBy.2.2.1 5 = .ok (.aload_n 0, 1) := by decide +kernel
theorem d_Co_notBeatenBy_6 : decode Y_Co_notBeatenBy.2.2.1 6 = .ok (.getfield 9, 3) := by decide +kernel
theorem d_Co_notBeatenBy_9 : decode Y_Co_notBeatenBy.2.2.1 9 = .ok (.if_icmp .ge 24, 3) := by decide +kernel
theorem d_Co_notBeatenBy_12 : decode Y_Co_notBeatenBy.2.2.1 12 = .ok (.aload_n 0, 1) := by decide +kernel
theorem d_Co_notBeatenBy_13 : decode Y_Co_notBeatenBy.2.2.1 13 = .ok (.iload_n 1, 1) := by decide +kernel
theorem d_Co_notBeatenBy_14 : decode Y_Co_notBeatenBy.2.2.1 14 = .ok (.iload_n 3, 1) := by decide +kernel
theorem d_Co_notBeatenBy_15 : decode Y_Co_notBeatenBy.2.2.1 15 = .ok (.invokevirtual 53, 3) := by decide +kernel
theorem d_Co_notBeatenBy_18 : decode Y_Co_notBeatenBy.2.2.1 18 = .ok (.ifCond .ne 9, 3) := by decide +kernel
theorem d_Co_notBeatenBy_21 : decode Y_Co_notBeatenBy.2.2.1 21 = .ok (.iload_n 2, 1) := by decide +kernel
theorem d_Co_notBeatenBy_22 : decode Y_Co_notBeatenBy.2.2.1 22 = .ok (.iconst 1, 1) := by decide +kernel
theorem d_Co_notBeatenBy_23 : decode Y_Co_notBeatenBy.2.2.1 23 = .ok (.iload_n 3, 1) := by decide +kernel
theorem d_Co_notBeatenBy_24 : decode Y_Co_notBeatenBy.2.2.1 24 = .ok (.ishl, 1) := by decide +kernel
theorem d_Co_notBeatenBy_25 : decode Y_Co_notBeatenBy.2.2.1 25 = .ok (.ior, 1) := by decide +kernel
theorem d_Co_notBeatenBy_26 : decode Y_Co_notBeatenBy.2.2.1 26 = .ok (.istore_n 2, 1) := by decide +kernel
theorem d_Co_notBeatenBy_27 : decode Y_Co_notBeatenBy.2.2.1 27 = .ok (.iinc 3 1, 3) := by decide +kernel
theorem d_Co_notBeatenBy_30 : decode Y_Co_notBeatenBy.2.2.1 30 = .ok (.goto (-26), 3) := by decide +kernel
theorem d_Co_notBeatenBy_33 : decode Y_Co_notBeatenBy.2.2.1 33 = .ok (.iload_n 2, 1) := by decide +kernel
theorem d_Co_notBeatenBy_34 : decode Y_Co_notBeatenBy.2.2.1 34 = .ok (.ireturn, 1) := by decide +kernel
theorem d_Ar_fill_0 : decode Y_Ar_fill.2.2.1 0 = .ok (.iconst 0, 1) := by decide +kernel
theorem d_Ar_fill_1 : decode Y_Ar_fill.2.2.1 1 = .ok (.istore_n 2, 1) := by decide +kernel
theorem d_Ar_fill_2 : decode Y_Ar_fill.2.2.1 2 = .ok (.aload_n 0, 1) := by decide +kernel
theorem d_Ar_fill_3 : decode Y_Ar_fill.2.2.1 3 = .ok (.arraylength, 1) := by decide +kernel
theorem d_Ar_fill_4 : decode Y_Ar_fill.2.2.1 4 = .ok (.istore_n 3, 1) := by decide +kernel
theorem d_Ar_fill_5 : decode Y_Ar_fill.2.2.1 5 = .ok (.iload_n 2, 1) := by decide +kernel
theorem d_Ar_fill_6 : decode Y_Ar_fill.2.2.1 6 = .ok (.iload_n 3, 1) := by decide +kernel
theorem d_Ar_fill_7 : decode Y_Ar_fill.2.2.1 7 = .ok (.if_icmp .ge 13, 3) := by decide +kernel
theorem d_Ar_fill_10 : decode Y_Ar_fill.2.2.1 10 = .ok (.aload_n 0, 1) := by decide +kernel
theorem d_Ar_fill_11 : decode Y_Ar_fill.2.2.1 11 = .ok (.iload_n 2, 1) := by decide +kernel
theorem d_Ar_fill_12 : decode Y_Ar_fill.2.2.1 12 = .ok (.iload_n 1, 1) := by decide +kernel
theorem d_Ar_fill_13 : decode Y_Ar_fill.2.2.1 13 = .ok (.iastore, 1) := by decide +kernel
theorem d_Ar_fill_14 : decode Y_Ar_fill.2.2.1 14 = .ok (.iinc 2 1, 3) := by decide +kernel
theorem d_Ar_fill_17 : decode Y_Ar_fill.2.2.1 17 = .ok (.goto (-12), 3) := by decide +kernel
theorem d_Ar_fill_20 : decode Y_Ar_fill.2.2.1 20 = .ok (.return_, 1) := by decide +kernel
theorem d_In_bitCount_0 : decode Y_In_bitCount.2.2.1 0 = .ok (.iload_n 0, 1) := by decide +kernel
theorem d_In_bitCount_1 : decode Y_In_bitCount.2.2.1 1 = .ok (.iload_n 0, 1) := by decide +kernel
theorem d_In_bitCount_2 : decode Y_In_bitCount.2.2.1 2 = .ok (.iconst 1, 1) := by decide +kernel
theorem d_In_bitCount_3 : decode Y_In_bitCount.2.2.1 3 = .ok (.iushr, 1) := by decide +kernel
theorem d_In_bitCount_4 : decode Y_In_bitCount.2.2.1 4 = .ok (.ldc_w 265, 3) := by decide +kernel
theorem d_In_bitCount_7 : decode Y_In_bitCount.2.2.1 7 = .ok (.iand, 1) := by decide +kernel
theorem d_In_bitCount_8 : decode Y_In_bitCount.2.2.1 8 = .ok (.isub, 1) := by decide +kernel
theorem d_In_bitCount_9 : decode Y_In_bitCount.2.2.1 9 = .ok (.istore_n 0, 1) := by decide +kernel
theorem d_In_bitCount_10 : decode Y_In_bitCount.2.2.1 10 = .ok (.iload_n 0, 1) := by decide +kernel
theorem d_In_bitCount_11 : decode Y_In_bitCount.2.2.1 11 = .ok (.ldc_w 266, 3) := by decide +kernel
theorem d_In_bitCount_14 : decode Y_In_bitCount.2.2.1 14 = .ok (.iand, 1) := by decide +kernel
theorem d_In_bitCount_15 : decode Y_In_bitCount.2.2.1 15 = .ok (.iload_n 0, 1) := by decide +kernel
theorem d_In_bitCount_16 : decode Y_In_bitCount.2.2.1 16 = .ok (.iconst 2, 1) := by decide +kernel
theorem d_In_bitCount_17 : decode Y_In_bitCount.2.2.1 17 = .ok (.iushr, 1) := by decide +kernel
theorem d_In_bitCount_18 : decode Y_In_bitCount.2.2.1 18 = .ok (.ldc_w 266, 3) := by decide +kernel
theorem d_In_bitCount_21 : decode Y_In_bitCount.2.2.1 21 = .ok (.iand, 1) := by decide +kernel
theorem d_In_bitCount_22 : decode Y_In_bitCount.2.2.1 22 = .ok (.iadd, 1) := by decide +kernel
theorem d_In_bitCount_23 : decode Y_In_bitCount.2.2.1 23 = .ok (.istore_n 0, 1) := by decide +kernel
theorem d_In_bitCount_24 : decode Y_In_bitCount.2.2.1 24 = .ok (.iload_n 0, 1) := by decide +kernel
theorem d_In_bitCount_25 : decode Y_In_bitCount.2.2.1 25 = .ok (.iload_n 0, 1) := by decide +kernel
theorem d_In_bitCount_26 : decode Y_In_bitCount.2.2.1 26 = .ok (.iconst 4, 1) := by decide +kernel
theorem d_In_bitCount_27 : decode Y_In_bitCount.2.2.1 27 = .ok (.iushr, 1) := by decide +kernel
theorem d_In_bitCount_28 : decode Y_In_bitCount.2.2.1 28 = .ok (.iadd, 1) := by decide +kernel
theorem d_In_bitCount_29 : decode Y_In_bitCount.2.2.1 29 = .ok (.ldc_w 267, 3) := by decide +kernel
theorem d_In_bitCount_32 : decode Y_In_bitCount.2.2.1 32 = .ok (.iand, 1) := by decide +kernel
theorem d_In_bitCount_33 : decode Y_In_bitCount.2.2.1 33 = .ok (.istore_n 0, 1) := by decide +kernel
theorem d_In_bitCount_34 : decode Y_In_bitCount.2.2.1 34 = .ok (.iload_n 0, 1) := by decide +kernel
theorem d_In_bitCount_35 : decode Y_In_bitCount.2.2.1 35 = .ok (.iload_n 0, 1) := by decide +kernel
theorem d_In_bitCount_36 : decode Y_In_bitCount.2.2.1 36 = .ok (.bipush 8, 2) := by decide +kernel
theorem d_In_bitCount_38 : decode Y_In_bitCount.2.2.1 38 = .ok (.iushr, 1) := by decide +kernel
theorem d_In_bitCount_39 : decode Y_In_bitCount.2.2.1 39 = .ok (.iadd, 1) := by decide +kernel
theorem d_In_bitCount_40 : decode Y_In_bitCount.2.2.1 40 = .ok (.istore_n 0, 1) := by decide +kernel
theorem d_In_bitCount_41 : decode Y_In_bitCount.2.2.1 41 = .ok (.iload_n 0, 1) := by decide +kernel
theorem d_In_bitCount_42 : decode Y_In_bitCount.2.2.1 42 = .ok (.iload_n 0, 1) := by decide +kernel
theorem d_In_bitCount_43 : decode Y_In_bitCount.2.2.1 43 = .ok (.bipush 16, 2) := by decide +kernel
theorem d_In_bitCount_45 : decode Y_In_bitCount.2.2.1 45 = .ok (.iushr, 1) := by decide +kernel
theorem d_In_bitCount_46 : decode Y_In_bitCount.2.2.1 46 = .ok (.iadd, 1) := by decide +kernel
theorem d_In_bitCount_47 : decode Y_In_bitCount.2.2.1 47 = .ok (.istore_n 0, 1) := by decide +kernel
theorem d_In_bitCount_48 : decode Y_In_bitCount.2.2.1 48 = .ok (.iload_n 0, 1) := by decide +kernel
theorem d_In_bitCount_49 : decode Y_In_bitCount.2.2.1 49 = .ok (.bipush 63, 2) := by decide +kernel
theorem d_In_bitCount_51 : decode Y_In_bitCount.2.2.1 51 = .ok (.iand, 1) := by decide +kernel
theorem d_In_bitCount_52 : decode Y_In_bitCount.2.2.1 52 = .ok (.ireturn, 1) := by decide +kernel
end
section
/-! decode rows, written by gen/dec.py -/
theorem d_La_cell_0 : decode Y_La_cell.2.2.1 0 = .ok (.iload_n 1, 1) := by decide +kernel
theorem d_La_cell_1 : decode Y_La_cell.2.2.1 1 = .ok (.aload_n 0, 1) := by decide +kernel
theorem d_La_cell_2 : decode Y_La_cell.2.2.1 2 = .ok (.arraylength, 1) := by decide +kernel
theorem d_La_cell_3 : decode Y_La_cell.2.2.1 3 = .ok (.if_icmp .ge 9, 3) := by decide +kernel
theorem d_La_cell_6 : decode Y_La_cell.2.2.1 6 = .ok (.aload_n 0, 1) := by decide +kernel
theorem d_La_cell_7 : decode Y_La_cell.2.2.1 7 = .ok (.iload_n 1, 1) := by decide +kernel
theorem d_La_cell_8 : decode Y_La_cell.2.2.1 8 = .ok (.iaload, 1) := by decide +kernel
theorem d_La_cell_9 : decode Y_La_cell.2.2.1 9 = .ok (.goto 4, 3) := by decide +kernel
theorem d_La_cell_12 : decode Y_La_cell.2.2.1 12 = .ok (.iconst 0, 1) := by decide +kernel
theorem d_La_cell_13 : decode Y_La_cell.2.2.1 13 = .ok (.ireturn, 1) := by decide +kernel
theorem d_La_tie_0 : decode Y_La_tie.2.2.1 0 = .ok (.aload_n 0, 1) := by decide +kernel
theorem d_La_tie_1 : decode Y_La_tie.2.2.1 1 = .ok (.iload_n 1, 1) := by decide +kernel
theorem d_La_tie_2 : decode Y_La_tie.2.2.1 2 = .ok (.iload_n 2, 1) := by decide +kernel
theorem d_La_tie_3 : decode Y_La_tie.2.2.1 3 = .ok (.invokevirtual 7, 3) := by decide +kernel
theorem d_La_tie_6 : decode Y_La_tie.2.2.1 6 = .ok (.goto 9, 3) := by decide +kernel
theorem d_La_tie_9 : decode Y_La_tie.2.2.1 9 = .ok (.astore_n 3, 1) := by decide +kernel
theorem d_La_tie_10 : decode Y_La_tie.2.2.1 10 = .ok (.iconst 1, 1) := by decide +kernel
theorem d_La_tie_11 : decode Y_La_tie.2.2.1 11 = .ok (.ireturn, 1) := by decide +kernel
theorem d_La_tie_12 : decode Y_La_tie.2.2.1 12 = .ok (.astore_n 3, 1) := by decide +kernel
theorem d_La_tie_13 : decode Y_La_tie.2.2.1 13 = .ok (.iconst 2, 1) := by decide +kernel
theorem d_La_tie_14 : decode Y_La_tie.2.2.1 14 = .ok (.ireturn, 1) := by decide +kernel
theorem d_La_tie_15 : decode Y_La_tie.2.2.1 15 = .ok (.iconst 0, 1) := by decide +kernel
theorem d_La_tie_16 : decode Y_La_tie.2.2.1 16 = .ok (.ireturn, 1) := by decide +kernel
theorem d_La_drawn_0 : decode Y_La_drawn.2.2.1 0 = .ok (.aload_n 2, 1) := by decide +kernel
theorem d_La_drawn_1 : decode Y_La_drawn.2.2.1 1 = .ok (.iconst 0, 1) := by decide +kernel
theorem d_La_drawn_2 : decode Y_La_drawn.2.2.1 2 = .ok (.aload_n 0, 1) := by decide +kernel
theorem d_La_drawn_3 : decode Y_La_drawn.2.2.1 3 = .ok (.iload_n 1, 1) := by decide +kernel
theorem d_La_drawn_4 : decode Y_La_drawn.2.2.1 4 = .ok (.invokevirtual 17, 3) := by decide +kernel
theorem d_La_drawn_7 : decode Y_La_drawn.2.2.1 7 = .ok (.i2l, 1) := by decide +kernel
theorem d_La_drawn_8 : decode Y_La_drawn.2.2.1 8 = .ok (.lastore, 1) := by decide +kernel
theorem d_La_drawn_9 : decode Y_La_drawn.2.2.1 9 = .ok (.goto 6, 3) := by decide +kernel
theorem d_La_drawn_12 : decode Y_La_drawn.2.2.1 12 = .ok (.astore_n 3, 1) := by decide +kernel
theorem d_La_drawn_13 : decode Y_La_drawn.2.2.1 13 = .ok (.iconst 1, 1) := by decide +kernel
theorem d_La_drawn_14 : decode Y_La_drawn.2.2.1 14 = .ok (.ireturn, 1) := by decide +kernel
theorem d_La_drawn_15 : decode Y_La_drawn.2.2.1 15 = .ok (.iconst 0, 1) := by decide +kernel
theorem d_La_drawn_16 : decode Y_La_drawn.2.2.1 16 = .ok (.ireturn, 1) := by decide +kernel
theorem d_La_open_0 : decode Y_La_open.2.2.1 0 = .ok (.aload_n 1, 1) := by decide +kernel
theorem d_La_open_1 : decode Y_La_open.2.2.1 1 = .ok (.iconst 0, 1) := by decide +kernel
theorem d_La_open_2 : decode Y_La_open.2.2.1 2 = .ok (.aload_n 0, 1) := by decide +kernel
theorem d_La_open_3 : decode Y_La_open.2.2.1 3 = .ok (.invokevirtual 23, 3) := by decide +kernel
theorem d_La_open_6 : decode Y_La_open.2.2.1 6 = .ok (.i2l, 1) := by decide +kernel
theorem d_La_open_7 : decode Y_La_open.2.2.1 7 = .ok (.lastore, 1) := by decide +kernel
theorem d_La_open_8 : decode Y_La_open.2.2.1 8 = .ok (.goto 6, 3) := by decide +kernel
theorem d_La_open_11 : decode Y_La_open.2.2.1 11 = .ok (.astore_n 2, 1) := by decide +kernel
theorem d_La_open_12 : decode Y_La_open.2.2.1 12 = .ok (.iconst 1, 1) := by decide +kernel
theorem d_La_open_13 : decode Y_La_open.2.2.1 13 = .ok (.ireturn, 1) := by decide +kernel
theorem d_La_open_14 : decode Y_La_open.2.2.1 14 = .ok (.iconst 0, 1) := by decide +kernel
theorem d_La_open_15 : decode Y_La_open.2.2.1 15 = .ok (.ireturn, 1) := by decide +kernel
theorem d_La_ballot_0 : decode Y_La_ballot.2.2.1 0 = .ok (.aload 4, 2) := by decide +kernel
theorem d_La_ballot_2 : decode Y_La_ballot.2.2.1 2 = .ok (.iconst 0, 1) := by decide +kernel
theorem d_La_ballot_3 : decode Y_La_ballot.2.2.1 3 = .ok (.aload_n 0, 1) := by decide +kernel
theorem d_La_ballot_4 : decode Y_La_ballot.2.2.1 4 = .ok (.iload_n 1, 1) := by decide +kernel
theorem d_La_ballot_5 : decode Y_La_ballot.2.2.1 5 = .ok (.iload_n 2, 1) := by decide +kernel
theorem d_La_ballot_6 : decode Y_La_ballot.2.2.1 6 = .ok (.iload_n 3, 1) := by decide +kernel
theorem d_La_ballot_7 : decode Y_La_ballot.2.2.1 7 = .ok (.invokevirtual 27, 3) := by decide +kernel
theorem d_La_ballot_10 : decode Y_La_ballot.2.2.1 10 = .ok (.i2l, 1) := by decide +kernel
theorem d_La_ballot_11 : decode Y_La_ballot.2.2.1 11 = .ok (.lastore, 1) := by decide +kernel
theorem d_La_ballot_12 : decode Y_La_ballot.2.2.1 12 = .ok (.goto 11, 3) := by decide +kernel
theorem d_La_ballot_15 : decode Y_La_ballot.2.2.1 15 = .ok (.astore 5, 2) := by decide +kernel
theorem d_La_ballot_17 : decode Y_La_ballot.2.2.1 17 = .ok (.iconst 1, 1) := by decide +kernel
theorem d_La_ballot_18 : decode Y_La_ballot.2.2.1 18 = .ok (.ireturn, 1) := by decide +kernel
theorem d_La_ballot_19 : decode Y_La_ballot.2.2.1 19 = .ok (.astore 5, 2) := by decide +kernel
theorem d_La_ballot_21 : decode Y_La_ballot.2.2.1 21 = .ok (.iconst 2, 1) := by decide +kernel
theorem d_La_ballot_22 : decode Y_La_ballot.2.2.1 22 = .ok (.ireturn, 1) := by decide +kernel
theorem d_La_ballot_23 : decode Y_La_ballot.2.2.1 23 = .ok (.iconst 0, 1) := by decide +kernel
theorem d_La_ballot_24 : decode Y_La_ballot.2.2.1 24 = .ok (.ireturn, 1) := by decide +kernel
theorem d_La_turn_0 : decode Y_La_turn.2.2.1 0 = .ok (.aload_n 0, 1) := by decide +kernel
theorem d_La_turn_1 : decode Y_La_turn.2.2.1 1 = .ok (.iload_n 1, 1) := by decide +kernel
theorem d_La_turn_2 : decode Y_La_turn.2.2.1 2 = .ok (.iload_n 2, 1) := by decide +kernel
theorem d_La_turn_3 : decode Y_La_turn.2.2.1 3 = .ok (.invokevirtual 31, 3) := by decide +kernel
theorem d_La_turn_6 : decode Y_La_turn.2.2.1 6 = .ok (.goto 9, 3) := by decide +kernel
theorem d_La_turn_9 : decode Y_La_turn.2.2.1 9 = .ok (.astore_n 3, 1) := by decide +kernel
theorem d_La_turn_10 : decode Y_La_turn.2.2.1 10 = .ok (.iconst 1, 1) := by decide +kernel
theorem d_La_turn_11 : decode Y_La_turn.2.2.1 11 = .ok (.ireturn, 1) := by decide +kernel
theorem d_La_turn_12 : decode Y_La_turn.2.2.1 12 = .ok (.astore_n 3, 1) := by decide +kernel
theorem d_La_turn_13 : decode Y_La_turn.2.2.1 13 = .ok (.iconst 2, 1) := by decide +kernel
theorem d_La_turn_14 : decode Y_La_turn.2.2.1 14 = .ok (.ireturn, 1) := by decide +kernel
theorem d_La_turn_15 : decode Y_La_turn.2.2.1 15 = .ok (.iconst 0, 1) := by decide +kernel
theorem d_La_turn_16 : decode Y_La_turn.2.2.1 16 = .ok (.ireturn, 1) := by decide +kernel
theorem d_La_correct_0 : decode Y_La_correct.2.2.1 0 = .ok (.aload 4, 2) := by decide +kernel
theorem d_La_correct_2 : decode Y_La_correct.2.2.1 2 = .ok (.iconst 0, 1) := by decide +kernel
theorem d_La_correct_3 : decode Y_La_correct.2.2.1 3 = .ok (.aload_n 0, 1) := by decide +kernel
theorem d_La_correct_4 : decode Y_La_correct.2.2.1 4 = .ok (.iload_n 1, 1) := by decide +kernel
theorem d_La_correct_5 : decode Y_La_correct.2.2.1 5 = .ok (.iload_n 2, 1) := by decide +kernel
theorem d_La_correct_6 : decode Y_La_correct.2.2.1 6 = .ok (.iload_n 3, 1) := by decide +kernel
theorem d_La_correct_7 : decode Y_La_correct.2.2.1 7 = .ok (.invokevirtual 34, 3) := by decide +kernel
theorem d_La_correct_10 : decode Y_La_correct.2.2.1 10 = .ok (.i2l, 1) := by decide +kernel
theorem d_La_correct_11 : decode Y_La_correct.2.2.1 11 = .ok (.lastore, 1) := by decide +kernel
theorem d_La_correct_12 : decode Y_La_correct.2.2.1 12 = .ok (.goto 15, 3) := by decide +kernel
theorem d_La_correct_15 : decode Y_La_correct.2.2.1 15 = .ok (.astore 5, 2) := by decide +kernel
theorem d_La_correct_17 : decode Y_La_correct.2.2.1 17 = .ok (.iconst 1, 1) := by decide +kernel
theorem d_La_correct_18 : decode Y_La_correct.2.2.1 18 = .ok (.ireturn, 1) := by decide +kernel
theorem d_La_correct_19 : decode Y_La_correct.2.2.1 19 = .ok (.astore 5, 2) := by decide +kernel
theorem d_La_correct_21 : decode Y_La_correct.2.2.1 21 = .ok (.iconst 2, 1) := by decide +kernel
theorem d_La_correct_22 : decode Y_La_correct.2.2.1 22 = .ok (.ireturn, 1) := by decide +kernel
theorem d_La_correct_23 : decode Y_La_correct.2.2.1 23 = .ok (.astore 5, 2) := by decide +kernel
theorem d_La_correct_25 : decode Y_La_correct.2.2.1 25 = .ok (.iconst 3, 1) := by decide +kernel
theorem d_La_correct_26 : decode Y_La_correct.2.2.1 26 = .ok (.ireturn, 1) := by decide +kernel
theorem d_La_correct_27 : decode Y_La_correct.2.2.1 27 = .ok (.iconst 0, 1) := by decide +kernel
theorem d_La_correct_28 : decode Y_La_correct.2.2.1 28 = .ok (.ireturn, 1) := by decide +kernel
theorem d_La_state_0 : decode Y_La_state.2.2.1 0 = .ok (.aload_n 2, 1) := by decide +kernel
theorem d_La_state_1 : decode Y_La_state.2.2.1 1 = .ok (.iconst 0, 1) := by decide +kernel
theorem d_La_state_2 : decode Y_La_state.2.2.1 2 = .ok (.aload_n 0, 1) := by decide +kernel
theorem d_La_state_3 : decode Y_La_state.2.2.1 3 = .ok (.iload_n 1, 1) := by decide +kernel
theorem d_La_state_4 : decode Y_La_state.2.2.1 4 = .ok (.invokevirtual 37, 3) := by decide +kernel
theorem d_La_state_7 : decode Y_La_state.2.2.1 7 = .ok (.i2l, 1) := by decide +kernel
theorem d_La_state_8 : decode Y_La_state.2.2.1 8 = .ok (.lastore, 1) := by decide +kernel
theorem d_La_state_9 : decode Y_La_state.2.2.1 9 = .ok (.goto 6, 3) := by decide +kernel
theorem d_La_state_12 : decode Y_La_state.2.2.1 12 = .ok (.astore_n 3, 1) := by decide +kernel
theorem d_La_state_13 : decode Y_La_state.2.2.1 13 = .ok (.iconst 1, 1) := by decide +kernel
theorem d_La_state_14 : decode Y_La_state.2.2.1 14 = .ok (.ireturn, 1) := by decide +kernel
theorem d_La_state_15 : decode Y_La_state.2.2.1 15 = .ok (.iconst 0, 1) := by decide +kernel
theorem d_La_state_16 : decode Y_La_state.2.2.1 16 = .ok (.ireturn, 1) := by decide +kernel
theorem d_La_prefer_0 : decode Y_La_prefer.2.2.1 0 = .ok (.aload_n 3, 1) := by decide +kernel
theorem d_La_prefer_1 : decode Y_La_prefer.2.2.1 1 = .ok (.iconst 0, 1) := by decide +kernel
theorem d_La_prefer_2 : decode Y_La_prefer.2.2.1 2 = .ok (.aload_n 0, 1) := by decide +kernel
theorem d_La_prefer_3 : decode Y_La_prefer.2.2.1 3 = .ok (.iload_n 1, 1) := by decide +kernel
theorem d_La_prefer_4 : decode Y_La_prefer.2.2.1 4 = .ok (.iload_n 2, 1) := by decide +kernel
theorem d_La_prefer_5 : decode Y_La_prefer.2.2.1 5 = .ok (.invokevirtual 40, 3) := by decide +kernel
theorem d_La_prefer_8 : decode Y_La_prefer.2.2.1 8 = .ok (.i2l, 1) := by decide +kernel
theorem d_La_prefer_9 : decode Y_La_prefer.2.2.1 9 = .ok (.lastore, 1) := by decide +kernel
theorem d_La_prefer_10 : decode Y_La_prefer.2.2.1 10 = .ok (.goto 7, 3) := by decide +kernel
theorem d_La_prefer_13 : decode Y_La_prefer.2.2.1 13 = .ok (.astore 4, 2) := by decide +kernel
theorem d_La_prefer_15 : decode Y_La_prefer.2.2.1 15 = .ok (.iconst 1, 1) := by decide +kernel
theorem d_La_prefer_16 : decode Y_La_prefer.2.2.1 16 = .ok (.ireturn, 1) := by decide +kernel
theorem d_La_prefer_17 : decode Y_La_prefer.2.2.1 17 = .ok (.iconst 0, 1) := by decide +kernel
theorem d_La_prefer_18 : decode Y_La_prefer.2.2.1 18 = .ok (.ireturn, 1) := by decide +kernel
theorem d_La_strength_0 : decode Y_La_strength.2.2.1 0 = .ok (.aload_n 3, 1) := by decide +kernel
theorem d_La_strength_1 : decode Y_La_strength.2.2.1 1 = .ok (.iconst 0, 1) := by decide +kernel
theorem d_La_strength_2 : decode Y_La_strength.2.2.1 2 = .ok (.aload_n 0, 1) := by decide +kernel
theorem d_La_strength_3 : decode Y_La_strength.2.2.1 3 = .ok (.iload_n 1, 1) := by decide +kernel
theorem d_La_strength_4 : decode Y_La_strength.2.2.1 4 = .ok (.iload_n 2, 1) := by decide +kernel
theorem d_La_strength_5 : decode Y_La_strength.2.2.1 5 = .ok (.invokevirtual 44, 3) := by decide +kernel
theorem d_La_strength_8 : decode Y_La_strength.2.2.1 8 = .ok (.i2l, 1) := by decide +kernel
theorem d_La_strength_9 : decode Y_La_strength.2.2.1 9 = .ok (.lastore, 1) := by decide +kernel
theorem d_La_strength_10 : decode Y_La_strength.2.2.1 10 = .ok (.goto 7, 3) := by decide +kernel
theorem d_La_strength_13 : decode Y_La_strength.2.2.1 13 = .ok (.astore 4, 2) := by decide +kernel
theorem d_La_strength_15 : decode Y_La_strength.2.2.1 15 = .ok (.iconst 1, 1) := by decide +kernel
theorem d_La_strength_16 : decode Y_La_strength.2.2.1 16 = .ok (.ireturn, 1) := by decide +kernel
theorem d_La_strength_17 : decode Y_La_strength.2.2.1 17 = .ok (.iconst 0, 1) := by decide +kernel
theorem d_La_strength_18 : decode Y_La_strength.2.2.1 18 = .ok (.ireturn, 1) := by decide +kernel
theorem d_La_way_0 : decode Y_La_way.2.2.1 0 = .ok (.aload_n 3, 1) := by decide +kernel
theorem d_La_way_1 : decode Y_La_way.2.2.1 1 = .ok (.iconst 0, 1) := by decide +kernel
theorem d_La_way_2 : decode Y_La_way.2.2.1 2 = .ok (.aload_n 0, 1) := by decide +kernel
theorem d_La_way_3 : decode Y_La_way.2.2.1 3 = .ok (.iload_n 1, 1) := by decide +kernel
theorem d_La_way_4 : decode Y_La_way.2.2.1 4 = .ok (.iload_n 2, 1) := by decide +kernel
theorem d_La_way_5 : decode Y_La_way.2.2.1 5 = .ok (.invokevirtual 47, 3) := by decide +kernel
theorem d_La_way_8 : decode Y_La_way.2.2.1 8 = .ok (.i2l, 1) := by decide +kernel
theorem d_La_way_9 : decode Y_La_way.2.2.1 9 = .ok (.lastore, 1) := by decide +kernel
theorem d_La_way_10 : decode Y_La_way.2.2.1 10 = .ok (.goto 7, 3) := by decide +kernel
theorem d_La_way_13 : decode Y_La_way.2.2.1 13 = .ok (.astore 4, 2) := by decide +kernel
theorem d_La_way_15 : decode Y_La_way.2.2.1 15 = .ok (.iconst 1, 1) := by decide +kernel
theorem d_La_way_16 : decode Y_La_way.2.2.1 16 = .ok (.ireturn, 1) := by decide +kernel
theorem d_La_way_17 : decode Y_La_way.2.2.1 17 = .ok (.iconst 0, 1) := by decide +kernel
theorem d_La_way_18 : decode Y_La_way.2.2.1 18 = .ok (.ireturn, 1) := by decide +kernel
theorem d_La_cut_0 : decode Y_La_cut.2.2.1 0 = .ok (.aload_n 3, 1) := by decide +kernel
theorem d_La_cut_1 : decode Y_La_cut.2.2.1 1 = .ok (.iconst 0, 1) := by decide +kernel
theorem d_La_cut_2 : decode Y_La_cut.2.2.1 2 = .ok (.aload_n 0, 1) := by decide +kernel
theorem d_La_cut_3 : decode Y_La_cut.2.2.1 3 = .ok (.iload_n 1, 1) := by decide +kernel
theorem d_La_cut_4 : decode Y_La_cut.2.2.1 4 = .ok (.iload_n 2, 1) := by decide +kernel
theorem d_La_cut_5 : decode Y_La_cut.2.2.1 5 = .ok (.invokevirtual 50, 3) := by decide +kernel
theorem d_La_cut_8 : decode Y_La_cut.2.2.1 8 = .ok (.i2l, 1) := by decide +kernel
theorem d_La_cut_9 : decode Y_La_cut.2.2.1 9 = .ok (.lastore, 1) := by decide +kernel
theorem d_La_cut_10 : decode Y_La_cut.2.2.1 10 = .ok (.goto 7, 3) := by decide +kernel
theorem d_La_cut_13 : decode Y_La_cut.2.2.1 13 = .ok (.astore 4, 2) := by decide +kernel
theorem d_La_cut_15 : decode Y_La_cut.2.2.1 15 = .ok (.iconst 1, 1) := by decide +kernel
theorem d_La_cut_16 : decode Y_La_cut.2.2.1 16 = .ok (.ireturn, 1) := by decide +kernel
theorem d_La_cut_17 : decode Y_La_cut.2.2.1 17 = .ok (.iconst 0, 1) := by decide +kernel
theorem d_La_cut_18 : decode Y_La_cut.2.2.1 18 = .ok (.ireturn, 1) := by decide +kernel
theorem d_La_proves_0 : decode Y_La_proves.2.2.1 0 = .ok (.aload 6, 2) := by decide +kernel
theorem d_La_proves_2 : decode Y_La_proves.2.2.1 2 = .ok (.iconst 0, 1) := by decide +kernel
theorem d_La_proves_3 : decode Y_La_proves.2.2.1 3 = .ok (.aload_n 0, 1) := by decide +kernel
theorem d_La_proves_4 : decode Y_La_proves.2.2.1 4 = .ok (.iload_n 1, 1) := by decide +kernel
theorem d_La_proves_5 : decode Y_La_proves.2.2.1 5 = .ok (.iload_n 2, 1) := by decide +kernel
theorem d_La_proves_6 : decode Y_La_proves.2.2.1 6 = .ok (.iload_n 3, 1) := by decide +kernel
theorem d_La_proves_7 : decode Y_La_proves.2.2.1 7 = .ok (.iload 4, 2) := by decide +kernel
theorem d_La_proves_9 : decode Y_La_proves.2.2.1 9 = .ok (.iload 5, 2) := by decide +kernel
theorem d_La_proves_11 : decode Y_La_proves.2.2.1 11 = .ok (.invokevirtual 53, 3) := by decide +kernel
theorem d_La_proves_14 : decode Y_La_proves.2.2.1 14 = .ok (.ifCond .eq 7, 3) := by decide +kernel
theorem d_La_proves_17 : decode Y_La_proves.2.2.1 17 = .ok (.lconst 1, 1) := by decide +kernel
theorem d_La_proves_18 : decode Y_La_proves.2.2.1 18 = .ok (.goto 4, 3) := by decide +kernel
theorem d_La_proves_21 : decode Y_La_proves.2.2.1 21 = .ok (.lconst 0, 1) := by decide +kernel
theorem d_La_proves_22 : decode Y_La_proves.2.2.1 22 = .ok (.lastore, 1) := by decide +kernel
theorem d_La_proves_23 : decode Y_La_proves.2.2.1 23 = .ok (.goto 7, 3) := by decide +kernel
theorem d_La_proves_26 : decode Y_La_proves.2.2.1 26 = .ok (.astore 7, 2) := by decide +kernel
theorem d_La_proves_28 : decode Y_La_proves.2.2.1 28 = .ok (.iconst 1, 1) := by decide +kernel
theorem d_La_proves_29 : decode Y_La_proves.2.2.1 29 = .ok (.ireturn, 1) := by decide +kernel
theorem d_La_proves_30 : decode Y_La_proves.2.2.1 30 = .ok (.iconst 0, 1) := by decide +kernel
theorem d_La_proves_31 : decode Y_La_proves.2.2.1 31 = .ok (.ireturn, 1) := by decide +kernel
theorem d_La_winner_0 : decode Y_La_winner.2.2.1 0 = .ok (.aload_n 2, 1) := by decide +kernel
theorem d_La_winner_1 : decode Y_La_winner.2.2.1 1 = .ok (.iconst 0, 1) := by decide +kernel
theorem d_La_winner_2 : decode Y_La_winner.2.2.1 2 = .ok (.aload_n 0, 1) := by decide +kernel
theorem d_La_winner_3 : decode Y_La_winner.2.2.1 3 = .ok (.iload_n 1, 1) := by decide +kernel
theorem d_La_winner_4 : decode Y_La_winner.2.2.1 4 = .ok (.invokevirtual 57, 3) := by decide +kernel
theorem d_La_winner_7 : decode Y_La_winner.2.2.1 7 = .ok (.i2l, 1) := by decide +kernel
theorem d_La_winner_8 : decode Y_La_winner.2.2.1 8 = .ok (.lastore, 1) := by decide +kernel
theorem d_La_winner_9 : decode Y_La_winner.2.2.1 9 = .ok (.goto 6, 3) := by decide +kernel
theorem d_La_winner_12 : decode Y_La_winner.2.2.1 12 = .ok (.astore_n 3, 1) := by decide +kernel
theorem d_La_winner_13 : decode Y_La_winner.2.2.1 13 = .ok (.iconst 1, 1) := by decide +kernel
theorem d_La_winner_14 : decode Y_La_winner.2.2.1 14 = .ok (.ireturn, 1) := by decide +kernel
theorem d_La_winner_15 : decode Y_La_winner.2.2.1 15 = .ok (.iconst 0, 1) := by decide +kernel
theorem d_La_winner_16 : decode Y_La_winner.2.2.1 16 = .ok (.ireturn, 1) := by decide +kernel
theorem d_La_locked_0 : decode Y_La_locked.2.2.1 0 = .ok (.aload_n 3, 1) := by decide +kernel
theorem d_La_locked_1 : decode Y_La_locked.2.2.1 1 = .ok (.iconst 0, 1) := by decide +kernel
theorem d_La_locked_2 : decode Y_La_locked.2.2.1 2 = .ok (.aload_n 0, 1) := by decide +kernel
theorem d_La_locked_3 : decode Y_La_locked.2.2.1 3 = .ok (.iload_n 1, 1) := by decide +kernel
theorem d_La_locked_4 : decode Y_La_locked.2.2.1 4 = .ok (.iload_n 2, 1) := by decide +kernel
theorem d_La_locked_5 : decode Y_La_locked.2.2.1 5 = .ok (.invokevirtual 60, 3) := by decide +kernel
theorem d_La_locked_8 : decode Y_La_locked.2.2.1 8 = .ok (.ifCond .eq 7, 3) := by decide +kernel
theorem d_La_locked_11 : decode Y_La_locked.2.2.1 11 = .ok (.lconst 1, 1) := by decide +kernel
theorem d_La_locked_12 : decode Y_La_locked.2.2.1 12 = .ok (.goto 4, 3) := by decide +kernel
theorem d_La_locked_15 : decode Y_La_locked.2.2.1 15 = .ok (.lconst 0, 1) := by decide +kernel
theorem d_La_locked_16 : decode Y_La_locked.2.2.1 16 = .ok (.lastore, 1) := by decide +kernel
theorem d_La_locked_17 : decode Y_La_locked.2.2.1 17 = .ok (.goto 7, 3) := by decide +kernel
theorem d_La_locked_20 : decode Y_La_locked.2.2.1 20 = .ok (.astore 4, 2) := by decide +kernel
theorem d_La_locked_22 : decode Y_La_locked.2.2.1 22 = .ok (.iconst 1, 1) := by decide +kernel
theorem d_La_locked_23 : decode Y_La_locked.2.2.1 23 = .ok (.ireturn, 1) := by decide +kernel
theorem d_La_locked_24 : decode Y_La_locked.2.2.1 24 = .ok (.iconst 0, 1) := by decide +kernel
theorem d_La_locked_25 : decode Y_La_locked.2.2.1 25 = .ok (.ireturn, 1) := by decide +kernel
theorem d_La_order_0 : decode Y_La_order.2.2.1 0 = .ok (.aload_n 2, 1) := by decide +kernel
theorem d_La_order_1 : decode Y_La_order.2.2.1 1 = .ok (.iconst 0, 1) := by decide +kernel
theorem d_La_order_2 : decode Y_La_order.2.2.1 2 = .ok (.aload_n 0, 1) := by decide +kernel
theorem d_La_order_3 : decode Y_La_order.2.2.1 3 = .ok (.iload_n 1, 1) := by decide +kernel
theorem d_La_order_4 : decode Y_La_order.2.2.1 4 = .ok (.invokevirtual 64, 3) := by decide +kernel
theorem d_La_order_7 : decode Y_La_order.2.2.1 7 = .ok (.i2l, 1) := by decide +kernel
theorem d_La_order_8 : decode Y_La_order.2.2.1 8 = .ok (.lastore, 1) := by decide +kernel
theorem d_La_order_9 : decode Y_La_order.2.2.1 9 = .ok (.goto 6, 3) := by decide +kernel
theorem d_La_order_12 : decode Y_La_order.2.2.1 12 = .ok (.astore_n 3, 1) := by decide +kernel
theorem d_La_order_13 : decode Y_La_order.2.2.1 13 = .ok (.iconst 1, 1) := by decide +kernel
theorem d_La_order_14 : decode Y_La_order.2.2.1 14 = .ok (.ireturn, 1) := by decide +kernel
theorem d_La_order_15 : decode Y_La_order.2.2.1 15 = .ok (.iconst 0, 1) := by decide +kernel
theorem d_La_order_16 : decode Y_La_order.2.2.1 16 = .ok (.ireturn, 1) := by decide +kernel
theorem d_La_top_0 : decode Y_La_top.2.2.1 0 = .ok (.aload_n 2, 1) := by decide +kernel
theorem d_La_top_1 : decode Y_La_top.2.2.1 1 = .ok (.iconst 0, 1) := by decide +kernel
theorem d_La_top_2 : decode Y_La_top.2.2.1 2 = .ok (.aload_n 0, 1) := by decide +kernel
theorem d_La_top_3 : decode Y_La_top.2.2.1 3 = .ok (.iload_n 1, 1) := by decide +kernel
theorem d_La_top_4 : decode Y_La_top.2.2.1 4 = .ok (.invokevirtual 67, 3) := by decide +kernel
theorem d_La_top_7 : decode Y_La_top.2.2.1 7 = .ok (.i2l, 1) := by decide +kernel
theorem d_La_top_8 : decode Y_La_top.2.2.1 8 = .ok (.lastore, 1) := by decide +kernel
theorem d_La_top_9 : decode Y_La_top.2.2.1 9 = .ok (.goto 6, 3) := by decide +kernel
theorem d_La_top_12 : decode Y_La_top.2.2.1 12 = .ok (.astore_n 3, 1) := by decide +kernel
theorem d_La_top_13 : decode Y_La_top.2.2.1 13 = .ok (.iconst 1, 1) := by decide +kernel
theorem d_La_top_14 : decode Y_La_top.2.2.1 14 = .ok (.ireturn, 1) := by decide +kernel
theorem d_La_top_15 : decode Y_La_top.2.2.1 15 = .ok (.iconst 0, 1) := by decide +kernel
theorem d_La_top_16 : decode Y_La_top.2.2.1 16 = .ok (.ireturn, 1) := by decide +kernel
theorem d_La_without_0 : decode Y_La_without.2.2.1 0 = .ok (.aload 4, 2) := by decide +kernel
theorem d_La_without_2 : decode Y_La_without.2.2.1 2 = .ok (.iconst 0, 1) := by decide +kernel
theorem d_La_without_3 : decode Y_La_without.2.2.1 3 = .ok (.aload_n 0, 1) := by decide +kernel
theorem d_La_without_4 : decode Y_La_without.2.2.1 4 = .ok (.iload_n 1, 1) := by decide +kernel
theorem d_La_without_5 : decode Y_La_without.2.2.1 5 = .ok (.iload_n 2, 1) := by decide +kernel
theorem d_La_without_6 : decode Y_La_without.2.2.1 6 = .ok (.iload_n 3, 1) := by decide +kernel
theorem d_La_without_7 : decode Y_La_without.2.2.1 7 = .ok (.invokevirtual 70, 3) := by decide +kernel
theorem d_La_without_10 : decode Y_La_without.2.2.1 10 = .ok (.i2l, 1) := by decide +kernel
theorem d_La_without_11 : decode Y_La_without.2.2.1 11 = .ok (.lastore, 1) := by decide +kernel
theorem d_La_without_12 : decode Y_La_without.2.2.1 12 = .ok (.goto 11, 3) := by decide +kernel
theorem d_La_without_15 : decode Y_La_without.2.2.1 15 = .ok (.astore 5, 2) := by decide +kernel
theorem d_La_without_17 : decode Y_La_without.2.2.1 17 = .ok (.iconst 1, 1) := by decide +kernel
theorem d_La_without_18 : decode Y_La_without.2.2.1 18 = .ok (.ireturn, 1) := by decide +kernel
theorem d_La_without_19 : decode Y_La_without.2.2.1 19 = .ok (.astore 5, 2) := by decide +kernel
theorem d_La_without_21 : decode Y_La_without.2.2.1 21 = .ok (.iconst 2, 1) := by decide +kernel
theorem d_La_without_22 : decode Y_La_without.2.2.1 22 = .ok (.ireturn, 1) := by decide +kernel
theorem d_La_without_23 : decode Y_La_without.2.2.1 23 = .ok (.iconst 0, 1) := by decide +kernel
theorem d_La_without_24 : decode Y_La_without.2.2.1 24 = .ok (.ireturn, 1) := by decide +kernel
end
section
/-! decode rows, written by gen/dec.py -/
theorem d_Lo_init_0 : decode Y_Lo_init.2.2.1 0 = .ok (.aload_n 0, 1) := by decide +kernel
theorem d_Lo_init_1 : decode Y_Lo_init.2.2.1 1 = .ok (.invokespecial 3, 3) := by decide +kernel
theorem d_Lo_init_4 : decode Y_Lo_init.2.2.1 4 = .ok (.aload_n 0, 1) := by decide +kernel
theorem d_Lo_init_5 : decode Y_Lo_init.2.2.1 5 = .ok (.iload_n 1, 1) := by decide +kernel
theorem d_Lo_init_6 : decode Y_Lo_init.2.2.1 6 = .ok (.putfield 9, 3) := by decide +kernel
theorem d_Lo_init_9 : decode Y_Lo_init.2.2.1 9 = .ok (.aload_n 0, 1) := by decide +kernel
theorem d_Lo_init_10 : decode Y_Lo_init.2.2.1 10 = .ok (.iload_n 1, 1) := by decide +kernel
theorem d_Lo_init_11 : decode Y_Lo_init.2.2.1 11 = .ok (.newarray .int, 2) := by decide +kernel
theorem d_Lo_init_13 : decode Y_Lo_init.2.2.1 13 = .ok (.putfield 15, 3) := by decide +kernel
theorem d_Lo_init_16 : decode Y_Lo_init.2.2.1 16 = .ok (.aload_n 0, 1) := by decide +kernel
theorem d_Lo_init_17 : decode Y_Lo_init.2.2.1 17 = .ok (.iload_n 1, 1) := by decide +kernel
theorem d_Lo_init_18 : decode Y_Lo_init.2.2.1 18 = .ok (.newarray .int, 2) := by decide +kernel
theorem d_Lo_init_20 : decode Y_Lo_init.2.2.1 20 = .ok (.putfield 19, 3) := by decide +kernel
theorem d_Lo_init_23 : decode Y_Lo_init.2.2.1 23 = .ok (.aload_n 0, 1) := by decide +kernel
theorem d_Lo_init_24 : decode Y_Lo_init.2.2.1 24 = .ok (.iload_n 1, 1) := by decide +kernel
theorem d_Lo_init_25 : decode Y_Lo_init.2.2.1 25 = .ok (.iload_n 1, 1) := by decide +kernel
theorem d_Lo_init_26 : decode Y_Lo_init.2.2.1 26 = .ok (.imul, 1) := by decide +kernel
theorem d_Lo_init_27 : decode Y_Lo_init.2.2.1 27 = .ok (.newarray .int, 2) := by decide +kernel
theorem d_Lo_init_29 : decode Y_Lo_init.2.2.1 29 = .ok (.putfield 22, 3) := by decide +kernel
theorem d_Lo_init_32 : decode Y_Lo_init.2.2.1 32 = .ok (.aload_n 0, 1) := by decide +kernel
theorem d_Lo_init_33 : decode Y_Lo_init.2.2.1 33 = .ok (.iload_n 1, 1) := by decide +kernel
theorem d_Lo_init_34 : decode Y_Lo_init.2.2.1 34 = .ok (.iload_n 1, 1) := by decide +kernel
theorem d_Lo_init_35 : decode Y_Lo_init.2.2.1 35 = .ok (.imul, 1) := by decide +kernel
theorem d_Lo_init_36 : decode Y_Lo_init.2.2.1 36 = .ok (.newarray .int, 2) := by decide +kernel
theorem d_Lo_init_38 : decode Y_Lo_init.2.2.1 38 = .ok (.putfield 25, 3) := by decide +kernel
theorem d_Lo_init_41 : decode Y_Lo_init.2.2.1 41 = .ok (.aload_n 0, 1) := by decide +kernel
theorem d_Lo_init_42 : decode Y_Lo_init.2.2.1 42 = .ok (.iconst 0, 1) := by decide +kernel
theorem d_Lo_init_43 : decode Y_Lo_init.2.2.1 43 = .ok (.putfield 28, 3) := by decide +kernel
theorem d_Lo_init_46 : decode Y_Lo_init.2.2.1 46 = .ok (.return_, 1) := by decide +kernel
theorem d_Lo_lockPairs_0 : decode Y_Lo_lockPairs.2.2.1 0 = .ok (.aload_n 0, 1) := by decide +kernel
theorem d_Lo_lockPairs_1 : decode Y_Lo_lockPairs.2.2.1 1 = .ok (.getfield 15, 3) := by decide +kernel
theorem d_Lo_lockPairs_4 : decode Y_Lo_lockPairs.2.2.1 4 = .ok (.iconst 0, 1) := by decide +kernel
theorem d_Lo_lockPairs_5 : decode Y_Lo_lockPairs.2.2.1 5 = .ok (.invokestatic 31, 3) := by decide +kernel
theorem d_Lo_lockPairs_8 : decode Y_Lo_lockPairs.2.2.1 8 = .ok (.aload_n 0, 1) := by decide +kernel
theorem d_Lo_lockPairs_9 : decode Y_Lo_lockPairs.2.2.1 9 = .ok (.getfield 19, 3) := by decide +kernel
theorem d_Lo_lockPairs_12 : decode Y_Lo_lockPairs.2.2.1 12 = .ok (.iconst 0, 1) := by decide +kernel
theorem d_Lo_lockPairs_13 : decode Y_Lo_lockPairs.2.2.1 13 = .ok (.invokestatic 31, 3) := by decide +kernel
theorem d_Lo_lockPairs_16 : decode Y_Lo_lockPairs.2.2.1 16 = .ok (.aload_n 0, 1) := by decide +kernel
theorem d_Lo_lockPairs_17 : decode Y_Lo_lockPairs.2.2.1 17 = .ok (.aload_n 1, 1) := by decide +kernel
theorem d_Lo_lockPairs_18 : decode Y_Lo_lockPairs.2.2.1 18 = .ok (.aload_n 2, 1) := by decide +kernel
theorem d_Lo_lockPairs_19 : decode Y_Lo_lockPairs.2.2.1 19 = .ok (.invokevirtual 37, 3) := by decide +kernel
theorem d_Lo_lockPairs_22 : decode Y_Lo_lockPairs.2.2.1 22 = .ok (.iconst 0, 1) := by decide +kernel
theorem d_Lo_lockPairs_23 : decode Y_Lo_lockPairs.2.2.1 23 = .ok (.istore_n 3, 1) := by decide +kernel
theorem d_Lo_lockPairs_24 : decode Y_Lo_lockPairs.2.2.1 24 = .ok (.iload_n 3, 1) := by decide +kernel
theorem d_Lo_lockPairs_25 : decode Y_Lo_lockPairs.2.2.1 25 = .ok (.aload_n 0, 1) := by decide +kernel
theorem d_Lo_lockPairs_26 : decode Y_Lo_lockPairs.2.2.1 26 = .ok (.getfield 28, 3) := by decide +kernel
theorem d_Lo_lockPairs_29 : decode Y_Lo_lockPairs.2.2.1 29 = .ok (.if_icmp .ge 48, 3) := by decide +kernel
theorem d_Lo_lockPairs_32 : decode Y_Lo_lockPairs.2.2.1 32 = .ok (.aload_n 0, 1) := by decide +kernel
theorem d_Lo_lockPairs_33 : decode Y_Lo_lockPairs.2.2.1 33 = .ok (.getfield 19, 3) := by decide +kernel
theorem d_Lo_lockPairs_36 : decode Y_Lo_lockPairs.2.2.1 36 = .ok (.aload_n 0, 1) := by decide +kernel
theorem d_Lo_lockPairs_37 : decode Y_Lo_lockPairs.2.2.1 37 = .ok (.getfield 25, 3) := by decide +kernel
theorem d_Lo_lockPairs_40 : decode Y_Lo_lockPairs.2.2.1 40 = .ok (.iload_n 3, 1) := by decide +kernel
theorem d_Lo_lockPairs_41 : decode Y_Lo_lockPairs.2.2.1 41 = .ok (.iaload, 1) := by decide +kernel
theorem d_Lo_lockPairs_42 : decode Y_Lo_lockPairs.2.2.1 42 = .ok (.iaload, 1) := by decide +kernel
theorem d_Lo_lockPairs_43 : decode Y_Lo_lockPairs.2.2.1 43 = .ok (.aload_n 0, 1) := by decide +kernel
theorem d_Lo_lockPairs_44 : decode Y_Lo_lockPairs.2.2.1 44 = .ok (.getfield 22, 3) := by decide +kernel
theorem d_Lo_lockPairs_47 : decode Y_Lo_lockPairs.2.2.1 47 = .ok (.iload_n 3, 1) := by decide +kernel
theorem d_Lo_lockPairs_48 : decode Y_Lo_lockPairs.2.2.1 48 = .ok (.iaload, 1) := by decide +kernel
theorem d_Lo_lockPairs_49 : decode Y_Lo_lockPairs.2.2.1 49 = .ok (.invokestatic 41, 3) := by decide +kernel
theorem d_Lo_lockPairs_52 : decode Y_Lo_lockPairs.2.2.1 52 = .ok (.ifCond .ne 19, 3) := by decide +kernel
theorem d_Lo_lockPairs_55 : decode Y_Lo_lockPairs.2.2.1 55 = .ok (.aload_n 0, 1) := by decide +kernel
theorem d_Lo_lockPairs_56 : decode Y_Lo_lockPairs.2.2.1 56 = .ok (.aload_n 0, 1) := by decide +kernel
theorem d_Lo_lockPairs_57 : decode Y_Lo_lockPairs.2.2.1 57 = .ok (.getfield 22, 3) := by decide +kernel
theorem d_Lo_lockPairs_60 : decode Y_Lo_lockPairs.2.2.1 60 = .ok (.iload_n 3, 1) := by decide +kernel
theorem d_Lo_lockPairs_61 : decode Y_Lo_lockPairs.2.2.1 61 = .ok (.iaload, 1) := by decide +kernel
theorem d_Lo_lockPairs_62 : decode Y_Lo_lockPairs.2.2.1 62 = .ok (.aload_n 0, 1) := by decide +kernel
theorem d_Lo_lockPairs_63 : decode Y_Lo_lockPairs.2.2.1 63 = .ok (.getfield 25, 3) := by decide +kernel
theorem d_Lo_lockPairs_66 : decode Y_Lo_lockPairs.2.2.1 66 = .ok (.iload_n 3, 1) := by decide +kernel
theorem d_Lo_lockPairs_67 : decode Y_Lo_lockPairs.2.2.1 67 = .ok (.iaload, 1) := by decide +kernel
theorem d_Lo_lockPairs_68 : decode Y_Lo_lockPairs.2.2.1 68 = .ok (.invokevirtual 45, 3) := by decide +kernel
theorem d_Lo_lockPairs_71 : decode Y_Lo_lockPairs.2.2.1 71 = .ok (.iinc 3 1, 3) := by decide +kernel
theorem d_Lo_lockPairs_74 : decode Y_Lo_lockPairs.2.2.1 74 = .ok (.goto (-50), 3) := by decide +kernel
theorem d_Lo_lockPairs_77 : decode Y_Lo_lockPairs.2.2.1 77 = .ok (.return_, 1) := by decide +kernel
theorem d_Lo_sortPairs_0 : decode Y_Lo_sortPairs.2.2.1 0 = .ok (.aload_n 0, 1) := by decide +kernel
theorem d_Lo_sortPairs_1 : decode Y_Lo_sortPairs.2.2.1 1 = .ok (.iconst 0, 1) := by decide +kernel
theorem d_Lo_sortPairs_2 : decode Y_Lo_sortPairs.2.2.1 2 = .ok (.putfield 28, 3) := by decide +kernel
theorem d_Lo_sortPairs_5 : decode Y_Lo_sortPairs.2.2.1 5 = .ok (.iconst 0, 1) := by decide +kernel
theorem d_Lo_sortPairs_6 : decode Y_Lo_sortPairs.2.2.1 6 = .ok (.istore_n 3, 1) := by decide +kernel
theorem d_Lo_sortPairs_7 : decode Y_Lo_sortPairs.2.2.1 7 = .ok (.iload_n 3, 1) := by decide +kernel
theorem d_Lo_sortPairs_8 : decode Y_Lo_sortPairs.2.2.1 8 = .ok (.aload_n 0, 1) := by decide +kernel
theorem d_Lo_sortPairs_9 : decode Y_Lo_sortPairs.2.2.1 9 = .ok (.getfield 9, 3) := by decide +kernel
theorem d_Lo_sortPairs_12 : decode Y_Lo_sortPairs.2.2.1 12 = .ok (.if_icmp .ge 53, 3) := by decide +kernel
theorem d_Lo_sortPairs_15 : decode Y_Lo_sortPairs.2.2.1 15 = .ok (.iconst 0, 1) := by decide +kernel
theorem d_Lo_sortPairs_16 : decode Y_Lo_sortPairs.2.2.1 16 = .ok (.istore 4, 2) := by decide +kernel
theorem d_Lo_sortPairs_18 : decode Y_Lo_sortPairs.2.2.1 18 = .ok (.iload 4, 2) := by decide +kernel
theorem d_Lo_sortPairs_20 : decode Y_Lo_sortPairs.2.2.1 20 = .ok (.aload_n 0, 1) := by decide +kernel
theorem d_Lo_sortPairs_21 : decode Y_Lo_sortPairs.2.2.1 21 = .ok (.getfield 9, 3) := by decide +kernel
theorem d_Lo_sortPairs_24 : decode Y_Lo_sortPairs.2.2.1 24 = .ok (.if_icmp .ge 35, 3) := by decide +kernel
theorem d_Lo_sortPairs_27 : decode Y_Lo_sortPairs.2.2.1 27 = .ok (.aload_n 1, 1) := by decide +kernel
theorem d_Lo_sortPairs_28 : decode Y_Lo_sortPairs.2.2.1 28 = .ok (.aload_n 2, 1) := by decide +kernel
theorem d_Lo_sortPairs_29 : decode Y_Lo_sortPairs.2.2.1 29 = .ok (.iload_n 3, 1) := by decide +kernel
theorem d_Lo_sortPairs_30 : decode Y_Lo_sortPairs.2.2.1 30 = .ok (.iaload, 1) := by decide +kernel
theorem d_Lo_sortPairs_31 : decode Y_Lo_sortPairs.2.2.1 31 = .ok (.aload_n 2, 1) := by decide +kernel
theorem d_Lo_sortPairs_32 : decode Y_Lo_sortPairs.2.2.1 32 = .ok (.iload 4, 2) := by decide +kernel
theorem d_Lo_sortPairs_34 : decode Y_Lo_sortPairs.2.2.1 34 = .ok (.iaload, 1) := by decide +kernel
theorem d_Lo_sortPairs_35 : decode Y_Lo_sortPairs.2.2.1 35 = .ok (.invokevirtual 49, 3) := by decide +kernel
theorem d_Lo_sortPairs_38 : decode Y_Lo_sortPairs.2.2.1 38 = .ok (.ifCond .le 15, 3) := by decide +kernel
theorem d_Lo_sortPairs_41 : decode Y_Lo_sortPairs.2.2.1 41 = .ok (.aload_n 0, 1) := by decide +kernel
theorem d_Lo_sortPairs_42 : decode Y_Lo_sortPairs.2.2.1 42 = .ok (.aload_n 1, 1) := by decide +kernel
theorem d_Lo_sortPairs_43 : decode Y_Lo_sortPairs.2.2.1 43 = .ok (.aload_n 2, 1) := by decide +kernel
theorem d_Lo_sortPairs_44 : decode Y_Lo_sortPairs.2.2.1 44 = .ok (.iload_n 3, 1) := by decide +kernel
theorem d_Lo_sortPairs_45 : decode Y_Lo_sortPairs.2.2.1 45 = .ok (.iaload, 1) := by decide +kernel
theorem d_Lo_sortPairs_46 : decode Y_Lo_sortPairs.2.2.1 46 = .ok (.aload_n 2, 1) := by decide +kernel
theorem d_Lo_sortPairs_47 : decode Y_Lo_sortPairs.2.2.1 47 = .ok (.iload 4, 2) := by decide +kernel
theorem d_Lo_sortPairs_49 : decode Y_Lo_sortPairs.2.2.1 49 = .ok (.iaload, 1) := by decide +kernel
theorem d_Lo_sortPairs_50 : decode Y_Lo_sortPairs.2.2.1 50 = .ok (.invokevirtual 55, 3) := by decide +kernel
theorem d_Lo_sortPairs_53 : decode Y_Lo_sortPairs.2.2.1 53 = .ok (.iinc 4 1, 3) := by decide +kernel
theorem d_Lo_sortPairs_56 : decode Y_Lo_sortPairs.2.2.1 56 = .ok (.goto (-38), 3) := by decide +kernel
theorem d_Lo_sortPairs_59 : decode Y_Lo_sortPairs.2.2.1 59 = .ok (.iinc 3 1, 3) := by decide +kernel
theorem d_Lo_sortPairs_62 : decode Y_Lo_sortPairs.2.2.1 62 = .ok (.goto (-55), 3) := by decide +kernel
theorem d_Lo_sortPairs_65 : decode Y_Lo_sortPairs.2.2.1 65 = .ok (.return_, 1) := by decide +kernel
theorem d_Lo_insert_0 : decode Y_Lo_insert.2.2.1 0 = .ok (.aload_n 0, 1) := by decide +kernel
theorem d_Lo_insert_1 : decode Y_Lo_insert.2.2.1 1 = .ok (.getfield 28, 3) := by decide +kernel
theorem d_Lo_insert_4 : decode Y_Lo_insert.2.2.1 4 = .ok (.istore 4, 2) := by decide +kernel
theorem d_Lo_insert_6 : decode Y_Lo_insert.2.2.1 6 = .ok (.iload 4, 2) := by decide +kernel
theorem d_Lo_insert_8 : decode Y_Lo_insert.2.2.1 8 = .ok (.ifCond .le 55, 3) := by decide +kernel
theorem d_Lo_insert_11 : decode Y_Lo_insert.2.2.1 11 = .ok (.aload_n 0, 1) := by decide +kernel
theorem d_Lo_insert_12 : decode Y_Lo_insert.2.2.1 12 = .ok (.aload_n 1, 1) := by decide +kernel
theorem d_Lo_insert_13 : decode Y_Lo_insert.2.2.1 13 = .ok (.iload_n 2, 1) := by decide +kernel
theorem d_Lo_insert_14 : decode Y_Lo_insert.2.2.1 14 = .ok (.iload_n 3, 1) := by decide +kernel
theorem d_Lo_insert_15 : decode Y_Lo_insert.2.2.1 15 = .ok (.iload 4, 2) := by decide +kernel
theorem d_Lo_insert_17 : decode Y_Lo_insert.2.2.1 17 = .ok (.iconst 1, 1) := by decide +kernel
theorem d_Lo_insert_18 : decode Y_Lo_insert.2.2.1 18 = .ok (.isub, 1) := by decide +kernel
theorem d_Lo_insert_19 : decode Y_Lo_insert.2.2.1 19 = .ok (.invokevirtual 59, 3) := by decide +kernel
theorem d_Lo_insert_22 : decode Y_Lo_insert.2.2.1 22 = .ok (.ifCond .eq 41, 3) := by decide +kernel
theorem d_Lo_insert_25 : decode Y_Lo_insert.2.2.1 25 = .ok (.aload_n 0, 1) := by decide +kernel
theorem d_Lo_insert_26 : decode Y_Lo_insert.2.2.1 26 = .ok (.getfield 22, 3) := by decide +kernel
theorem d_Lo_insert_29 : decode Y_Lo_insert.2.2.1 29 = .ok (.iload 4, 2) := by decide +kernel
theorem d_Lo_insert_31 : decode Y_Lo_insert.2.2.1 31 = .ok (.aload_n 0, 1) := by decide +kernel
theorem d_Lo_insert_32 : decode Y_Lo_insert.2.2.1 32 = .ok (.getfield 22, 3) := by decide +kernel
theorem d_Lo_insert_35 : decode Y_Lo_insert.2.2.1 35 = .ok (.iload 4, 2) := by decide +kernel
theorem d_Lo_insert_37 : decode Y_Lo_insert.2.2.1 37 = .ok (.iconst 1, 1) := by decide +kernel
theorem d_Lo_insert_38 : decode Y_Lo_insert.2.2.1 38 = .ok (.isub, 1) := by decide +kernel
theorem d_Lo_insert_39 : decode Y_Lo_insert.2.2.1 39 = .ok (.iaload, 1) := by decide +kernel
theorem d_Lo_insert_40 : decode Y_Lo_insert.2.2.1 40 = .ok (.iastore, 1) := by decide +kernel
theorem d_Lo_insert_41 : decode Y_Lo_insert.2.2.1 41 = .ok (.aload_n 0, 1) := by decide +kernel
theorem d_Lo_insert_42 : decode Y_Lo_insert.2.2.1 42 = .ok (.getfield 25, 3) := by decide +kernel
theorem d_Lo_insert_45 : decode Y_Lo_insert.2.2.1 45 = .ok (.iload 4, 2) := by decide +kernel
theorem d_Lo_insert_47 : decode Y_Lo_insert.2.2.1 47 = .ok (.aload_n 0, 1) := by decide +kernel
theorem d_Lo_insert_48 : decode Y_Lo_insert.2.2.1 48 = .ok (.getfield 25, 3) := by decide +kernel
theorem d_Lo_insert_51 : decode Y_Lo_insert.2.2.1 51 = .ok (.iload 4, 2) := by decide +kernel
theorem d_Lo_insert_53 : decode Y_Lo_insert.2.2.1 53 = .ok (.iconst 1, 1) := by decide +kernel
theorem d_Lo_insert_54 : decode Y_Lo_insert.2.2.1 54 = .ok (.isub, 1) := by decide +kernel
theorem d_Lo_insert_55 : decode Y_Lo_insert.2.2.1 55 = .ok (.iaload, 1) := by decide +kernel
theorem d_Lo_insert_56 : decode Y_Lo_insert.2.2.1 56 = .ok (.iastore, 1) := by decide +kernel
theorem d_Lo_insert_57 : decode Y_Lo_insert.2.2.1 57 = .ok (.iinc 4 (-1), 3) := by decide +kernel
theorem d_Lo_insert_60 : decode Y_Lo_insert.2.2.1 60 = .ok (.goto (-54), 3) := by decide +kernel
theorem d_Lo_insert_63 : decode Y_Lo_insert.2.2.1 63 = .ok (.aload_n 0, 1) := by decide +kernel
theorem d_Lo_insert_64 : decode Y_Lo_insert.2.2.1 64 = .ok (.getfield 22, 3) := by decide +kernel
theorem d_Lo_insert_67 : decode Y_Lo_insert.2.2.1 67 = .ok (.iload 4, 2) := by decide +kernel
theorem d_Lo_insert_69 : decode Y_Lo_insert.2.2.1 69 = .ok (.iload_n 2, 1) := by decide +kernel
theorem d_Lo_insert_70 : decode Y_Lo_insert.2.2.1 70 = .ok (.iastore, 1) := by decide +kernel
theorem d_Lo_insert_71 : decode Y_Lo_insert.2.2.1 71 = .ok (.aload_n 0, 1) := by decide +kernel
theorem d_Lo_insert_72 : decode Y_Lo_insert.2.2.1 72 = .ok (.getfield 25, 3) := by decide +kernel
theorem d_Lo_insert_75 : decode Y_Lo_insert.2.2.1 75 = .ok (.iload 4, 2) := by decide +kernel
theorem d_Lo_insert_77 : decode Y_Lo_insert.2.2.1 77 = .ok (.iload_n 3, 1) := by decide +kernel
theorem d_Lo_insert_78 : decode Y_Lo_insert.2.2.1 78 = .ok (.iastore, 1) := by decide +kernel
theorem d_Lo_insert_79 : decode Y_Lo_insert.2.2.1 79 = .ok (.aload_n 0, 1) := by decide +kernel
theorem d_Lo_insert_80 : decode Y_Lo_insert.2.2.1 80 = .ok (.dup, 1) := by decide +kernel
theorem d_Lo_insert_81 : decode Y_Lo_insert.2.2.1 81 = .ok (.getfield 28, 3) := by decide +kernel
theorem d_Lo_insert_84 : decode Y_Lo_insert.2.2.1 84 = .ok (.iconst 1, 1) := by decide +kernel
theorem d_Lo_insert_85 : decode Y_Lo_insert.2.2.1 85 = .ok (.iadd, 1) := by decide +kernel
theorem d_Lo_insert_86 : decode Y_Lo_insert.2.2.1 86 = .ok (.putfield 28, 3) := by decide +kernel
theorem d_Lo_insert_89 : decode Y_Lo_insert.2.2.1 89 = .ok (.return_, 1) := by decide +kernel
theorem d_Lo_overtakes_0 : decode Y_Lo_overtakes.2.2.1 0 = .ok (.aload_n 1, 1) := by decide +kernel
theorem d_Lo_overtakes_1 : decode Y_Lo_overtakes.2.2.1 1 = .ok (.iload_n 2, 1) := by decide +kernel
theorem d_Lo_overtakes_2 : decode Y_Lo_overtakes.2.2.1 2 = .ok (.iload_n 3, 1) := by decide +kernel
theorem d_Lo_overtakes_3 : decode Y_Lo_overtakes.2.2.1 3 = .ok (.invokevirtual 49, 3) := by decide +kernel
theorem d_Lo_overtakes_6 : decode Y_Lo_overtakes.2.2.1 6 = .ok (.istore 5, 2) := by decide +kernel
theorem d_Lo_overtakes_8 : decode Y_Lo_overtakes.2.2.1 8 = .ok (.aload_n 1, 1) := by decide +kernel
theorem d_Lo_overtakes_9 : decode Y_Lo_overtakes.2.2.1 9 = .ok (.aload_n 0, 1) := by decide +kernel
theorem d_Lo_overtakes_10 : decode Y_Lo_overtakes.2.2.1 10 = .ok (.getfield 22, 3) := by decide +kernel
theorem d_Lo_overtakes_13 : decode Y_Lo_overtakes.2.2.1 13 = .ok (.iload 4, 2) := by decide +kernel
theorem d_Lo_overtakes_15 : decode Y_Lo_overtakes.2.2.1 15 = .ok (.iaload, 1) := by decide +kernel
theorem d_Lo_overtakes_16 : decode Y_Lo_overtakes.2.2.1 16 = .ok (.aload_n 0, 1) := by decide +kernel
theorem d_Lo_overtakes_17 : decode Y_Lo_overtakes.2.2.1 17 = .ok (.getfield 25, 3) := by decide +kernel
theorem d_Lo_overtakes_20 : decode Y_Lo_overtakes.2.2.1 20 = .ok (.iload 4, 2) := by decide +kernel
theorem d_Lo_overtakes_22 : decode Y_Lo_overtakes.2.2.1 22 = .ok (.iaload, 1) := by decide +kernel
theorem d_Lo_overtakes_23 : decode Y_Lo_overtakes.2.2.1 23 = .ok (.invokevirtual 49, 3) := by decide +kernel
theorem d_Lo_overtakes_26 : decode Y_Lo_overtakes.2.2.1 26 = .ok (.istore 6, 2) := by decide +kernel
theorem d_Lo_overtakes_28 : decode Y_Lo_overtakes.2.2.1 28 = .ok (.iload 5, 2) := by decide +kernel
theorem d_Lo_overtakes_30 : decode Y_Lo_overtakes.2.2.1 30 = .ok (.iload 6, 2) := by decide +kernel
theorem d_Lo_overtakes_32 : decode Y_Lo_overtakes.2.2.1 32 = .ok (.if_icmp .eq 16, 3) := by decide +kernel
theorem d_Lo_overtakes_35 : decode Y_Lo_overtakes.2.2.1 35 = .ok (.iload 5, 2) := by decide +kernel
theorem d_Lo_overtakes_37 : decode Y_Lo_overtakes.2.2.1 37 = .ok (.iload 6, 2) := by decide +kernel
theorem d_Lo_overtakes_39 : decode Y_Lo_overtakes.2.2.1 39 = .ok (.if_icmp .le 7, 3) := by decide +kernel
theorem d_Lo_overtakes_42 : decode Y_Lo_overtakes.2.2.1 42 = .ok (.iconst 1, 1) := by decide +kernel
theorem d_Lo_overtakes_43 : decode Y_Lo_overtakes.2.2.1 43 = .ok (.goto 4, 3) := by decide +kernel
theorem d_Lo_overtakes_46 : decode Y_Lo_overtakes.2.2.1 46 = .ok (.iconst 0, 1) := by decide +kernel
theorem d_Lo_overtakes_47 : decode Y_Lo_overtakes.2.2.1 47 = .ok (.ireturn, 1) := by decide +kernel
theorem d_Lo_overtakes_48 : decode Y_Lo_overtakes.2.2.1 48 = .ok (.aload_n 1, 1) := by decide +kernel
theorem d_Lo_overtakes_49 : decode Y_Lo_overtakes.2.2.1 49 = .ok (.getfield 63, 3) := by decide +kernel
theorem d_Lo_overtakes_52 : decode Y_Lo_overtakes.2.2.1 52 = .ok (.iload_n 3, 1) := by decide +kernel
theorem d_Lo_overtakes_53 : decode Y_Lo_overtakes.2.2.1 53 = .ok (.aaload, 1) := by decide +kernel
theorem d_Lo_overtakes_54 : decode Y_Lo_overtakes.2.2.1 54 = .ok (.iload_n 2, 1) := by decide +kernel
theorem d_Lo_overtakes_55 : decode Y_Lo_overtakes.2.2.1 55 = .ok (.iaload, 1) := by decide +kernel
theorem d_Lo_overtakes_56 : decode Y_Lo_overtakes.2.2.1 56 = .ok (.aload_n 1, 1) := by decide +kernel
theorem d_Lo_overtakes_57 : decode Y_Lo_overtakes.2.2.1 57 = .ok (.getfield 63, 3) := by decide +kernel
theorem d_Lo_overtakes_60 : decode Y_Lo_overtakes.2.2.1 60 = .ok (.aload_n 0, 1) := by decide +kernel
theorem d_Lo_overtakes_61 : decode Y_Lo_overtakes.2.2.1 61 = .ok (.getfield 25, 3) := by decide +kernel
theorem d_Lo_overtakes_64 : decode Y_Lo_overtakes.2.2.1 64 = .ok (.iload 4, 2) := by decide +kernel
theorem d_Lo_overtakes_66 : decode Y_Lo_overtakes.2.2.1 66 = .ok (.iaload, 1) := by decide +kernel
theorem d_Lo_overtakes_67 : decode Y_Lo_overtakes.2.2.1 67 = .ok (.aaload, 1) := by decide +kernel
theorem d_Lo_overtakes_68 : decode Y_Lo_overtakes.2.2.1 68 = .ok (.aload_n 0, 1) := by decide +kernel
theorem d_Lo_overtakes_69 : decode Y_Lo_overtakes.2.2.1 69 = .ok (.getfield 22, 3) := by decide +kernel
theorem d_Lo_overtakes_72 : decode Y_Lo_overtakes.2.2.1 72 = .ok (.iload 4, 2) := by decide +kernel
theorem d_Lo_overtakes_74 : decode Y_Lo_overtakes.2.2.1 74 = .ok (.iaload, 1) := by decide +kernel
theorem d_Lo_overtakes_75 : decode Y_Lo_overtakes.2.2.1 75 = .ok (.iaload, 1) := by decide +kernel
theorem d_Lo_overtakes_76 : decode Y_Lo_overtakes.2.2.1 76 = .ok (.if_icmp .ge 7, 3) := by decide +kernel
theorem d_Lo_overtakes_79 : decode Y_Lo_overtakes.2.2.1 79 = .ok (.iconst 1, 1) := by decide +kernel
theorem d_Lo_overtakes_80 : decode Y_Lo_overtakes.2.2.1 80 = .ok (.goto 4, 3) := by decide +kernel
theorem d_Lo_overtakes_83 : decode Y_Lo_overtakes.2.2.1 83 = .ok (.iconst 0, 1) := by decide +kernel
theorem d_Lo_overtakes_84 : decode Y_Lo_overtakes.2.2.1 84 = .ok (.ireturn, 1) := by decide +kernel
theorem d_Lo_lock_0 : decode Y_Lo_lock.2.2.1 0 = .ok (.aload_n 0, 1) := by decide +kernel
theorem d_Lo_lock_1 : decode Y_Lo_lock.2.2.1 1 = .ok (.getfield 15, 3) := by decide +kernel
theorem d_Lo_lock_4 : decode Y_Lo_lock.2.2.1 4 = .ok (.iload_n 2, 1) := by decide +kernel
theorem d_Lo_lock_5 : decode Y_Lo_lock.2.2.1 5 = .ok (.dup2, 1) := by decide +kernel
theorem d_Lo_lock_6 : decode Y_Lo_lock.2.2.1 6 = .ok (.iaload, 1) := by decide +kernel
theorem d_Lo_lock_7 : decode Y_Lo_lock.2.2.1 7 = .ok (.iconst 1, 1) := by decide +kernel
theorem d_Lo_lock_8 : decode Y_Lo_lock.2.2.1 8 = .ok (.iload_n 1, 1) := by decide +kernel
theorem d_Lo_lock_9 : decode Y_Lo_lock.2.2.1 9 = .ok (.ishl, 1) := by decide +kernel
theorem d_Lo_lock_10 : decode Y_Lo_lock.2.2.1 10 = .ok (.ior, 1) := by decide +kernel
theorem d_Lo_lock_11 : decode Y_Lo_lock.2.2.1 11 = .ok (.iastore, 1) := by decide +kernel
theorem d_Lo_lock_12 : decode Y_Lo_lock.2.2.1 12 = .ok (.aload_n 0, 1) := by decide +kernel
theorem d_Lo_lock_13 : decode Y_Lo_lock.2.2.1 13 = .ok (.getfield 19, 3) := by decide +kernel
theorem d_Lo_lock_16 : decode Y_Lo_lock.2.2.1 16 = .ok (.iload_n 2, 1) := by decide +kernel
theorem d_Lo_lock_17 : decode Y_Lo_lock.2.2.1 17 = .ok (.iaload, 1) := by decide +kernel
theorem d_Lo_lock_18 : decode Y_Lo_lock.2.2.1 18 = .ok (.iconst 1, 1) := by decide +kernel
theorem d_Lo_lock_19 : decode Y_Lo_lock.2.2.1 19 = .ok (.iload_n 2, 1) := by decide +kernel
theorem d_Lo_lock_20 : decode Y_Lo_lock.2.2.1 20 = .ok (.ishl, 1) := by decide +kernel
theorem d_Lo_lock_21 : decode Y_Lo_lock.2.2.1 21 = .ok (.ior, 1) := by decide +kernel
theorem d_Lo_lock_22 : decode Y_Lo_lock.2.2.1 22 = .ok (.istore_n 3, 1) := by decide +kernel
theorem d_Lo_lock_23 : decode Y_Lo_lock.2.2.1 23 = .ok (.iconst 0, 1) := by decide +kernel
theorem d_Lo_lock_24 : decode Y_Lo_lock.2.2.1 24 = .ok (.istore 4, 2) := by decide +kernel
theorem d_Lo_lock_26 : decode Y_Lo_lock.2.2.1 26 = .ok (.iload 4, 2) := by decide +kernel
theorem d_Lo_lock_28 : decode Y_Lo_lock.2.2.1 28 = .ok (.aload_n 0, 1) := by decide +kernel
theorem d_Lo_lock_29 : decode Y_Lo_lock.2.2.1 29 = .ok (.getfield 9, 3) := by decide +kernel
theorem d_Lo_lock_32 : decode Y_Lo_lock.2.2.1 32 = .ok (.if_icmp .ge 40, 3) := by decide +kernel
theorem d_Lo_lock_35 : decode Y_Lo_lock.2.2.1 35 = .ok (.iload 4, 2) := by decide +kernel
theorem d_Lo_lock_37 : decode Y_Lo_lock.2.2.1 37 = .ok (.iload_n 1, 1) := by decide +kernel
theorem d_Lo_lock_38 : decode Y_Lo_lock.2.2.1 38 = .ok (.if_icmp .eq 17, 3) := by decide +kernel
theorem d_Lo_lock_41 : decode Y_Lo_lock.2.2.1 41 = .ok (.aload_n 0, 1) := by decide +kernel
theorem d_Lo_lock_42 : decode Y_Lo_lock.2.2.1 42 = .ok (.getfield 19, 3) := by decide +kernel
theorem d_Lo_lock_45 : decode Y_Lo_lock.2.2.1 45 = .ok (.iload 4, 2) := by decide +kernel
theorem d_Lo_lock_47 : decode Y_Lo_lock.2.2.1 47 = .ok (.iaload, 1) := by decide +kernel
theorem d_Lo_lock_48 : decode Y_Lo_lock.2.2.1 48 = .ok (.iload_n 1, 1) := by decide +kernel
theorem d_Lo_lock_49 : decode Y_Lo_lock.2.2.1 49 = .ok (.invokestatic 41, 3) := by decide +kernel
theorem d_Lo_lock_52 : decode Y_Lo_lock.2.2.1 52 = .ok (.ifCond .eq 14, 3) := by decide +kernel
theorem d_Lo_lock_55 : decode Y_Lo_lock.2.2.1 55 = .ok (.aload_n 0, 1) := by decide +kernel
theorem d_Lo_lock_56 : decode Y_Lo_lock.2.2.1 56 = .ok (.getfield 19, 3) := by decide +kernel
theorem d_Lo_lock_59 : decode Y_Lo_lock.2.2.1 59 = .ok (.iload 4, 2) := by decide +kernel
theorem d_Lo_lock_61 : decode Y_Lo_lock.2.2.1 61 = .ok (.dup2, 1) := by decide +kernel
theorem d_Lo_lock_62 : decode Y_Lo_lock.2.2.1 62 = .ok (.iaload, 1) := by decide +kernel
theorem d_Lo_lock_63 : decode Y_Lo_lock.2.2.1 63 = .ok (.iload_n 3, 1) := by decide +kernel
theorem d_Lo_lock_64 : decode Y_Lo_lock.2.2.1 64 = .ok (.ior, 1) := by decide +kernel
theorem d_Lo_lock_65 : decode Y_Lo_lock.2.2.1 65 = .ok (.iastore, 1) := by decide +kernel
theorem d_Lo_lock_66 : decode Y_Lo_lock.2.2.1 66 = .ok (.iinc 4 1, 3) := by decide +kernel
theorem d_Lo_lock_69 : decode Y_Lo_lock.2.2.1 69 = .ok (.goto (-43), 3) := by decide +kernel
theorem d_Lo_lock_72 : decode Y_Lo_lock.2.2.1 72 = .ok (.return_, 1) := by decide +kernel
theorem d_Lo_lineUp_0 : decode Y_Lo_lineUp.2.2.1 0 = .ok (.iconst 1, 1) := by decide +kernel
theorem d_Lo_lineUp_1 : decode Y_Lo_lineUp.2.2.1 1 = .ok (.aload_n 0, 1) := by decide +kernel
theorem d_Lo_lineUp_2 : decode Y_Lo_lineUp.2.2.1 2 = .ok (.getfield 9, 3) := by decide +kernel
theorem d_Lo_lineUp_5 : decode Y_Lo_lineUp.2.2.1 5 = .ok (.ishl, 1) := by decide +kernel
theorem d_Lo_lineUp_6 : decode Y_Lo_lineUp.2.2.1 6 = .ok (.iconst 1, 1) := by decide +kernel
theorem d_Lo_lineUp_7 : decode Y_Lo_lineUp.2.2.1 7 = .ok (.isub, 1) := by decide +kernel
theorem d_Lo_lineUp_8 : decode Y_Lo_lineUp.2.2.1 8 = .ok (.istore_n 3, 1) := by decide +kernel
theorem d_Lo_lineUp_9 : decode Y_Lo_lineUp.2.2.1 9 = .ok (.iconst (-1), 1) := by decide +kernel
theorem d_Lo_lineUp_10 : decode Y_Lo_lineUp.2.2.1 10 = .ok (.istore 4, 2) := by decide +kernel
theorem d_Lo_lineUp_12 : decode Y_Lo_lineUp.2.2.1 12 = .ok (.iconst 0, 1) := by decide +kernel
theorem d_Lo_lineUp_13 : decode Y_Lo_lineUp.2.2.1 13 = .ok (.istore 5, 2) := by decide +kernel
theorem d_Lo_lineUp_15 : decode Y_Lo_lineUp.2.2.1 15 = .ok (.iload 5, 2) := by decide +kernel
theorem d_Lo_lineUp_17 : decode Y_Lo_lineUp.2.2.1 17 = .ok (.iload_n 2, 1) := by decide +kernel
theorem d_Lo_lineUp_18 : decode Y_Lo_lineUp.2.2.1 18 = .ok (.if_icmp .gt 26, 3) := by decide +kernel
theorem d_Lo_lineUp_21 : decode Y_Lo_lineUp.2.2.1 21 = .ok (.aload_n 0, 1) := by decide +kernel
theorem d_Lo_lineUp_22 : decode Y_Lo_lineUp.2.2.1 22 = .ok (.aload_n 1, 1) := by decide +kernel
theorem d_Lo_lineUp_23 : decode Y_Lo_lineUp.2.2.1 23 = .ok (.iload_n 3, 1) := by decide +kernel
theorem d_Lo_lineUp_24 : decode Y_Lo_lineUp.2.2.1 24 = .ok (.invokevirtual 67, 3) := by decide +kernel
theorem d_Lo_lineUp_27 : decode Y_Lo_lineUp.2.2.1 27 = .ok (.istore 4, 2) := by decide +kernel
theorem d_Lo_lineUp_29 : decode Y_Lo_lineUp.2.2.1 29 = .ok (.iload_n 3, 1) := by decide +kernel
theorem d_Lo_lineUp_30 : decode Y_Lo_lineUp.2.2.1 30 = .ok (.iconst 1, 1) := by decide +kernel
theorem d_Lo_lineUp_31 : decode Y_Lo_lineUp.2.2.1 31 = .ok (.iload 4, 2) := by decide +kernel
theorem d_Lo_lineUp_33 : decode Y_Lo_lineUp.2.2.1 33 = .ok (.ishl, 1) := by decide +kernel
theorem d_Lo_lineUp_34 : decode Y_Lo_lineUp.2.2.1 34 = .ok (.iconst (-1), 1) := by decide +kernel
theorem d_Lo_lineUp_35 : decode Y_Lo_lineUp.2.2.1 35 = .ok (.ixor, 1) := by decide +kernel
theorem d_Lo_lineUp_36 : decode Y_Lo_lineUp.2.2.1 36 = .ok (.iand, 1) := by decide +kernel
theorem d_Lo_lineUp_37 : decode Y_Lo_lineUp.2.2.1 37 = .ok (.istore_n 3, 1) := by decide +kernel
theorem d_Lo_lineUp_38 : decode Y_Lo_lineUp.2.2.1 38 = .ok (.iinc 5 1, 3) := by decide +kernel
theorem d_Lo_lineUp_41 : decode Y_Lo_lineUp.2.2.1 41 = .ok (.goto (-26), 3) := by decide +kernel
theorem d_Lo_lineUp_44 : decode Y_Lo_lineUp.2.2.1 44 = .ok (.iload 4, 2) := by decide +kernel
theorem d_Lo_lineUp_46 : decode Y_Lo_lineUp.2.2.1 46 = .ok (.ireturn, 1) := by decide +kernel
theorem d_Lo_firstFree_0 : decode Y_Lo_firstFree.2.2.1 0 = .ok (.iconst 0, 1) := by decide +kernel
theorem d_Lo_firstFree_1 : decode Y_Lo_firstFree.2.2.1 1 = .ok (.istore_n 3, 1) := by decide +kernel
theorem d_Lo_firstFree_2 : decode Y_Lo_firstFree.2.2.1 2 = .ok (.iload_n 3, 1) := by decide +kernel
theorem d_Lo_firstFree_3 : decode Y_Lo_firstFree.2.2.1 3 = .ok (.aload_n 0, 1) := by decide +kernel
theorem d_Lo_firstFree_4 : decode Y_Lo_firstFree.2.2.1 4 = .ok (.getfield 9, 3) := by decide +kernel
theorem d_Lo_firstFree_7 : decode Y_Lo_firstFree.2.2.1 7 = .ok (.if_icmp .ge 36, 3) := by decide +kernel
theorem d_Lo_firstFree_10 : decode Y_Lo_firstFree.2.2.1 10 = .ok (.iload_n 2, 1) := by decide +kernel
theorem d_Lo_firstFree_11 : decode Y_Lo_firstFree.2.2.1 11 = .ok (.aload_n 1, 1) := by decide +kernel
theorem d_Lo_firstFree_12 : decode Y_Lo_firstFree.2.2.1 12 = .ok (.iload_n 3, 1) := by decide +kernel
theorem d_Lo_firstFree_13 : decode Y_Lo_firstFree.2.2.1 13 = .ok (.iaload, 1) := by decide +kernel
theorem d_Lo_firstFree_14 : decode Y_Lo_firstFree.2.2.1 14 = .ok (.invokestatic 41, 3) := by decide +kernel
theorem d_Lo_firstFree_17 : decode Y_Lo_firstFree.2.2.1 17 = .ok (.ifCond .eq 20, 3) := by decide +kernel
theorem d_Lo_firstFree_20 : decode Y_Lo_firstFree.2.2.1 20 = .ok (.aload_n 0, 1) := by decide +kernel
theorem d_Lo_firstFree_21 : decode Y_Lo_firstFree.2.2.1 21 = .ok (.getfield 15, 3) := by decide +kernel
theorem d_Lo_firstFree_24 : decode Y_Lo_firstFree.2.2.1 24 = .ok (.aload_n 1, 1) := by decide +kernel
theorem d_Lo_firstFree_25 : decode Y_Lo_firstFree.2.2.1 25 = .ok (.iload_n 3, 1) := by decide +kernel
theorem d_Lo_firstFree_26 : decode Y_Lo_firstFree.2.2.1 26 = .ok (.iaload, 1) := by decide +kernel
theorem d_Lo_firstFree_27 : decode Y_Lo_firstFree.2.2.1 27 = .ok (.iaload, 1) := by decide +kernel
theorem d_Lo_firstFree_28 : decode Y_Lo_firstFree.2.2.1 28 = .ok (.iload_n 2, 1) := by decide +kernel
theorem d_Lo_firstFree_29 : decode Y_Lo_firstFree.2.2.1 29 = .ok (.iand, 1) := by decide +kernel
theorem d_Lo_firstFree_30 : decode Y_Lo_firstFree.2.2.1 30 = .ok (.ifCond .ne 7, 3) := by decide +kernel
theorem d_Lo_firstFree_33 : decode Y_Lo_firstFree.2.2.1 33 = .ok (.aload_n 1, 1) := by decide +kernel
theorem d_Lo_firstFree_34 : decode Y_Lo_firstFree.2.2.1 34 = .ok (.iload_n 3, 1) := by decide +kernel
theorem d_Lo_firstFree_35 : decode Y_Lo_firstFree.2.2.1 35 = .ok (.iaload, 1) := by decide +kernel
theorem d_Lo_firstFree_36 : decode Y_Lo_firstFree.2.2.1 36 = .ok (.ireturn, 1) := by decide +kernel
theorem d_Lo_firstFree_37 : decode Y_Lo_firstFree.2.2.1 37 = .ok (.iinc 3 1, 3) := by decide +kernel
theorem d_Lo_firstFree_40 : decode Y_Lo_firstFree.2.2.1 40 = .ok (.goto (-38), 3) := by decide +kernel
theorem d_Lo_firstFree_43 : decode Y_Lo_firstFree.2.2.1 43 = .ok (.iconst (-1), 1) := by decide +kernel
theorem d_Lo_firstFree_44 : decode Y_Lo_firstFree.2.2.1 44 = .ok (.ireturn, 1) := by decide +kernel
end
section
/-! decode rows, written by gen/dec.py -/
theorem d_Mo_init_0 : decode Y_Mo_init.2.2.1 0 = .ok (.aload_n 0, 1) := by decide +kernel
theorem d_Mo_init_1 : decode Y_Mo_init.2.2.1 1 = .ok (.invokespecial 1, 3) := by decide +kernel
theorem d_Mo_init_4 : decode Y_Mo_init.2.2.1 4 = .ok (.aload_n 0, 1) := by decide +kernel
theorem d_Mo_init_5 : decode Y_Mo_init.2.2.1 5 = .ok (.bipush 8, 2) := by decide +kernel
theorem d_Mo_init_7 : decode Y_Mo_init.2.2.1 7 = .ok (.newarray .int, 2) := by decide +kernel
theorem d_Mo_init_9 : decode Y_Mo_init.2.2.1 9 = .ok (.putfield 7, 3) := by decide +kernel
theorem d_Mo_init_12 : decode Y_Mo_init.2.2.1 12 = .ok (.aload_n 0, 1) := by decide +kernel
theorem d_Mo_init_13 : decode Y_Mo_init.2.2.1 13 = .ok (.bipush 12, 2) := by decide +kernel
theorem d_Mo_init_15 : decode Y_Mo_init.2.2.1 15 = .ok (.newarray .int, 2) := by decide +kernel
theorem d_Mo_init_17 : decode Y_Mo_init.2.2.1 17 = .ok (.putfield 13, 3) := by decide +kernel
theorem d_Mo_init_20 : decode Y_Mo_init.2.2.1 20 = .ok (.aload_n 0, 1) := by decide +kernel
theorem d_Mo_init_21 : decode Y_Mo_init.2.2.1 21 = .ok (.bipush 12, 2) := by decide +kernel
theorem d_Mo_init_23 : decode Y_Mo_init.2.2.1 23 = .ok (.newarray .int, 2) := by decide +kernel
theorem d_Mo_init_25 : decode Y_Mo_init.2.2.1 25 = .ok (.putfield 16, 3) := by decide +kernel
theorem d_Mo_init_28 : decode Y_Mo_init.2.2.1 28 = .ok (.aload_n 0, 1) := by decide +kernel
theorem d_Mo_init_29 : decode Y_Mo_init.2.2.1 29 = .ok (.bipush 72, 2) := by decide +kernel
theorem d_Mo_init_31 : decode Y_Mo_init.2.2.1 31 = .ok (.newarray .int, 2) := by decide +kernel
theorem d_Mo_init_33 : decode Y_Mo_init.2.2.1 33 = .ok (.putfield 19, 3) := by decide +kernel
theorem d_Mo_init_36 : decode Y_Mo_init.2.2.1 36 = .ok (.aload_n 0, 1) := by decide +kernel
theorem d_Mo_init_37 : decode Y_Mo_init.2.2.1 37 = .ok (.bipush 72, 2) := by decide +kernel
theorem d_Mo_init_39 : decode Y_Mo_init.2.2.1 39 = .ok (.newarray .int, 2) := by decide +kernel
theorem d_Mo_init_41 : decode Y_Mo_init.2.2.1 41 = .ok (.putfield 22, 3) := by decide +kernel
theorem d_Mo_init_44 : decode Y_Mo_init.2.2.1 44 = .ok (.aload_n 0, 1) := by decide +kernel
theorem d_Mo_init_45 : decode Y_Mo_init.2.2.1 45 = .ok (.bipush 64, 2) := by decide +kernel
theorem d_Mo_init_47 : decode Y_Mo_init.2.2.1 47 = .ok (.newarray .int, 2) := by decide +kernel
theorem d_Mo_init_49 : decode Y_Mo_init.2.2.1 49 = .ok (.putfield 25, 3) := by decide +kernel
theorem d_Mo_init_52 : decode Y_Mo_init.2.2.1 52 = .ok (.aload_n 0, 1) := by decide +kernel
theorem d_Mo_init_53 : decode Y_Mo_init.2.2.1 53 = .ok (.bipush 64, 2) := by decide +kernel
theorem d_Mo_init_55 : decode Y_Mo_init.2.2.1 55 = .ok (.newarray .int, 2) := by decide +kernel
theorem d_Mo_init_57 : decode Y_Mo_init.2.2.1 57 = .ok (.putfield 28, 3) := by decide +kernel
theorem d_Mo_init_60 : decode Y_Mo_init.2.2.1 60 = .ok (.aload_n 0, 1) := by decide +kernel
theorem d_Mo_init_61 : decode Y_Mo_init.2.2.1 61 = .ok (.bipush 64, 2) := by decide +kernel
theorem d_Mo_init_63 : decode Y_Mo_init.2.2.1 63 = .ok (.newarray .int, 2) := by decide +kernel
theorem d_Mo_init_65 : decode Y_Mo_init.2.2.1 65 = .ok (.putfield 31, 3) := by decide +kernel
theorem d_Mo_init_68 : decode Y_Mo_init.2.2.1 68 = .ok (.aload_n 0, 1) := by decide +kernel
theorem d_Mo_init_69 : decode Y_Mo_init.2.2.1 69 = .ok (.bipush 64, 2) := by decide +kernel
theorem d_Mo_init_71 : decode Y_Mo_init.2.2.1 71 = .ok (.newarray .boolean, 2) := by decide +kernel
theorem d_Mo_init_73 : decode Y_Mo_init.2.2.1 73 = .ok (.putfield 34, 3) := by decide +kernel
theorem d_Mo_init_76 : decode Y_Mo_init.2.2.1 76 = .ok (.aload_n 0, 1) := by decide +kernel
theorem d_Mo_init_77 : decode Y_Mo_init.2.2.1 77 = .ok (.bipush 64, 2) := by decide +kernel
theorem d_Mo_init_79 : decode Y_Mo_init.2.2.1 79 = .ok (.newarray .boolean, 2) := by decide +kernel
theorem d_Mo_init_81 : decode Y_Mo_init.2.2.1 81 = .ok (.putfield 38, 3) := by decide +kernel
theorem d_Mo_init_84 : decode Y_Mo_init.2.2.1 84 = .ok (.aload_n 0, 1) := by decide +kernel
theorem d_Mo_init_85 : decode Y_Mo_init.2.2.1 85 = .ok (.bipush 8, 2) := by decide +kernel
theorem d_Mo_init_87 : decode Y_Mo_init.2.2.1 87 = .ok (.newarray .int, 2) := by decide +kernel
theorem d_Mo_init_89 : decode Y_Mo_init.2.2.1 89 = .ok (.putfield 41, 3) := by decide +kernel
theorem d_Mo_init_92 : decode Y_Mo_init.2.2.1 92 = .ok (.aload_n 0, 1) := by decide +kernel
theorem d_Mo_init_93 : decode Y_Mo_init.2.2.1 93 = .ok (.bipush 8, 2) := by decide +kernel
theorem d_Mo_init_95 : decode Y_Mo_init.2.2.1 95 = .ok (.newarray .int, 2) := by decide +kernel
theorem d_Mo_init_97 : decode Y_Mo_init.2.2.1 97 = .ok (.putfield 44, 3) := by decide +kernel
theorem d_Mo_init_100 : decode Y_Mo_init.2.2.1 100 = .ok (.aload_n 0, 1) := by decide +kernel
theorem d_Mo_init_101 : decode Y_Mo_init.2.2.1 101 = .ok (.iload_n 1, 1) := by decide +kernel
theorem d_Mo_init_102 : decode Y_Mo_init.2.2.1 102 = .ok (.iconst 1, 1) := by decide +kernel
theorem d_Mo_init_103 : decode Y_Mo_init.2.2.1 103 = .ok (.if_icmp .lt 9, 3) := by decide +kernel
theorem d_Mo_init_106 : decode Y_Mo_init.2.2.1 106 = .ok (.iload_n 1, 1) := by decide +kernel
theorem d_Mo_init_107 : decode Y_Mo_init.2.2.1 107 = .ok (.bipush 8, 2) := by decide +kernel
theorem d_Mo_init_109 : decode Y_Mo_init.2.2.1 109 = .ok (.if_icmp .le 7, 3) := by decide +kernel
theorem d_Mo_init_112 : decode Y_Mo_init.2.2.1 112 = .ok (.iconst 5, 1) := by decide +kernel
theorem d_Mo_init_113 : decode Y_Mo_init.2.2.1 113 = .ok (.goto 4, 3) := by decide +kernel
theorem d_Mo_init_116 : decode Y_Mo_init.2.2.1 116 = .ok (.iload_n 1, 1) := by decide +kernel
theorem d_Mo_init_117 : decode Y_Mo_init.2.2.1 117 = .ok (.putfield 47, 3) := by decide +kernel
theorem d_Mo_init_120 : decode Y_Mo_init.2.2.1 120 = .ok (.iconst 0, 1) := by decide +kernel
theorem d_Mo_init_121 : decode Y_Mo_init.2.2.1 121 = .ok (.istore_n 2, 1) := by decide +kernel
theorem d_Mo_init_122 : decode Y_Mo_init.2.2.1 122 = .ok (.iload_n 2, 1) := by decide +kernel
theorem d_Mo_init_123 : decode Y_Mo_init.2.2.1 123 = .ok (.bipush 8, 2) := by decide +kernel
theorem d_Mo_init_125 : decode Y_Mo_init.2.2.1 125 = .ok (.if_icmp .ge 16, 3) := by decide +kernel
theorem d_Mo_init_128 : decode Y_Mo_init.2.2.1 128 = .ok (.aload_n 0, 1) := by decide +kernel
theorem d_Mo_init_129 : decode Y_Mo_init.2.2.1 129 = .ok (.getfield 7, 3) := by decide +kernel
theorem d_Mo_init_132 : decode Y_Mo_init.2.2.1 132 = .ok (.iload_n 2, 1) := by decide +kernel
theorem d_Mo_init_133 : decode Y_Mo_init.2.2.1 133 = .ok (.iload_n 2, 1) := by decide +kernel
theorem d_Mo_init_134 : decode Y_Mo_init.2.2.1 134 = .ok (.iastore, 1) := by decide +kernel
theorem d_Mo_init_135 : decode Y_Mo_init.2.2.1 135 = .ok (.iinc 2 1, 3) := by decide +kernel
theorem d_Mo_init_138 : decode Y_Mo_init.2.2.1 138 = .ok (.goto (-16), 3) := by decide +kernel
theorem d_Mo_init_141 : decode Y_Mo_init.2.2.1 141 = .ok (.return_, 1) := by decide +kernel
theorem d_Mo_thrown_0 : decode Y_Mo_thrown.2.2.1 0 = .ok (.aload_n 0, 1) := by decide +kernel
theorem d_Mo_thrown_1 : decode Y_Mo_thrown.2.2.1 1 = .ok (.getfield 51, 3) := by decide +kernel
theorem d_Mo_thrown_4 : decode Y_Mo_thrown.2.2.1 4 = .ok (.ireturn, 1) := by decide +kernel
theorem d_Mo_isCandidate_0 : decode Y_Mo_isCandidate.2.2.1 0 = .ok (.iload_n 1, 1) := by decide +kernel
theorem d_Mo_isCandidate_1 : decode Y_Mo_isCandidate.2.2.1 1 = .ok (.ifCond .lt 15, 3) := by decide +kernel
theorem d_Mo_isCandidate_4 : decode Y_Mo_isCandidate.2.2.1 4 = .ok (.iload_n 1, 1) := by decide +kernel
theorem d_Mo_isCandidate_5 : decode Y_Mo_isCandidate.2.2.1 5 = .ok (.aload_n 0, 1) := by decide +kernel
theorem d_Mo_isCandidate_6 : decode Y_Mo_isCandidate.2.2.1 6 = .ok (.getfield 47, 3) := by decide +kernel
theorem d_Mo_isCandidate_9 : decode Y_Mo_isCandidate.2.2.1 9 = .ok (.if_icmp .ge 7, 3) := by decide +kernel
theorem d_Mo_isCandidate_12 : decode Y_Mo_isCandidate.2.2.1 12 = .ok (.iconst 1, 1) := by decide +kernel
theorem d_Mo_isCandidate_13 : decode Y_Mo_isCandidate.2.2.1 13 = .ok (.goto 4, 3) := by decide +kernel
theorem d_Mo_isCandidate_16 : decode Y_Mo_isCandidate.2.2.1 16 = .ok (.iconst 0, 1) := by decide +kernel
theorem d_Mo_isCandidate_17 : decode Y_Mo_isCandidate.2.2.1 17 = .ok (.ireturn, 1) := by decide +kernel
theorem d_Mo_isBatch_0 : decode Y_Mo_isBatch.2.2.1 0 = .ok (.iload_n 1, 1) := by decide +kernel
theorem d_Mo_isBatch_1 : decode Y_Mo_isBatch.2.2.1 1 = .ok (.ifCond .lt 15, 3) := by decide +kernel
theorem d_Mo_isBatch_4 : decode Y_Mo_isBatch.2.2.1 4 = .ok (.iload_n 1, 1) := by decide +kernel
theorem d_Mo_isBatch_5 : decode Y_Mo_isBatch.2.2.1 5 = .ok (.aload_n 0, 1) := by decide +kernel
theorem d_Mo_isBatch_6 : decode Y_Mo_isBatch.2.2.1 6 = .ok (.getfield 54, 3) := by decide +kernel
theorem d_Mo_isBatch_9 : decode Y_Mo_isBatch.2.2.1 9 = .ok (.if_icmp .ge 7, 3) := by decide +kernel
theorem d_Mo_isBatch_12 : decode Y_Mo_isBatch.2.2.1 12 = .ok (.iconst 1, 1) := by decide +kernel
theorem d_Mo_isBatch_13 : decode Y_Mo_isBatch.2.2.1 13 = .ok (.goto 4, 3) := by decide +kernel
theorem d_Mo_isBatch_16 : decode Y_Mo_isBatch.2.2.1 16 = .ok (.iconst 0, 1) := by decide +kernel
theorem d_Mo_isBatch_17 : decode Y_Mo_isBatch.2.2.1 17 = .ok (.ireturn, 1) := by decide +kernel
theorem d_Mo_tie_0 : decode Y_Mo_tie.2.2.1 0 = .ok (.aload_n 0, 1) := by decide +kernel
theorem d_Mo_tie_1 : decode Y_Mo_tie.2.2.1 1 = .ok (.aload_n 0, 1) := by decide +kernel
theorem d_Mo_tie_2 : decode Y_Mo_tie.2.2.1 2 = .ok (.iload_n 1, 1) := by decide +kernel
theorem d_Mo_tie_3 : decode Y_Mo_tie.2.2.1 3 = .ok (.invokevirtual 57, 3) := by decide +kernel
theorem d_Mo_tie_6 : decode Y_Mo_tie.2.2.1 6 = .ok (.ifCond .eq 11, 3) := by decide +kernel
theorem d_Mo_tie_9 : decode Y_Mo_tie.2.2.1 9 = .ok (.aload_n 0, 1) := by decide +kernel
theorem d_Mo_tie_10 : decode Y_Mo_tie.2.2.1 10 = .ok (.iload_n 2, 1) := by decide +kernel
theorem d_Mo_tie_11 : decode Y_Mo_tie.2.2.1 11 = .ok (.invokevirtual 57, 3) := by decide +kernel
theorem d_Mo_tie_14 : decode Y_Mo_tie.2.2.1 14 = .ok (.ifCond .ne 7, 3) := by decide +kernel
theorem d_Mo_tie_17 : decode Y_Mo_tie.2.2.1 17 = .ok (.iconst 1, 1) := by decide +kernel
theorem d_Mo_tie_18 : decode Y_Mo_tie.2.2.1 18 = .ok (.goto 22, 3) := by decide +kernel
theorem d_Mo_tie_21 : decode Y_Mo_tie.2.2.1 21 = .ok (.aload_n 0, 1) := by decide +kernel
theorem d_Mo_tie_22 : decode Y_Mo_tie.2.2.1 22 = .ok (.getfield 61, 3) := by decide +kernel
theorem d_Mo_tie_25 : decode Y_Mo_tie.2.2.1 25 = .ok (.ifCond .ne 10, 3) := by decide +kernel
theorem d_Mo_tie_28 : decode Y_Mo_tie.2.2.1 28 = .ok (.aload_n 0, 1) := by decide +kernel
theorem d_Mo_tie_29 : decode Y_Mo_tie.2.2.1 29 = .ok (.getfield 54, 3) := by decide +kernel
theorem d_Mo_tie_32 : decode Y_Mo_tie.2.2.1 32 = .ok (.ifCond .le 7, 3) := by decide +kernel
theorem d_Mo_tie_35 : decode Y_Mo_tie.2.2.1 35 = .ok (.iconst 2, 1) := by decide +kernel
theorem d_Mo_tie_36 : decode Y_Mo_tie.2.2.1 36 = .ok (.goto 4, 3) := by decide +kernel
theorem d_Mo_tie_39 : decode Y_Mo_tie.2.2.1 39 = .ok (.iconst 0, 1) := by decide +kernel
theorem d_Mo_tie_40 : decode Y_Mo_tie.2.2.1 40 = .ok (.putfield 51, 3) := by decide +kernel
theorem d_Mo_tie_43 : decode Y_Mo_tie.2.2.1 43 = .ok (.aload_n 0, 1) := by decide +kernel
theorem d_Mo_tie_44 : decode Y_Mo_tie.2.2.1 44 = .ok (.getfield 51, 3) := by decide +kernel
theorem d_Mo_tie_47 : decode Y_Mo_tie.2.2.1 47 = .ok (.ifCond .le 4, 3) := by decide +kernel
theorem d_Mo_tie_50 : decode Y_Mo_tie.2.2.1 50 = .ok (.return_, 1) := by decide +kernel
theorem d_Mo_tie_51 : decode Y_Mo_tie.2.2.1 51 = .ok (.aload_n 0, 1) := by decide +kernel
theorem d_Mo_tie_52 : decode Y_Mo_tie.2.2.1 52 = .ok (.iload_n 1, 1) := by decide +kernel
theorem d_Mo_tie_53 : decode Y_Mo_tie.2.2.1 53 = .ok (.invokevirtual 65, 3) := by decide +kernel
theorem d_Mo_tie_56 : decode Y_Mo_tie.2.2.1 56 = .ok (.istore_n 3, 1) := by decide +kernel
theorem d_Mo_tie_57 : decode Y_Mo_tie.2.2.1 57 = .ok (.iload_n 3, 1) := by decide +kernel
theorem d_Mo_tie_58 : decode Y_Mo_tie.2.2.1 58 = .ok (.istore 4, 2) := by decide +kernel
theorem d_Mo_tie_60 : decode Y_Mo_tie.2.2.1 60 = .ok (.iload 4, 2) := by decide +kernel
theorem d_Mo_tie_62 : decode Y_Mo_tie.2.2.1 62 = .ok (.aload_n 0, 1) := by decide +kernel
theorem d_Mo_tie_63 : decode Y_Mo_tie.2.2.1 63 = .ok (.getfield 47, 3) := by decide +kernel
theorem d_Mo_tie_66 : decode Y_Mo_tie.2.2.1 66 = .ok (.iconst 1, 1) := by decide +kernel
theorem d_Mo_tie_67 : decode Y_Mo_tie.2.2.1 67 = .ok (.isub, 1) := by decide +kernel
theorem d_Mo_tie_68 : decode Y_Mo_tie.2.2.1 68 = .ok (.if_icmp .ge 25, 3) := by decide +kernel
theorem d_Mo_tie_71 : decode Y_Mo_tie.2.2.1 71 = .ok (.aload_n 0, 1) := by decide +kernel
theorem d_Mo_tie_72 : decode Y_Mo_tie.2.2.1 72 = .ok (.getfield 7, 3) := by decide +kernel
theorem d_Mo_tie_75 : decode Y_Mo_tie.2.2.1 75 = .ok (.iload 4, 2) := by decide +kernel
theorem d_Mo_tie_77 : decode Y_Mo_tie.2.2.1 77 = .ok (.aload_n 0, 1) := by decide +kernel
theorem d_Mo_tie_78 : decode Y_Mo_tie.2.2.1 78 = .ok (.getfield 7, 3) := by decide +kernel
theorem d_Mo_tie_81 : decode Y_Mo_tie.2.2.1 81 = .ok (.iload 4, 2) := by decide +kernel
theorem d_Mo_tie_83 : decode Y_Mo_tie.2.2.1 83 = .ok (.iconst 1, 1) := by decide +kernel
theorem d_Mo_tie_84 : decode Y_Mo_tie.2.2.1 84 = .ok (.iadd, 1) := by decide +kernel
theorem d_Mo_tie_85 : decode Y_Mo_tie.2.2.1 85 = .ok (.iaload, 1) := by decide +kernel
theorem d_Mo_tie_86 : decode Y_Mo_tie.2.2.1 86 = .ok (.iastore, 1) := by decide +kernel
theorem d_Mo_tie_87 : decode Y_Mo_tie.2.2.1 87 = .ok (.iinc 4 1, 3) := by decide +kernel
theorem d_Mo_tie_90 : decode Y_Mo_tie.2.2.1 90 = .ok (.goto (-30), 3) := by decide +kernel
theorem d_Mo_tie_93 : decode Y_Mo_tie.2.2.1 93 = .ok (.aload_n 0, 1) := by decide +kernel
theorem d_Mo_tie_94 : decode Y_Mo_tie.2.2.1 94 = .ok (.getfield 47, 3) := by decide +kernel
theorem d_Mo_tie_97 : decode Y_Mo_tie.2.2.1 97 = .ok (.iconst 1, 1) := by decide +kernel
theorem d_Mo_tie_98 : decode Y_Mo_tie.2.2.1 98 = .ok (.isub, 1) := by decide +kernel
theorem d_Mo_tie_99 : decode Y_Mo_tie.2.2.1 99 = .ok (.istore 4, 2) := by decide +kernel
theorem d_Mo_tie_101 : decode Y_Mo_tie.2.2.1 101 = .ok (.iload 4, 2) := by decide +kernel
theorem d_Mo_tie_103 : decode Y_Mo_tie.2.2.1 103 = .ok (.iload_n 2, 1) := by decide +kernel
theorem d_Mo_tie_104 : decode Y_Mo_tie.2.2.1 104 = .ok (.if_icmp .le 25, 3) := by decide +kernel
theorem d_Mo_tie_107 : decode Y_Mo_tie.2.2.1 107 = .ok (.aload_n 0, 1) := by decide +kernel
theorem d_Mo_tie_108 : decode Y_Mo_tie.2.2.1 108 = .ok (.getfield 7, 3) := by decide +kernel
theorem d_Mo_tie_111 : decode Y_Mo_tie.2.2.1 111 = .ok (.iload 4, 2) := by decide +kernel
theorem d_Mo_tie_113 : decode Y_Mo_tie.2.2.1 113 = .ok (.aload_n 0, 1) := by decide +kernel
theorem d_Mo_tie_114 : decode Y_Mo_tie.2.2.1 114 = .ok (.getfield 7, 3) := by decide +kernel
theorem d_Mo_tie_117 : decode Y_Mo_tie.2.2.1 117 = .ok (.iload 4, 2) := by decide +kernel
theorem d_Mo_tie_119 : decode Y_Mo_tie.2.2.1 119 = .ok (.iconst 1, 1) := by decide +kernel
theorem d_Mo_tie_120 : decode Y_Mo_tie.2.2.1 120 = .ok (.isub, 1) := by decide +kernel
theorem d_Mo_tie_121 : decode Y_Mo_tie.2.2.1 121 = .ok (.iaload, 1) := by decide +kernel
theorem d_Mo_tie_122 : decode Y_Mo_tie.2.2.1 122 = .ok (.iastore, 1) := by decide +kernel
theorem d_Mo_tie_123 : decode Y_Mo_tie.2.2.1 123 = .ok (.iinc 4 (-1), 3) := by decide +kernel
theorem d_Mo_tie_126 : decode Y_Mo_tie.2.2.1 126 = .ok (.goto (-25), 3) := by decide +kernel
theorem d_Mo_tie_129 : decode Y_Mo_tie.2.2.1 129 = .ok (.aload_n 0, 1) := by decide +kernel
theorem d_Mo_tie_130 : decode Y_Mo_tie.2.2.1 130 = .ok (.getfield 7, 3) := by decide +kernel
theorem d_Mo_tie_133 : decode Y_Mo_tie.2.2.1 133 = .ok (.iload_n 2, 1) := by decide +kernel
theorem d_Mo_tie_134 : decode Y_Mo_tie.2.2.1 134 = .ok (.iload_n 1, 1) := by decide +kernel
theorem d_Mo_tie_135 : decode Y_Mo_tie.2.2.1 135 = .ok (.iastore, 1) := by decide +kernel
theorem d_Mo_tie_136 : decode Y_Mo_tie.2.2.1 136 = .ok (.return_, 1) := by decide +kernel
theorem d_Mo_placeOf_0 : decode Y_Mo_placeOf.2.2.1 0 = .ok (.iconst 0, 1) := by decide +kernel
theorem d_Mo_placeOf_1 : decode Y_Mo_placeOf.2.2.1 1 = .ok (.istore_n 2, 1) := by decide +kernel
theorem d_Mo_placeOf_2 : decode Y_Mo_placeOf.2.2.1 2 = .ok (.aload_n 0, 1) := by decide +kernel
theorem d_Mo_placeOf_3 : decode Y_Mo_placeOf.2.2.1 3 = .ok (.getfield 7, 3) := by decide +kernel
theorem d_Mo_placeOf_6 : decode Y_Mo_placeOf.2.2.1 6 = .ok (.iload_n 2, 1) := by decide +kernel
theorem d_Mo_placeOf_7 : decode Y_Mo_placeOf.2.2.1 7 = .ok (.iaload, 1) := by decide +kernel
theorem d_Mo_placeOf_8 : decode Y_Mo_placeOf.2.2.1 8 = .ok (.iload_n 1, 1) := by decide +kernel
theorem d_Mo_placeOf_9 : decode Y_Mo_placeOf.2.2.1 9 = .ok (.if_icmp .eq 9, 3) := by decide +kernel
theorem d_Mo_placeOf_12 : decode Y_Mo_placeOf.2.2.1 12 = .ok (.iinc 2 1, 3) := by decide +kernel
theorem d_Mo_placeOf_15 : decode Y_Mo_placeOf.2.2.1 15 = .ok (.goto (-13), 3) := by decide +kernel
theorem d_Mo_placeOf_18 : decode Y_Mo_placeOf.2.2.1 18 = .ok (.iload_n 2, 1) := by decide +kernel
theorem d_Mo_placeOf_19 : decode Y_Mo_placeOf.2.2.1 19 = .ok (.ireturn, 1) := by decide +kernel
theorem d_Mo_drawn_0 : decode Y_Mo_drawn.2.2.1 0 = .ok (.aload_n 0, 1) := by decide +kernel
theorem d_Mo_drawn_1 : decode Y_Mo_drawn.2.2.1 1 = .ok (.aload_n 0, 1) := by decide +kernel
theorem d_Mo_drawn_2 : decode Y_Mo_drawn.2.2.1 2 = .ok (.iload_n 1, 1) := by decide +kernel
theorem d_Mo_drawn_3 : decode Y_Mo_drawn.2.2.1 3 = .ok (.invokevirtual 57, 3) := by decide +kernel
theorem d_Mo_drawn_6 : decode Y_Mo_drawn.2.2.1 6 = .ok (.ifCond .eq 7, 3) := by decide +kernel
theorem d_Mo_drawn_9 : decode Y_Mo_drawn.2.2.1 9 = .ok (.iconst 0, 1) := by decide +kernel
theorem d_Mo_drawn_10 : decode Y_Mo_drawn.2.2.1 10 = .ok (.goto 4, 3) := by decide +kernel
theorem d_Mo_drawn_13 : decode Y_Mo_drawn.2.2.1 13 = .ok (.iconst 1, 1) := by decide +kernel
theorem d_Mo_drawn_14 : decode Y_Mo_drawn.2.2.1 14 = .ok (.putfield 51, 3) := by decide +kernel
theorem d_Mo_drawn_17 : decode Y_Mo_drawn.2.2.1 17 = .ok (.aload_n 0, 1) := by decide +kernel
theorem d_Mo_drawn_18 : decode Y_Mo_drawn.2.2.1 18 = .ok (.getfield 51, 3) := by decide +kernel
theorem d_Mo_drawn_21 : decode Y_Mo_drawn.2.2.1 21 = .ok (.ifCond .le 7, 3) := by decide +kernel
theorem d_Mo_drawn_24 : decode Y_Mo_drawn.2.2.1 24 = .ok (.iconst 0, 1) := by decide +kernel
theorem d_Mo_drawn_25 : decode Y_Mo_drawn.2.2.1 25 = .ok (.goto 9, 3) := by decide +kernel
theorem d_Mo_drawn_28 : decode Y_Mo_drawn.2.2.1 28 = .ok (.aload_n 0, 1) := by decide +kernel
theorem d_Mo_drawn_29 : decode Y_Mo_drawn.2.2.1 29 = .ok (.getfield 7, 3) := by decide +kernel
theorem d_Mo_drawn_32 : decode Y_Mo_drawn.2.2.1 32 = .ok (.iload_n 1, 1) := by decide +kernel
theorem d_Mo_drawn_33 : decode Y_Mo_drawn.2.2.1 33 = .ok (.iaload, 1) := by decide +kernel
theorem d_Mo_drawn_34 : decode Y_Mo_drawn.2.2.1 34 = .ok (.ireturn, 1) := by decide +kernel
theorem d_Mo_open_0 : decode Y_Mo_open.2.2.1 0 = .ok (.aload_n 0, 1) := by decide +kernel
theorem d_Mo_open_1 : decode Y_Mo_open.2.2.1 1 = .ok (.aload_n 0, 1) := by decide +kernel
theorem d_Mo_open_2 : decode Y_Mo_open.2.2.1 2 = .ok (.getfield 61, 3) := by decide +kernel
theorem d_Mo_open_5 : decode Y_Mo_open.2.2.1 5 = .ok (.ifCond .ne 12, 3) := by decide +kernel
theorem d_Mo_open_8 : decode Y_Mo_open.2.2.1 8 = .ok (.aload_n 0, 1) := by decide +kernel
theorem d_Mo_open_9 : decode Y_Mo_open.2.2.1 9 = .ok (.getfield 54, 3) := by decide +kernel
theorem d_Mo_open_12 : decode Y_Mo_open.2.2.1 12 = .ok (.bipush 12, 2) := by decide +kernel
theorem d_Mo_open_14 : decode Y_Mo_open.2.2.1 14 = .ok (.if_icmp .ne 7, 3) := by decide +kernel
theorem d_Mo_open_17 : decode Y_Mo_open.2.2.1 17 = .ok (.iconst 1, 1) := by decide +kernel
theorem d_Mo_open_18 : decode Y_Mo_open.2.2.1 18 = .ok (.goto 4, 3) := by decide +kernel
theorem d_Mo_open_21 : decode Y_Mo_open.2.2.1 21 = .ok (.iconst 0, 1) := by decide +kernel
theorem d_Mo_open_22 : decode Y_Mo_open.2.2.1 22 = .ok (.putfield 51, 3) := by decide +kernel
theorem d_Mo_open_25 : decode Y_Mo_open.2.2.1 25 = .ok (.aload_n 0, 1) := by decide +kernel
theorem d_Mo_open_26 : decode Y_Mo_open.2.2.1 26 = .ok (.getfield 51, 3) := by decide +kernel
theorem d_Mo_open_29 : decode Y_Mo_open.2.2.1 29 = .ok (.ifCond .le 5, 3) := by decide +kernel
theorem d_Mo_open_32 : decode Y_Mo_open.2.2.1 32 = .ok (.iconst 0, 1) := by decide +kernel
theorem d_Mo_open_33 : decode Y_Mo_open.2.2.1 33 = .ok (.ireturn, 1) := by decide +kernel
theorem d_Mo_open_34 : decode Y_Mo_open.2.2.1 34 = .ok (.aload_n 0, 1) := by decide +kernel
theorem d_Mo_open_35 : decode Y_Mo_open.2.2.1 35 = .ok (.dup, 1) := by decide +kernel
theorem d_Mo_open_36 : decode Y_Mo_open.2.2.1 36 = .ok (.getfield 54, 3) := by decide +kernel
theorem d_Mo_open_39 : decode Y_Mo_open.2.2.1 39 = .ok (.iconst 1, 1) := by decide +kernel
theorem d_Mo_open_40 : decode Y_Mo_open.2.2.1 40 = .ok (.iadd, 1) := by decide +kernel
theorem d_Mo_open_41 : decode Y_Mo_open.2.2.1 41 = .ok (.putfield 54, 3) := by decide +kernel
theorem d_Mo_open_44 : decode Y_Mo_open.2.2.1 44 = .ok (.aload_n 0, 1) := by decide +kernel
theorem d_Mo_open_45 : decode Y_Mo_open.2.2.1 45 = .ok (.getfield 54, 3) := by decide +kernel
theorem d_Mo_open_48 : decode Y_Mo_open.2.2.1 48 = .ok (.iconst 1, 1) := by decide +kernel
theorem d_Mo_open_49 : decode Y_Mo_open.2.2.1 49 = .ok (.isub, 1) := by decide +kernel
theorem d_Mo_open_50 : decode Y_Mo_open.2.2.1 50 = .ok (.ireturn, 1) := by decide +kernel
theorem d_Mo_place_0 : decode Y_Mo_place.2.2.1 0 = .ok (.iload_n 0, 1) := by decide +kernel
theorem d_Mo_place_1 : decode Y_Mo_place.2.2.1 1 = .ok (.iconst 4, 1) := by decide +kernel
theorem d_Mo_place_2 : decode Y_Mo_place.2.2.1 2 = .ok (.iload_n 1, 1) := by decide +kernel
theorem d_Mo_place_3 : decode Y_Mo_place.2.2.1 3 = .ok (.imul, 1) := by decide +kernel
theorem d_Mo_place_4 : decode Y_Mo_place.2.2.1 4 = .ok (.iushr, 1) := by decide +kernel
theorem d_Mo_place_5 : decode Y_Mo_place.2.2.1 5 = .ok (.bipush 15, 2) := by decide +kernel
theorem d_Mo_place_7 : decode Y_Mo_place.2.2.1 7 = .ok (.iand, 1) := by decide +kernel
theorem d_Mo_place_8 : decode Y_Mo_place.2.2.1 8 = .ok (.ireturn, 1) := by decide +kernel
theorem d_Mo_isRanking_0 : decode Y_Mo_isRanking.2.2.1 0 = .ok (.iconst 1, 1) := by decide +kernel
theorem d_Mo_isRanking_1 : decode Y_Mo_isRanking.2.2.1 1 = .ok (.istore_n 2, 1) := by decide +kernel
theorem d_Mo_isRanking_2 : decode Y_Mo_isRanking.2.2.1 2 = .ok (.iconst 0, 1) := by decide +kernel
theorem d_Mo_isRanking_3 : decode Y_Mo_isRanking.2.2.1 3 = .ok (.istore_n 3, 1) := by decide +kernel
theorem d_Mo_isRanking_4 : decode Y_Mo_isRanking.2.2.1 4 = .ok (.iload_n 3, 1) := by decide +kernel
theorem d_Mo_isRanking_5 : decode Y_Mo_isRanking.2.2.1 5 = .ok (.bipush 8, 2) := by decide +kernel
theorem d_Mo_isRanking_7 : decode Y_Mo_isRanking.2.2.1 7 = .ok (.if_icmp .ge 41, 3) := by decide +kernel
theorem d_Mo_isRanking_10 : decode Y_Mo_isRanking.2.2.1 10 = .ok (.iload_n 2, 1) := by decide +kernel
theorem d_Mo_isRanking_11 : decode Y_Mo_isRanking.2.2.1 11 = .ok (.ifCond .eq 29, 3) := by decide +kernel
theorem d_Mo_isRanking_14 : decode Y_Mo_isRanking.2.2.1 14 = .ok (.iload_n 1, 1) := by decide +kernel
theorem d_Mo_isRanking_15 : decode Y_Mo_isRanking.2.2.1 15 = .ok (.iload_n 3, 1) := by decide +kernel
theorem d_Mo_isRanking_16 : decode Y_Mo_isRanking.2.2.1 16 = .ok (.invokestatic 69, 3) := by decide +kernel
theorem d_Mo_isRanking_19 : decode Y_Mo_isRanking.2.2.1 19 = .ok (.iload_n 3, 1) := by decide +kernel
theorem d_Mo_isRanking_20 : decode Y_Mo_isRanking.2.2.1 20 = .ok (.aload_n 0, 1) := by decide +kernel
theorem d_Mo_isRanking_21 : decode Y_Mo_isRanking.2.2.1 21 = .ok (.getfield 47, 3) := by decide +kernel
theorem d_Mo_isRanking_24 : decode Y_Mo_isRanking.2.2.1 24 = .ok (.if_icmp .ge 8, 3) := by decide +kernel
theorem d_Mo_isRanking_27 : decode Y_Mo_isRanking.2.2.1 27 = .ok (.bipush 8, 2) := by decide +kernel
theorem d_Mo_isRanking_29 : decode Y_Mo_isRanking.2.2.1 29 = .ok (.goto 4, 3) := by decide +kernel
theorem d_Mo_isRanking_32 : decode Y_Mo_isRanking.2.2.1 32 = .ok (.iconst 0, 1) := by decide +kernel
theorem d_Mo_isRanking_33 : decode Y_Mo_isRanking.2.2.1 33 = .ok (.if_icmp .gt 7, 3) := by decide +kernel
theorem d_Mo_isRanking_36 : decode Y_Mo_isRanking.2.2.1 36 = .ok (.iconst 1, 1) := by decide +kernel
theorem d_Mo_isRanking_37 : decode Y_Mo_isRanking.2.2.1 37 = .ok (.goto 4, 3) := by decide +kernel
theorem d_Mo_isRanking_40 : decode Y_Mo_isRanking.2.2.1 40 = .ok (.iconst 0, 1) := by decide +kernel
theorem d_Mo_isRanking_41 : decode Y_Mo_isRanking.2.2.1 41 = .ok (.istore_n 2, 1) := by decide +kernel
theorem d_Mo_isRanking_42 : decode Y_Mo_isRanking.2.2.1 42 = .ok (.iinc 3 1, 3) := by decide +kernel
theorem d_Mo_isRanking_45 : decode Y_Mo_isRanking.2.2.1 45 = .ok (.goto (-41), 3) := by decide +kernel
theorem d_Mo_isRanking_48 : decode Y_Mo_isRanking.2.2.1 48 = .ok (.iload_n 2, 1) := by decide +kernel
theorem d_Mo_isRanking_49 : decode Y_Mo_isRanking.2.2.1 49 = .ok (.ireturn, 1) := by decide +kernel
theorem d_Mo_ballot_0 : decode Y_Mo_ballot.2.2.1 0 = .ok (.aload_n 0, 1) := by decide +kernel
theorem d_Mo_ballot_1 : decode Y_Mo_ballot.2.2.1 1 = .ok (.aload_n 0, 1) := by decide +kernel
theorem d_Mo_ballot_2 : decode Y_Mo_ballot.2.2.1 2 = .ok (.iload_n 1, 1) := by decide +kernel
theorem d_Mo_ballot_3 : decode Y_Mo_ballot.2.2.1 3 = .ok (.invokevirtual 73, 3) := by decide +kernel
theorem d_Mo_ballot_6 : decode Y_Mo_ballot.2.2.1 6 = .ok (.ifCond .eq 23, 3) := by decide +kernel
theorem d_Mo_ballot_9 : decode Y_Mo_ballot.2.2.1 9 = .ok (.aload_n 0, 1) := by decide +kernel
theorem d_Mo_ballot_10 : decode Y_Mo_ballot.2.2.1 10 = .ok (.iload_n 2, 1) := by decide +kernel
theorem d_Mo_ballot_11 : decode Y_Mo_ballot.2.2.1 11 = .ok (.invokevirtual 76, 3) := by decide +kernel
theorem d_Mo_ballot_14 : decode Y_Mo_ballot.2.2.1 14 = .ok (.ifCond .eq 15, 3) := by decide +kernel
theorem d_Mo_ballot_17 : decode Y_Mo_ballot.2.2.1 17 = .ok (.iload_n 3, 1) := by decide +kernel
theorem d_Mo_ballot_18 : decode Y_Mo_ballot.2.2.1 18 = .ok (.iconst 1, 1) := by decide +kernel
theorem d_Mo_ballot_19 : decode Y_Mo_ballot.2.2.1 19 = .ok (.if_icmp .lt 10, 3) := by decide +kernel
theorem d_Mo_ballot_22 : decode Y_Mo_ballot.2.2.1 22 = .ok (.iload_n 3, 1) := by decide +kernel
theorem d_Mo_ballot_23 : decode Y_Mo_ballot.2.2.1 23 = .ok (.sipush 10000, 3) := by decide +kernel
theorem d_Mo_ballot_26 : decode Y_Mo_ballot.2.2.1 26 = .ok (.if_icmp .le 7, 3) := by decide +kernel
theorem d_Mo_ballot_29 : decode Y_Mo_ballot.2.2.1 29 = .ok (.iconst 1, 1) := by decide +kernel
theorem d_Mo_ballot_30 : decode Y_Mo_ballot.2.2.1 30 = .ok (.goto 4, 3) := by decide +kernel
theorem d_Mo_ballot_33 : decode Y_Mo_ballot.2.2.1 33 = .ok (.iconst 0, 1) := by decide +kernel
theorem d_Mo_ballot_34 : decode Y_Mo_ballot.2.2.1 34 = .ok (.putfield 51, 3) := by decide +kernel
theorem d_Mo_ballot_37 : decode Y_Mo_ballot.2.2.1 37 = .ok (.aload_n 0, 1) := by decide +kernel
theorem d_Mo_ballot_38 : decode Y_Mo_ballot.2.2.1 38 = .ok (.getfield 51, 3) := by decide +kernel
theorem d_Mo_ballot_41 : decode Y_Mo_ballot.2.2.1 41 = .ok (.ifCond .le 5, 3) := by decide +kernel
theorem d_Mo_ballot_44 : decode Y_Mo_ballot.2.2.1 44 = .ok (.iconst 0, 1) := by decide +kernel
theorem d_Mo_ballot_45 : decode Y_Mo_ballot.2.2.1 45 = .ok (.ireturn, 1) := by decide +kernel
theorem d_Mo_ballot_46 : decode Y_Mo_ballot.2.2.1 46 = .ok (.aload_n 0, 1) := by decide +kernel
theorem d_Mo_ballot_47 : decode Y_Mo_ballot.2.2.1 47 = .ok (.aload_n 0, 1) := by decide +kernel
theorem d_Mo_ballot_48 : decode Y_Mo_ballot.2.2.1 48 = .ok (.getfield 61, 3) := by decide +kernel
theorem d_Mo_ballot_51 : decode Y_Mo_ballot.2.2.1 51 = .ok (.ifCond .ne 23, 3) := by decide +kernel
theorem d_Mo_ballot_54 : decode Y_Mo_ballot.2.2.1 54 = .ok (.aload_n 0, 1) := by decide +kernel
theorem d_Mo_ballot_55 : decode Y_Mo_ballot.2.2.1 55 = .ok (.getfield 13, 3) := by decide +kernel
theorem d_Mo_ballot_58 : decode Y_Mo_ballot.2.2.1 58 = .ok (.iload_n 1, 1) := by decide +kernel
theorem d_Mo_ballot_59 : decode Y_Mo_ballot.2.2.1 59 = .ok (.iaload, 1) := by decide +kernel
theorem d_Mo_ballot_60 : decode Y_Mo_ballot.2.2.1 60 = .ok (.ifCond .ne 14, 3) := by decide +kernel
theorem d_Mo_ballot_63 : decode Y_Mo_ballot.2.2.1 63 = .ok (.aload_n 0, 1) := by decide +kernel
theorem d_Mo_ballot_64 : decode Y_Mo_ballot.2.2.1 64 = .ok (.getfield 16, 3) := by decide +kernel
theorem d_Mo_ballot_67 : decode Y_Mo_ballot.2.2.1 67 = .ok (.iload_n 1, 1) := by decide +kernel
theorem d_Mo_ballot_68 : decode Y_Mo_ballot.2.2.1 68 = .ok (.iaload, 1) := by decide +kernel
theorem d_Mo_ballot_69 : decode Y_Mo_ballot.2.2.1 69 = .ok (.bipush 6, 2) := by decide +kernel
theorem d_Mo_ballot_71 : decode Y_Mo_ballot.2.2.1 71 = .ok (.if_icmp .ne 7, 3) := by decide +kernel
theorem d_Mo_ballot_74 : decode Y_Mo_ballot.2.2.1 74 = .ok (.iconst 2, 1) := by decide +kernel
theorem d_Mo_ballot_75 : decode Y_Mo_ballot.2.2.1 75 = .ok (.goto 4, 3) := by decide +kernel
theorem d_Mo_ballot_78 : decode Y_Mo_ballot.2.2.1 78 = .ok (.iconst 0, 1) := by decide +kernel
theorem d_Mo_ballot_79 : decode Y_Mo_ballot.2.2.1 79 = .ok (.putfield 51, 3) := by decide +kernel
theorem d_Mo_ballot_82 : decode Y_Mo_ballot.2.2.1 82 = .ok (.aload_n 0, 1) := by decide +kernel
theorem d_Mo_ballot_83 : decode Y_Mo_ballot.2.2.1 83 = .ok (.getfield 51, 3) := by decide +kernel
theorem d_Mo_ballot_86 : decode Y_Mo_ballot.2.2.1 86 = .ok (.ifCond .le 5, 3) := by decide +kernel
theorem d_Mo_ballot_89 : decode Y_Mo_ballot.2.2.1 89 = .ok (.iconst 0, 1) := by decide +kernel
theorem d_Mo_ballot_90 : decode Y_Mo_ballot.2.2.1 90 = .ok (.ireturn, 1) := by decide +kernel
theorem d_Mo_ballot_91 : decode Y_Mo_ballot.2.2.1 91 = .ok (.aload_n 0, 1) := by decide +kernel
theorem d_Mo_ballot_92 : decode Y_Mo_ballot.2.2.1 92 = .ok (.getfield 19, 3) := by decide +kernel
theorem d_Mo_ballot_95 : decode Y_Mo_ballot.2.2.1 95 = .ok (.bipush 6, 2) := by decide +kernel
theorem d_Mo_ballot_97 : decode Y_Mo_ballot.2.2.1 97 = .ok (.iload_n 1, 1) := by decide +kernel
theorem d_Mo_ballot_98 : decode Y_Mo_ballot.2.2.1 98 = .ok (.imul, 1) := by decide +kernel
theorem d_Mo_ballot_99 : decode Y_Mo_ballot.2.2.1 99 = .ok (.aload_n 0, 1) := by decide +kernel
theorem d_Mo_ballot_100 : decode Y_Mo_ballot.2.2.1 100 = .ok (.getfield 16, 3) := by decide +kernel
theorem d_Mo_ballot_103 : decode Y_Mo_ballot.2.2.1 103 = .ok (.iload_n 1, 1) := by decide +kernel
theorem d_Mo_ballot_104 : decode Y_Mo_ballot.2.2.1 104 = .ok (.iaload, 1) := by decide +kernel
theorem d_Mo_ballot_105 : decode Y_Mo_ballot.2.2.1 105 = .ok (.iadd, 1) := by decide +kernel
theorem d_Mo_ballot_106 : decode Y_Mo_ballot.2.2.1 106 = .ok (.iload_n 2, 1) := by decide +kernel
theorem d_Mo_ballot_107 : decode Y_Mo_ballot.2.2.1 107 = .ok (.iastore, 1) := by decide +kernel
theorem d_Mo_ballot_108 : decode Y_Mo_ballot.2.2.1 108 = .ok (.aload_n 0, 1) := by decide +kernel
theorem d_Mo_ballot_109 : decode Y_Mo_ballot.2.2.1 109 = .ok (.getfield 22, 3) := by decide +kernel
theorem d_Mo_ballot_112 : decode Y_Mo_ballot.2.2.1 112 = .ok (.bipush 6, 2) := by decide +kernel
theorem d_Mo_ballot_114 : decode Y_Mo_ballot.2.2.1 114 = .ok (.iload_n 1, 1) := by decide +kernel
theorem d_Mo_ballot_115 : decode Y_Mo_ballot.2.2.1 115 = .ok (.imul, 1) := by decide +kernel
theorem d_Mo_ballot_116 : decode Y_Mo_ballot.2.2.1 116 = .ok (.aload_n 0, 1) := by decide +kernel
theorem d_Mo_ballot_117 : decode Y_Mo_ballot.2.2.1 117 = .ok (.getfield 16, 3) := by decide +kernel
theorem d_Mo_ballot_120 : decode Y_Mo_ballot.2.2.1 120 = .ok (.iload_n 1, 1) := by decide +kernel
theorem d_Mo_ballot_121 : decode Y_Mo_ballot.2.2.1 121 = .ok (.iaload, 1) := by decide +kernel
theorem d_Mo_ballot_122 : decode Y_Mo_ballot.2.2.1 122 = .ok (.iadd, 1) := by decide +kernel
theorem d_Mo_ballot_123 : decode Y_Mo_ballot.2.2.1 123 = .ok (.iload_n 3, 1) := by decide +kernel
theorem d_Mo_ballot_124 : decode Y_Mo_ballot.2.2.1 124 = .ok (.iastore, 1) := by decide +kernel
theorem d_Mo_ballot_125 : decode Y_Mo_ballot.2.2.1 125 = .ok (.aload_n 0, 1) := by decide +kernel
theorem d_Mo_ballot_126 : decode Y_Mo_ballot.2.2.1 126 = .ok (.getfield 16, 3) := by decide +kernel
theorem d_Mo_ballot_129 : decode Y_Mo_ballot.2.2.1 129 = .ok (.iload_n 1, 1) := by decide +kernel
theorem d_Mo_ballot_130 : decode Y_Mo_ballot.2.2.1 130 = .ok (.dup2, 1) := by decide +kernel
theorem d_Mo_ballot_131 : decode Y_Mo_ballot.2.2.1 131 = .ok (.iaload, 1) := by decide +kernel
theorem d_Mo_ballot_132 : decode Y_Mo_ballot.2.2.1 132 = .ok (.iconst 1, 1) := by decide +kernel
theorem d_Mo_ballot_133 : decode Y_Mo_ballot.2.2.1 133 = .ok (.iadd, 1) := by decide +kernel
theorem d_Mo_ballot_134 : decode Y_Mo_ballot.2.2.1 134 = .ok (.iastore, 1) := by decide +kernel
theorem d_Mo_ballot_135 : decode Y_Mo_ballot.2.2.1 135 = .ok (.aload_n 0, 1) := by decide +kernel
theorem d_Mo_ballot_136 : decode Y_Mo_ballot.2.2.1 136 = .ok (.getfield 16, 3) := by decide +kernel
theorem d_Mo_ballot_139 : decode Y_Mo_ballot.2.2.1 139 = .ok (.iload_n 1, 1) := by decide +kernel
theorem d_Mo_ballot_140 : decode Y_Mo_ballot.2.2.1 140 = .ok (.iaload, 1) := by decide +kernel
theorem d_Mo_ballot_141 : decode Y_Mo_ballot.2.2.1 141 = .ok (.iconst 1, 1) := by decide +kernel
theorem d_Mo_ballot_142 : decode Y_Mo_ballot.2.2.1 142 = .ok (.isub, 1) := by decide +kernel
theorem d_Mo_ballot_143 : decode Y_Mo_ballot.2.2.1 143 = .ok (.ireturn, 1) := by decide +kernel
theorem d_Mo_turn_0 : decode Y_Mo_turn.2.2.1 0 = .ok (.aload_n 0, 1) := by decide +kernel
theorem d_Mo_turn_1 : decode Y_Mo_turn.2.2.1 1 = .ok (.aload_n 0, 1) := by decide +kernel
theorem d_Mo_turn_2 : decode Y_Mo_turn.2.2.1 2 = .ok (.iload_n 1, 1) := by decide +kernel
theorem d_Mo_turn_3 : decode Y_Mo_turn.2.2.1 3 = .ok (.invokevirtual 73, 3) := by decide +kernel
theorem d_Mo_turn_6 : decode Y_Mo_turn.2.2.1 6 = .ok (.ifCond .eq 12, 3) := by decide +kernel
theorem d_Mo_turn_9 : decode Y_Mo_turn.2.2.1 9 = .ok (.iload_n 2, 1) := by decide +kernel
theorem d_Mo_turn_10 : decode Y_Mo_turn.2.2.1 10 = .ok (.ifCond .lt 8, 3) := by decide +kernel
theorem d_Mo_turn_13 : decode Y_Mo_turn.2.2.1 13 = .ok (.iload_n 2, 1) := by decide +kernel
theorem d_Mo_turn_14 : decode Y_Mo_turn.2.2.1 14 = .ok (.iconst 2, 1) := by decide +kernel
theorem d_Mo_turn_15 : decode Y_Mo_turn.2.2.1 15 = .ok (.if_icmp .le 7, 3) := by decide +kernel
theorem d_Mo_turn_18 : decode Y_Mo_turn.2.2.1 18 = .ok (.iconst 1, 1) := by decide +kernel
theorem d_Mo_turn_19 : decode Y_Mo_turn.2.2.1 19 = .ok (.goto 4, 3) := by decide +kernel
theorem d_Mo_turn_22 : decode Y_Mo_turn.2.2.1 22 = .ok (.iconst 0, 1) := by decide +kernel
theorem d_Mo_turn_23 : decode Y_Mo_turn.2.2.1 23 = .ok (.putfield 51, 3) := by decide +kernel
theorem d_Mo_turn_26 : decode Y_Mo_turn.2.2.1 26 = .ok (.aload_n 0, 1) := by decide +kernel
theorem d_Mo_turn_27 : decode Y_Mo_turn.2.2.1 27 = .ok (.getfield 51, 3) := by decide +kernel
theorem d_Mo_turn_30 : decode Y_Mo_turn.2.2.1 30 = .ok (.ifCond .le 4, 3) := by decide +kernel
theorem d_Mo_turn_33 : decode Y_Mo_turn.2.2.1 33 = .ok (.return_, 1) := by decide +kernel
theorem d_Mo_turn_34 : decode Y_Mo_turn.2.2.1 34 = .ok (.aload_n 0, 1) := by decide +kernel
theorem d_Mo_turn_35 : decode Y_Mo_turn.2.2.1 35 = .ok (.aload_n 0, 1) := by decide +kernel
theorem d_Mo_turn_36 : decode Y_Mo_turn.2.2.1 36 = .ok (.getfield 61, 3) := by decide +kernel
theorem d_Mo_turn_39 : decode Y_Mo_turn.2.2.1 39 = .ok (.ifCond .ne 13, 3) := by decide +kernel
theorem d_Mo_turn_42 : decode Y_Mo_turn.2.2.1 42 = .ok (.aload_n 0, 1) := by decide +kernel
theorem d_Mo_turn_43 : decode Y_Mo_turn.2.2.1 43 = .ok (.getfield 13, 3) := by decide +kernel
theorem d_Mo_turn_46 : decode Y_Mo_turn.2.2.1 46 = .ok (.iload_n 1, 1) := by decide +kernel
theorem d_Mo_turn_47 : decode Y_Mo_turn.2.2.1 47 = .ok (.iaload, 1) := by decide +kernel
theorem d_Mo_turn_48 : decode Y_Mo_turn.2.2.1 48 = .ok (.iload_n 2, 1) := by decide +kernel
theorem d_Mo_turn_49 : decode Y_Mo_turn.2.2.1 49 = .ok (.if_icmp .eq 7, 3) := by decide +kernel
theorem d_Mo_turn_52 : decode Y_Mo_turn.2.2.1 52 = .ok (.iconst 2, 1) := by decide +kernel
theorem d_Mo_turn_53 : decode Y_Mo_turn.2.2.1 53 = .ok (.goto 4, 3) := by decide +kernel
theorem d_Mo_turn_56 : decode Y_Mo_turn.2.2.1 56 = .ok (.iconst 0, 1) := by decide +kernel
theorem d_Mo_turn_57 : decode Y_Mo_turn.2.2.1 57 = .ok (.putfield 51, 3) := by decide +kernel
theorem d_Mo_turn_60 : decode Y_Mo_turn.2.2.1 60 = .ok (.aload_n 0, 1) := by decide +kernel
theorem d_Mo_turn_61 : decode Y_Mo_turn.2.2.1 61 = .ok (.getfield 51, 3) := by decide +kernel
theorem d_Mo_turn_64 : decode Y_Mo_turn.2.2.1 64 = .ok (.ifCond .ne 19, 3) := by decide +kernel
theorem d_Mo_turn_67 : decode Y_Mo_turn.2.2.1 67 = .ok (.aload_n 0, 1) := by decide +kernel
theorem d_Mo_turn_68 : decode Y_Mo_turn.2.2.1 68 = .ok (.getfield 13, 3) := by decide +kernel
theorem d_Mo_turn_71 : decode Y_Mo_turn.2.2.1 71 = .ok (.iload_n 1, 1) := by decide +kernel
theorem d_Mo_turn_72 : decode Y_Mo_turn.2.2.1 72 = .ok (.iload_n 2, 1) := by decide +kernel
theorem d_Mo_turn_73 : decode Y_Mo_turn.2.2.1 73 = .ok (.iconst 1, 1) := by decide +kernel
theorem d_Mo_turn_74 : decode Y_Mo_turn.2.2.1 74 = .ok (.if_icmp .ne 7, 3) := by decide +kernel
theorem d_Mo_turn_77 : decode Y_Mo_turn.2.2.1 77 = .ok (.iconst 2, 1) := by decide +kernel
theorem d_Mo_turn_78 : decode Y_Mo_turn.2.2.1 78 = .ok (.goto 4, 3) := by decide +kernel
theorem d_Mo_turn_81 : decode Y_Mo_turn.2.2.1 81 = .ok (.iconst 1, 1) := by decide +kernel
theorem d_Mo_turn_82 : decode Y_Mo_turn.2.2.1 82 = .ok (.iastore, 1) := by decide +kernel
theorem d_Mo_turn_83 : decode Y_Mo_turn.2.2.1 83 = .ok (.return_, 1) := by decide +kernel
theorem d_Mo_correct_0 : decode Y_Mo_correct.2.2.1 0 = .ok (.aload_n 0, 1) := by decide +kernel
theorem d_Mo_correct_1 : decode Y_Mo_correct.2.2.1 1 = .ok (.aload_n 0, 1) := by decide +kernel
theorem d_Mo_correct_2 : decode Y_Mo_correct.2.2.1 2 = .ok (.iload_n 1, 1) := by decide +kernel
theorem d_Mo_correct_3 : decode Y_Mo_correct.2.2.1 3 = .ok (.invokevirtual 73, 3) := by decide +kernel
theorem d_Mo_correct_6 : decode Y_Mo_correct.2.2.1 6 = .ok (.ifCond .eq 11, 3) := by decide +kernel
theorem d_Mo_correct_9 : decode Y_Mo_correct.2.2.1 9 = .ok (.aload_n 0, 1) := by decide +kernel
theorem d_Mo_correct_10 : decode Y_Mo_correct.2.2.1 10 = .ok (.iload_n 3, 1) := by decide +kernel
theorem d_Mo_correct_11 : decode Y_Mo_correct.2.2.1 11 = .ok (.invokevirtual 76, 3) := by decide +kernel
theorem d_Mo_correct_14 : decode Y_Mo_correct.2.2.1 14 = .ok (.ifCond .ne 7, 3) := by decide +kernel
theorem d_Mo_correct_17 : decode Y_Mo_correct.2.2.1 17 = .ok (.iconst 1, 1) := by decide +kernel
theorem d_Mo_correct_18 : decode Y_Mo_correct.2.2.1 18 = .ok (.goto 42, 3) := by decide +kernel
theorem d_Mo_correct_21 : decode Y_Mo_correct.2.2.1 21 = .ok (.iload_n 2, 1) := by decide +kernel
theorem d_Mo_correct_22 : decode Y_Mo_correct.2.2.1 22 = .ok (.ifCond .lt 13, 3) := by decide +kernel
theorem d_Mo_correct_25 : decode Y_Mo_correct.2.2.1 25 = .ok (.iload_n 2, 1) := by decide +kernel
theorem d_Mo_correct_26 : decode Y_Mo_correct.2.2.1 26 = .ok (.aload_n 0, 1) := by decide +kernel
theorem d_Mo_correct_27 : decode Y_Mo_correct.2.2.1 27 = .ok (.getfield 16, 3) := by decide +kernel
theorem d_Mo_correct_30 : decode Y_Mo_correct.2.2.1 30 = .ok (.iload_n 1, 1) := by decide +kernel
theorem d_Mo_correct_31 : decode Y_Mo_correct.2.2.1 31 = .ok (.iaload, 1) := by decide +kernel
theorem d_Mo_correct_32 : decode Y_Mo_correct.2.2.1 32 = .ok (.if_icmp .lt 7, 3) := by decide +kernel
theorem d_Mo_correct_35 : decode Y_Mo_correct.2.2.1 35 = .ok (.iconst 2, 1) := by decide +kernel
theorem d_Mo_correct_36 : decode Y_Mo_correct.2.2.1 36 = .ok (.goto 24, 3) := by decide +kernel
theorem d_Mo_correct_39 : decode Y_Mo_correct.2.2.1 39 = .ok (.aload_n 0, 1) := by decide +kernel
theorem d_Mo_correct_40 : decode Y_Mo_correct.2.2.1 40 = .ok (.getfield 61, 3) := by decide +kernel
theorem d_Mo_correct_43 : decode Y_Mo_correct.2.2.1 43 = .ok (.ifCond .ne 12, 3) := by decide +kernel
theorem d_Mo_correct_46 : decode Y_Mo_correct.2.2.1 46 = .ok (.aload_n 0, 1) := by decide +kernel
theorem d_Mo_correct_47 : decode Y_Mo_correct.2.2.1 47 = .ok (.getfield 13, 3) := by decide +kernel
theorem d_Mo_correct_50 : decode Y_Mo_correct.2.2.1 50 = .ok (.iload_n 1, 1) := by decide +kernel
theorem d_Mo_correct_51 : decode Y_Mo_correct.2.2.1 51 = .ok (.iaload, 1) := by decide +kernel
theorem d_Mo_correct_52 : decode Y_Mo_correct.2.2.1 52 = .ok (.ifCond .ne 7, 3) := by decide +kernel
theorem d_Mo_correct_55 : decode Y_Mo_correct.2.2.1 55 = .ok (.iconst 3, 1) := by decide +kernel
theorem d_Mo_correct_56 : decode Y_Mo_correct.2.2.1 56 = .ok (.goto 4, 3) := by decide +kernel
theorem d_Mo_correct_59 : decode Y_Mo_correct.2.2.1 59 = .ok (.iconst 0, 1) := by decide +kernel
theorem d_Mo_correct_60 : decode Y_Mo_correct.2.2.1 60 = .ok (.putfield 51, 3) := by decide +kernel
theorem d_Mo_correct_63 : decode Y_Mo_correct.2.2.1 63 = .ok (.aload_n 0, 1) := by decide +kernel
theorem d_Mo_correct_64 : decode Y_Mo_correct.2.2.1 64 = .ok (.getfield 51, 3) := by decide +kernel
theorem d_Mo_correct_67 : decode Y_Mo_correct.2.2.1 67 = .ok (.ifCond .le 5, 3) := by decide +kernel
theorem d_Mo_correct_70 : decode Y_Mo_correct.2.2.1 70 = .ok (.iconst 0, 1) := by decide +kernel
theorem d_Mo_correct_71 : decode Y_Mo_correct.2.2.1 71 = .ok (.ireturn, 1) := by decide +kernel
theorem d_Mo_correct_72 : decode Y_Mo_correct.2.2.1 72 = .ok (.aload_n 0, 1) := by decide +kernel
theorem d_Mo_correct_73 : decode Y_Mo_correct.2.2.1 73 = .ok (.getfield 19, 3) := by decide +kernel
theorem d_Mo_correct_76 : decode Y_Mo_correct.2.2.1 76 = .ok (.bipush 6, 2) := by decide +kernel
theorem d_Mo_correct_78 : decode Y_Mo_correct.2.2.1 78 = .ok (.iload_n 1, 1) := by decide +kernel
theorem d_Mo_correct_79 : decode Y_Mo_correct.2.2.1 79 = .ok (.imul, 1) := by decide +kernel
theorem d_Mo_correct_80 : decode Y_Mo_correct.2.2.1 80 = .ok (.iload_n 2, 1) := by decide +kernel
theorem d_Mo_correct_81 : decode Y_Mo_correct.2.2.1 81 = .ok (.iadd, 1) := by decide +kernel
theorem d_Mo_correct_82 : decode Y_Mo_correct.2.2.1 82 = .ok (.iaload, 1) := by decide +kernel
theorem d_Mo_correct_83 : decode Y_Mo_correct.2.2.1 83 = .ok (.istore 4, 2) := by decide +kernel
theorem d_Mo_correct_85 : decode Y_Mo_correct.2.2.1 85 = .ok (.aload_n 0, 1) := by decide +kernel
theorem d_Mo_correct_86 : decode Y_Mo_correct.2.2.1 86 = .ok (.getfield 19, 3) := by decide +kernel
theorem d_Mo_correct_89 : decode Y_Mo_correct.2.2.1 89 = .ok (.bipush 6, 2) := by decide +kernel
theorem d_Mo_correct_91 : decode Y_Mo_correct.2.2.1 91 = .ok (.iload_n 1, 1) := by decide +kernel
theorem d_Mo_correct_92 : decode Y_Mo_correct.2.2.1 92 = .ok (.imul, 1) := by decide +kernel
theorem d_Mo_correct_93 : decode Y_Mo_correct.2.2.1 93 = .ok (.iload_n 2, 1) := by decide +kernel
theorem d_Mo_correct_94 : decode Y_Mo_correct.2.2.1 94 = .ok (.iadd, 1) := by decide +kernel
theorem d_Mo_correct_95 : decode Y_Mo_correct.2.2.1 95 = .ok (.iload_n 3, 1) := by decide +kernel
theorem d_Mo_correct_96 : decode Y_Mo_correct.2.2.1 96 = .ok (.iastore, 1) := by decide +kernel
theorem d_Mo_correct_97 : decode Y_Mo_correct.2.2.1 97 = .ok (.iload 4, 2) := by decide +kernel
theorem d_Mo_correct_99 : decode Y_Mo_correct.2.2.1 99 = .ok (.ireturn, 1) := by decide +kernel
theorem d_Mo_state_0 : decode Y_Mo_state.2.2.1 0 = .ok (.aload_n 0, 1) := by decide +kernel
theorem d_Mo_state_1 : decode Y_Mo_state.2.2.1 1 = .ok (.aload_n 0, 1) := by decide +kernel
theorem d_Mo_state_2 : decode Y_Mo_state.2.2.1 2 = .ok (.iload_n 1, 1) := by decide +kernel
theorem d_Mo_state_3 : decode Y_Mo_state.2.2.1 3 = .ok (.invokevirtual 73, 3) := by decide +kernel
theorem d_Mo_state_6 : decode Y_Mo_state.2.2.1 6 = .ok (.ifCond .eq 7, 3) := by decide +kernel
theorem d_Mo_state_9 : decode Y_Mo_state.2.2.1 9 = .ok (.iconst 0, 1) := by decide +kernel
theorem d_Mo_state_10 : decode Y_Mo_state.2.2.1 10 = .ok (.goto 4, 3) := by decide +kernel
theorem d_Mo_state_13 : decode Y_Mo_state.2.2.1 13 = .ok (.iconst 1, 1) := by decide +kernel
theorem d_Mo_state_14 : decode Y_Mo_state.2.2.1 14 = .ok (.putfield 51, 3) := by decide +kernel
theorem d_Mo_state_17 : decode Y_Mo_state.2.2.1 17 = .ok (.aload_n 0, 1) := by decide +kernel
theorem d_Mo_state_18 : decode Y_Mo_state.2.2.1 18 = .ok (.getfield 51, 3) := by decide +kernel
theorem d_Mo_state_21 : decode Y_Mo_state.2.2.1 21 = .ok (.ifCond .le 7, 3) := by decide +kernel
theorem d_Mo_state_24 : decode Y_Mo_state.2.2.1 24 = .ok (.iconst 0, 1) := by decide +kernel
theorem d_Mo_state_25 : decode Y_Mo_state.2.2.1 25 = .ok (.goto 9, 3) := by decide +kernel
theorem d_Mo_state_28 : decode Y_Mo_state.2.2.1 28 = .ok (.aload_n 0, 1) := by decide +kernel
theorem d_Mo_state_29 : decode Y_Mo_state.2.2.1 29 = .ok (.getfield 13, 3) := by decide +kernel
theorem d_Mo_state_32 : decode Y_Mo_state.2.2.1 32 = .ok (.iload_n 1, 1) := by decide +kernel
theorem d_Mo_state_33 : decode Y_Mo_state.2.2.1 33 = .ok (.iaload, 1) := by decide +kernel
theorem d_Mo_state_34 : decode Y_Mo_state.2.2.1 34 = .ok (.ireturn, 1) := by decide +kernel
theorem d_Mo_voters_0 : decode Y_Mo_voters.2.2.1 0 = .ok (.aload_n 0, 1) := by decide +kernel
theorem d_Mo_voters_1 : decode Y_Mo_voters.2.2.1 1 = .ok (.iconst 0, 1) := by decide +kernel
theorem d_Mo_voters_2 : decode Y_Mo_voters.2.2.1 2 = .ok (.putfield 51, 3) := by decide +kernel
theorem d_Mo_voters_5 : decode Y_Mo_voters.2.2.1 5 = .ok (.iconst 0, 1) := by decide +kernel
theorem d_Mo_voters_6 : decode Y_Mo_voters.2.2.1 6 = .ok (.istore_n 1, 1) := by decide +kernel
theorem d_Mo_voters_7 : decode Y_Mo_voters.2.2.1 7 = .ok (.iconst 0, 1) := by decide +kernel
theorem d_Mo_voters_8 : decode Y_Mo_voters.2.2.1 8 = .ok (.istore_n 2, 1) := by decide +kernel
theorem d_Mo_voters_9 : decode Y_Mo_voters.2.2.1 9 = .ok (.iload_n 2, 1) := by decide +kernel
theorem d_Mo_voters_10 : decode Y_Mo_voters.2.2.1 10 = .ok (.aload_n 0, 1) := by decide +kernel
theorem d_Mo_voters_11 : decode Y_Mo_voters.2.2.1 11 = .ok (.getfield 54, 3) := by decide +kernel
theorem d_Mo_voters_14 : decode Y_Mo_voters.2.2.1 14 = .ok (.if_icmp .ge 51, 3) := by decide +kernel
theorem d_Mo_voters_17 : decode Y_Mo_voters.2.2.1 17 = .ok (.iconst 0, 1) := by decide +kernel
theorem d_Mo_voters_18 : decode Y_Mo_voters.2.2.1 18 = .ok (.istore_n 3, 1) := by decide +kernel
theorem d_Mo_voters_19 : decode Y_Mo_voters.2.2.1 19 = .ok (.iload_n 3, 1) := by decide +kernel
theorem d_Mo_voters_20 : decode Y_Mo_voters.2.2.1 20 = .ok (.aload_n 0, 1) := by decide +kernel
theorem d_Mo_voters_21 : decode Y_Mo_voters.2.2.1 21 = .ok (.getfield 16, 3) := by decide +kernel
theorem d_Mo_voters_24 : decode Y_Mo_voters.2.2.1 24 = .ok (.iload_n 2, 1) := by decide +kernel
theorem d_Mo_voters_25 : decode Y_Mo_voters.2.2.1 25 = .ok (.iaload, 1) := by decide +kernel
theorem d_Mo_voters_26 : decode Y_Mo_voters.2.2.1 26 = .ok (.if_icmp .ge 33, 3) := by decide +kernel
theorem d_Mo_voters_29 : decode Y_Mo_voters.2.2.1 29 = .ok (.aload_n 0, 1) := by decide +kernel
theorem d_Mo_voters_30 : decode Y_Mo_voters.2.2.1 30 = .ok (.getfield 13, 3) := by decide +kernel
theorem d_Mo_voters_33 : decode Y_Mo_voters.2.2.1 33 = .ok (.iload_n 2, 1) := by decide +kernel
theorem d_Mo_voters_34 : decode Y_Mo_voters.2.2.1 34 = .ok (.iaload, 1) := by decide +kernel
theorem d_Mo_voters_35 : decode Y_Mo_voters.2.2.1 35 = .ok (.iconst 1, 1) := by decide +kernel
theorem d_Mo_voters_36 : decode Y_Mo_voters.2.2.1 36 = .ok (.if_icmp .ne 23, 3) := by decide +kernel
theorem d_Mo_voters_39 : decode Y_Mo_voters.2.2.1 39 = .ok (.iload_n 1, 1) := by decide +kernel
theorem d_Mo_voters_40 : decode Y_Mo_voters.2.2.1 40 = .ok (.aload_n 0, 1) := by decide +kernel
theorem d_Mo_voters_41 : decode Y_Mo_voters.2.2.1 41 = .ok (.getfield 22, 3) := by decide +kernel
theorem d_Mo_voters_44 : decode Y_Mo_voters.2.2.1 44 = .ok (.bipush 6, 2) := by decide +kernel
theorem d_Mo_voters_46 : decode Y_Mo_voters.2.2.1 46 = .ok (.iload_n 2, 1) := by decide +kernel
theorem d_Mo_voters_47 : decode Y_Mo_voters.2.2.1 47 = .ok (.imul, 1) := by decide +kernel
theorem d_Mo_voters_48 : decode Y_Mo_voters.2.2.1 48 = .ok (.iload_n 3, 1) := by decide +kernel
theorem d_Mo_voters_49 : decode Y_Mo_voters.2.2.1 49 = .ok (.iadd, 1) := by decide +kernel
theorem d_Mo_voters_50 : decode Y_Mo_voters.2.2.1 50 = .ok (.iaload, 1) := by decide +kernel
theorem d_Mo_voters_51 : decode Y_Mo_voters.2.2.1 51 = .ok (.iadd, 1) := by decide +kernel
theorem d_Mo_voters_52 : decode Y_Mo_voters.2.2.1 52 = .ok (.istore_n 1, 1) := by decide +kernel
theorem d_Mo_voters_53 : decode Y_Mo_voters.2.2.1 53 = .ok (.iinc 3 1, 3) := by decide +kernel
theorem d_Mo_voters_56 : decode Y_Mo_voters.2.2.1 56 = .ok (.goto (-37), 3) := by decide +kernel
theorem d_Mo_voters_59 : decode Y_Mo_voters.2.2.1 59 = .ok (.iinc 2 1, 3) := by decide +kernel
theorem d_Mo_voters_62 : decode Y_Mo_voters.2.2.1 62 = .ok (.goto (-53), 3) := by decide +kernel
theorem d_Mo_voters_65 : decode Y_Mo_voters.2.2.1 65 = .ok (.iload_n 1, 1) := by decide +kernel
theorem d_Mo_voters_66 : decode Y_Mo_voters.2.2.1 66 = .ok (.ireturn, 1) := by decide +kernel
theorem d_Mo_count_0 : decode Y_Mo_count.2.2.1 0 = .ok (.iconst 0, 1) := by decide +kernel
theorem d_Mo_count_1 : decode Y_Mo_count.2.2.1 1 = .ok (.istore_n 2, 1) := by decide +kernel
theorem d_Mo_count_2 : decode Y_Mo_count.2.2.1 2 = .ok (.iload_n 2, 1) := by decide +kernel
theorem d_Mo_count_3 : decode Y_Mo_count.2.2.1 3 = .ok (.bipush 64, 2) := by decide +kernel
theorem d_Mo_count_5 : decode Y_Mo_count.2.2.1 5 = .ok (.if_icmp .ge 16, 3) := by decide +kernel
theorem d_Mo_count_8 : decode Y_Mo_count.2.2.1 8 = .ok (.aload_n 0, 1) := by decide +kernel
theorem d_Mo_count_9 : decode Y_Mo_count.2.2.1 9 = .ok (.getfield 25, 3) := by decide +kernel
theorem d_Mo_count_12 : decode Y_Mo_count.2.2.1 12 = .ok (.iload_n 2, 1) := by decide +kernel
theorem d_Mo_count_13 : decode Y_Mo_count.2.2.1 13 = .ok (.iconst 0, 1) := by decide +kernel
theorem d_Mo_count_14 : decode Y_Mo_count.2.2.1 14 = .ok (.iastore, 1) := by decide +kernel
theorem d_Mo_count_15 : decode Y_Mo_count.2.2.1 15 = .ok (.iinc 2 1, 3) := by decide +kernel
theorem d_Mo_count_18 : decode Y_Mo_count.2.2.1 18 = .ok (.goto (-16), 3) := by decide +kernel
theorem d_Mo_count_21 : decode Y_Mo_count.2.2.1 21 = .ok (.iconst 0, 1) := by decide +kernel
theorem d_Mo_count_22 : decode Y_Mo_count.2.2.1 22 = .ok (.istore_n 2, 1) := by decide +kernel
theorem d_Mo_count_23 : decode Y_Mo_count.2.2.1 23 = .ok (.iload_n 2, 1) := by decide +kernel
theorem d_Mo_count_24 : decode Y_Mo_count.2.2.1 24 = .ok (.aload_n 0, 1) := by decide +kernel
theorem d_Mo_count_25 : decode Y_Mo_count.2.2.1 25 = .ok (.getfield 54, 3) := by decide +kernel
theorem d_Mo_count_28 : decode Y_Mo_count.2.2.1 28 = .ok (.if_icmp .ge 66, 3) := by decide +kernel
theorem d_Mo_count_31 : decode Y_Mo_count.2.2.1 31 = .ok (.bipush 6, 2) := by decide +kernel
theorem d_Mo_count_33 : decode Y_Mo_count.2.2.1 33 = .ok (.iload_n 2, 1) := by decide +kernel
theorem d_Mo_count_34 : decode Y_Mo_count.2.2.1 34 = .ok (.imul, 1) := by decide +kernel
theorem d_Mo_count_35 : decode Y_Mo_count.2.2.1 35 = .ok (.istore_n 3, 1) := by decide +kernel
theorem d_Mo_count_36 : decode Y_Mo_count.2.2.1 36 = .ok (.iload_n 3, 1) := by decide +kernel
theorem d_Mo_count_37 : decode Y_Mo_count.2.2.1 37 = .ok (.bipush 6, 2) := by decide +kernel
theorem d_Mo_count_39 : decode Y_Mo_count.2.2.1 39 = .ok (.iload_n 2, 1) := by decide +kernel
theorem d_Mo_count_40 : decode Y_Mo_count.2.2.1 40 = .ok (.imul, 1) := by decide +kernel
theorem d_Mo_count_41 : decode Y_Mo_count.2.2.1 41 = .ok (.aload_n 0, 1) := by decide +kernel
theorem d_Mo_count_42 : decode Y_Mo_count.2.2.1 42 = .ok (.getfield 16, 3) := by decide +kernel
theorem d_Mo_count_45 : decode Y_Mo_count.2.2.1 45 = .ok (.iload_n 2, 1) := by decide +kernel
theorem d_Mo_count_46 : decode Y_Mo_count.2.2.1 46 = .ok (.iaload, 1) := by decide +kernel
theorem d_Mo_count_47 : decode Y_Mo_count.2.2.1 47 = .ok (.iadd, 1) := by decide +kernel
theorem d_Mo_count_48 : decode Y_Mo_count.2.2.1 48 = .ok (.if_icmp .ge 40, 3) := by decide +kernel
theorem d_Mo_count_51 : decode Y_Mo_count.2.2.1 51 = .ok (.aload_n 0, 1) := by decide +kernel
theorem d_Mo_count_52 : decode Y_Mo_count.2.2.1 52 = .ok (.getfield 13, 3) := by decide +kernel
theorem d_Mo_count_55 : decode Y_Mo_count.2.2.1 55 = .ok (.iload_n 2, 1) := by decide +kernel
theorem d_Mo_count_56 : decode Y_Mo_count.2.2.1 56 = .ok (.iaload, 1) := by decide +kernel
theorem d_Mo_count_57 : decode Y_Mo_count.2.2.1 57 = .ok (.iconst 1, 1) := by decide +kernel
theorem d_Mo_count_58 : decode Y_Mo_count.2.2.1 58 = .ok (.if_icmp .ne 30, 3) := by decide +kernel
theorem d_Mo_count_61 : decode Y_Mo_count.2.2.1 61 = .ok (.iload_n 2, 1) := by decide +kernel
theorem d_Mo_count_62 : decode Y_Mo_count.2.2.1 62 = .ok (.iload_n 1, 1) := by decide +kernel
theorem d_Mo_count_63 : decode Y_Mo_count.2.2.1 63 = .ok (.if_icmp .eq 25, 3) := by decide +kernel
theorem d_Mo_count_66 : decode Y_Mo_count.2.2.1 66 = .ok (.aload_n 0, 1) := by decide +kernel
theorem d_Mo_count_67 : decode Y_Mo_count.2.2.1 67 = .ok (.aload_n 0, 1) := by decide +kernel
theorem d_Mo_count_68 : decode Y_Mo_count.2.2.1 68 = .ok (.getfield 19, 3) := by decide +kernel
theorem d_Mo_count_71 : decode Y_Mo_count.2.2.1 71 = .ok (.iload_n 3, 1) := by decide +kernel
theorem d_Mo_count_72 : decode Y_Mo_count.2.2.1 72 = .ok (.iaload, 1) := by decide +kernel
theorem d_Mo_count_73 : decode Y_Mo_count.2.2.1 73 = .ok (.aload_n 0, 1) := by decide +kernel
theorem d_Mo_count_74 : decode Y_Mo_count.2.2.1 74 = .ok (.getfield 22, 3) := by decide +kernel
theorem d_Mo_count_77 : decode Y_Mo_count.2.2.1 77 = .ok (.iload_n 3, 1) := by decide +kernel
theorem d_Mo_count_78 : decode Y_Mo_count.2.2.1 78 = .ok (.iaload, 1) := by decide +kernel
theorem d_Mo_count_79 : decode Y_Mo_count.2.2.1 79 = .ok (.invokevirtual 79, 3) := by decide +kernel
theorem d_Mo_count_82 : decode Y_Mo_count.2.2.1 82 = .ok (.iinc 3 1, 3) := by decide +kernel
theorem d_Mo_count_85 : decode Y_Mo_count.2.2.1 85 = .ok (.goto (-49), 3) := by decide +kernel
theorem d_Mo_count_88 : decode Y_Mo_count.2.2.1 88 = .ok (.iinc 2 1, 3) := by decide +kernel
theorem d_Mo_count_91 : decode Y_Mo_count.2.2.1 91 = .ok (.goto (-68), 3) := by decide +kernel
theorem d_Mo_count_94 : decode Y_Mo_count.2.2.1 94 = .ok (.iconst 0, 1) := by decide +kernel
theorem d_Mo_count_95 : decode Y_Mo_count.2.2.1 95 = .ok (.istore_n 2, 1) := by decide +kernel
theorem d_Mo_count_96 : decode Y_Mo_count.2.2.1 96 = .ok (.iload_n 2, 1) := by decide +kernel
theorem d_Mo_count_97 : decode Y_Mo_count.2.2.1 97 = .ok (.bipush 64, 2) := by decide +kernel
theorem d_Mo_count_99 : decode Y_Mo_count.2.2.1 99 = .ok (.if_icmp .ge 53, 3) := by decide +kernel
theorem d_Mo_count_102 : decode Y_Mo_count.2.2.1 102 = .ok (.bipush 8, 2) := by decide +kernel
theorem d_Mo_count_104 : decode Y_Mo_count.2.2.1 104 = .ok (.iload_n 2, 1) := by decide +kernel
theorem d_Mo_count_105 : decode Y_Mo_count.2.2.1 105 = .ok (.bipush 8, 2) := by decide +kernel
theorem d_Mo_count_107 : decode Y_Mo_count.2.2.1 107 = .ok (.irem, 1) := by decide +kernel
theorem d_Mo_count_108 : decode Y_Mo_count.2.2.1 108 = .ok (.imul, 1) := by decide +kernel
theorem d_Mo_count_109 : decode Y_Mo_count.2.2.1 109 = .ok (.iload_n 2, 1) := by decide +kernel
theorem d_Mo_count_110 : decode Y_Mo_count.2.2.1 110 = .ok (.bipush 8, 2) := by decide +kernel
theorem d_Mo_count_112 : decode Y_Mo_count.2.2.1 112 = .ok (.idiv, 1) := by decide +kernel
theorem d_Mo_count_113 : decode Y_Mo_count.2.2.1 113 = .ok (.iadd, 1) := by decide +kernel
theorem d_Mo_count_114 : decode Y_Mo_count.2.2.1 114 = .ok (.istore_n 3, 1) := by decide +kernel
theorem d_Mo_count_115 : decode Y_Mo_count.2.2.1 115 = .ok (.aload_n 0, 1) := by decide +kernel
theorem d_Mo_count_116 : decode Y_Mo_count.2.2.1 116 = .ok (.getfield 28, 3) := by decide +kernel
theorem d_Mo_count_119 : decode Y_Mo_count.2.2.1 119 = .ok (.iload_n 2, 1) := by decide +kernel
theorem d_Mo_count_120 : decode Y_Mo_count.2.2.1 120 = .ok (.aload_n 0, 1) := by decide +kernel
theorem d_Mo_count_121 : decode Y_Mo_count.2.2.1 121 = .ok (.getfield 25, 3) := by decide +kernel
theorem d_Mo_count_124 : decode Y_Mo_count.2.2.1 124 = .ok (.iload_n 2, 1) := by decide +kernel
theorem d_Mo_count_125 : decode Y_Mo_count.2.2.1 125 = .ok (.iaload, 1) := by decide +kernel
theorem d_Mo_count_126 : decode Y_Mo_count.2.2.1 126 = .ok (.aload_n 0, 1) := by decide +kernel
theorem d_Mo_count_127 : decode Y_Mo_count.2.2.1 127 = .ok (.getfield 25, 3) := by decide +kernel
theorem d_Mo_count_130 : decode Y_Mo_count.2.2.1 130 = .ok (.iload_n 3, 1) := by decide +kernel
theorem d_Mo_count_131 : decode Y_Mo_count.2.2.1 131 = .ok (.iaload, 1) := by decide +kernel
theorem d_Mo_count_132 : decode Y_Mo_count.2.2.1 132 = .ok (.if_icmp .le 12, 3) := by decide +kernel
theorem d_Mo_count_135 : decode Y_Mo_count.2.2.1 135 = .ok (.aload_n 0, 1) := by decide +kernel
theorem d_Mo_count_136 : decode Y_Mo_count.2.2.1 136 = .ok (.getfield 25, 3) := by decide +kernel
theorem d_Mo_count_139 : decode Y_Mo_count.2.2.1 139 = .ok (.iload_n 2, 1) := by decide +kernel
theorem d_Mo_count_140 : decode Y_Mo_count.2.2.1 140 = .ok (.iaload, 1) := by decide +kernel
theorem d_Mo_count_141 : decode Y_Mo_count.2.2.1 141 = .ok (.goto 4, 3) := by decide +kernel
theorem d_Mo_count_144 : decode Y_Mo_count.2.2.1 144 = .ok (.iconst 0, 1) := by decide +kernel
theorem d_Mo_count_145 : decode Y_Mo_count.2.2.1 145 = .ok (.iastore, 1) := by decide +kernel
theorem d_Mo_count_146 : decode Y_Mo_count.2.2.1 146 = .ok (.iinc 2 1, 3) := by decide +kernel
theorem d_Mo_count_149 : decode Y_Mo_count.2.2.1 149 = .ok (.goto (-53), 3) := by decide +kernel
theorem d_Mo_count_152 : decode Y_Mo_count.2.2.1 152 = .ok (.return_, 1) := by decide +kernel
theorem d_Mo_add_0 : decode Y_Mo_add.2.2.1 0 = .ok (.iconst 0, 1) := by decide +kernel
theorem d_Mo_add_1 : decode Y_Mo_add.2.2.1 1 = .ok (.istore_n 3, 1) := by decide +kernel
theorem d_Mo_add_2 : decode Y_Mo_add.2.2.1 2 = .ok (.iload_n 3, 1) := by decide +kernel
theorem d_Mo_add_3 : decode Y_Mo_add.2.2.1 3 = .ok (.aload_n 0, 1) := by decide +kernel
theorem d_Mo_add_4 : decode Y_Mo_add.2.2.1 4 = .ok (.getfield 47, 3) := by decide +kernel
theorem d_Mo_add_7 : decode Y_Mo_add.2.2.1 7 = .ok (.if_icmp .ge 91, 3) := by decide +kernel
theorem d_Mo_add_10 : decode Y_Mo_add.2.2.1 10 = .ok (.iconst 0, 1) := by decide +kernel
theorem d_Mo_add_11 : decode Y_Mo_add.2.2.1 11 = .ok (.istore 4, 2) := by decide +kernel
theorem d_Mo_add_13 : decode Y_Mo_add.2.2.1 13 = .ok (.iload 4, 2) := by decide +kernel
theorem d_Mo_add_15 : decode Y_Mo_add.2.2.1 15 = .ok (.aload_n 0, 1) := by decide +kernel
theorem d_Mo_add_16 : decode Y_Mo_add.2.2.1 16 = .ok (.getfield 47, 3) := by decide +kernel
theorem d_Mo_add_19 : decode Y_Mo_add.2.2.1 19 = .ok (.if_icmp .ge 73, 3) := by decide +kernel
theorem d_Mo_add_22 : decode Y_Mo_add.2.2.1 22 = .ok (.iload_n 1, 1) := by decide +kernel
theorem d_Mo_add_23 : decode Y_Mo_add.2.2.1 23 = .ok (.iload_n 3, 1) := by decide +kernel
theorem d_Mo_add_24 : decode Y_Mo_add.2.2.1 24 = .ok (.invokestatic 69, 3) := by decide +kernel
theorem d_Mo_add_27 : decode Y_Mo_add.2.2.1 27 = .ok (.istore 5, 2) := by decide +kernel
theorem d_Mo_add_29 : decode Y_Mo_add.2.2.1 29 = .ok (.iload_n 1, 1) := by decide +kernel
theorem d_Mo_add_30 : decode Y_Mo_add.2.2.1 30 = .ok (.iload 4, 2) := by decide +kernel
theorem d_Mo_add_32 : decode Y_Mo_add.2.2.1 32 = .ok (.invokestatic 69, 3) := by decide +kernel
theorem d_Mo_add_35 : decode Y_Mo_add.2.2.1 35 = .ok (.istore 6, 2) := by decide +kernel
theorem d_Mo_add_37 : decode Y_Mo_add.2.2.1 37 = .ok (.iload 5, 2) := by decide +kernel
theorem d_Mo_add_39 : decode Y_Mo_add.2.2.1 39 = .ok (.ifCond .le 19, 3) := by decide +kernel
theorem d_Mo_add_42 : decode Y_Mo_add.2.2.1 42 = .ok (.iload 6, 2) := by decide +kernel
theorem d_Mo_add_44 : decode Y_Mo_add.2.2.1 44 = .ok (.ifCond .eq 10, 3) := by decide +kernel
theorem d_Mo_add_47 : decode Y_Mo_add.2.2.1 47 = .ok (.iload 5, 2) := by decide +kernel
theorem d_Mo_add_49 : decode Y_Mo_add.2.2.1 49 = .ok (.iload 6, 2) := by decide +kernel
theorem d_Mo_add_51 : decode Y_Mo_add.2.2.1 51 = .ok (.if_icmp .ge 7, 3) := by decide +kernel
theorem d_Mo_add_54 : decode Y_Mo_add.2.2.1 54 = .ok (.iconst 1, 1) := by decide +kernel
theorem d_Mo_add_55 : decode Y_Mo_add.2.2.1 55 = .ok (.goto 4, 3) := by decide +kernel
theorem d_Mo_add_58 : decode Y_Mo_add.2.2.1 58 = .ok (.iconst 0, 1) := by decide +kernel
theorem d_Mo_add_59 : decode Y_Mo_add.2.2.1 59 = .ok (.istore 7, 2) := by decide +kernel
theorem d_Mo_add_61 : decode Y_Mo_add.2.2.1 61 = .ok (.aload_n 0, 1) := by decide +kernel
theorem d_Mo_add_62 : decode Y_Mo_add.2.2.1 62 = .ok (.getfield 25, 3) := by decide +kernel
theorem d_Mo_add_65 : decode Y_Mo_add.2.2.1 65 = .ok (.bipush 8, 2) := by decide +kernel
theorem d_Mo_add_67 : decode Y_Mo_add.2.2.1 67 = .ok (.iload_n 3, 1) := by decide +kernel
theorem d_Mo_add_68 : decode Y_Mo_add.2.2.1 68 = .ok (.imul, 1) := by decide +kernel
theorem d_Mo_add_69 : decode Y_Mo_add.2.2.1 69 = .ok (.iload 4, 2) := by decide +kernel
theorem d_Mo_add_71 : decode Y_Mo_add.2.2.1 71 = .ok (.iadd, 1) := by decide +kernel
theorem d_Mo_add_72 : decode Y_Mo_add.2.2.1 72 = .ok (.dup2, 1) := by decide +kernel
theorem d_Mo_add_73 : decode Y_Mo_add.2.2.1 73 = .ok (.iaload, 1) := by decide +kernel
theorem d_Mo_add_74 : decode Y_Mo_add.2.2.1 74 = .ok (.iload 7, 2) := by decide +kernel
theorem d_Mo_add_76 : decode Y_Mo_add.2.2.1 76 = .ok (.ifCond .eq 7, 3) := by decide +kernel
theorem d_Mo_add_79 : decode Y_Mo_add.2.2.1 79 = .ok (.iload_n 2, 1) := by decide +kernel
theorem d_Mo_add_80 : decode Y_Mo_add.2.2.1 80 = .ok (.goto 4, 3) := by decide +kernel
theorem d_Mo_add_83 : decode Y_Mo_add.2.2.1 83 = .ok (.iconst 0, 1) := by decide +kernel
theorem d_Mo_add_84 : decode Y_Mo_add.2.2.1 84 = .ok (.iadd, 1) := by decide +kernel
theorem d_Mo_add_85 : decode Y_Mo_add.2.2.1 85 = .ok (.iastore, 1) := by decide +kernel
theorem d_Mo_add_86 : decode Y_Mo_add.2.2.1 86 = .ok (.iinc 4 1, 3) := by decide +kernel
theorem d_Mo_add_89 : decode Y_Mo_add.2.2.1 89 = .ok (.goto (-76), 3) := by decide +kernel
theorem d_Mo_add_92 : decode Y_Mo_add.2.2.1 92 = .ok (.iinc 3 1, 3) := by decide +kernel
theorem d_Mo_add_95 : decode Y_Mo_add.2.2.1 95 = .ok (.goto (-93), 3) := by decide +kernel
theorem d_Mo_add_98 : decode Y_Mo_add.2.2.1 98 = .ok (.return_, 1) := by decide +kernel
theorem d_Mo_lesser_0 : decode Y_Mo_lesser.2.2.1 0 = .ok (.iload_n 0, 1) := by decide +kernel
theorem d_Mo_lesser_1 : decode Y_Mo_lesser.2.2.1 1 = .ok (.iload_n 1, 1) := by decide +kernel
theorem d_Mo_lesser_2 : decode Y_Mo_lesser.2.2.1 2 = .ok (.if_icmp .ge 7, 3) := by decide +kernel
theorem d_Mo_lesser_5 : decode Y_Mo_lesser.2.2.1 5 = .ok (.iload_n 0, 1) := by decide +kernel
theorem d_Mo_lesser_6 : decode Y_Mo_lesser.2.2.1 6 = .ok (.goto 4, 3) := by decide +kernel
theorem d_Mo_lesser_9 : decode Y_Mo_lesser.2.2.1 9 = .ok (.iload_n 1, 1) := by decide +kernel
theorem d_Mo_lesser_10 : decode Y_Mo_lesser.2.2.1 10 = .ok (.ireturn, 1) := by decide +kernel
theorem d_Mo_strengthen_0 : decode Y_Mo_strengthen.2.2.1 0 = .ok (.iconst 0, 1) := by decide +kernel
theorem d_Mo_strengthen_1 : decode Y_Mo_strengthen.2.2.1 1 = .ok (.istore_n 1, 1) := by decide +kernel
theorem d_Mo_strengthen_2 : decode Y_Mo_strengthen.2.2.1 2 = .ok (.iload_n 1, 1) := by decide +kernel
theorem d_Mo_strengthen_3 : decode Y_Mo_strengthen.2.2.1 3 = .ok (.bipush 64, 2) := by decide +kernel
theorem d_Mo_strengthen_5 : decode Y_Mo_strengthen.2.2.1 5 = .ok (.if_icmp .ge 21, 3) := by decide +kernel
theorem d_Mo_strengthen_8 : decode Y_Mo_strengthen.2.2.1 8 = .ok (.aload_n 0, 1) := by decide +kernel
theorem d_Mo_strengthen_9 : decode Y_Mo_strengthen.2.2.1 9 = .ok (.getfield 31, 3) := by decide +kernel
theorem d_Mo_strengthen_12 : decode Y_Mo_strengthen.2.2.1 12 = .ok (.iload_n 1, 1) := by decide +kernel
theorem d_Mo_strengthen_13 : decode Y_Mo_strengthen.2.2.1 13 = .ok (.aload_n 0, 1) := by decide +kernel
theorem d_Mo_strengthen_14 : decode Y_Mo_strengthen.2.2.1 14 = .ok (.getfield 28, 3) := by decide +kernel
theorem d_Mo_strengthen_17 : decode Y_Mo_strengthen.2.2.1 17 = .ok (.iload_n 1, 1) := by decide +kernel
theorem d_Mo_strengthen_18 : decode Y_Mo_strengthen.2.2.1 18 = .ok (.iaload, 1) := by decide +kernel
theorem d_Mo_strengthen_19 : decode Y_Mo_strengthen.2.2.1 19 = .ok (.iastore, 1) := by decide +kernel
theorem d_Mo_strengthen_20 : decode Y_Mo_strengthen.2.2.1 20 = .ok (.iinc 1 1, 3) := by decide +kernel
theorem d_Mo_strengthen_23 : decode Y_Mo_strengthen.2.2.1 23 = .ok (.goto (-21), 3) := by decide +kernel
theorem d_Mo_strengthen_26 : decode Y_Mo_strengthen.2.2.1 26 = .ok (.iconst 1, 1) := by decide +kernel
theorem d_Mo_strengthen_27 : decode Y_Mo_strengthen.2.2.1 27 = .ok (.istore_n 1, 1) := by decide +kernel
theorem d_Mo_strengthen_28 : decode Y_Mo_strengthen.2.2.1 28 = .ok (.iload_n 1, 1) := by decide +kernel
theorem d_Mo_strengthen_29 : decode Y_Mo_strengthen.2.2.1 29 = .ok (.ifCond .eq 112, 3) := by decide +kernel
theorem d_Mo_strengthen_32 : decode Y_Mo_strengthen.2.2.1 32 = .ok (.iconst 0, 1) := by decide +kernel
theorem d_Mo_strengthen_33 : decode Y_Mo_strengthen.2.2.1 33 = .ok (.istore_n 1, 1) := by decide +kernel
theorem d_Mo_strengthen_34 : decode Y_Mo_strengthen.2.2.1 34 = .ok (.iconst 0, 1) := by decide +kernel
theorem d_Mo_strengthen_35 : decode Y_Mo_strengthen.2.2.1 35 = .ok (.istore_n 2, 1) := by decide +kernel
theorem d_Mo_strengthen_36 : decode Y_Mo_strengthen.2.2.1 36 = .ok (.iload_n 2, 1) := by decide +kernel
theorem d_Mo_strengthen_37 : decode Y_Mo_strengthen.2.2.1 37 = .ok (.sipush 512, 3) := by decide +kernel
theorem d_Mo_strengthen_40 : decode Y_Mo_strengthen.2.2.1 40 = .ok (.if_icmp .ge 98, 3) := by decide +kernel
theorem d_Mo_strengthen_43 : decode Y_Mo_strengthen.2.2.1 43 = .ok (.iload_n 2, 1) := by decide +kernel
theorem d_Mo_strengthen_44 : decode Y_Mo_strengthen.2.2.1 44 = .ok (.bipush 64, 2) := by decide +kernel
theorem d_Mo_strengthen_46 : decode Y_Mo_strengthen.2.2.1 46 = .ok (.idiv, 1) := by decide +kernel
theorem d_Mo_strengthen_47 : decode Y_Mo_strengthen.2.2.1 47 = .ok (.istore_n 3, 1) := by decide +kernel
end
section
/-! decode rows, written by gen/dec.py -/
theorem d_Mo_strengthen_48 : decode Y_Mo_strengthen.2.2.1 48 = .ok (.iload_n 2, 1) := by decide +kernel
theorem d_Mo_strengthen_49 : decode Y_Mo_strengthen.2.2.1 49 = .ok (.bipush 8, 2) := by decide +kernel
theorem d_Mo_strengthen_51 : decode Y_Mo_strengthen.2.2.1 51 = .ok (.idiv, 1) := by decide +kernel
theorem d_Mo_strengthen_52 : decode Y_Mo_strengthen.2.2.1 52 = .ok (.bipush 8, 2) := by decide +kernel
theorem d_Mo_strengthen_54 : decode Y_Mo_strengthen.2.2.1 54 = .ok (.irem, 1) := by decide +kernel
theorem d_Mo_strengthen_55 : decode Y_Mo_strengthen.2.2.1 55 = .ok (.istore 4, 2) := by decide +kernel
theorem d_Mo_strengthen_57 : decode Y_Mo_strengthen.2.2.1 57 = .ok (.iload_n 2, 1) := by decide +kernel
theorem d_Mo_strengthen_58 : decode Y_Mo_strengthen.2.2.1 58 = .ok (.bipush 8, 2) := by decide +kernel
theorem d_Mo_strengthen_60 : decode Y_Mo_strengthen.2.2.1 60 = .ok (.irem, 1) := by decide +kernel
theorem d_Mo_strengthen_61 : decode Y_Mo_strengthen.2.2.1 61 = .ok (.istore 5, 2) := by decide +kernel
theorem d_Mo_strengthen_63 : decode Y_Mo_strengthen.2.2.1 63 = .ok (.aload_n 0, 1) := by decide +kernel
theorem d_Mo_strengthen_64 : decode Y_Mo_strengthen.2.2.1 64 = .ok (.getfield 31, 3) := by decide +kernel
theorem d_Mo_strengthen_67 : decode Y_Mo_strengthen.2.2.1 67 = .ok (.bipush 8, 2) := by decide +kernel
theorem d_Mo_strengthen_69 : decode Y_Mo_strengthen.2.2.1 69 = .ok (.iload_n 3, 1) := by decide +kernel
theorem d_Mo_strengthen_70 : decode Y_Mo_strengthen.2.2.1 70 = .ok (.imul, 1) := by decide +kernel
theorem d_Mo_strengthen_71 : decode Y_Mo_strengthen.2.2.1 71 = .ok (.iload 4, 2) := by decide +kernel
theorem d_Mo_strengthen_73 : decode Y_Mo_strengthen.2.2.1 73 = .ok (.iadd, 1) := by decide +kernel
theorem d_Mo_strengthen_74 : decode Y_Mo_strengthen.2.2.1 74 = .ok (.iaload, 1) := by decide +kernel
theorem d_Mo_strengthen_75 : decode Y_Mo_strengthen.2.2.1 75 = .ok (.aload_n 0, 1) := by decide +kernel
theorem d_Mo_strengthen_76 : decode Y_Mo_strengthen.2.2.1 76 = .ok (.getfield 28, 3) := by decide +kernel
theorem d_Mo_strengthen_79 : decode Y_Mo_strengthen.2.2.1 79 = .ok (.bipush 8, 2) := by decide +kernel
theorem d_Mo_strengthen_81 : decode Y_Mo_strengthen.2.2.1 81 = .ok (.iload 4, 2) := by decide +kernel
theorem d_Mo_strengthen_83 : decode Y_Mo_strengthen.2.2.1 83 = .ok (.imul, 1) := by decide +kernel
theorem d_Mo_strengthen_84 : decode Y_Mo_strengthen.2.2.1 84 = .ok (.iload 5, 2) := by decide +kernel
theorem d_Mo_strengthen_86 : decode Y_Mo_strengthen.2.2.1 86 = .ok (.iadd, 1) := by decide +kernel
theorem d_Mo_strengthen_87 : decode Y_Mo_strengthen.2.2.1 87 = .ok (.iaload, 1) := by decide +kernel
theorem d_Mo_strengthen_88 : decode Y_Mo_strengthen.2.2.1 88 = .ok (.invokestatic 83, 3) := by decide +kernel
theorem d_Mo_strengthen_91 : decode Y_Mo_strengthen.2.2.1 91 = .ok (.istore 6, 2) := by decide +kernel
theorem d_Mo_strengthen_93 : decode Y_Mo_strengthen.2.2.1 93 = .ok (.iload_n 3, 1) := by decide +kernel
theorem d_Mo_strengthen_94 : decode Y_Mo_strengthen.2.2.1 94 = .ok (.iload 5, 2) := by decide +kernel
theorem d_Mo_strengthen_96 : decode Y_Mo_strengthen.2.2.1 96 = .ok (.if_icmp .eq 36, 3) := by decide +kernel
theorem d_Mo_strengthen_99 : decode Y_Mo_strengthen.2.2.1 99 = .ok (.iload 6, 2) := by decide +kernel
theorem d_Mo_strengthen_101 : decode Y_Mo_strengthen.2.2.1 101 = .ok (.aload_n 0, 1) := by decide +kernel
theorem d_Mo_strengthen_102 : decode Y_Mo_strengthen.2.2.1 102 = .ok (.getfield 31, 3) := by decide +kernel
theorem d_Mo_strengthen_105 : decode Y_Mo_strengthen.2.2.1 105 = .ok (.bipush 8, 2) := by decide +kernel
theorem d_Mo_strengthen_107 : decode Y_Mo_strengthen.2.2.1 107 = .ok (.iload_n 3, 1) := by decide +kernel
theorem d_Mo_strengthen_108 : decode Y_Mo_strengthen.2.2.1 108 = .ok (.imul, 1) := by decide +kernel
theorem d_Mo_strengthen_109 : decode Y_Mo_strengthen.2.2.1 109 = .ok (.iload 5, 2) := by decide +kernel
theorem d_Mo_strengthen_111 : decode Y_Mo_strengthen.2.2.1 111 = .ok (.iadd, 1) := by decide +kernel
theorem d_Mo_strengthen_112 : decode Y_Mo_strengthen.2.2.1 112 = .ok (.iaload, 1) := by decide +kernel
theorem d_Mo_strengthen_113 : decode Y_Mo_strengthen.2.2.1 113 = .ok (.if_icmp .le 19, 3) := by decide +kernel
theorem d_Mo_strengthen_116 : decode Y_Mo_strengthen.2.2.1 116 = .ok (.aload_n 0, 1) := by decide +kernel
theorem d_Mo_strengthen_117 : decode Y_Mo_strengthen.2.2.1 117 = .ok (.getfield 31, 3) := by decide +kernel
theorem d_Mo_strengthen_120 : decode Y_Mo_strengthen.2.2.1 120 = .ok (.bipush 8, 2) := by decide +kernel
theorem d_Mo_strengthen_122 : decode Y_Mo_strengthen.2.2.1 122 = .ok (.iload_n 3, 1) := by decide +kernel
theorem d_Mo_strengthen_123 : decode Y_Mo_strengthen.2.2.1 123 = .ok (.imul, 1) := by decide +kernel
theorem d_Mo_strengthen_124 : decode Y_Mo_strengthen.2.2.1 124 = .ok (.iload 5, 2) := by decide +kernel
theorem d_Mo_strengthen_126 : decode Y_Mo_strengthen.2.2.1 126 = .ok (.iadd, 1) := by decide +kernel
theorem d_Mo_strengthen_127 : decode Y_Mo_strengthen.2.2.1 127 = .ok (.iload 6, 2) := by decide +kernel
theorem d_Mo_strengthen_129 : decode Y_Mo_strengthen.2.2.1 129 = .ok (.iastore, 1) := by decide +kernel
theorem d_Mo_strengthen_130 : decode Y_Mo_strengthen.2.2.1 130 = .ok (.iconst 1, 1) := by decide +kernel
theorem d_Mo_strengthen_131 : decode Y_Mo_strengthen.2.2.1 131 = .ok (.istore_n 1, 1) := by decide +kernel
theorem d_Mo_strengthen_132 : decode Y_Mo_strengthen.2.2.1 132 = .ok (.iinc 2 1, 3) := by decide +kernel
theorem d_Mo_strengthen_135 : decode Y_Mo_strengthen.2.2.1 135 = .ok (.goto (-99), 3) := by decide +kernel
theorem d_Mo_strengthen_138 : decode Y_Mo_strengthen.2.2.1 138 = .ok (.goto (-110), 3) := by decide +kernel
theorem d_Mo_strengthen_141 : decode Y_Mo_strengthen.2.2.1 141 = .ok (.return_, 1) := by decide +kernel
theorem d_Mo_lacks_0 : decode Y_Mo_lacks.2.2.1 0 = .ok (.aload_n 0, 1) := by decide +kernel
theorem d_Mo_lacks_1 : decode Y_Mo_lacks.2.2.1 1 = .ok (.aload_n 0, 1) := by decide +kernel
theorem d_Mo_lacks_2 : decode Y_Mo_lacks.2.2.1 2 = .ok (.iload_n 1, 1) := by decide +kernel
theorem d_Mo_lacks_3 : decode Y_Mo_lacks.2.2.1 3 = .ok (.invokevirtual 57, 3) := by decide +kernel
theorem d_Mo_lacks_6 : decode Y_Mo_lacks.2.2.1 6 = .ok (.ifCond .eq 16, 3) := by decide +kernel
theorem d_Mo_lacks_9 : decode Y_Mo_lacks.2.2.1 9 = .ok (.aload_n 0, 1) := by decide +kernel
theorem d_Mo_lacks_10 : decode Y_Mo_lacks.2.2.1 10 = .ok (.iload_n 2, 1) := by decide +kernel
theorem d_Mo_lacks_11 : decode Y_Mo_lacks.2.2.1 11 = .ok (.invokevirtual 57, 3) := by decide +kernel
theorem d_Mo_lacks_14 : decode Y_Mo_lacks.2.2.1 14 = .ok (.ifCond .eq 8, 3) := by decide +kernel
theorem d_Mo_lacks_17 : decode Y_Mo_lacks.2.2.1 17 = .ok (.iload_n 1, 1) := by decide +kernel
theorem d_Mo_lacks_18 : decode Y_Mo_lacks.2.2.1 18 = .ok (.iload_n 2, 1) := by decide +kernel
theorem d_Mo_lacks_19 : decode Y_Mo_lacks.2.2.1 19 = .ok (.if_icmp .ne 7, 3) := by decide +kernel
theorem d_Mo_lacks_22 : decode Y_Mo_lacks.2.2.1 22 = .ok (.iconst 1, 1) := by decide +kernel
theorem d_Mo_lacks_23 : decode Y_Mo_lacks.2.2.1 23 = .ok (.goto 4, 3) := by decide +kernel
theorem d_Mo_lacks_26 : decode Y_Mo_lacks.2.2.1 26 = .ok (.iconst 0, 1) := by decide +kernel
theorem d_Mo_lacks_27 : decode Y_Mo_lacks.2.2.1 27 = .ok (.putfield 51, 3) := by decide +kernel
theorem d_Mo_lacks_30 : decode Y_Mo_lacks.2.2.1 30 = .ok (.aload_n 0, 1) := by decide +kernel
theorem d_Mo_lacks_31 : decode Y_Mo_lacks.2.2.1 31 = .ok (.getfield 51, 3) := by decide +kernel
theorem d_Mo_lacks_34 : decode Y_Mo_lacks.2.2.1 34 = .ok (.ifCond .ne 12, 3) := by decide +kernel
theorem d_Mo_lacks_37 : decode Y_Mo_lacks.2.2.1 37 = .ok (.aload_n 0, 1) := by decide +kernel
theorem d_Mo_lacks_38 : decode Y_Mo_lacks.2.2.1 38 = .ok (.iconst (-1), 1) := by decide +kernel
theorem d_Mo_lacks_39 : decode Y_Mo_lacks.2.2.1 39 = .ok (.invokevirtual 86, 3) := by decide +kernel
theorem d_Mo_lacks_42 : decode Y_Mo_lacks.2.2.1 42 = .ok (.aload_n 0, 1) := by decide +kernel
theorem d_Mo_lacks_43 : decode Y_Mo_lacks.2.2.1 43 = .ok (.invokevirtual 90, 3) := by decide +kernel
theorem d_Mo_lacks_46 : decode Y_Mo_lacks.2.2.1 46 = .ok (.aload_n 0, 1) := by decide +kernel
theorem d_Mo_lacks_47 : decode Y_Mo_lacks.2.2.1 47 = .ok (.getfield 51, 3) := by decide +kernel
theorem d_Mo_lacks_50 : decode Y_Mo_lacks.2.2.1 50 = .ok (.ifCond .le 7, 3) := by decide +kernel
theorem d_Mo_lacks_53 : decode Y_Mo_lacks.2.2.1 53 = .ok (.iconst 1, 1) := by decide +kernel
theorem d_Mo_lacks_54 : decode Y_Mo_lacks.2.2.1 54 = .ok (.goto 4, 3) := by decide +kernel
theorem d_Mo_lacks_57 : decode Y_Mo_lacks.2.2.1 57 = .ok (.iconst 0, 1) := by decide +kernel
theorem d_Mo_lacks_58 : decode Y_Mo_lacks.2.2.1 58 = .ok (.ireturn, 1) := by decide +kernel
theorem d_Mo_prefer_0 : decode Y_Mo_prefer.2.2.1 0 = .ok (.aload_n 0, 1) := by decide +kernel
theorem d_Mo_prefer_1 : decode Y_Mo_prefer.2.2.1 1 = .ok (.iload_n 1, 1) := by decide +kernel
theorem d_Mo_prefer_2 : decode Y_Mo_prefer.2.2.1 2 = .ok (.iload_n 2, 1) := by decide +kernel
theorem d_Mo_prefer_3 : decode Y_Mo_prefer.2.2.1 3 = .ok (.invokevirtual 93, 3) := by decide +kernel
theorem d_Mo_prefer_6 : decode Y_Mo_prefer.2.2.1 6 = .ok (.ifCond .eq 7, 3) := by decide +kernel
theorem d_Mo_prefer_9 : decode Y_Mo_prefer.2.2.1 9 = .ok (.iconst 0, 1) := by decide +kernel
theorem d_Mo_prefer_10 : decode Y_Mo_prefer.2.2.1 10 = .ok (.goto 14, 3) := by decide +kernel
theorem d_Mo_prefer_13 : decode Y_Mo_prefer.2.2.1 13 = .ok (.aload_n 0, 1) := by decide +kernel
theorem d_Mo_prefer_14 : decode Y_Mo_prefer.2.2.1 14 = .ok (.getfield 25, 3) := by decide +kernel
theorem d_Mo_prefer_17 : decode Y_Mo_prefer.2.2.1 17 = .ok (.bipush 8, 2) := by decide +kernel
theorem d_Mo_prefer_19 : decode Y_Mo_prefer.2.2.1 19 = .ok (.iload_n 1, 1) := by decide +kernel
theorem d_Mo_prefer_20 : decode Y_Mo_prefer.2.2.1 20 = .ok (.imul, 1) := by decide +kernel
theorem d_Mo_prefer_21 : decode Y_Mo_prefer.2.2.1 21 = .ok (.iload_n 2, 1) := by decide +kernel
theorem d_Mo_prefer_22 : decode Y_Mo_prefer.2.2.1 22 = .ok (.iadd, 1) := by decide +kernel
theorem d_Mo_prefer_23 : decode Y_Mo_prefer.2.2.1 23 = .ok (.iaload, 1) := by decide +kernel
theorem d_Mo_prefer_24 : decode Y_Mo_prefer.2.2.1 24 = .ok (.ireturn, 1) := by decide +kernel
theorem d_Mo_strength_0 : decode Y_Mo_strength.2.2.1 0 = .ok (.aload_n 0, 1) := by decide +kernel
theorem d_Mo_strength_1 : decode Y_Mo_strength.2.2.1 1 = .ok (.iload_n 1, 1) := by decide +kernel
theorem d_Mo_strength_2 : decode Y_Mo_strength.2.2.1 2 = .ok (.iload_n 2, 1) := by decide +kernel
theorem d_Mo_strength_3 : decode Y_Mo_strength.2.2.1 3 = .ok (.invokevirtual 93, 3) := by decide +kernel
theorem d_Mo_strength_6 : decode Y_Mo_strength.2.2.1 6 = .ok (.ifCond .eq 7, 3) := by decide +kernel
theorem d_Mo_strength_9 : decode Y_Mo_strength.2.2.1 9 = .ok (.iconst 0, 1) := by decide +kernel
theorem d_Mo_strength_10 : decode Y_Mo_strength.2.2.1 10 = .ok (.goto 14, 3) := by decide +kernel
theorem d_Mo_strength_13 : decode Y_Mo_strength.2.2.1 13 = .ok (.aload_n 0, 1) := by decide +kernel
theorem d_Mo_strength_14 : decode Y_Mo_strength.2.2.1 14 = .ok (.getfield 31, 3) := by decide +kernel
theorem d_Mo_strength_17 : decode Y_Mo_strength.2.2.1 17 = .ok (.bipush 8, 2) := by decide +kernel
theorem d_Mo_strength_19 : decode Y_Mo_strength.2.2.1 19 = .ok (.iload_n 1, 1) := by decide +kernel
theorem d_Mo_strength_20 : decode Y_Mo_strength.2.2.1 20 = .ok (.imul, 1) := by decide +kernel
theorem d_Mo_strength_21 : decode Y_Mo_strength.2.2.1 21 = .ok (.iload_n 2, 1) := by decide +kernel
theorem d_Mo_strength_22 : decode Y_Mo_strength.2.2.1 22 = .ok (.iadd, 1) := by decide +kernel
theorem d_Mo_strength_23 : decode Y_Mo_strength.2.2.1 23 = .ok (.iaload, 1) := by decide +kernel
theorem d_Mo_strength_24 : decode Y_Mo_strength.2.2.1 24 = .ok (.ireturn, 1) := by decide +kernel
theorem d_Mo_way_0 : decode Y_Mo_way.2.2.1 0 = .ok (.aload_n 0, 1) := by decide +kernel
theorem d_Mo_way_1 : decode Y_Mo_way.2.2.1 1 = .ok (.iload_n 1, 1) := by decide +kernel
theorem d_Mo_way_2 : decode Y_Mo_way.2.2.1 2 = .ok (.iload_n 2, 1) := by decide +kernel
theorem d_Mo_way_3 : decode Y_Mo_way.2.2.1 3 = .ok (.invokevirtual 93, 3) := by decide +kernel
theorem d_Mo_way_6 : decode Y_Mo_way.2.2.1 6 = .ok (.ifCond .eq 5, 3) := by decide +kernel
theorem d_Mo_way_9 : decode Y_Mo_way.2.2.1 9 = .ok (.iconst 0, 1) := by decide +kernel
theorem d_Mo_way_10 : decode Y_Mo_way.2.2.1 10 = .ok (.ireturn, 1) := by decide +kernel
theorem d_Mo_way_11 : decode Y_Mo_way.2.2.1 11 = .ok (.aload_n 0, 1) := by decide +kernel
theorem d_Mo_way_12 : decode Y_Mo_way.2.2.1 12 = .ok (.getfield 31, 3) := by decide +kernel
theorem d_Mo_way_15 : decode Y_Mo_way.2.2.1 15 = .ok (.bipush 8, 2) := by decide +kernel
theorem d_Mo_way_17 : decode Y_Mo_way.2.2.1 17 = .ok (.iload_n 1, 1) := by decide +kernel
theorem d_Mo_way_18 : decode Y_Mo_way.2.2.1 18 = .ok (.imul, 1) := by decide +kernel
theorem d_Mo_way_19 : decode Y_Mo_way.2.2.1 19 = .ok (.iload_n 2, 1) := by decide +kernel
theorem d_Mo_way_20 : decode Y_Mo_way.2.2.1 20 = .ok (.iadd, 1) := by decide +kernel
theorem d_Mo_way_21 : decode Y_Mo_way.2.2.1 21 = .ok (.iaload, 1) := by decide +kernel
theorem d_Mo_way_22 : decode Y_Mo_way.2.2.1 22 = .ok (.istore_n 3, 1) := by decide +kernel
theorem d_Mo_way_23 : decode Y_Mo_way.2.2.1 23 = .ok (.iload_n 3, 1) := by decide +kernel
theorem d_Mo_way_24 : decode Y_Mo_way.2.2.1 24 = .ok (.ifCond .ne 5, 3) := by decide +kernel
theorem d_Mo_way_27 : decode Y_Mo_way.2.2.1 27 = .ok (.iconst 0, 1) := by decide +kernel
theorem d_Mo_way_28 : decode Y_Mo_way.2.2.1 28 = .ok (.ireturn, 1) := by decide +kernel
theorem d_Mo_way_29 : decode Y_Mo_way.2.2.1 29 = .ok (.iconst 0, 1) := by decide +kernel
theorem d_Mo_way_30 : decode Y_Mo_way.2.2.1 30 = .ok (.istore 4, 2) := by decide +kernel
theorem d_Mo_way_32 : decode Y_Mo_way.2.2.1 32 = .ok (.iload 4, 2) := by decide +kernel
theorem d_Mo_way_34 : decode Y_Mo_way.2.2.1 34 = .ok (.bipush 8, 2) := by decide +kernel
theorem d_Mo_way_36 : decode Y_Mo_way.2.2.1 36 = .ok (.if_icmp .ge 28, 3) := by decide +kernel
theorem d_Mo_way_39 : decode Y_Mo_way.2.2.1 39 = .ok (.aload_n 0, 1) := by decide +kernel
theorem d_Mo_way_40 : decode Y_Mo_way.2.2.1 40 = .ok (.getfield 41, 3) := by decide +kernel
theorem d_Mo_way_43 : decode Y_Mo_way.2.2.1 43 = .ok (.iload 4, 2) := by decide +kernel
theorem d_Mo_way_45 : decode Y_Mo_way.2.2.1 45 = .ok (.iload 4, 2) := by decide +kernel
theorem d_Mo_way_47 : decode Y_Mo_way.2.2.1 47 = .ok (.iload_n 2, 1) := by decide +kernel
theorem d_Mo_way_48 : decode Y_Mo_way.2.2.1 48 = .ok (.if_icmp .ne 7, 3) := by decide +kernel
theorem d_Mo_way_51 : decode Y_Mo_way.2.2.1 51 = .ok (.iconst 0, 1) := by decide +kernel
theorem d_Mo_way_52 : decode Y_Mo_way.2.2.1 52 = .ok (.goto 5, 3) := by decide +kernel
theorem d_Mo_way_55 : decode Y_Mo_way.2.2.1 55 = .ok (.bipush 9, 2) := by decide +kernel
theorem d_Mo_way_57 : decode Y_Mo_way.2.2.1 57 = .ok (.iastore, 1) := by decide +kernel
theorem d_Mo_way_58 : decode Y_Mo_way.2.2.1 58 = .ok (.iinc 4 1, 3) := by decide +kernel
theorem d_Mo_way_61 : decode Y_Mo_way.2.2.1 61 = .ok (.goto (-29), 3) := by decide +kernel
theorem d_Mo_way_64 : decode Y_Mo_way.2.2.1 64 = .ok (.iconst 0, 1) := by decide +kernel
theorem d_Mo_way_65 : decode Y_Mo_way.2.2.1 65 = .ok (.istore 4, 2) := by decide +kernel
theorem d_Mo_way_67 : decode Y_Mo_way.2.2.1 67 = .ok (.iload 4, 2) := by decide +kernel
theorem d_Mo_way_69 : decode Y_Mo_way.2.2.1 69 = .ok (.bipush 8, 2) := by decide +kernel
theorem d_Mo_way_71 : decode Y_Mo_way.2.2.1 71 = .ok (.if_icmp .ge 108, 3) := by decide +kernel
theorem d_Mo_way_74 : decode Y_Mo_way.2.2.1 74 = .ok (.iconst 0, 1) := by decide +kernel
theorem d_Mo_way_75 : decode Y_Mo_way.2.2.1 75 = .ok (.istore 5, 2) := by decide +kernel
theorem d_Mo_way_77 : decode Y_Mo_way.2.2.1 77 = .ok (.iload 5, 2) := by decide +kernel
theorem d_Mo_way_79 : decode Y_Mo_way.2.2.1 79 = .ok (.bipush 64, 2) := by decide +kernel
theorem d_Mo_way_81 : decode Y_Mo_way.2.2.1 81 = .ok (.if_icmp .ge 92, 3) := by decide +kernel
theorem d_Mo_way_84 : decode Y_Mo_way.2.2.1 84 = .ok (.aload_n 0, 1) := by decide +kernel
theorem d_Mo_way_85 : decode Y_Mo_way.2.2.1 85 = .ok (.getfield 28, 3) := by decide +kernel
theorem d_Mo_way_88 : decode Y_Mo_way.2.2.1 88 = .ok (.iload 5, 2) := by decide +kernel
theorem d_Mo_way_90 : decode Y_Mo_way.2.2.1 90 = .ok (.iaload, 1) := by decide +kernel
theorem d_Mo_way_91 : decode Y_Mo_way.2.2.1 91 = .ok (.iload_n 3, 1) := by decide +kernel
theorem d_Mo_way_92 : decode Y_Mo_way.2.2.1 92 = .ok (.if_icmp .lt 32, 3) := by decide +kernel
theorem d_Mo_way_95 : decode Y_Mo_way.2.2.1 95 = .ok (.aload_n 0, 1) := by decide +kernel
theorem d_Mo_way_96 : decode Y_Mo_way.2.2.1 96 = .ok (.getfield 41, 3) := by decide +kernel
theorem d_Mo_way_99 : decode Y_Mo_way.2.2.1 99 = .ok (.iload 5, 2) := by decide +kernel
theorem d_Mo_way_101 : decode Y_Mo_way.2.2.1 101 = .ok (.bipush 8, 2) := by decide +kernel
theorem d_Mo_way_103 : decode Y_Mo_way.2.2.1 103 = .ok (.irem, 1) := by decide +kernel
theorem d_Mo_way_104 : decode Y_Mo_way.2.2.1 104 = .ok (.iaload, 1) := by decide +kernel
theorem d_Mo_way_105 : decode Y_Mo_way.2.2.1 105 = .ok (.iconst 1, 1) := by decide +kernel
theorem d_Mo_way_106 : decode Y_Mo_way.2.2.1 106 = .ok (.iadd, 1) := by decide +kernel
theorem d_Mo_way_107 : decode Y_Mo_way.2.2.1 107 = .ok (.aload_n 0, 1) := by decide +kernel
theorem d_Mo_way_108 : decode Y_Mo_way.2.2.1 108 = .ok (.getfield 41, 3) := by decide +kernel
theorem d_Mo_way_111 : decode Y_Mo_way.2.2.1 111 = .ok (.iload 5, 2) := by decide +kernel
theorem d_Mo_way_113 : decode Y_Mo_way.2.2.1 113 = .ok (.bipush 8, 2) := by decide +kernel
theorem d_Mo_way_115 : decode Y_Mo_way.2.2.1 115 = .ok (.idiv, 1) := by decide +kernel
theorem d_Mo_way_116 : decode Y_Mo_way.2.2.1 116 = .ok (.iaload, 1) := by decide +kernel
theorem d_Mo_way_117 : decode Y_Mo_way.2.2.1 117 = .ok (.if_icmp .ge 7, 3) := by decide +kernel
theorem d_Mo_way_120 : decode Y_Mo_way.2.2.1 120 = .ok (.iconst 1, 1) := by decide +kernel
theorem d_Mo_way_121 : decode Y_Mo_way.2.2.1 121 = .ok (.goto 4, 3) := by decide +kernel
theorem d_Mo_way_124 : decode Y_Mo_way.2.2.1 124 = .ok (.iconst 0, 1) := by decide +kernel
theorem d_Mo_way_125 : decode Y_Mo_way.2.2.1 125 = .ok (.istore 6, 2) := by decide +kernel
theorem d_Mo_way_127 : decode Y_Mo_way.2.2.1 127 = .ok (.aload_n 0, 1) := by decide +kernel
theorem d_Mo_way_128 : decode Y_Mo_way.2.2.1 128 = .ok (.getfield 41, 3) := by decide +kernel
theorem d_Mo_way_131 : decode Y_Mo_way.2.2.1 131 = .ok (.iload 5, 2) := by decide +kernel
theorem d_Mo_way_133 : decode Y_Mo_way.2.2.1 133 = .ok (.bipush 8, 2) := by decide +kernel
theorem d_Mo_way_135 : decode Y_Mo_way.2.2.1 135 = .ok (.idiv, 1) := by decide +kernel
theorem d_Mo_way_136 : decode Y_Mo_way.2.2.1 136 = .ok (.iload 6, 2) := by decide +kernel
theorem d_Mo_way_138 : decode Y_Mo_way.2.2.1 138 = .ok (.ifCond .eq 18, 3) := by decide +kernel
theorem d_Mo_way_141 : decode Y_Mo_way.2.2.1 141 = .ok (.aload_n 0, 1) := by decide +kernel
theorem d_Mo_way_142 : decode Y_Mo_way.2.2.1 142 = .ok (.getfield 41, 3) := by decide +kernel
theorem d_Mo_way_145 : decode Y_Mo_way.2.2.1 145 = .ok (.iload 5, 2) := by decide +kernel
theorem d_Mo_way_147 : decode Y_Mo_way.2.2.1 147 = .ok (.bipush 8, 2) := by decide +kernel
theorem d_Mo_way_149 : decode Y_Mo_way.2.2.1 149 = .ok (.irem, 1) := by decide +kernel
theorem d_Mo_way_150 : decode Y_Mo_way.2.2.1 150 = .ok (.iaload, 1) := by decide +kernel
theorem d_Mo_way_151 : decode Y_Mo_way.2.2.1 151 = .ok (.iconst 1, 1) := by decide +kernel
theorem d_Mo_way_152 : decode Y_Mo_way.2.2.1 152 = .ok (.iadd, 1) := by decide +kernel
theorem d_Mo_way_153 : decode Y_Mo_way.2.2.1 153 = .ok (.goto 13, 3) := by decide +kernel
theorem d_Mo_way_156 : decode Y_Mo_way.2.2.1 156 = .ok (.aload_n 0, 1) := by decide +kernel
theorem d_Mo_way_157 : decode Y_Mo_way.2.2.1 157 = .ok (.getfield 41, 3) := by decide +kernel
theorem d_Mo_way_160 : decode Y_Mo_way.2.2.1 160 = .ok (.iload 5, 2) := by decide +kernel
theorem d_Mo_way_162 : decode Y_Mo_way.2.2.1 162 = .ok (.bipush 8, 2) := by decide +kernel
theorem d_Mo_way_164 : decode Y_Mo_way.2.2.1 164 = .ok (.idiv, 1) := by decide +kernel
theorem d_Mo_way_165 : decode Y_Mo_way.2.2.1 165 = .ok (.iaload, 1) := by decide +kernel
theorem d_Mo_way_166 : decode Y_Mo_way.2.2.1 166 = .ok (.iastore, 1) := by decide +kernel
theorem d_Mo_way_167 : decode Y_Mo_way.2.2.1 167 = .ok (.iinc 5 1, 3) := by decide +kernel
theorem d_Mo_way_170 : decode Y_Mo_way.2.2.1 170 = .ok (.goto (-93), 3) := by decide +kernel
theorem d_Mo_way_173 : decode Y_Mo_way.2.2.1 173 = .ok (.iinc 4 1, 3) := by decide +kernel
theorem d_Mo_way_176 : decode Y_Mo_way.2.2.1 176 = .ok (.goto (-109), 3) := by decide +kernel
theorem d_Mo_way_179 : decode Y_Mo_way.2.2.1 179 = .ok (.iload_n 1, 1) := by decide +kernel
theorem d_Mo_way_180 : decode Y_Mo_way.2.2.1 180 = .ok (.iconst 1, 1) := by decide +kernel
theorem d_Mo_way_181 : decode Y_Mo_way.2.2.1 181 = .ok (.iadd, 1) := by decide +kernel
theorem d_Mo_way_182 : decode Y_Mo_way.2.2.1 182 = .ok (.istore 4, 2) := by decide +kernel
theorem d_Mo_way_184 : decode Y_Mo_way.2.2.1 184 = .ok (.iload_n 1, 1) := by decide +kernel
theorem d_Mo_way_185 : decode Y_Mo_way.2.2.1 185 = .ok (.istore 5, 2) := by decide +kernel
theorem d_Mo_way_187 : decode Y_Mo_way.2.2.1 187 = .ok (.iconst 1, 1) := by decide +kernel
theorem d_Mo_way_188 : decode Y_Mo_way.2.2.1 188 = .ok (.istore 6, 2) := by decide +kernel
theorem d_Mo_way_190 : decode Y_Mo_way.2.2.1 190 = .ok (.iload 5, 2) := by decide +kernel
theorem d_Mo_way_192 : decode Y_Mo_way.2.2.1 192 = .ok (.iload_n 2, 1) := by decide +kernel
theorem d_Mo_way_193 : decode Y_Mo_way.2.2.1 193 = .ok (.if_icmp .eq 90, 3) := by decide +kernel
theorem d_Mo_way_196 : decode Y_Mo_way.2.2.1 196 = .ok (.iconst (-1), 1) := by decide +kernel
theorem d_Mo_way_197 : decode Y_Mo_way.2.2.1 197 = .ok (.istore 7, 2) := by decide +kernel
theorem d_Mo_way_199 : decode Y_Mo_way.2.2.1 199 = .ok (.bipush 7, 2) := by decide +kernel
theorem d_Mo_way_201 : decode Y_Mo_way.2.2.1 201 = .ok (.istore 8, 2) := by decide +kernel
theorem d_Mo_way_203 : decode Y_Mo_way.2.2.1 203 = .ok (.iload 8, 2) := by decide +kernel
theorem d_Mo_way_205 : decode Y_Mo_way.2.2.1 205 = .ok (.ifCond .lt 54, 3) := by decide +kernel
theorem d_Mo_way_208 : decode Y_Mo_way.2.2.1 208 = .ok (.aload_n 0, 1) := by decide +kernel
theorem d_Mo_way_209 : decode Y_Mo_way.2.2.1 209 = .ok (.getfield 28, 3) := by decide +kernel
theorem d_Mo_way_212 : decode Y_Mo_way.2.2.1 212 = .ok (.bipush 8, 2) := by decide +kernel
theorem d_Mo_way_214 : decode Y_Mo_way.2.2.1 214 = .ok (.iload 5, 2) := by decide +kernel
theorem d_Mo_way_216 : decode Y_Mo_way.2.2.1 216 = .ok (.imul, 1) := by decide +kernel
theorem d_Mo_way_217 : decode Y_Mo_way.2.2.1 217 = .ok (.iload 8, 2) := by decide +kernel
theorem d_Mo_way_219 : decode Y_Mo_way.2.2.1 219 = .ok (.iadd, 1) := by decide +kernel
theorem d_Mo_way_220 : decode Y_Mo_way.2.2.1 220 = .ok (.iaload, 1) := by decide +kernel
theorem d_Mo_way_221 : decode Y_Mo_way.2.2.1 221 = .ok (.iload_n 3, 1) := by decide +kernel
theorem d_Mo_way_222 : decode Y_Mo_way.2.2.1 222 = .ok (.if_icmp .lt 27, 3) := by decide +kernel
theorem d_Mo_way_225 : decode Y_Mo_way.2.2.1 225 = .ok (.aload_n 0, 1) := by decide +kernel
theorem d_Mo_way_226 : decode Y_Mo_way.2.2.1 226 = .ok (.getfield 41, 3) := by decide +kernel
theorem d_Mo_way_229 : decode Y_Mo_way.2.2.1 229 = .ok (.iload 8, 2) := by decide +kernel
theorem d_Mo_way_231 : decode Y_Mo_way.2.2.1 231 = .ok (.iaload, 1) := by decide +kernel
theorem d_Mo_way_232 : decode Y_Mo_way.2.2.1 232 = .ok (.aload_n 0, 1) := by decide +kernel
theorem d_Mo_way_233 : decode Y_Mo_way.2.2.1 233 = .ok (.getfield 41, 3) := by decide +kernel
theorem d_Mo_way_236 : decode Y_Mo_way.2.2.1 236 = .ok (.iload 5, 2) := by decide +kernel
theorem d_Mo_way_238 : decode Y_Mo_way.2.2.1 238 = .ok (.iaload, 1) := by decide +kernel
theorem d_Mo_way_239 : decode Y_Mo_way.2.2.1 239 = .ok (.iconst 1, 1) := by decide +kernel
theorem d_Mo_way_240 : decode Y_Mo_way.2.2.1 240 = .ok (.isub, 1) := by decide +kernel
theorem d_Mo_way_241 : decode Y_Mo_way.2.2.1 241 = .ok (.if_icmp .ne 8, 3) := by decide +kernel
theorem d_Mo_way_244 : decode Y_Mo_way.2.2.1 244 = .ok (.iload 8, 2) := by decide +kernel
theorem d_Mo_way_246 : decode Y_Mo_way.2.2.1 246 = .ok (.goto 5, 3) := by decide +kernel
theorem d_Mo_way_249 : decode Y_Mo_way.2.2.1 249 = .ok (.iload 7, 2) := by decide +kernel
theorem d_Mo_way_251 : decode Y_Mo_way.2.2.1 251 = .ok (.istore 7, 2) := by decide +kernel
theorem d_Mo_way_253 : decode Y_Mo_way.2.2.1 253 = .ok (.iinc 8 (-1), 3) := by decide +kernel
theorem d_Mo_way_256 : decode Y_Mo_way.2.2.1 256 = .ok (.goto (-53), 3) := by decide +kernel
theorem d_Mo_way_259 : decode Y_Mo_way.2.2.1 259 = .ok (.iload 4, 2) := by decide +kernel
theorem d_Mo_way_261 : decode Y_Mo_way.2.2.1 261 = .ok (.iload 7, 2) := by decide +kernel
theorem d_Mo_way_263 : decode Y_Mo_way.2.2.1 263 = .ok (.iconst 1, 1) := by decide +kernel
theorem d_Mo_way_264 : decode Y_Mo_way.2.2.1 264 = .ok (.iadd, 1) := by decide +kernel
theorem d_Mo_way_265 : decode Y_Mo_way.2.2.1 265 = .ok (.iconst 4, 1) := by decide +kernel
theorem d_Mo_way_266 : decode Y_Mo_way.2.2.1 266 = .ok (.iload 6, 2) := by decide +kernel
theorem d_Mo_way_268 : decode Y_Mo_way.2.2.1 268 = .ok (.imul, 1) := by decide +kernel
theorem d_Mo_way_269 : decode Y_Mo_way.2.2.1 269 = .ok (.ishl, 1) := by decide +kernel
theorem d_Mo_way_270 : decode Y_Mo_way.2.2.1 270 = .ok (.ior, 1) := by decide +kernel
theorem d_Mo_way_271 : decode Y_Mo_way.2.2.1 271 = .ok (.istore 4, 2) := by decide +kernel
theorem d_Mo_way_273 : decode Y_Mo_way.2.2.1 273 = .ok (.iload 7, 2) := by decide +kernel
theorem d_Mo_way_275 : decode Y_Mo_way.2.2.1 275 = .ok (.istore 5, 2) := by decide +kernel
theorem d_Mo_way_277 : decode Y_Mo_way.2.2.1 277 = .ok (.iinc 6 1, 3) := by decide +kernel
theorem d_Mo_way_280 : decode Y_Mo_way.2.2.1 280 = .ok (.goto (-90), 3) := by decide +kernel
theorem d_Mo_way_283 : decode Y_Mo_way.2.2.1 283 = .ok (.iload 4, 2) := by decide +kernel
theorem d_Mo_way_285 : decode Y_Mo_way.2.2.1 285 = .ok (.ireturn, 1) := by decide +kernel
theorem d_Mo_cut_0 : decode Y_Mo_cut.2.2.1 0 = .ok (.aload_n 0, 1) := by decide +kernel
theorem d_Mo_cut_1 : decode Y_Mo_cut.2.2.1 1 = .ok (.iload_n 1, 1) := by decide +kernel
theorem d_Mo_cut_2 : decode Y_Mo_cut.2.2.1 2 = .ok (.iload_n 2, 1) := by decide +kernel
theorem d_Mo_cut_3 : decode Y_Mo_cut.2.2.1 3 = .ok (.invokevirtual 93, 3) := by decide +kernel
theorem d_Mo_cut_6 : decode Y_Mo_cut.2.2.1 6 = .ok (.ifCond .eq 5, 3) := by decide +kernel
theorem d_Mo_cut_9 : decode Y_Mo_cut.2.2.1 9 = .ok (.iconst 0, 1) := by decide +kernel
theorem d_Mo_cut_10 : decode Y_Mo_cut.2.2.1 10 = .ok (.ireturn, 1) := by decide +kernel
theorem d_Mo_cut_11 : decode Y_Mo_cut.2.2.1 11 = .ok (.aload_n 0, 1) := by decide +kernel
theorem d_Mo_cut_12 : decode Y_Mo_cut.2.2.1 12 = .ok (.getfield 31, 3) := by decide +kernel
theorem d_Mo_cut_15 : decode Y_Mo_cut.2.2.1 15 = .ok (.bipush 8, 2) := by decide +kernel
theorem d_Mo_cut_17 : decode Y_Mo_cut.2.2.1 17 = .ok (.iload_n 1, 1) := by decide +kernel
theorem d_Mo_cut_18 : decode Y_Mo_cut.2.2.1 18 = .ok (.imul, 1) := by decide +kernel
theorem d_Mo_cut_19 : decode Y_Mo_cut.2.2.1 19 = .ok (.iload_n 2, 1) := by decide +kernel
theorem d_Mo_cut_20 : decode Y_Mo_cut.2.2.1 20 = .ok (.iadd, 1) := by decide +kernel
theorem d_Mo_cut_21 : decode Y_Mo_cut.2.2.1 21 = .ok (.iaload, 1) := by decide +kernel
theorem d_Mo_cut_22 : decode Y_Mo_cut.2.2.1 22 = .ok (.istore_n 3, 1) := by decide +kernel
theorem d_Mo_cut_23 : decode Y_Mo_cut.2.2.1 23 = .ok (.iconst 1, 1) := by decide +kernel
theorem d_Mo_cut_24 : decode Y_Mo_cut.2.2.1 24 = .ok (.iload_n 1, 1) := by decide +kernel
theorem d_Mo_cut_25 : decode Y_Mo_cut.2.2.1 25 = .ok (.ishl, 1) := by decide +kernel
theorem d_Mo_cut_26 : decode Y_Mo_cut.2.2.1 26 = .ok (.istore 4, 2) := by decide +kernel
theorem d_Mo_cut_28 : decode Y_Mo_cut.2.2.1 28 = .ok (.iconst 0, 1) := by decide +kernel
theorem d_Mo_cut_29 : decode Y_Mo_cut.2.2.1 29 = .ok (.istore 5, 2) := by decide +kernel
theorem d_Mo_cut_31 : decode Y_Mo_cut.2.2.1 31 = .ok (.iload 5, 2) := by decide +kernel
theorem d_Mo_cut_33 : decode Y_Mo_cut.2.2.1 33 = .ok (.bipush 8, 2) := by decide +kernel
theorem d_Mo_cut_35 : decode Y_Mo_cut.2.2.1 35 = .ok (.if_icmp .ge 66, 3) := by decide +kernel
theorem d_Mo_cut_38 : decode Y_Mo_cut.2.2.1 38 = .ok (.iconst 0, 1) := by decide +kernel
theorem d_Mo_cut_39 : decode Y_Mo_cut.2.2.1 39 = .ok (.istore 6, 2) := by decide +kernel
theorem d_Mo_cut_41 : decode Y_Mo_cut.2.2.1 41 = .ok (.iload 6, 2) := by decide +kernel
theorem d_Mo_cut_43 : decode Y_Mo_cut.2.2.1 43 = .ok (.bipush 64, 2) := by decide +kernel
theorem d_Mo_cut_45 : decode Y_Mo_cut.2.2.1 45 = .ok (.if_icmp .ge 50, 3) := by decide +kernel
theorem d_Mo_cut_48 : decode Y_Mo_cut.2.2.1 48 = .ok (.iload 4, 2) := by decide +kernel
theorem d_Mo_cut_50 : decode Y_Mo_cut.2.2.1 50 = .ok (.iload 4, 2) := by decide +kernel
theorem d_Mo_cut_52 : decode Y_Mo_cut.2.2.1 52 = .ok (.iload 6, 2) := by decide +kernel
theorem d_Mo_cut_54 : decode Y_Mo_cut.2.2.1 54 = .ok (.bipush 8, 2) := by decide +kernel
theorem d_Mo_cut_56 : decode Y_Mo_cut.2.2.1 56 = .ok (.idiv, 1) := by decide +kernel
theorem d_Mo_cut_57 : decode Y_Mo_cut.2.2.1 57 = .ok (.ishr, 1) := by decide +kernel
theorem d_Mo_cut_58 : decode Y_Mo_cut.2.2.1 58 = .ok (.iconst 1, 1) := by decide +kernel
theorem d_Mo_cut_59 : decode Y_Mo_cut.2.2.1 59 = .ok (.iand, 1) := by decide +kernel
theorem d_Mo_cut_60 : decode Y_Mo_cut.2.2.1 60 = .ok (.iconst 1, 1) := by decide +kernel
theorem d_Mo_cut_61 : decode Y_Mo_cut.2.2.1 61 = .ok (.if_icmp .ne 24, 3) := by decide +kernel
theorem d_Mo_cut_64 : decode Y_Mo_cut.2.2.1 64 = .ok (.aload_n 0, 1) := by decide +kernel
theorem d_Mo_cut_65 : decode Y_Mo_cut.2.2.1 65 = .ok (.getfield 28, 3) := by decide +kernel
theorem d_Mo_cut_68 : decode Y_Mo_cut.2.2.1 68 = .ok (.iload 6, 2) := by decide +kernel
theorem d_Mo_cut_70 : decode Y_Mo_cut.2.2.1 70 = .ok (.iaload, 1) := by decide +kernel
theorem d_Mo_cut_71 : decode Y_Mo_cut.2.2.1 71 = .ok (.iload_n 3, 1) := by decide +kernel
theorem d_Mo_cut_72 : decode Y_Mo_cut.2.2.1 72 = .ok (.if_icmp .le 13, 3) := by decide +kernel
theorem d_Mo_cut_75 : decode Y_Mo_cut.2.2.1 75 = .ok (.iconst 1, 1) := by decide +kernel
theorem d_Mo_cut_76 : decode Y_Mo_cut.2.2.1 76 = .ok (.iload 6, 2) := by decide +kernel
theorem d_Mo_cut_78 : decode Y_Mo_cut.2.2.1 78 = .ok (.bipush 8, 2) := by decide +kernel
theorem d_Mo_cut_80 : decode Y_Mo_cut.2.2.1 80 = .ok (.irem, 1) := by decide +kernel
theorem d_Mo_cut_81 : decode Y_Mo_cut.2.2.1 81 = .ok (.ishl, 1) := by decide +kernel
theorem d_Mo_cut_82 : decode Y_Mo_cut.2.2.1 82 = .ok (.goto 4, 3) := by decide +kernel
theorem d_Mo_cut_85 : decode Y_Mo_cut.2.2.1 85 = .ok (.iconst 0, 1) := by decide +kernel
theorem d_Mo_cut_86 : decode Y_Mo_cut.2.2.1 86 = .ok (.ior, 1) := by decide +kernel
theorem d_Mo_cut_87 : decode Y_Mo_cut.2.2.1 87 = .ok (.istore 4, 2) := by decide +kernel
theorem d_Mo_cut_89 : decode Y_Mo_cut.2.2.1 89 = .ok (.iinc 6 1, 3) := by decide +kernel
theorem d_Mo_cut_92 : decode Y_Mo_cut.2.2.1 92 = .ok (.goto (-51), 3) := by decide +kernel
theorem d_Mo_cut_95 : decode Y_Mo_cut.2.2.1 95 = .ok (.iinc 5 1, 3) := by decide +kernel
theorem d_Mo_cut_98 : decode Y_Mo_cut.2.2.1 98 = .ok (.goto (-67), 3) := by decide +kernel
theorem d_Mo_cut_101 : decode Y_Mo_cut.2.2.1 101 = .ok (.iload 4, 2) := by decide +kernel
theorem d_Mo_cut_103 : decode Y_Mo_cut.2.2.1 103 = .ok (.ireturn, 1) := by decide +kernel
theorem d_Mo_isWay_0 : decode Y_Mo_isWay.2.2.1 0 = .ok (.iconst 0, 1) := by decide +kernel
theorem d_Mo_isWay_1 : decode Y_Mo_isWay.2.2.1 1 = .ok (.istore 5, 2) := by decide +kernel
theorem d_Mo_isWay_3 : decode Y_Mo_isWay.2.2.1 3 = .ok (.iload 5, 2) := by decide +kernel
theorem d_Mo_isWay_5 : decode Y_Mo_isWay.2.2.1 5 = .ok (.bipush 8, 2) := by decide +kernel
theorem d_Mo_isWay_7 : decode Y_Mo_isWay.2.2.1 7 = .ok (.if_icmp .ge 22, 3) := by decide +kernel
theorem d_Mo_isWay_10 : decode Y_Mo_isWay.2.2.1 10 = .ok (.iload 4, 2) := by decide +kernel
theorem d_Mo_isWay_12 : decode Y_Mo_isWay.2.2.1 12 = .ok (.iconst 4, 1) := by decide +kernel
theorem d_Mo_isWay_13 : decode Y_Mo_isWay.2.2.1 13 = .ok (.iload 5, 2) := by decide +kernel
theorem d_Mo_isWay_15 : decode Y_Mo_isWay.2.2.1 15 = .ok (.imul, 1) := by decide +kernel
theorem d_Mo_isWay_16 : decode Y_Mo_isWay.2.2.1 16 = .ok (.iushr, 1) := by decide +kernel
theorem d_Mo_isWay_17 : decode Y_Mo_isWay.2.2.1 17 = .ok (.bipush 15, 2) := by decide +kernel
theorem d_Mo_isWay_19 : decode Y_Mo_isWay.2.2.1 19 = .ok (.iand, 1) := by decide +kernel
theorem d_Mo_isWay_20 : decode Y_Mo_isWay.2.2.1 20 = .ok (.ifCond .le 9, 3) := by decide +kernel
theorem d_Mo_isWay_23 : decode Y_Mo_isWay.2.2.1 23 = .ok (.iinc 5 1, 3) := by decide +kernel
theorem d_Mo_isWay_26 : decode Y_Mo_isWay.2.2.1 26 = .ok (.goto (-23), 3) := by decide +kernel
theorem d_Mo_isWay_29 : decode Y_Mo_isWay.2.2.1 29 = .ok (.iload 5, 2) := by decide +kernel
theorem d_Mo_isWay_31 : decode Y_Mo_isWay.2.2.1 31 = .ok (.iconst 2, 1) := by decide +kernel
theorem d_Mo_isWay_32 : decode Y_Mo_isWay.2.2.1 32 = .ok (.if_icmp .lt 20, 3) := by decide +kernel
theorem d_Mo_isWay_35 : decode Y_Mo_isWay.2.2.1 35 = .ok (.iload 5, 2) := by decide +kernel
theorem d_Mo_isWay_37 : decode Y_Mo_isWay.2.2.1 37 = .ok (.bipush 8, 2) := by decide +kernel
theorem d_Mo_isWay_39 : decode Y_Mo_isWay.2.2.1 39 = .ok (.if_icmp .ge 15, 3) := by decide +kernel
theorem d_Mo_isWay_42 : decode Y_Mo_isWay.2.2.1 42 = .ok (.iload 4, 2) := by decide +kernel
theorem d_Mo_isWay_44 : decode Y_Mo_isWay.2.2.1 44 = .ok (.iconst 4, 1) := by decide +kernel
theorem d_Mo_isWay_45 : decode Y_Mo_isWay.2.2.1 45 = .ok (.iload 5, 2) := by decide +kernel
theorem d_Mo_isWay_47 : decode Y_Mo_isWay.2.2.1 47 = .ok (.imul, 1) := by decide +kernel
theorem d_Mo_isWay_48 : decode Y_Mo_isWay.2.2.1 48 = .ok (.iushr, 1) := by decide +kernel
theorem d_Mo_isWay_49 : decode Y_Mo_isWay.2.2.1 49 = .ok (.ifCond .eq 5, 3) := by decide +kernel
theorem d_Mo_isWay_52 : decode Y_Mo_isWay.2.2.1 52 = .ok (.iconst 0, 1) := by decide +kernel
theorem d_Mo_isWay_53 : decode Y_Mo_isWay.2.2.1 53 = .ok (.ireturn, 1) := by decide +kernel
theorem d_Mo_isWay_54 : decode Y_Mo_isWay.2.2.1 54 = .ok (.iload 4, 2) := by decide +kernel
theorem d_Mo_isWay_56 : decode Y_Mo_isWay.2.2.1 56 = .ok (.bipush 15, 2) := by decide +kernel
theorem d_Mo_isWay_58 : decode Y_Mo_isWay.2.2.1 58 = .ok (.iand, 1) := by decide +kernel
theorem d_Mo_isWay_59 : decode Y_Mo_isWay.2.2.1 59 = .ok (.iconst 1, 1) := by decide +kernel
theorem d_Mo_isWay_60 : decode Y_Mo_isWay.2.2.1 60 = .ok (.isub, 1) := by decide +kernel
theorem d_Mo_isWay_61 : decode Y_Mo_isWay.2.2.1 61 = .ok (.iload_n 1, 1) := by decide +kernel
theorem d_Mo_isWay_62 : decode Y_Mo_isWay.2.2.1 62 = .ok (.if_icmp .ne 25, 3) := by decide +kernel
theorem d_Mo_isWay_65 : decode Y_Mo_isWay.2.2.1 65 = .ok (.iload 4, 2) := by decide +kernel
theorem d_Mo_isWay_67 : decode Y_Mo_isWay.2.2.1 67 = .ok (.iconst 4, 1) := by decide +kernel
theorem d_Mo_isWay_68 : decode Y_Mo_isWay.2.2.1 68 = .ok (.iload 5, 2) := by decide +kernel
theorem d_Mo_isWay_70 : decode Y_Mo_isWay.2.2.1 70 = .ok (.iconst 1, 1) := by decide +kernel
theorem d_Mo_isWay_71 : decode Y_Mo_isWay.2.2.1 71 = .ok (.isub, 1) := by decide +kernel
theorem d_Mo_isWay_72 : decode Y_Mo_isWay.2.2.1 72 = .ok (.imul, 1) := by decide +kernel
theorem d_Mo_isWay_73 : decode Y_Mo_isWay.2.2.1 73 = .ok (.iushr, 1) := by decide +kernel
theorem d_Mo_isWay_74 : decode Y_Mo_isWay.2.2.1 74 = .ok (.bipush 15, 2) := by decide +kernel
theorem d_Mo_isWay_76 : decode Y_Mo_isWay.2.2.1 76 = .ok (.iand, 1) := by decide +kernel
theorem d_Mo_isWay_77 : decode Y_Mo_isWay.2.2.1 77 = .ok (.iconst 1, 1) := by decide +kernel
theorem d_Mo_isWay_78 : decode Y_Mo_isWay.2.2.1 78 = .ok (.isub, 1) := by decide +kernel
theorem d_Mo_isWay_79 : decode Y_Mo_isWay.2.2.1 79 = .ok (.iload_n 2, 1) := by decide +kernel
theorem d_Mo_isWay_80 : decode Y_Mo_isWay.2.2.1 80 = .ok (.if_icmp .ne 7, 3) := by decide +kernel
theorem d_Mo_isWay_83 : decode Y_Mo_isWay.2.2.1 83 = .ok (.iconst 1, 1) := by decide +kernel
theorem d_Mo_isWay_84 : decode Y_Mo_isWay.2.2.1 84 = .ok (.goto 4, 3) := by decide +kernel
theorem d_Mo_isWay_87 : decode Y_Mo_isWay.2.2.1 87 = .ok (.iconst 0, 1) := by decide +kernel
theorem d_Mo_isWay_88 : decode Y_Mo_isWay.2.2.1 88 = .ok (.istore 6, 2) := by decide +kernel
theorem d_Mo_isWay_90 : decode Y_Mo_isWay.2.2.1 90 = .ok (.iconst 0, 1) := by decide +kernel
theorem d_Mo_isWay_91 : decode Y_Mo_isWay.2.2.1 91 = .ok (.istore 7, 2) := by decide +kernel
theorem d_Mo_isWay_93 : decode Y_Mo_isWay.2.2.1 93 = .ok (.iload 7, 2) := by decide +kernel
theorem d_Mo_isWay_95 : decode Y_Mo_isWay.2.2.1 95 = .ok (.iload 5, 2) := by decide +kernel
theorem d_Mo_isWay_97 : decode Y_Mo_isWay.2.2.1 97 = .ok (.if_icmp .ge 38, 3) := by decide +kernel
theorem d_Mo_isWay_100 : decode Y_Mo_isWay.2.2.1 100 = .ok (.iload 6, 2) := by decide +kernel
theorem d_Mo_isWay_102 : decode Y_Mo_isWay.2.2.1 102 = .ok (.ifCond .eq 24, 3) := by decide +kernel
theorem d_Mo_isWay_105 : decode Y_Mo_isWay.2.2.1 105 = .ok (.iload 4, 2) := by decide +kernel
theorem d_Mo_isWay_107 : decode Y_Mo_isWay.2.2.1 107 = .ok (.iconst 4, 1) := by decide +kernel
theorem d_Mo_isWay_108 : decode Y_Mo_isWay.2.2.1 108 = .ok (.iload 7, 2) := by decide +kernel
theorem d_Mo_isWay_110 : decode Y_Mo_isWay.2.2.1 110 = .ok (.imul, 1) := by decide +kernel
theorem d_Mo_isWay_111 : decode Y_Mo_isWay.2.2.1 111 = .ok (.iushr, 1) := by decide +kernel
theorem d_Mo_isWay_112 : decode Y_Mo_isWay.2.2.1 112 = .ok (.bipush 15, 2) := by decide +kernel
theorem d_Mo_isWay_114 : decode Y_Mo_isWay.2.2.1 114 = .ok (.iand, 1) := by decide +kernel
theorem d_Mo_isWay_115 : decode Y_Mo_isWay.2.2.1 115 = .ok (.aload_n 0, 1) := by decide +kernel
theorem d_Mo_isWay_116 : decode Y_Mo_isWay.2.2.1 116 = .ok (.getfield 47, 3) := by decide +kernel
theorem d_Mo_isWay_119 : decode Y_Mo_isWay.2.2.1 119 = .ok (.if_icmp .gt 7, 3) := by decide +kernel
theorem d_Mo_isWay_122 : decode Y_Mo_isWay.2.2.1 122 = .ok (.iconst 1, 1) := by decide +kernel
theorem d_Mo_isWay_123 : decode Y_Mo_isWay.2.2.1 123 = .ok (.goto 4, 3) := by decide +kernel
theorem d_Mo_isWay_126 : decode Y_Mo_isWay.2.2.1 126 = .ok (.iconst 0, 1) := by decide +kernel
theorem d_Mo_isWay_127 : decode Y_Mo_isWay.2.2.1 127 = .ok (.istore 6, 2) := by decide +kernel
theorem d_Mo_isWay_129 : decode Y_Mo_isWay.2.2.1 129 = .ok (.iinc 7 1, 3) := by decide +kernel
theorem d_Mo_isWay_132 : decode Y_Mo_isWay.2.2.1 132 = .ok (.goto (-39), 3) := by decide +kernel
theorem d_Mo_isWay_135 : decode Y_Mo_isWay.2.2.1 135 = .ok (.iconst 0, 1) := by decide +kernel
theorem d_Mo_isWay_136 : decode Y_Mo_isWay.2.2.1 136 = .ok (.istore 7, 2) := by decide +kernel
theorem d_Mo_isWay_138 : decode Y_Mo_isWay.2.2.1 138 = .ok (.iload 7, 2) := by decide +kernel
theorem d_Mo_isWay_140 : decode Y_Mo_isWay.2.2.1 140 = .ok (.iconst 1, 1) := by decide +kernel
theorem d_Mo_isWay_141 : decode Y_Mo_isWay.2.2.1 141 = .ok (.iadd, 1) := by decide +kernel
theorem d_Mo_isWay_142 : decode Y_Mo_isWay.2.2.1 142 = .ok (.iload 5, 2) := by decide +kernel
theorem d_Mo_isWay_144 : decode Y_Mo_isWay.2.2.1 144 = .ok (.if_icmp .ge 84, 3) := by decide +kernel
theorem d_Mo_isWay_147 : decode Y_Mo_isWay.2.2.1 147 = .ok (.iload 6, 2) := by decide +kernel
theorem d_Mo_isWay_149 : decode Y_Mo_isWay.2.2.1 149 = .ok (.ifCond .eq 79, 3) := by decide +kernel
theorem d_Mo_isWay_152 : decode Y_Mo_isWay.2.2.1 152 = .ok (.iload 4, 2) := by decide +kernel
theorem d_Mo_isWay_154 : decode Y_Mo_isWay.2.2.1 154 = .ok (.iconst 4, 1) := by decide +kernel
theorem d_Mo_isWay_155 : decode Y_Mo_isWay.2.2.1 155 = .ok (.iload 7, 2) := by decide +kernel
theorem d_Mo_isWay_157 : decode Y_Mo_isWay.2.2.1 157 = .ok (.imul, 1) := by decide +kernel
theorem d_Mo_isWay_158 : decode Y_Mo_isWay.2.2.1 158 = .ok (.iushr, 1) := by decide +kernel
theorem d_Mo_isWay_159 : decode Y_Mo_isWay.2.2.1 159 = .ok (.bipush 15, 2) := by decide +kernel
theorem d_Mo_isWay_161 : decode Y_Mo_isWay.2.2.1 161 = .ok (.iand, 1) := by decide +kernel
theorem d_Mo_isWay_162 : decode Y_Mo_isWay.2.2.1 162 = .ok (.iconst 1, 1) := by decide +kernel
theorem d_Mo_isWay_163 : decode Y_Mo_isWay.2.2.1 163 = .ok (.isub, 1) := by decide +kernel
theorem d_Mo_isWay_164 : decode Y_Mo_isWay.2.2.1 164 = .ok (.istore 8, 2) := by decide +kernel
theorem d_Mo_isWay_166 : decode Y_Mo_isWay.2.2.1 166 = .ok (.iload 4, 2) := by decide +kernel
theorem d_Mo_isWay_168 : decode Y_Mo_isWay.2.2.1 168 = .ok (.iconst 4, 1) := by decide +kernel
theorem d_Mo_isWay_169 : decode Y_Mo_isWay.2.2.1 169 = .ok (.iload 7, 2) := by decide +kernel
theorem d_Mo_isWay_171 : decode Y_Mo_isWay.2.2.1 171 = .ok (.iconst 1, 1) := by decide +kernel
theorem d_Mo_isWay_172 : decode Y_Mo_isWay.2.2.1 172 = .ok (.iadd, 1) := by decide +kernel
theorem d_Mo_isWay_173 : decode Y_Mo_isWay.2.2.1 173 = .ok (.imul, 1) := by decide +kernel
theorem d_Mo_isWay_174 : decode Y_Mo_isWay.2.2.1 174 = .ok (.iushr, 1) := by decide +kernel
theorem d_Mo_isWay_175 : decode Y_Mo_isWay.2.2.1 175 = .ok (.bipush 15, 2) := by decide +kernel
theorem d_Mo_isWay_177 : decode Y_Mo_isWay.2.2.1 177 = .ok (.iand, 1) := by decide +kernel
theorem d_Mo_isWay_178 : decode Y_Mo_isWay.2.2.1 178 = .ok (.iconst 1, 1) := by decide +kernel
theorem d_Mo_isWay_179 : decode Y_Mo_isWay.2.2.1 179 = .ok (.isub, 1) := by decide +kernel
theorem d_Mo_isWay_180 : decode Y_Mo_isWay.2.2.1 180 = .ok (.istore 9, 2) := by decide +kernel
theorem d_Mo_isWay_182 : decode Y_Mo_isWay.2.2.1 182 = .ok (.aload_n 0, 1) := by decide +kernel
theorem d_Mo_isWay_183 : decode Y_Mo_isWay.2.2.1 183 = .ok (.getfield 28, 3) := by decide +kernel
theorem d_Mo_isWay_186 : decode Y_Mo_isWay.2.2.1 186 = .ok (.bipush 8, 2) := by decide +kernel
theorem d_Mo_isWay_188 : decode Y_Mo_isWay.2.2.1 188 = .ok (.iload 8, 2) := by decide +kernel
theorem d_Mo_isWay_190 : decode Y_Mo_isWay.2.2.1 190 = .ok (.imul, 1) := by decide +kernel
theorem d_Mo_isWay_191 : decode Y_Mo_isWay.2.2.1 191 = .ok (.iload 9, 2) := by decide +kernel
theorem d_Mo_isWay_193 : decode Y_Mo_isWay.2.2.1 193 = .ok (.iadd, 1) := by decide +kernel
theorem d_Mo_isWay_194 : decode Y_Mo_isWay.2.2.1 194 = .ok (.iaload, 1) := by decide +kernel
theorem d_Mo_isWay_195 : decode Y_Mo_isWay.2.2.1 195 = .ok (.ifCond .le 24, 3) := by decide +kernel
theorem d_Mo_isWay_198 : decode Y_Mo_isWay.2.2.1 198 = .ok (.aload_n 0, 1) := by decide +kernel
theorem d_Mo_isWay_199 : decode Y_Mo_isWay.2.2.1 199 = .ok (.getfield 28, 3) := by decide +kernel
theorem d_Mo_isWay_202 : decode Y_Mo_isWay.2.2.1 202 = .ok (.bipush 8, 2) := by decide +kernel
theorem d_Mo_isWay_204 : decode Y_Mo_isWay.2.2.1 204 = .ok (.iload 8, 2) := by decide +kernel
theorem d_Mo_isWay_206 : decode Y_Mo_isWay.2.2.1 206 = .ok (.imul, 1) := by decide +kernel
theorem d_Mo_isWay_207 : decode Y_Mo_isWay.2.2.1 207 = .ok (.iload 9, 2) := by decide +kernel
theorem d_Mo_isWay_209 : decode Y_Mo_isWay.2.2.1 209 = .ok (.iadd, 1) := by decide +kernel
theorem d_Mo_isWay_210 : decode Y_Mo_isWay.2.2.1 210 = .ok (.iaload, 1) := by decide +kernel
theorem d_Mo_isWay_211 : decode Y_Mo_isWay.2.2.1 211 = .ok (.iload_n 3, 1) := by decide +kernel
theorem d_Mo_isWay_212 : decode Y_Mo_isWay.2.2.1 212 = .ok (.if_icmp .lt 7, 3) := by decide +kernel
theorem d_Mo_isWay_215 : decode Y_Mo_isWay.2.2.1 215 = .ok (.iconst 1, 1) := by decide +kernel
theorem d_Mo_isWay_216 : decode Y_Mo_isWay.2.2.1 216 = .ok (.goto 4, 3) := by decide +kernel
theorem d_Mo_isWay_219 : decode Y_Mo_isWay.2.2.1 219 = .ok (.iconst 0, 1) := by decide +kernel
theorem d_Mo_isWay_220 : decode Y_Mo_isWay.2.2.1 220 = .ok (.istore 6, 2) := by decide +kernel
theorem d_Mo_isWay_222 : decode Y_Mo_isWay.2.2.1 222 = .ok (.iinc 7 1, 3) := by decide +kernel
theorem d_Mo_isWay_225 : decode Y_Mo_isWay.2.2.1 225 = .ok (.goto (-87), 3) := by decide +kernel
theorem d_Mo_isWay_228 : decode Y_Mo_isWay.2.2.1 228 = .ok (.iload 6, 2) := by decide +kernel
theorem d_Mo_isWay_230 : decode Y_Mo_isWay.2.2.1 230 = .ok (.ireturn, 1) := by decide +kernel
theorem d_Mo_proves_0 : decode Y_Mo_proves.2.2.1 0 = .ok (.aload_n 0, 1) := by decide +kernel
theorem d_Mo_proves_1 : decode Y_Mo_proves.2.2.1 1 = .ok (.iload_n 1, 1) := by decide +kernel
theorem d_Mo_proves_2 : decode Y_Mo_proves.2.2.1 2 = .ok (.iload_n 2, 1) := by decide +kernel
theorem d_Mo_proves_3 : decode Y_Mo_proves.2.2.1 3 = .ok (.invokevirtual 93, 3) := by decide +kernel
theorem d_Mo_proves_6 : decode Y_Mo_proves.2.2.1 6 = .ok (.ifCond .eq 5, 3) := by decide +kernel
theorem d_Mo_proves_9 : decode Y_Mo_proves.2.2.1 9 = .ok (.iconst 0, 1) := by decide +kernel
theorem d_Mo_proves_10 : decode Y_Mo_proves.2.2.1 10 = .ok (.ireturn, 1) := by decide +kernel
theorem d_Mo_proves_11 : decode Y_Mo_proves.2.2.1 11 = .ok (.iload_n 3, 1) := by decide +kernel
theorem d_Mo_proves_12 : decode Y_Mo_proves.2.2.1 12 = .ok (.ifCond .ne 16, 3) := by decide +kernel
theorem d_Mo_proves_15 : decode Y_Mo_proves.2.2.1 15 = .ok (.iload 4, 2) := by decide +kernel
theorem d_Mo_proves_17 : decode Y_Mo_proves.2.2.1 17 = .ok (.ifCond .ne 7, 3) := by decide +kernel
theorem d_Mo_proves_20 : decode Y_Mo_proves.2.2.1 20 = .ok (.iconst 1, 1) := by decide +kernel
theorem d_Mo_proves_21 : decode Y_Mo_proves.2.2.1 21 = .ok (.goto 28, 3) := by decide +kernel
theorem d_Mo_proves_24 : decode Y_Mo_proves.2.2.1 24 = .ok (.iconst 0, 1) := by decide +kernel
theorem d_Mo_proves_25 : decode Y_Mo_proves.2.2.1 25 = .ok (.goto 24, 3) := by decide +kernel
theorem d_Mo_proves_28 : decode Y_Mo_proves.2.2.1 28 = .ok (.iload_n 3, 1) := by decide +kernel
theorem d_Mo_proves_29 : decode Y_Mo_proves.2.2.1 29 = .ok (.ifCond .le 19, 3) := by decide +kernel
theorem d_Mo_proves_32 : decode Y_Mo_proves.2.2.1 32 = .ok (.aload_n 0, 1) := by decide +kernel
theorem d_Mo_proves_33 : decode Y_Mo_proves.2.2.1 33 = .ok (.iload_n 1, 1) := by decide +kernel
theorem d_Mo_proves_34 : decode Y_Mo_proves.2.2.1 34 = .ok (.iload_n 2, 1) := by decide +kernel
theorem d_Mo_proves_35 : decode Y_Mo_proves.2.2.1 35 = .ok (.iload_n 3, 1) := by decide +kernel
theorem d_Mo_proves_36 : decode Y_Mo_proves.2.2.1 36 = .ok (.iload 4, 2) := by decide +kernel
theorem d_Mo_proves_38 : decode Y_Mo_proves.2.2.1 38 = .ok (.invokevirtual 97, 3) := by decide +kernel
theorem d_Mo_proves_41 : decode Y_Mo_proves.2.2.1 41 = .ok (.ifCond .eq 7, 3) := by decide +kernel
theorem d_Mo_proves_44 : decode Y_Mo_proves.2.2.1 44 = .ok (.iconst 1, 1) := by decide +kernel
theorem d_Mo_proves_45 : decode Y_Mo_proves.2.2.1 45 = .ok (.goto 4, 3) := by decide +kernel
theorem d_Mo_proves_48 : decode Y_Mo_proves.2.2.1 48 = .ok (.iconst 0, 1) := by decide +kernel
theorem d_Mo_proves_49 : decode Y_Mo_proves.2.2.1 49 = .ok (.istore 6, 2) := by decide +kernel
theorem d_Mo_proves_51 : decode Y_Mo_proves.2.2.1 51 = .ok (.iload 6, 2) := by decide +kernel
theorem d_Mo_proves_53 : decode Y_Mo_proves.2.2.1 53 = .ok (.ifCond .eq 38, 3) := by decide +kernel
theorem d_Mo_proves_56 : decode Y_Mo_proves.2.2.1 56 = .ok (.iload 5, 2) := by decide +kernel
theorem d_Mo_proves_58 : decode Y_Mo_proves.2.2.1 58 = .ok (.ifCond .lt 33, 3) := by decide +kernel
theorem d_Mo_proves_61 : decode Y_Mo_proves.2.2.1 61 = .ok (.iload 5, 2) := by decide +kernel
theorem d_Mo_proves_63 : decode Y_Mo_proves.2.2.1 63 = .ok (.iconst 1, 1) := by decide +kernel
theorem d_Mo_proves_64 : decode Y_Mo_proves.2.2.1 64 = .ok (.aload_n 0, 1) := by decide +kernel
theorem d_Mo_proves_65 : decode Y_Mo_proves.2.2.1 65 = .ok (.getfield 47, 3) := by decide +kernel
theorem d_Mo_proves_68 : decode Y_Mo_proves.2.2.1 68 = .ok (.ishl, 1) := by decide +kernel
theorem d_Mo_proves_69 : decode Y_Mo_proves.2.2.1 69 = .ok (.if_icmp .ge 22, 3) := by decide +kernel
theorem d_Mo_proves_72 : decode Y_Mo_proves.2.2.1 72 = .ok (.iload 5, 2) := by decide +kernel
theorem d_Mo_proves_74 : decode Y_Mo_proves.2.2.1 74 = .ok (.iload_n 1, 1) := by decide +kernel
theorem d_Mo_proves_75 : decode Y_Mo_proves.2.2.1 75 = .ok (.ishr, 1) := by decide +kernel
theorem d_Mo_proves_76 : decode Y_Mo_proves.2.2.1 76 = .ok (.iconst 1, 1) := by decide +kernel
theorem d_Mo_proves_77 : decode Y_Mo_proves.2.2.1 77 = .ok (.iand, 1) := by decide +kernel
theorem d_Mo_proves_78 : decode Y_Mo_proves.2.2.1 78 = .ok (.ifCond .eq 13, 3) := by decide +kernel
theorem d_Mo_proves_81 : decode Y_Mo_proves.2.2.1 81 = .ok (.iload 5, 2) := by decide +kernel
theorem d_Mo_proves_83 : decode Y_Mo_proves.2.2.1 83 = .ok (.iload_n 2, 1) := by decide +kernel
theorem d_Mo_proves_84 : decode Y_Mo_proves.2.2.1 84 = .ok (.ishr, 1) := by decide +kernel
theorem d_Mo_proves_85 : decode Y_Mo_proves.2.2.1 85 = .ok (.iconst 1, 1) := by decide +kernel
theorem d_Mo_proves_86 : decode Y_Mo_proves.2.2.1 86 = .ok (.iand, 1) := by decide +kernel
theorem d_Mo_proves_87 : decode Y_Mo_proves.2.2.1 87 = .ok (.iconst 1, 1) := by decide +kernel
theorem d_Mo_proves_88 : decode Y_Mo_proves.2.2.1 88 = .ok (.if_icmp .ne 5, 3) := by decide +kernel
theorem d_Mo_proves_91 : decode Y_Mo_proves.2.2.1 91 = .ok (.iconst 0, 1) := by decide +kernel
theorem d_Mo_proves_92 : decode Y_Mo_proves.2.2.1 92 = .ok (.ireturn, 1) := by decide +kernel
theorem d_Mo_proves_93 : decode Y_Mo_proves.2.2.1 93 = .ok (.iconst 1, 1) := by decide +kernel
theorem d_Mo_proves_94 : decode Y_Mo_proves.2.2.1 94 = .ok (.istore 7, 2) := by decide +kernel
theorem d_Mo_proves_96 : decode Y_Mo_proves.2.2.1 96 = .ok (.iconst 0, 1) := by decide +kernel
theorem d_Mo_proves_97 : decode Y_Mo_proves.2.2.1 97 = .ok (.istore 8, 2) := by decide +kernel
theorem d_Mo_proves_99 : decode Y_Mo_proves.2.2.1 99 = .ok (.iload 8, 2) := by decide +kernel
theorem d_Mo_proves_101 : decode Y_Mo_proves.2.2.1 101 = .ok (.bipush 64, 2) := by decide +kernel
theorem d_Mo_proves_103 : decode Y_Mo_proves.2.2.1 103 = .ok (.if_icmp .ge 59, 3) := by decide +kernel
theorem d_Mo_proves_106 : decode Y_Mo_proves.2.2.1 106 = .ok (.iload 7, 2) := by decide +kernel
theorem d_Mo_proves_108 : decode Y_Mo_proves.2.2.1 108 = .ok (.ifCond .eq 45, 3) := by decide +kernel
theorem d_Mo_proves_111 : decode Y_Mo_proves.2.2.1 111 = .ok (.iload 5, 2) := by decide +kernel
theorem d_Mo_proves_113 : decode Y_Mo_proves.2.2.1 113 = .ok (.iload 8, 2) := by decide +kernel
theorem d_Mo_proves_115 : decode Y_Mo_proves.2.2.1 115 = .ok (.bipush 8, 2) := by decide +kernel
theorem d_Mo_proves_117 : decode Y_Mo_proves.2.2.1 117 = .ok (.idiv, 1) := by decide +kernel
theorem d_Mo_proves_118 : decode Y_Mo_proves.2.2.1 118 = .ok (.ishr, 1) := by decide +kernel
theorem d_Mo_proves_119 : decode Y_Mo_proves.2.2.1 119 = .ok (.iconst 1, 1) := by decide +kernel
theorem d_Mo_proves_120 : decode Y_Mo_proves.2.2.1 120 = .ok (.iand, 1) := by decide +kernel
theorem d_Mo_proves_121 : decode Y_Mo_proves.2.2.1 121 = .ok (.ifCond .eq 28, 3) := by decide +kernel
theorem d_Mo_proves_124 : decode Y_Mo_proves.2.2.1 124 = .ok (.iload 5, 2) := by decide +kernel
theorem d_Mo_proves_126 : decode Y_Mo_proves.2.2.1 126 = .ok (.iload 8, 2) := by decide +kernel
theorem d_Mo_proves_128 : decode Y_Mo_proves.2.2.1 128 = .ok (.bipush 8, 2) := by decide +kernel
theorem d_Mo_proves_130 : decode Y_Mo_proves.2.2.1 130 = .ok (.irem, 1) := by decide +kernel
theorem d_Mo_proves_131 : decode Y_Mo_proves.2.2.1 131 = .ok (.ishr, 1) := by decide +kernel
theorem d_Mo_proves_132 : decode Y_Mo_proves.2.2.1 132 = .ok (.iconst 1, 1) := by decide +kernel
theorem d_Mo_proves_133 : decode Y_Mo_proves.2.2.1 133 = .ok (.iand, 1) := by decide +kernel
theorem d_Mo_proves_134 : decode Y_Mo_proves.2.2.1 134 = .ok (.iconst 1, 1) := by decide +kernel
theorem d_Mo_proves_135 : decode Y_Mo_proves.2.2.1 135 = .ok (.if_icmp .eq 14, 3) := by decide +kernel
theorem d_Mo_proves_138 : decode Y_Mo_proves.2.2.1 138 = .ok (.aload_n 0, 1) := by decide +kernel
theorem d_Mo_proves_139 : decode Y_Mo_proves.2.2.1 139 = .ok (.getfield 28, 3) := by decide +kernel
theorem d_Mo_proves_142 : decode Y_Mo_proves.2.2.1 142 = .ok (.iload 8, 2) := by decide +kernel
theorem d_Mo_proves_144 : decode Y_Mo_proves.2.2.1 144 = .ok (.iaload, 1) := by decide +kernel
theorem d_Mo_proves_145 : decode Y_Mo_proves.2.2.1 145 = .ok (.iload_n 3, 1) := by decide +kernel
theorem d_Mo_proves_146 : decode Y_Mo_proves.2.2.1 146 = .ok (.if_icmp .gt 7, 3) := by decide +kernel
theorem d_Mo_proves_149 : decode Y_Mo_proves.2.2.1 149 = .ok (.iconst 1, 1) := by decide +kernel
theorem d_Mo_proves_150 : decode Y_Mo_proves.2.2.1 150 = .ok (.goto 4, 3) := by decide +kernel
theorem d_Mo_proves_153 : decode Y_Mo_proves.2.2.1 153 = .ok (.iconst 0, 1) := by decide +kernel
theorem d_Mo_proves_154 : decode Y_Mo_proves.2.2.1 154 = .ok (.istore 7, 2) := by decide +kernel
theorem d_Mo_proves_156 : decode Y_Mo_proves.2.2.1 156 = .ok (.iinc 8 1, 3) := by decide +kernel
theorem d_Mo_proves_159 : decode Y_Mo_proves.2.2.1 159 = .ok (.goto (-60), 3) := by decide +kernel
theorem d_Mo_proves_162 : decode Y_Mo_proves.2.2.1 162 = .ok (.iload 7, 2) := by decide +kernel
theorem d_Mo_proves_164 : decode Y_Mo_proves.2.2.1 164 = .ok (.ireturn, 1) := by decide +kernel
theorem d_Mo_winners_0 : decode Y_Mo_winners.2.2.1 0 = .ok (.aload_n 0, 1) := by decide +kernel
theorem d_Mo_winners_1 : decode Y_Mo_winners.2.2.1 1 = .ok (.invokevirtual 90, 3) := by decide +kernel
theorem d_Mo_winners_4 : decode Y_Mo_winners.2.2.1 4 = .ok (.aload_n 0, 1) := by decide +kernel
theorem d_Mo_winners_5 : decode Y_Mo_winners.2.2.1 5 = .ok (.iconst 0, 1) := by decide +kernel
theorem d_Mo_winners_6 : decode Y_Mo_winners.2.2.1 6 = .ok (.putfield 101, 3) := by decide +kernel
theorem d_Mo_winners_9 : decode Y_Mo_winners.2.2.1 9 = .ok (.iconst 0, 1) := by decide +kernel
theorem d_Mo_winners_10 : decode Y_Mo_winners.2.2.1 10 = .ok (.istore_n 1, 1) := by decide +kernel
theorem d_Mo_winners_11 : decode Y_Mo_winners.2.2.1 11 = .ok (.iload_n 1, 1) := by decide +kernel
theorem d_Mo_winners_12 : decode Y_Mo_winners.2.2.1 12 = .ok (.aload_n 0, 1) := by decide +kernel
theorem d_Mo_winners_13 : decode Y_Mo_winners.2.2.1 13 = .ok (.getfield 47, 3) := by decide +kernel
theorem d_Mo_winners_16 : decode Y_Mo_winners.2.2.1 16 = .ok (.if_icmp .ge 91, 3) := by decide +kernel
theorem d_Mo_winners_19 : decode Y_Mo_winners.2.2.1 19 = .ok (.iconst 1, 1) := by decide +kernel
theorem d_Mo_winners_20 : decode Y_Mo_winners.2.2.1 20 = .ok (.istore_n 2, 1) := by decide +kernel
theorem d_Mo_winners_21 : decode Y_Mo_winners.2.2.1 21 = .ok (.iconst 0, 1) := by decide +kernel
theorem d_Mo_winners_22 : decode Y_Mo_winners.2.2.1 22 = .ok (.istore_n 3, 1) := by decide +kernel
theorem d_Mo_winners_23 : decode Y_Mo_winners.2.2.1 23 = .ok (.iload_n 3, 1) := by decide +kernel
theorem d_Mo_winners_24 : decode Y_Mo_winners.2.2.1 24 = .ok (.aload_n 0, 1) := by decide +kernel
theorem d_Mo_winners_25 : decode Y_Mo_winners.2.2.1 25 = .ok (.getfield 47, 3) := by decide +kernel
theorem d_Mo_winners_28 : decode Y_Mo_winners.2.2.1 28 = .ok (.if_icmp .ge 49, 3) := by decide +kernel
theorem d_Mo_winners_31 : decode Y_Mo_winners.2.2.1 31 = .ok (.iload_n 2, 1) := by decide +kernel
theorem d_Mo_winners_32 : decode Y_Mo_winners.2.2.1 32 = .ok (.ifCond .eq 37, 3) := by decide +kernel
theorem d_Mo_winners_35 : decode Y_Mo_winners.2.2.1 35 = .ok (.iload_n 1, 1) := by decide +kernel
theorem d_Mo_winners_36 : decode Y_Mo_winners.2.2.1 36 = .ok (.iload_n 3, 1) := by decide +kernel
theorem d_Mo_winners_37 : decode Y_Mo_winners.2.2.1 37 = .ok (.if_icmp .eq 28, 3) := by decide +kernel
theorem d_Mo_winners_40 : decode Y_Mo_winners.2.2.1 40 = .ok (.aload_n 0, 1) := by decide +kernel
theorem d_Mo_winners_41 : decode Y_Mo_winners.2.2.1 41 = .ok (.getfield 31, 3) := by decide +kernel
theorem d_Mo_winners_44 : decode Y_Mo_winners.2.2.1 44 = .ok (.bipush 8, 2) := by decide +kernel
theorem d_Mo_winners_46 : decode Y_Mo_winners.2.2.1 46 = .ok (.iload_n 1, 1) := by decide +kernel
theorem d_Mo_winners_47 : decode Y_Mo_winners.2.2.1 47 = .ok (.imul, 1) := by decide +kernel
theorem d_Mo_winners_48 : decode Y_Mo_winners.2.2.1 48 = .ok (.iload_n 3, 1) := by decide +kernel
theorem d_Mo_winners_49 : decode Y_Mo_winners.2.2.1 49 = .ok (.iadd, 1) := by decide +kernel
theorem d_Mo_winners_50 : decode Y_Mo_winners.2.2.1 50 = .ok (.iaload, 1) := by decide +kernel
theorem d_Mo_winners_51 : decode Y_Mo_winners.2.2.1 51 = .ok (.aload_n 0, 1) := by decide +kernel
theorem d_Mo_winners_52 : decode Y_Mo_winners.2.2.1 52 = .ok (.getfield 31, 3) := by decide +kernel
theorem d_Mo_winners_55 : decode Y_Mo_winners.2.2.1 55 = .ok (.bipush 8, 2) := by decide +kernel
theorem d_Mo_winners_57 : decode Y_Mo_winners.2.2.1 57 = .ok (.iload_n 3, 1) := by decide +kernel
theorem d_Mo_winners_58 : decode Y_Mo_winners.2.2.1 58 = .ok (.imul, 1) := by decide +kernel
theorem d_Mo_winners_59 : decode Y_Mo_winners.2.2.1 59 = .ok (.iload_n 1, 1) := by decide +kernel
theorem d_Mo_winners_60 : decode Y_Mo_winners.2.2.1 60 = .ok (.iadd, 1) := by decide +kernel
theorem d_Mo_winners_61 : decode Y_Mo_winners.2.2.1 61 = .ok (.iaload, 1) := by decide +kernel
theorem d_Mo_winners_62 : decode Y_Mo_winners.2.2.1 62 = .ok (.if_icmp .lt 7, 3) := by decide +kernel
theorem d_Mo_winners_65 : decode Y_Mo_winners.2.2.1 65 = .ok (.iconst 1, 1) := by decide +kernel
theorem d_Mo_winners_66 : decode Y_Mo_winners.2.2.1 66 = .ok (.goto 4, 3) := by decide +kernel
theorem d_Mo_winners_69 : decode Y_Mo_winners.2.2.1 69 = .ok (.iconst 0, 1) := by decide +kernel
theorem d_Mo_winners_70 : decode Y_Mo_winners.2.2.1 70 = .ok (.istore_n 2, 1) := by decide +kernel
theorem d_Mo_winners_71 : decode Y_Mo_winners.2.2.1 71 = .ok (.iinc 3 1, 3) := by decide +kernel
theorem d_Mo_winners_74 : decode Y_Mo_winners.2.2.1 74 = .ok (.goto (-51), 3) := by decide +kernel
theorem d_Mo_winners_77 : decode Y_Mo_winners.2.2.1 77 = .ok (.iload_n 2, 1) := by decide +kernel
theorem d_Mo_winners_78 : decode Y_Mo_winners.2.2.1 78 = .ok (.ifCond .eq 23, 3) := by decide +kernel
theorem d_Mo_winners_81 : decode Y_Mo_winners.2.2.1 81 = .ok (.aload_n 0, 1) := by decide +kernel
theorem d_Mo_winners_82 : decode Y_Mo_winners.2.2.1 82 = .ok (.getfield 44, 3) := by decide +kernel
theorem d_Mo_winners_85 : decode Y_Mo_winners.2.2.1 85 = .ok (.aload_n 0, 1) := by decide +kernel
theorem d_Mo_winners_86 : decode Y_Mo_winners.2.2.1 86 = .ok (.getfield 101, 3) := by decide +kernel
theorem d_Mo_winners_89 : decode Y_Mo_winners.2.2.1 89 = .ok (.iload_n 1, 1) := by decide +kernel
theorem d_Mo_winners_90 : decode Y_Mo_winners.2.2.1 90 = .ok (.iastore, 1) := by decide +kernel
theorem d_Mo_winners_91 : decode Y_Mo_winners.2.2.1 91 = .ok (.aload_n 0, 1) := by decide +kernel
theorem d_Mo_winners_92 : decode Y_Mo_winners.2.2.1 92 = .ok (.dup, 1) := by decide +kernel
theorem d_Mo_winners_93 : decode Y_Mo_winners.2.2.1 93 = .ok (.getfield 101, 3) := by decide +kernel
theorem d_Mo_winners_96 : decode Y_Mo_winners.2.2.1 96 = .ok (.iconst 1, 1) := by decide +kernel
theorem d_Mo_winners_97 : decode Y_Mo_winners.2.2.1 97 = .ok (.iadd, 1) := by decide +kernel
theorem d_Mo_winners_98 : decode Y_Mo_winners.2.2.1 98 = .ok (.putfield 101, 3) := by decide +kernel
theorem d_Mo_winners_101 : decode Y_Mo_winners.2.2.1 101 = .ok (.iinc 1 1, 3) := by decide +kernel
theorem d_Mo_winners_104 : decode Y_Mo_winners.2.2.1 104 = .ok (.goto (-93), 3) := by decide +kernel
theorem d_Mo_winners_107 : decode Y_Mo_winners.2.2.1 107 = .ok (.return_, 1) := by decide +kernel
theorem d_Mo_isBefore_0 : decode Y_Mo_isBefore.2.2.1 0 = .ok (.bipush 8, 2) := by decide +kernel
theorem d_Mo_isBefore_2 : decode Y_Mo_isBefore.2.2.1 2 = .ok (.iload_n 1, 1) := by decide +kernel
theorem d_Mo_isBefore_3 : decode Y_Mo_isBefore.2.2.1 3 = .ok (.bipush 8, 2) := by decide +kernel
theorem d_Mo_isBefore_5 : decode Y_Mo_isBefore.2.2.1 5 = .ok (.irem, 1) := by decide +kernel
theorem d_Mo_isBefore_6 : decode Y_Mo_isBefore.2.2.1 6 = .ok (.imul, 1) := by decide +kernel
theorem d_Mo_isBefore_7 : decode Y_Mo_isBefore.2.2.1 7 = .ok (.iload_n 1, 1) := by decide +kernel
theorem d_Mo_isBefore_8 : decode Y_Mo_isBefore.2.2.1 8 = .ok (.bipush 8, 2) := by decide +kernel
theorem d_Mo_isBefore_10 : decode Y_Mo_isBefore.2.2.1 10 = .ok (.idiv, 1) := by decide +kernel
theorem d_Mo_isBefore_11 : decode Y_Mo_isBefore.2.2.1 11 = .ok (.iadd, 1) := by decide +kernel
theorem d_Mo_isBefore_12 : decode Y_Mo_isBefore.2.2.1 12 = .ok (.istore_n 3, 1) := by decide +kernel
theorem d_Mo_isBefore_13 : decode Y_Mo_isBefore.2.2.1 13 = .ok (.bipush 8, 2) := by decide +kernel
theorem d_Mo_isBefore_15 : decode Y_Mo_isBefore.2.2.1 15 = .ok (.iload_n 2, 1) := by decide +kernel
theorem d_Mo_isBefore_16 : decode Y_Mo_isBefore.2.2.1 16 = .ok (.bipush 8, 2) := by decide +kernel
theorem d_Mo_isBefore_18 : decode Y_Mo_isBefore.2.2.1 18 = .ok (.irem, 1) := by decide +kernel
theorem d_Mo_isBefore_19 : decode Y_Mo_isBefore.2.2.1 19 = .ok (.imul, 1) := by decide +kernel
theorem d_Mo_isBefore_20 : decode Y_Mo_isBefore.2.2.1 20 = .ok (.iload_n 2, 1) := by decide +kernel
theorem d_Mo_isBefore_21 : decode Y_Mo_isBefore.2.2.1 21 = .ok (.bipush 8, 2) := by decide +kernel
theorem d_Mo_isBefore_23 : decode Y_Mo_isBefore.2.2.1 23 = .ok (.idiv, 1) := by decide +kernel
theorem d_Mo_isBefore_24 : decode Y_Mo_isBefore.2.2.1 24 = .ok (.iadd, 1) := by decide +kernel
theorem d_Mo_isBefore_25 : decode Y_Mo_isBefore.2.2.1 25 = .ok (.istore 4, 2) := by decide +kernel
theorem d_Mo_isBefore_27 : decode Y_Mo_isBefore.2.2.1 27 = .ok (.aload_n 0, 1) := by decide +kernel
theorem d_Mo_isBefore_28 : decode Y_Mo_isBefore.2.2.1 28 = .ok (.getfield 28, 3) := by decide +kernel
theorem d_Mo_isBefore_31 : decode Y_Mo_isBefore.2.2.1 31 = .ok (.iload_n 1, 1) := by decide +kernel
theorem d_Mo_isBefore_32 : decode Y_Mo_isBefore.2.2.1 32 = .ok (.iaload, 1) := by decide +kernel
theorem d_Mo_isBefore_33 : decode Y_Mo_isBefore.2.2.1 33 = .ok (.aload_n 0, 1) := by decide +kernel
theorem d_Mo_isBefore_34 : decode Y_Mo_isBefore.2.2.1 34 = .ok (.getfield 28, 3) := by decide +kernel
theorem d_Mo_isBefore_37 : decode Y_Mo_isBefore.2.2.1 37 = .ok (.iload_n 2, 1) := by decide +kernel
theorem d_Mo_isBefore_38 : decode Y_Mo_isBefore.2.2.1 38 = .ok (.iaload, 1) := by decide +kernel
theorem d_Mo_isBefore_39 : decode Y_Mo_isBefore.2.2.1 39 = .ok (.if_icmp .eq 24, 3) := by decide +kernel
theorem d_Mo_isBefore_42 : decode Y_Mo_isBefore.2.2.1 42 = .ok (.aload_n 0, 1) := by decide +kernel
theorem d_Mo_isBefore_43 : decode Y_Mo_isBefore.2.2.1 43 = .ok (.getfield 28, 3) := by decide +kernel
theorem d_Mo_isBefore_46 : decode Y_Mo_isBefore.2.2.1 46 = .ok (.iload_n 1, 1) := by decide +kernel
theorem d_Mo_isBefore_47 : decode Y_Mo_isBefore.2.2.1 47 = .ok (.iaload, 1) := by decide +kernel
theorem d_Mo_isBefore_48 : decode Y_Mo_isBefore.2.2.1 48 = .ok (.aload_n 0, 1) := by decide +kernel
theorem d_Mo_isBefore_49 : decode Y_Mo_isBefore.2.2.1 49 = .ok (.getfield 28, 3) := by decide +kernel
theorem d_Mo_isBefore_52 : decode Y_Mo_isBefore.2.2.1 52 = .ok (.iload_n 2, 1) := by decide +kernel
theorem d_Mo_isBefore_53 : decode Y_Mo_isBefore.2.2.1 53 = .ok (.iaload, 1) := by decide +kernel
theorem d_Mo_isBefore_54 : decode Y_Mo_isBefore.2.2.1 54 = .ok (.if_icmp .le 7, 3) := by decide +kernel
theorem d_Mo_isBefore_57 : decode Y_Mo_isBefore.2.2.1 57 = .ok (.iconst 1, 1) := by decide +kernel
theorem d_Mo_isBefore_58 : decode Y_Mo_isBefore.2.2.1 58 = .ok (.goto 4, 3) := by decide +kernel
theorem d_Mo_isBefore_61 : decode Y_Mo_isBefore.2.2.1 61 = .ok (.iconst 0, 1) := by decide +kernel
theorem d_Mo_isBefore_62 : decode Y_Mo_isBefore.2.2.1 62 = .ok (.ireturn, 1) := by decide +kernel
theorem d_Mo_isBefore_63 : decode Y_Mo_isBefore.2.2.1 63 = .ok (.aload_n 0, 1) := by decide +kernel
theorem d_Mo_isBefore_64 : decode Y_Mo_isBefore.2.2.1 64 = .ok (.getfield 25, 3) := by decide +kernel
theorem d_Mo_isBefore_67 : decode Y_Mo_isBefore.2.2.1 67 = .ok (.iload_n 3, 1) := by decide +kernel
theorem d_Mo_isBefore_68 : decode Y_Mo_isBefore.2.2.1 68 = .ok (.iaload, 1) := by decide +kernel
theorem d_Mo_isBefore_69 : decode Y_Mo_isBefore.2.2.1 69 = .ok (.aload_n 0, 1) := by decide +kernel
theorem d_Mo_isBefore_70 : decode Y_Mo_isBefore.2.2.1 70 = .ok (.getfield 25, 3) := by decide +kernel
theorem d_Mo_isBefore_73 : decode Y_Mo_isBefore.2.2.1 73 = .ok (.iload 4, 2) := by decide +kernel
theorem d_Mo_isBefore_75 : decode Y_Mo_isBefore.2.2.1 75 = .ok (.iaload, 1) := by decide +kernel
theorem d_Mo_isBefore_76 : decode Y_Mo_isBefore.2.2.1 76 = .ok (.if_icmp .eq 25, 3) := by decide +kernel
theorem d_Mo_isBefore_79 : decode Y_Mo_isBefore.2.2.1 79 = .ok (.aload_n 0, 1) := by decide +kernel
theorem d_Mo_isBefore_80 : decode Y_Mo_isBefore.2.2.1 80 = .ok (.getfield 25, 3) := by decide +kernel
theorem d_Mo_isBefore_83 : decode Y_Mo_isBefore.2.2.1 83 = .ok (.iload_n 3, 1) := by decide +kernel
theorem d_Mo_isBefore_84 : decode Y_Mo_isBefore.2.2.1 84 = .ok (.iaload, 1) := by decide +kernel
theorem d_Mo_isBefore_85 : decode Y_Mo_isBefore.2.2.1 85 = .ok (.aload_n 0, 1) := by decide +kernel
theorem d_Mo_isBefore_86 : decode Y_Mo_isBefore.2.2.1 86 = .ok (.getfield 25, 3) := by decide +kernel
theorem d_Mo_isBefore_89 : decode Y_Mo_isBefore.2.2.1 89 = .ok (.iload 4, 2) := by decide +kernel
theorem d_Mo_isBefore_91 : decode Y_Mo_isBefore.2.2.1 91 = .ok (.iaload, 1) := by decide +kernel
theorem d_Mo_isBefore_92 : decode Y_Mo_isBefore.2.2.1 92 = .ok (.if_icmp .ge 7, 3) := by decide +kernel
theorem d_Mo_isBefore_95 : decode Y_Mo_isBefore.2.2.1 95 = .ok (.iconst 1, 1) := by decide +kernel
theorem d_Mo_isBefore_96 : decode Y_Mo_isBefore.2.2.1 96 = .ok (.goto 4, 3) := by decide +kernel
theorem d_Mo_isBefore_99 : decode Y_Mo_isBefore.2.2.1 99 = .ok (.iconst 0, 1) := by decide +kernel
theorem d_Mo_isBefore_100 : decode Y_Mo_isBefore.2.2.1 100 = .ok (.ireturn, 1) := by decide +kernel
theorem d_Mo_isBefore_101 : decode Y_Mo_isBefore.2.2.1 101 = .ok (.iload_n 1, 1) := by decide +kernel
theorem d_Mo_isBefore_102 : decode Y_Mo_isBefore.2.2.1 102 = .ok (.bipush 8, 2) := by decide +kernel
theorem d_Mo_isBefore_104 : decode Y_Mo_isBefore.2.2.1 104 = .ok (.idiv, 1) := by decide +kernel
theorem d_Mo_isBefore_105 : decode Y_Mo_isBefore.2.2.1 105 = .ok (.iload_n 2, 1) := by decide +kernel
theorem d_Mo_isBefore_106 : decode Y_Mo_isBefore.2.2.1 106 = .ok (.bipush 8, 2) := by decide +kernel
theorem d_Mo_isBefore_108 : decode Y_Mo_isBefore.2.2.1 108 = .ok (.idiv, 1) := by decide +kernel
end
section
/-! decode rows, written by gen/dec.py -/
theorem d_Mo_isBefore_109 : decode Y_Mo_isBefore.2.2.1 109 = .ok (.if_icmp .eq 30, 3) := by decide +kernel
theorem d_Mo_isBefore_112 : decode Y_Mo_isBefore.2.2.1 112 = .ok (.aload_n 0, 1) := by decide +kernel
theorem d_Mo_isBefore_113 : decode Y_Mo_isBefore.2.2.1 113 = .ok (.iload_n 1, 1) := by decide +kernel
theorem d_Mo_isBefore_114 : decode Y_Mo_isBefore.2.2.1 114 = .ok (.bipush 8, 2) := by decide +kernel
theorem d_Mo_isBefore_116 : decode Y_Mo_isBefore.2.2.1 116 = .ok (.idiv, 1) := by decide +kernel
theorem d_Mo_isBefore_117 : decode Y_Mo_isBefore.2.2.1 117 = .ok (.invokevirtual 65, 3) := by decide +kernel
theorem d_Mo_isBefore_120 : decode Y_Mo_isBefore.2.2.1 120 = .ok (.aload_n 0, 1) := by decide +kernel
theorem d_Mo_isBefore_121 : decode Y_Mo_isBefore.2.2.1 121 = .ok (.iload_n 2, 1) := by decide +kernel
theorem d_Mo_isBefore_122 : decode Y_Mo_isBefore.2.2.1 122 = .ok (.bipush 8, 2) := by decide +kernel
theorem d_Mo_isBefore_124 : decode Y_Mo_isBefore.2.2.1 124 = .ok (.idiv, 1) := by decide +kernel
theorem d_Mo_isBefore_125 : decode Y_Mo_isBefore.2.2.1 125 = .ok (.invokevirtual 65, 3) := by decide +kernel
theorem d_Mo_isBefore_128 : decode Y_Mo_isBefore.2.2.1 128 = .ok (.if_icmp .ge 7, 3) := by decide +kernel
theorem d_Mo_isBefore_131 : decode Y_Mo_isBefore.2.2.1 131 = .ok (.iconst 1, 1) := by decide +kernel
theorem d_Mo_isBefore_132 : decode Y_Mo_isBefore.2.2.1 132 = .ok (.goto 31, 3) := by decide +kernel
theorem d_Mo_isBefore_135 : decode Y_Mo_isBefore.2.2.1 135 = .ok (.iconst 0, 1) := by decide +kernel
theorem d_Mo_isBefore_136 : decode Y_Mo_isBefore.2.2.1 136 = .ok (.goto 27, 3) := by decide +kernel
theorem d_Mo_isBefore_139 : decode Y_Mo_isBefore.2.2.1 139 = .ok (.aload_n 0, 1) := by decide +kernel
theorem d_Mo_isBefore_140 : decode Y_Mo_isBefore.2.2.1 140 = .ok (.iload_n 1, 1) := by decide +kernel
theorem d_Mo_isBefore_141 : decode Y_Mo_isBefore.2.2.1 141 = .ok (.bipush 8, 2) := by decide +kernel
theorem d_Mo_isBefore_143 : decode Y_Mo_isBefore.2.2.1 143 = .ok (.irem, 1) := by decide +kernel
theorem d_Mo_isBefore_144 : decode Y_Mo_isBefore.2.2.1 144 = .ok (.invokevirtual 65, 3) := by decide +kernel
theorem d_Mo_isBefore_147 : decode Y_Mo_isBefore.2.2.1 147 = .ok (.aload_n 0, 1) := by decide +kernel
theorem d_Mo_isBefore_148 : decode Y_Mo_isBefore.2.2.1 148 = .ok (.iload_n 2, 1) := by decide +kernel
theorem d_Mo_isBefore_149 : decode Y_Mo_isBefore.2.2.1 149 = .ok (.bipush 8, 2) := by decide +kernel
theorem d_Mo_isBefore_151 : decode Y_Mo_isBefore.2.2.1 151 = .ok (.irem, 1) := by decide +kernel
theorem d_Mo_isBefore_152 : decode Y_Mo_isBefore.2.2.1 152 = .ok (.invokevirtual 65, 3) := by decide +kernel
theorem d_Mo_isBefore_155 : decode Y_Mo_isBefore.2.2.1 155 = .ok (.if_icmp .ge 7, 3) := by decide +kernel
theorem d_Mo_isBefore_158 : decode Y_Mo_isBefore.2.2.1 158 = .ok (.iconst 1, 1) := by decide +kernel
theorem d_Mo_isBefore_159 : decode Y_Mo_isBefore.2.2.1 159 = .ok (.goto 4, 3) := by decide +kernel
theorem d_Mo_isBefore_162 : decode Y_Mo_isBefore.2.2.1 162 = .ok (.iconst 0, 1) := by decide +kernel
theorem d_Mo_isBefore_163 : decode Y_Mo_isBefore.2.2.1 163 = .ok (.ireturn, 1) := by decide +kernel
theorem d_Mo_lock_0 : decode Y_Mo_lock.2.2.1 0 = .ok (.aload_n 0, 1) := by decide +kernel
theorem d_Mo_lock_1 : decode Y_Mo_lock.2.2.1 1 = .ok (.getfield 34, 3) := by decide +kernel
theorem d_Mo_lock_4 : decode Y_Mo_lock.2.2.1 4 = .ok (.iload_n 1, 1) := by decide +kernel
theorem d_Mo_lock_5 : decode Y_Mo_lock.2.2.1 5 = .ok (.iconst 1, 1) := by decide +kernel
theorem d_Mo_lock_6 : decode Y_Mo_lock.2.2.1 6 = .ok (.bastore, 1) := by decide +kernel
theorem d_Mo_lock_7 : decode Y_Mo_lock.2.2.1 7 = .ok (.iload_n 1, 1) := by decide +kernel
theorem d_Mo_lock_8 : decode Y_Mo_lock.2.2.1 8 = .ok (.bipush 8, 2) := by decide +kernel
theorem d_Mo_lock_10 : decode Y_Mo_lock.2.2.1 10 = .ok (.idiv, 1) := by decide +kernel
theorem d_Mo_lock_11 : decode Y_Mo_lock.2.2.1 11 = .ok (.istore_n 2, 1) := by decide +kernel
theorem d_Mo_lock_12 : decode Y_Mo_lock.2.2.1 12 = .ok (.iload_n 1, 1) := by decide +kernel
theorem d_Mo_lock_13 : decode Y_Mo_lock.2.2.1 13 = .ok (.bipush 8, 2) := by decide +kernel
theorem d_Mo_lock_15 : decode Y_Mo_lock.2.2.1 15 = .ok (.irem, 1) := by decide +kernel
theorem d_Mo_lock_16 : decode Y_Mo_lock.2.2.1 16 = .ok (.istore_n 3, 1) := by decide +kernel
theorem d_Mo_lock_17 : decode Y_Mo_lock.2.2.1 17 = .ok (.iconst 0, 1) := by decide +kernel
theorem d_Mo_lock_18 : decode Y_Mo_lock.2.2.1 18 = .ok (.istore 4, 2) := by decide +kernel
theorem d_Mo_lock_20 : decode Y_Mo_lock.2.2.1 20 = .ok (.iload 4, 2) := by decide +kernel
theorem d_Mo_lock_22 : decode Y_Mo_lock.2.2.1 22 = .ok (.bipush 64, 2) := by decide +kernel
theorem d_Mo_lock_24 : decode Y_Mo_lock.2.2.1 24 = .ok (.if_icmp .ge 109, 3) := by decide +kernel
theorem d_Mo_lock_27 : decode Y_Mo_lock.2.2.1 27 = .ok (.iload 4, 2) := by decide +kernel
theorem d_Mo_lock_29 : decode Y_Mo_lock.2.2.1 29 = .ok (.bipush 8, 2) := by decide +kernel
theorem d_Mo_lock_31 : decode Y_Mo_lock.2.2.1 31 = .ok (.idiv, 1) := by decide +kernel
theorem d_Mo_lock_32 : decode Y_Mo_lock.2.2.1 32 = .ok (.iload_n 2, 1) := by decide +kernel
theorem d_Mo_lock_33 : decode Y_Mo_lock.2.2.1 33 = .ok (.if_icmp .eq 21, 3) := by decide +kernel
theorem d_Mo_lock_36 : decode Y_Mo_lock.2.2.1 36 = .ok (.aload_n 0, 1) := by decide +kernel
theorem d_Mo_lock_37 : decode Y_Mo_lock.2.2.1 37 = .ok (.getfield 38, 3) := by decide +kernel
theorem d_Mo_lock_40 : decode Y_Mo_lock.2.2.1 40 = .ok (.bipush 8, 2) := by decide +kernel
theorem d_Mo_lock_42 : decode Y_Mo_lock.2.2.1 42 = .ok (.iload 4, 2) := by decide +kernel
theorem d_Mo_lock_44 : decode Y_Mo_lock.2.2.1 44 = .ok (.bipush 8, 2) := by decide +kernel
theorem d_Mo_lock_46 : decode Y_Mo_lock.2.2.1 46 = .ok (.idiv, 1) := by decide +kernel
theorem d_Mo_lock_47 : decode Y_Mo_lock.2.2.1 47 = .ok (.imul, 1) := by decide +kernel
theorem d_Mo_lock_48 : decode Y_Mo_lock.2.2.1 48 = .ok (.iload_n 2, 1) := by decide +kernel
theorem d_Mo_lock_49 : decode Y_Mo_lock.2.2.1 49 = .ok (.iadd, 1) := by decide +kernel
theorem d_Mo_lock_50 : decode Y_Mo_lock.2.2.1 50 = .ok (.baload, 1) := by decide +kernel
theorem d_Mo_lock_51 : decode Y_Mo_lock.2.2.1 51 = .ok (.ifCond .eq 7, 3) := by decide +kernel
theorem d_Mo_lock_54 : decode Y_Mo_lock.2.2.1 54 = .ok (.iconst 1, 1) := by decide +kernel
theorem d_Mo_lock_55 : decode Y_Mo_lock.2.2.1 55 = .ok (.goto 4, 3) := by decide +kernel
theorem d_Mo_lock_58 : decode Y_Mo_lock.2.2.1 58 = .ok (.iconst 0, 1) := by decide +kernel
theorem d_Mo_lock_59 : decode Y_Mo_lock.2.2.1 59 = .ok (.istore 5, 2) := by decide +kernel
theorem d_Mo_lock_61 : decode Y_Mo_lock.2.2.1 61 = .ok (.iload 4, 2) := by decide +kernel
theorem d_Mo_lock_63 : decode Y_Mo_lock.2.2.1 63 = .ok (.bipush 8, 2) := by decide +kernel
theorem d_Mo_lock_65 : decode Y_Mo_lock.2.2.1 65 = .ok (.irem, 1) := by decide +kernel
theorem d_Mo_lock_66 : decode Y_Mo_lock.2.2.1 66 = .ok (.iload_n 3, 1) := by decide +kernel
theorem d_Mo_lock_67 : decode Y_Mo_lock.2.2.1 67 = .ok (.if_icmp .eq 21, 3) := by decide +kernel
theorem d_Mo_lock_70 : decode Y_Mo_lock.2.2.1 70 = .ok (.aload_n 0, 1) := by decide +kernel
theorem d_Mo_lock_71 : decode Y_Mo_lock.2.2.1 71 = .ok (.getfield 38, 3) := by decide +kernel
theorem d_Mo_lock_74 : decode Y_Mo_lock.2.2.1 74 = .ok (.bipush 8, 2) := by decide +kernel
theorem d_Mo_lock_76 : decode Y_Mo_lock.2.2.1 76 = .ok (.iload_n 3, 1) := by decide +kernel
theorem d_Mo_lock_77 : decode Y_Mo_lock.2.2.1 77 = .ok (.imul, 1) := by decide +kernel
theorem d_Mo_lock_78 : decode Y_Mo_lock.2.2.1 78 = .ok (.iload 4, 2) := by decide +kernel
theorem d_Mo_lock_80 : decode Y_Mo_lock.2.2.1 80 = .ok (.bipush 8, 2) := by decide +kernel
theorem d_Mo_lock_82 : decode Y_Mo_lock.2.2.1 82 = .ok (.irem, 1) := by decide +kernel
theorem d_Mo_lock_83 : decode Y_Mo_lock.2.2.1 83 = .ok (.iadd, 1) := by decide +kernel
theorem d_Mo_lock_84 : decode Y_Mo_lock.2.2.1 84 = .ok (.baload, 1) := by decide +kernel
theorem d_Mo_lock_85 : decode Y_Mo_lock.2.2.1 85 = .ok (.ifCond .eq 7, 3) := by decide +kernel
theorem d_Mo_lock_88 : decode Y_Mo_lock.2.2.1 88 = .ok (.iconst 1, 1) := by decide +kernel
theorem d_Mo_lock_89 : decode Y_Mo_lock.2.2.1 89 = .ok (.goto 4, 3) := by decide +kernel
theorem d_Mo_lock_92 : decode Y_Mo_lock.2.2.1 92 = .ok (.iconst 0, 1) := by decide +kernel
theorem d_Mo_lock_93 : decode Y_Mo_lock.2.2.1 93 = .ok (.istore 6, 2) := by decide +kernel
theorem d_Mo_lock_95 : decode Y_Mo_lock.2.2.1 95 = .ok (.aload_n 0, 1) := by decide +kernel
theorem d_Mo_lock_96 : decode Y_Mo_lock.2.2.1 96 = .ok (.getfield 38, 3) := by decide +kernel
theorem d_Mo_lock_99 : decode Y_Mo_lock.2.2.1 99 = .ok (.iload 4, 2) := by decide +kernel
theorem d_Mo_lock_101 : decode Y_Mo_lock.2.2.1 101 = .ok (.aload_n 0, 1) := by decide +kernel
theorem d_Mo_lock_102 : decode Y_Mo_lock.2.2.1 102 = .ok (.getfield 38, 3) := by decide +kernel
theorem d_Mo_lock_105 : decode Y_Mo_lock.2.2.1 105 = .ok (.iload 4, 2) := by decide +kernel
theorem d_Mo_lock_107 : decode Y_Mo_lock.2.2.1 107 = .ok (.baload, 1) := by decide +kernel
theorem d_Mo_lock_108 : decode Y_Mo_lock.2.2.1 108 = .ok (.ifCond .ne 13, 3) := by decide +kernel
theorem d_Mo_lock_111 : decode Y_Mo_lock.2.2.1 111 = .ok (.iload 5, 2) := by decide +kernel
theorem d_Mo_lock_113 : decode Y_Mo_lock.2.2.1 113 = .ok (.ifCond .eq 12, 3) := by decide +kernel
theorem d_Mo_lock_116 : decode Y_Mo_lock.2.2.1 116 = .ok (.iload 6, 2) := by decide +kernel
theorem d_Mo_lock_118 : decode Y_Mo_lock.2.2.1 118 = .ok (.ifCond .eq 7, 3) := by decide +kernel
theorem d_Mo_lock_121 : decode Y_Mo_lock.2.2.1 121 = .ok (.iconst 1, 1) := by decide +kernel
theorem d_Mo_lock_122 : decode Y_Mo_lock.2.2.1 122 = .ok (.goto 4, 3) := by decide +kernel
theorem d_Mo_lock_125 : decode Y_Mo_lock.2.2.1 125 = .ok (.iconst 0, 1) := by decide +kernel
theorem d_Mo_lock_126 : decode Y_Mo_lock.2.2.1 126 = .ok (.bastore, 1) := by decide +kernel
theorem d_Mo_lock_127 : decode Y_Mo_lock.2.2.1 127 = .ok (.iinc 4 1, 3) := by decide +kernel
theorem d_Mo_lock_130 : decode Y_Mo_lock.2.2.1 130 = .ok (.goto (-110), 3) := by decide +kernel
theorem d_Mo_lock_133 : decode Y_Mo_lock.2.2.1 133 = .ok (.return_, 1) := by decide +kernel
theorem d_Mo_lockAll_0 : decode Y_Mo_lockAll.2.2.1 0 = .ok (.iconst 0, 1) := by decide +kernel
theorem d_Mo_lockAll_1 : decode Y_Mo_lockAll.2.2.1 1 = .ok (.istore_n 1, 1) := by decide +kernel
theorem d_Mo_lockAll_2 : decode Y_Mo_lockAll.2.2.1 2 = .ok (.iload_n 1, 1) := by decide +kernel
theorem d_Mo_lockAll_3 : decode Y_Mo_lockAll.2.2.1 3 = .ok (.bipush 64, 2) := by decide +kernel
theorem d_Mo_lockAll_5 : decode Y_Mo_lockAll.2.2.1 5 = .ok (.if_icmp .ge 23, 3) := by decide +kernel
theorem d_Mo_lockAll_8 : decode Y_Mo_lockAll.2.2.1 8 = .ok (.aload_n 0, 1) := by decide +kernel
theorem d_Mo_lockAll_9 : decode Y_Mo_lockAll.2.2.1 9 = .ok (.getfield 34, 3) := by decide +kernel
theorem d_Mo_lockAll_12 : decode Y_Mo_lockAll.2.2.1 12 = .ok (.iload_n 1, 1) := by decide +kernel
theorem d_Mo_lockAll_13 : decode Y_Mo_lockAll.2.2.1 13 = .ok (.iconst 0, 1) := by decide +kernel
theorem d_Mo_lockAll_14 : decode Y_Mo_lockAll.2.2.1 14 = .ok (.bastore, 1) := by decide +kernel
theorem d_Mo_lockAll_15 : decode Y_Mo_lockAll.2.2.1 15 = .ok (.aload_n 0, 1) := by decide +kernel
theorem d_Mo_lockAll_16 : decode Y_Mo_lockAll.2.2.1 16 = .ok (.getfield 38, 3) := by decide +kernel
theorem d_Mo_lockAll_19 : decode Y_Mo_lockAll.2.2.1 19 = .ok (.iload_n 1, 1) := by decide +kernel
theorem d_Mo_lockAll_20 : decode Y_Mo_lockAll.2.2.1 20 = .ok (.iconst 0, 1) := by decide +kernel
theorem d_Mo_lockAll_21 : decode Y_Mo_lockAll.2.2.1 21 = .ok (.bastore, 1) := by decide +kernel
theorem d_Mo_lockAll_22 : decode Y_Mo_lockAll.2.2.1 22 = .ok (.iinc 1 1, 3) := by decide +kernel
theorem d_Mo_lockAll_25 : decode Y_Mo_lockAll.2.2.1 25 = .ok (.goto (-23), 3) := by decide +kernel
theorem d_Mo_lockAll_28 : decode Y_Mo_lockAll.2.2.1 28 = .ok (.iconst (-1), 1) := by decide +kernel
theorem d_Mo_lockAll_29 : decode Y_Mo_lockAll.2.2.1 29 = .ok (.istore_n 1, 1) := by decide +kernel
theorem d_Mo_lockAll_30 : decode Y_Mo_lockAll.2.2.1 30 = .ok (.iconst 1, 1) := by decide +kernel
theorem d_Mo_lockAll_31 : decode Y_Mo_lockAll.2.2.1 31 = .ok (.istore_n 2, 1) := by decide +kernel
theorem d_Mo_lockAll_32 : decode Y_Mo_lockAll.2.2.1 32 = .ok (.iload_n 2, 1) := by decide +kernel
theorem d_Mo_lockAll_33 : decode Y_Mo_lockAll.2.2.1 33 = .ok (.ifCond .eq 122, 3) := by decide +kernel
theorem d_Mo_lockAll_36 : decode Y_Mo_lockAll.2.2.1 36 = .ok (.iconst (-1), 1) := by decide +kernel
theorem d_Mo_lockAll_37 : decode Y_Mo_lockAll.2.2.1 37 = .ok (.istore_n 3, 1) := by decide +kernel
theorem d_Mo_lockAll_38 : decode Y_Mo_lockAll.2.2.1 38 = .ok (.iconst 0, 1) := by decide +kernel
theorem d_Mo_lockAll_39 : decode Y_Mo_lockAll.2.2.1 39 = .ok (.istore 4, 2) := by decide +kernel
theorem d_Mo_lockAll_41 : decode Y_Mo_lockAll.2.2.1 41 = .ok (.iload 4, 2) := by decide +kernel
theorem d_Mo_lockAll_43 : decode Y_Mo_lockAll.2.2.1 43 = .ok (.bipush 64, 2) := by decide +kernel
theorem d_Mo_lockAll_45 : decode Y_Mo_lockAll.2.2.1 45 = .ok (.if_icmp .ge 66, 3) := by decide +kernel
theorem d_Mo_lockAll_48 : decode Y_Mo_lockAll.2.2.1 48 = .ok (.aload_n 0, 1) := by decide +kernel
theorem d_Mo_lockAll_49 : decode Y_Mo_lockAll.2.2.1 49 = .ok (.getfield 28, 3) := by decide +kernel
theorem d_Mo_lockAll_52 : decode Y_Mo_lockAll.2.2.1 52 = .ok (.iload 4, 2) := by decide +kernel
theorem d_Mo_lockAll_54 : decode Y_Mo_lockAll.2.2.1 54 = .ok (.iaload, 1) := by decide +kernel
theorem d_Mo_lockAll_55 : decode Y_Mo_lockAll.2.2.1 55 = .ok (.ifCond .le 21, 3) := by decide +kernel
theorem d_Mo_lockAll_58 : decode Y_Mo_lockAll.2.2.1 58 = .ok (.iload_n 1, 1) := by decide +kernel
theorem d_Mo_lockAll_59 : decode Y_Mo_lockAll.2.2.1 59 = .ok (.ifCond .lt 13, 3) := by decide +kernel
theorem d_Mo_lockAll_62 : decode Y_Mo_lockAll.2.2.1 62 = .ok (.aload_n 0, 1) := by decide +kernel
theorem d_Mo_lockAll_63 : decode Y_Mo_lockAll.2.2.1 63 = .ok (.iload_n 1, 1) := by decide +kernel
theorem d_Mo_lockAll_64 : decode Y_Mo_lockAll.2.2.1 64 = .ok (.iload 4, 2) := by decide +kernel
theorem d_Mo_lockAll_66 : decode Y_Mo_lockAll.2.2.1 66 = .ok (.invokevirtual 104, 3) := by decide +kernel
theorem d_Mo_lockAll_69 : decode Y_Mo_lockAll.2.2.1 69 = .ok (.ifCond .eq 7, 3) := by decide +kernel
theorem d_Mo_lockAll_72 : decode Y_Mo_lockAll.2.2.1 72 = .ok (.iconst 1, 1) := by decide +kernel
theorem d_Mo_lockAll_73 : decode Y_Mo_lockAll.2.2.1 73 = .ok (.goto 4, 3) := by decide +kernel
theorem d_Mo_lockAll_76 : decode Y_Mo_lockAll.2.2.1 76 = .ok (.iconst 0, 1) := by decide +kernel
theorem d_Mo_lockAll_77 : decode Y_Mo_lockAll.2.2.1 77 = .ok (.istore 5, 2) := by decide +kernel
theorem d_Mo_lockAll_79 : decode Y_Mo_lockAll.2.2.1 79 = .ok (.iload 5, 2) := by decide +kernel
theorem d_Mo_lockAll_81 : decode Y_Mo_lockAll.2.2.1 81 = .ok (.ifCond .eq 22, 3) := by decide +kernel
theorem d_Mo_lockAll_84 : decode Y_Mo_lockAll.2.2.1 84 = .ok (.iload_n 3, 1) := by decide +kernel
theorem d_Mo_lockAll_85 : decode Y_Mo_lockAll.2.2.1 85 = .ok (.ifCond .lt 13, 3) := by decide +kernel
theorem d_Mo_lockAll_88 : decode Y_Mo_lockAll.2.2.1 88 = .ok (.aload_n 0, 1) := by decide +kernel
theorem d_Mo_lockAll_89 : decode Y_Mo_lockAll.2.2.1 89 = .ok (.iload 4, 2) := by decide +kernel
theorem d_Mo_lockAll_91 : decode Y_Mo_lockAll.2.2.1 91 = .ok (.iload_n 3, 1) := by decide +kernel
theorem d_Mo_lockAll_92 : decode Y_Mo_lockAll.2.2.1 92 = .ok (.invokevirtual 104, 3) := by decide +kernel
theorem d_Mo_lockAll_95 : decode Y_Mo_lockAll.2.2.1 95 = .ok (.ifCond .eq 8, 3) := by decide +kernel
theorem d_Mo_lockAll_98 : decode Y_Mo_lockAll.2.2.1 98 = .ok (.iload 4, 2) := by decide +kernel
theorem d_Mo_lockAll_100 : decode Y_Mo_lockAll.2.2.1 100 = .ok (.goto 4, 3) := by decide +kernel
theorem d_Mo_lockAll_103 : decode Y_Mo_lockAll.2.2.1 103 = .ok (.iload_n 3, 1) := by decide +kernel
theorem d_Mo_lockAll_104 : decode Y_Mo_lockAll.2.2.1 104 = .ok (.istore_n 3, 1) := by decide +kernel
theorem d_Mo_lockAll_105 : decode Y_Mo_lockAll.2.2.1 105 = .ok (.iinc 4 1, 3) := by decide +kernel
theorem d_Mo_lockAll_108 : decode Y_Mo_lockAll.2.2.1 108 = .ok (.goto (-67), 3) := by decide +kernel
theorem d_Mo_lockAll_111 : decode Y_Mo_lockAll.2.2.1 111 = .ok (.iload_n 3, 1) := by decide +kernel
theorem d_Mo_lockAll_112 : decode Y_Mo_lockAll.2.2.1 112 = .ok (.ifCond .lt 7, 3) := by decide +kernel
theorem d_Mo_lockAll_115 : decode Y_Mo_lockAll.2.2.1 115 = .ok (.iconst 1, 1) := by decide +kernel
theorem d_Mo_lockAll_116 : decode Y_Mo_lockAll.2.2.1 116 = .ok (.goto 4, 3) := by decide +kernel
theorem d_Mo_lockAll_119 : decode Y_Mo_lockAll.2.2.1 119 = .ok (.iconst 0, 1) := by decide +kernel
theorem d_Mo_lockAll_120 : decode Y_Mo_lockAll.2.2.1 120 = .ok (.istore_n 2, 1) := by decide +kernel
theorem d_Mo_lockAll_121 : decode Y_Mo_lockAll.2.2.1 121 = .ok (.iload_n 2, 1) := by decide +kernel
theorem d_Mo_lockAll_122 : decode Y_Mo_lockAll.2.2.1 122 = .ok (.ifCond .eq 28, 3) := by decide +kernel
theorem d_Mo_lockAll_125 : decode Y_Mo_lockAll.2.2.1 125 = .ok (.aload_n 0, 1) := by decide +kernel
theorem d_Mo_lockAll_126 : decode Y_Mo_lockAll.2.2.1 126 = .ok (.getfield 38, 3) := by decide +kernel
theorem d_Mo_lockAll_129 : decode Y_Mo_lockAll.2.2.1 129 = .ok (.bipush 8, 2) := by decide +kernel
theorem d_Mo_lockAll_131 : decode Y_Mo_lockAll.2.2.1 131 = .ok (.iload_n 3, 1) := by decide +kernel
theorem d_Mo_lockAll_132 : decode Y_Mo_lockAll.2.2.1 132 = .ok (.bipush 8, 2) := by decide +kernel
theorem d_Mo_lockAll_134 : decode Y_Mo_lockAll.2.2.1 134 = .ok (.irem, 1) := by decide +kernel
theorem d_Mo_lockAll_135 : decode Y_Mo_lockAll.2.2.1 135 = .ok (.imul, 1) := by decide +kernel
theorem d_Mo_lockAll_136 : decode Y_Mo_lockAll.2.2.1 136 = .ok (.iload_n 3, 1) := by decide +kernel
theorem d_Mo_lockAll_137 : decode Y_Mo_lockAll.2.2.1 137 = .ok (.bipush 8, 2) := by decide +kernel
theorem d_Mo_lockAll_139 : decode Y_Mo_lockAll.2.2.1 139 = .ok (.idiv, 1) := by decide +kernel
theorem d_Mo_lockAll_140 : decode Y_Mo_lockAll.2.2.1 140 = .ok (.iadd, 1) := by decide +kernel
theorem d_Mo_lockAll_141 : decode Y_Mo_lockAll.2.2.1 141 = .ok (.baload, 1) := by decide +kernel
theorem d_Mo_lockAll_142 : decode Y_Mo_lockAll.2.2.1 142 = .ok (.ifCond .ne 8, 3) := by decide +kernel
theorem d_Mo_lockAll_145 : decode Y_Mo_lockAll.2.2.1 145 = .ok (.aload_n 0, 1) := by decide +kernel
theorem d_Mo_lockAll_146 : decode Y_Mo_lockAll.2.2.1 146 = .ok (.iload_n 3, 1) := by decide +kernel
theorem d_Mo_lockAll_147 : decode Y_Mo_lockAll.2.2.1 147 = .ok (.invokevirtual 107, 3) := by decide +kernel
theorem d_Mo_lockAll_150 : decode Y_Mo_lockAll.2.2.1 150 = .ok (.iload_n 3, 1) := by decide +kernel
theorem d_Mo_lockAll_151 : decode Y_Mo_lockAll.2.2.1 151 = .ok (.istore_n 1, 1) := by decide +kernel
theorem d_Mo_lockAll_152 : decode Y_Mo_lockAll.2.2.1 152 = .ok (.goto (-120), 3) := by decide +kernel
theorem d_Mo_lockAll_155 : decode Y_Mo_lockAll.2.2.1 155 = .ok (.return_, 1) := by decide +kernel
theorem d_Mo_orderAll_0 : decode Y_Mo_orderAll.2.2.1 0 = .ok (.aload_n 0, 1) := by decide +kernel
theorem d_Mo_orderAll_1 : decode Y_Mo_orderAll.2.2.1 1 = .ok (.invokevirtual 110, 3) := by decide +kernel
theorem d_Mo_orderAll_4 : decode Y_Mo_orderAll.2.2.1 4 = .ok (.iconst 0, 1) := by decide +kernel
theorem d_Mo_orderAll_5 : decode Y_Mo_orderAll.2.2.1 5 = .ok (.istore_n 1, 1) := by decide +kernel
theorem d_Mo_orderAll_6 : decode Y_Mo_orderAll.2.2.1 6 = .ok (.aload_n 0, 1) := by decide +kernel
theorem d_Mo_orderAll_7 : decode Y_Mo_orderAll.2.2.1 7 = .ok (.iconst 0, 1) := by decide +kernel
theorem d_Mo_orderAll_8 : decode Y_Mo_orderAll.2.2.1 8 = .ok (.putfield 101, 3) := by decide +kernel
theorem d_Mo_orderAll_11 : decode Y_Mo_orderAll.2.2.1 11 = .ok (.aload_n 0, 1) := by decide +kernel
theorem d_Mo_orderAll_12 : decode Y_Mo_orderAll.2.2.1 12 = .ok (.getfield 101, 3) := by decide +kernel
theorem d_Mo_orderAll_15 : decode Y_Mo_orderAll.2.2.1 15 = .ok (.aload_n 0, 1) := by decide +kernel
theorem d_Mo_orderAll_16 : decode Y_Mo_orderAll.2.2.1 16 = .ok (.getfield 47, 3) := by decide +kernel
theorem d_Mo_orderAll_19 : decode Y_Mo_orderAll.2.2.1 19 = .ok (.if_icmp .ge 142, 3) := by decide +kernel
theorem d_Mo_orderAll_22 : decode Y_Mo_orderAll.2.2.1 22 = .ok (.iconst (-1), 1) := by decide +kernel
theorem d_Mo_orderAll_23 : decode Y_Mo_orderAll.2.2.1 23 = .ok (.istore_n 2, 1) := by decide +kernel
theorem d_Mo_orderAll_24 : decode Y_Mo_orderAll.2.2.1 24 = .ok (.aload_n 0, 1) := by decide +kernel
theorem d_Mo_orderAll_25 : decode Y_Mo_orderAll.2.2.1 25 = .ok (.getfield 47, 3) := by decide +kernel
theorem d_Mo_orderAll_28 : decode Y_Mo_orderAll.2.2.1 28 = .ok (.iconst 1, 1) := by decide +kernel
theorem d_Mo_orderAll_29 : decode Y_Mo_orderAll.2.2.1 29 = .ok (.isub, 1) := by decide +kernel
theorem d_Mo_orderAll_30 : decode Y_Mo_orderAll.2.2.1 30 = .ok (.istore_n 3, 1) := by decide +kernel
theorem d_Mo_orderAll_31 : decode Y_Mo_orderAll.2.2.1 31 = .ok (.iload_n 3, 1) := by decide +kernel
theorem d_Mo_orderAll_32 : decode Y_Mo_orderAll.2.2.1 32 = .ok (.ifCond .lt 100, 3) := by decide +kernel
theorem d_Mo_orderAll_35 : decode Y_Mo_orderAll.2.2.1 35 = .ok (.aload_n 0, 1) := by decide +kernel
theorem d_Mo_orderAll_36 : decode Y_Mo_orderAll.2.2.1 36 = .ok (.getfield 7, 3) := by decide +kernel
theorem d_Mo_orderAll_39 : decode Y_Mo_orderAll.2.2.1 39 = .ok (.iload_n 3, 1) := by decide +kernel
theorem d_Mo_orderAll_40 : decode Y_Mo_orderAll.2.2.1 40 = .ok (.iaload, 1) := by decide +kernel
theorem d_Mo_orderAll_41 : decode Y_Mo_orderAll.2.2.1 41 = .ok (.istore 4, 2) := by decide +kernel
theorem d_Mo_orderAll_43 : decode Y_Mo_orderAll.2.2.1 43 = .ok (.iload_n 1, 1) := by decide +kernel
theorem d_Mo_orderAll_44 : decode Y_Mo_orderAll.2.2.1 44 = .ok (.iload 4, 2) := by decide +kernel
theorem d_Mo_orderAll_46 : decode Y_Mo_orderAll.2.2.1 46 = .ok (.ishr, 1) := by decide +kernel
theorem d_Mo_orderAll_47 : decode Y_Mo_orderAll.2.2.1 47 = .ok (.iconst 1, 1) := by decide +kernel
theorem d_Mo_orderAll_48 : decode Y_Mo_orderAll.2.2.1 48 = .ok (.iand, 1) := by decide +kernel
theorem d_Mo_orderAll_49 : decode Y_Mo_orderAll.2.2.1 49 = .ok (.ifCond .ne 7, 3) := by decide +kernel
theorem d_Mo_orderAll_52 : decode Y_Mo_orderAll.2.2.1 52 = .ok (.iconst 1, 1) := by decide +kernel
theorem d_Mo_orderAll_53 : decode Y_Mo_orderAll.2.2.1 53 = .ok (.goto 4, 3) := by decide +kernel
theorem d_Mo_orderAll_56 : decode Y_Mo_orderAll.2.2.1 56 = .ok (.iconst 0, 1) := by decide +kernel
theorem d_Mo_orderAll_57 : decode Y_Mo_orderAll.2.2.1 57 = .ok (.istore 5, 2) := by decide +kernel
theorem d_Mo_orderAll_59 : decode Y_Mo_orderAll.2.2.1 59 = .ok (.iconst 0, 1) := by decide +kernel
theorem d_Mo_orderAll_60 : decode Y_Mo_orderAll.2.2.1 60 = .ok (.istore 6, 2) := by decide +kernel
theorem d_Mo_orderAll_62 : decode Y_Mo_orderAll.2.2.1 62 = .ok (.iload 6, 2) := by decide +kernel
theorem d_Mo_orderAll_64 : decode Y_Mo_orderAll.2.2.1 64 = .ok (.aload_n 0, 1) := by decide +kernel
theorem d_Mo_orderAll_65 : decode Y_Mo_orderAll.2.2.1 65 = .ok (.getfield 47, 3) := by decide +kernel
theorem d_Mo_orderAll_68 : decode Y_Mo_orderAll.2.2.1 68 = .ok (.if_icmp .ge 46, 3) := by decide +kernel
theorem d_Mo_orderAll_71 : decode Y_Mo_orderAll.2.2.1 71 = .ok (.iload 5, 2) := by decide +kernel
theorem d_Mo_orderAll_73 : decode Y_Mo_orderAll.2.2.1 73 = .ok (.ifCond .eq 32, 3) := by decide +kernel
theorem d_Mo_orderAll_76 : decode Y_Mo_orderAll.2.2.1 76 = .ok (.iload_n 1, 1) := by decide +kernel
theorem d_Mo_orderAll_77 : decode Y_Mo_orderAll.2.2.1 77 = .ok (.iload 6, 2) := by decide +kernel
theorem d_Mo_orderAll_79 : decode Y_Mo_orderAll.2.2.1 79 = .ok (.ishr, 1) := by decide +kernel
theorem d_Mo_orderAll_80 : decode Y_Mo_orderAll.2.2.1 80 = .ok (.iconst 1, 1) := by decide +kernel
theorem d_Mo_orderAll_81 : decode Y_Mo_orderAll.2.2.1 81 = .ok (.iand, 1) := by decide +kernel
theorem d_Mo_orderAll_82 : decode Y_Mo_orderAll.2.2.1 82 = .ok (.ifCond .ne 19, 3) := by decide +kernel
theorem d_Mo_orderAll_85 : decode Y_Mo_orderAll.2.2.1 85 = .ok (.aload_n 0, 1) := by decide +kernel
theorem d_Mo_orderAll_86 : decode Y_Mo_orderAll.2.2.1 86 = .ok (.getfield 34, 3) := by decide +kernel
theorem d_Mo_orderAll_89 : decode Y_Mo_orderAll.2.2.1 89 = .ok (.bipush 8, 2) := by decide +kernel
theorem d_Mo_orderAll_91 : decode Y_Mo_orderAll.2.2.1 91 = .ok (.iload 6, 2) := by decide +kernel
theorem d_Mo_orderAll_93 : decode Y_Mo_orderAll.2.2.1 93 = .ok (.imul, 1) := by decide +kernel
theorem d_Mo_orderAll_94 : decode Y_Mo_orderAll.2.2.1 94 = .ok (.iload 4, 2) := by decide +kernel
theorem d_Mo_orderAll_96 : decode Y_Mo_orderAll.2.2.1 96 = .ok (.iadd, 1) := by decide +kernel
theorem d_Mo_orderAll_97 : decode Y_Mo_orderAll.2.2.1 97 = .ok (.baload, 1) := by decide +kernel
theorem d_Mo_orderAll_98 : decode Y_Mo_orderAll.2.2.1 98 = .ok (.ifCond .ne 7, 3) := by decide +kernel
theorem d_Mo_orderAll_101 : decode Y_Mo_orderAll.2.2.1 101 = .ok (.iconst 1, 1) := by decide +kernel
theorem d_Mo_orderAll_102 : decode Y_Mo_orderAll.2.2.1 102 = .ok (.goto 4, 3) := by decide +kernel
theorem d_Mo_orderAll_105 : decode Y_Mo_orderAll.2.2.1 105 = .ok (.iconst 0, 1) := by decide +kernel
theorem d_Mo_orderAll_106 : decode Y_Mo_orderAll.2.2.1 106 = .ok (.istore 5, 2) := by decide +kernel
theorem d_Mo_orderAll_108 : decode Y_Mo_orderAll.2.2.1 108 = .ok (.iinc 6 1, 3) := by decide +kernel
theorem d_Mo_orderAll_111 : decode Y_Mo_orderAll.2.2.1 111 = .ok (.goto (-49), 3) := by decide +kernel
theorem d_Mo_orderAll_114 : decode Y_Mo_orderAll.2.2.1 114 = .ok (.iload 5, 2) := by decide +kernel
theorem d_Mo_orderAll_116 : decode Y_Mo_orderAll.2.2.1 116 = .ok (.ifCond .eq 8, 3) := by decide +kernel
theorem d_Mo_orderAll_119 : decode Y_Mo_orderAll.2.2.1 119 = .ok (.iload 4, 2) := by decide +kernel
theorem d_Mo_orderAll_121 : decode Y_Mo_orderAll.2.2.1 121 = .ok (.goto 4, 3) := by decide +kernel
theorem d_Mo_orderAll_124 : decode Y_Mo_orderAll.2.2.1 124 = .ok (.iload_n 2, 1) := by decide +kernel
theorem d_Mo_orderAll_125 : decode Y_Mo_orderAll.2.2.1 125 = .ok (.istore_n 2, 1) := by decide +kernel
theorem d_Mo_orderAll_126 : decode Y_Mo_orderAll.2.2.1 126 = .ok (.iinc 3 (-1), 3) := by decide +kernel
theorem d_Mo_orderAll_129 : decode Y_Mo_orderAll.2.2.1 129 = .ok (.goto (-98), 3) := by decide +kernel
theorem d_Mo_orderAll_132 : decode Y_Mo_orderAll.2.2.1 132 = .ok (.aload_n 0, 1) := by decide +kernel
theorem d_Mo_orderAll_133 : decode Y_Mo_orderAll.2.2.1 133 = .ok (.getfield 44, 3) := by decide +kernel
theorem d_Mo_orderAll_136 : decode Y_Mo_orderAll.2.2.1 136 = .ok (.aload_n 0, 1) := by decide +kernel
theorem d_Mo_orderAll_137 : decode Y_Mo_orderAll.2.2.1 137 = .ok (.getfield 101, 3) := by decide +kernel
theorem d_Mo_orderAll_140 : decode Y_Mo_orderAll.2.2.1 140 = .ok (.iload_n 2, 1) := by decide +kernel
theorem d_Mo_orderAll_141 : decode Y_Mo_orderAll.2.2.1 141 = .ok (.iastore, 1) := by decide +kernel
theorem d_Mo_orderAll_142 : decode Y_Mo_orderAll.2.2.1 142 = .ok (.aload_n 0, 1) := by decide +kernel
theorem d_Mo_orderAll_143 : decode Y_Mo_orderAll.2.2.1 143 = .ok (.dup, 1) := by decide +kernel
theorem d_Mo_orderAll_144 : decode Y_Mo_orderAll.2.2.1 144 = .ok (.getfield 101, 3) := by decide +kernel
theorem d_Mo_orderAll_147 : decode Y_Mo_orderAll.2.2.1 147 = .ok (.iconst 1, 1) := by decide +kernel
theorem d_Mo_orderAll_148 : decode Y_Mo_orderAll.2.2.1 148 = .ok (.iadd, 1) := by decide +kernel
theorem d_Mo_orderAll_149 : decode Y_Mo_orderAll.2.2.1 149 = .ok (.putfield 101, 3) := by decide +kernel
theorem d_Mo_orderAll_152 : decode Y_Mo_orderAll.2.2.1 152 = .ok (.iload_n 1, 1) := by decide +kernel
theorem d_Mo_orderAll_153 : decode Y_Mo_orderAll.2.2.1 153 = .ok (.iconst 1, 1) := by decide +kernel
theorem d_Mo_orderAll_154 : decode Y_Mo_orderAll.2.2.1 154 = .ok (.iload_n 2, 1) := by decide +kernel
theorem d_Mo_orderAll_155 : decode Y_Mo_orderAll.2.2.1 155 = .ok (.ishl, 1) := by decide +kernel
theorem d_Mo_orderAll_156 : decode Y_Mo_orderAll.2.2.1 156 = .ok (.ior, 1) := by decide +kernel
theorem d_Mo_orderAll_157 : decode Y_Mo_orderAll.2.2.1 157 = .ok (.istore_n 1, 1) := by decide +kernel
theorem d_Mo_orderAll_158 : decode Y_Mo_orderAll.2.2.1 158 = .ok (.goto (-147), 3) := by decide +kernel
theorem d_Mo_orderAll_161 : decode Y_Mo_orderAll.2.2.1 161 = .ok (.return_, 1) := by decide +kernel
theorem d_Mo_topAll_0 : decode Y_Mo_topAll.2.2.1 0 = .ok (.iconst 1, 1) := by decide +kernel
theorem d_Mo_topAll_1 : decode Y_Mo_topAll.2.2.1 1 = .ok (.aload_n 0, 1) := by decide +kernel
theorem d_Mo_topAll_2 : decode Y_Mo_topAll.2.2.1 2 = .ok (.getfield 47, 3) := by decide +kernel
theorem d_Mo_topAll_5 : decode Y_Mo_topAll.2.2.1 5 = .ok (.ishl, 1) := by decide +kernel
theorem d_Mo_topAll_6 : decode Y_Mo_topAll.2.2.1 6 = .ok (.iconst 1, 1) := by decide +kernel
theorem d_Mo_topAll_7 : decode Y_Mo_topAll.2.2.1 7 = .ok (.isub, 1) := by decide +kernel
theorem d_Mo_topAll_8 : decode Y_Mo_topAll.2.2.1 8 = .ok (.istore_n 1, 1) := by decide +kernel
theorem d_Mo_topAll_9 : decode Y_Mo_topAll.2.2.1 9 = .ok (.iconst 1, 1) := by decide +kernel
theorem d_Mo_topAll_10 : decode Y_Mo_topAll.2.2.1 10 = .ok (.istore_n 2, 1) := by decide +kernel
theorem d_Mo_topAll_11 : decode Y_Mo_topAll.2.2.1 11 = .ok (.iload_n 2, 1) := by decide +kernel
theorem d_Mo_topAll_12 : decode Y_Mo_topAll.2.2.1 12 = .ok (.iconst 1, 1) := by decide +kernel
theorem d_Mo_topAll_13 : decode Y_Mo_topAll.2.2.1 13 = .ok (.aload_n 0, 1) := by decide +kernel
theorem d_Mo_topAll_14 : decode Y_Mo_topAll.2.2.1 14 = .ok (.getfield 47, 3) := by decide +kernel
theorem d_Mo_topAll_17 : decode Y_Mo_topAll.2.2.1 17 = .ok (.ishl, 1) := by decide +kernel
theorem d_Mo_topAll_18 : decode Y_Mo_topAll.2.2.1 18 = .ok (.if_icmp .ge 121, 3) := by decide +kernel
theorem d_Mo_topAll_21 : decode Y_Mo_topAll.2.2.1 21 = .ok (.iload_n 2, 1) := by decide +kernel
theorem d_Mo_topAll_22 : decode Y_Mo_topAll.2.2.1 22 = .ok (.invokestatic 113, 3) := by decide +kernel
theorem d_Mo_topAll_25 : decode Y_Mo_topAll.2.2.1 25 = .ok (.iload_n 1, 1) := by decide +kernel
theorem d_Mo_topAll_26 : decode Y_Mo_topAll.2.2.1 26 = .ok (.invokestatic 113, 3) := by decide +kernel
theorem d_Mo_topAll_29 : decode Y_Mo_topAll.2.2.1 29 = .ok (.if_icmp .ge 7, 3) := by decide +kernel
theorem d_Mo_topAll_32 : decode Y_Mo_topAll.2.2.1 32 = .ok (.iconst 1, 1) := by decide +kernel
theorem d_Mo_topAll_33 : decode Y_Mo_topAll.2.2.1 33 = .ok (.goto 4, 3) := by decide +kernel
theorem d_Mo_topAll_36 : decode Y_Mo_topAll.2.2.1 36 = .ok (.iconst 0, 1) := by decide +kernel
theorem d_Mo_topAll_37 : decode Y_Mo_topAll.2.2.1 37 = .ok (.istore_n 3, 1) := by decide +kernel
theorem d_Mo_topAll_38 : decode Y_Mo_topAll.2.2.1 38 = .ok (.iconst 0, 1) := by decide +kernel
theorem d_Mo_topAll_39 : decode Y_Mo_topAll.2.2.1 39 = .ok (.istore 4, 2) := by decide +kernel
theorem d_Mo_topAll_41 : decode Y_Mo_topAll.2.2.1 41 = .ok (.iload 4, 2) := by decide +kernel
theorem d_Mo_topAll_43 : decode Y_Mo_topAll.2.2.1 43 = .ok (.bipush 64, 2) := by decide +kernel
theorem d_Mo_topAll_45 : decode Y_Mo_topAll.2.2.1 45 = .ok (.if_icmp .ge 78, 3) := by decide +kernel
theorem d_Mo_topAll_48 : decode Y_Mo_topAll.2.2.1 48 = .ok (.iload_n 3, 1) := by decide +kernel
theorem d_Mo_topAll_49 : decode Y_Mo_topAll.2.2.1 49 = .ok (.ifCond .eq 74, 3) := by decide +kernel
theorem d_Mo_topAll_52 : decode Y_Mo_topAll.2.2.1 52 = .ok (.iload_n 2, 1) := by decide +kernel
theorem d_Mo_topAll_53 : decode Y_Mo_topAll.2.2.1 53 = .ok (.iload 4, 2) := by decide +kernel
theorem d_Mo_topAll_55 : decode Y_Mo_topAll.2.2.1 55 = .ok (.bipush 8, 2) := by decide +kernel
theorem d_Mo_topAll_57 : decode Y_Mo_topAll.2.2.1 57 = .ok (.idiv, 1) := by decide +kernel
theorem d_Mo_topAll_58 : decode Y_Mo_topAll.2.2.1 58 = .ok (.ishr, 1) := by decide +kernel
theorem d_Mo_topAll_59 : decode Y_Mo_topAll.2.2.1 59 = .ok (.iconst 1, 1) := by decide +kernel
theorem d_Mo_topAll_60 : decode Y_Mo_topAll.2.2.1 60 = .ok (.iand, 1) := by decide +kernel
theorem d_Mo_topAll_61 : decode Y_Mo_topAll.2.2.1 61 = .ok (.iconst 1, 1) := by decide +kernel
theorem d_Mo_topAll_62 : decode Y_Mo_topAll.2.2.1 62 = .ok (.if_icmp .ne 31, 3) := by decide +kernel
theorem d_Mo_topAll_65 : decode Y_Mo_topAll.2.2.1 65 = .ok (.iload 4, 2) := by decide +kernel
theorem d_Mo_topAll_67 : decode Y_Mo_topAll.2.2.1 67 = .ok (.bipush 8, 2) := by decide +kernel
theorem d_Mo_topAll_69 : decode Y_Mo_topAll.2.2.1 69 = .ok (.irem, 1) := by decide +kernel
theorem d_Mo_topAll_70 : decode Y_Mo_topAll.2.2.1 70 = .ok (.aload_n 0, 1) := by decide +kernel
theorem d_Mo_topAll_71 : decode Y_Mo_topAll.2.2.1 71 = .ok (.getfield 47, 3) := by decide +kernel
theorem d_Mo_topAll_74 : decode Y_Mo_topAll.2.2.1 74 = .ok (.if_icmp .ge 19, 3) := by decide +kernel
theorem d_Mo_topAll_77 : decode Y_Mo_topAll.2.2.1 77 = .ok (.iload_n 2, 1) := by decide +kernel
theorem d_Mo_topAll_78 : decode Y_Mo_topAll.2.2.1 78 = .ok (.iload 4, 2) := by decide +kernel
theorem d_Mo_topAll_80 : decode Y_Mo_topAll.2.2.1 80 = .ok (.bipush 8, 2) := by decide +kernel
theorem d_Mo_topAll_82 : decode Y_Mo_topAll.2.2.1 82 = .ok (.irem, 1) := by decide +kernel
theorem d_Mo_topAll_83 : decode Y_Mo_topAll.2.2.1 83 = .ok (.ishr, 1) := by decide +kernel
theorem d_Mo_topAll_84 : decode Y_Mo_topAll.2.2.1 84 = .ok (.iconst 1, 1) := by decide +kernel
theorem d_Mo_topAll_85 : decode Y_Mo_topAll.2.2.1 85 = .ok (.iand, 1) := by decide +kernel
theorem d_Mo_topAll_86 : decode Y_Mo_topAll.2.2.1 86 = .ok (.ifCond .ne 7, 3) := by decide +kernel
theorem d_Mo_topAll_89 : decode Y_Mo_topAll.2.2.1 89 = .ok (.iconst 1, 1) := by decide +kernel
theorem d_Mo_topAll_90 : decode Y_Mo_topAll.2.2.1 90 = .ok (.goto 4, 3) := by decide +kernel
theorem d_Mo_topAll_93 : decode Y_Mo_topAll.2.2.1 93 = .ok (.iconst 0, 1) := by decide +kernel
theorem d_Mo_topAll_94 : decode Y_Mo_topAll.2.2.1 94 = .ok (.istore 5, 2) := by decide +kernel
theorem d_Mo_topAll_96 : decode Y_Mo_topAll.2.2.1 96 = .ok (.iload 5, 2) := by decide +kernel
theorem d_Mo_topAll_98 : decode Y_Mo_topAll.2.2.1 98 = .ok (.ifCond .eq 13, 3) := by decide +kernel
theorem d_Mo_topAll_101 : decode Y_Mo_topAll.2.2.1 101 = .ok (.aload_n 0, 1) := by decide +kernel
theorem d_Mo_topAll_102 : decode Y_Mo_topAll.2.2.1 102 = .ok (.getfield 28, 3) := by decide +kernel
theorem d_Mo_topAll_105 : decode Y_Mo_topAll.2.2.1 105 = .ok (.iload 4, 2) := by decide +kernel
theorem d_Mo_topAll_107 : decode Y_Mo_topAll.2.2.1 107 = .ok (.iaload, 1) := by decide +kernel
theorem d_Mo_topAll_108 : decode Y_Mo_topAll.2.2.1 108 = .ok (.ifCond .le 7, 3) := by decide +kernel
theorem d_Mo_topAll_111 : decode Y_Mo_topAll.2.2.1 111 = .ok (.iconst 1, 1) := by decide +kernel
theorem d_Mo_topAll_112 : decode Y_Mo_topAll.2.2.1 112 = .ok (.goto 4, 3) := by decide +kernel
theorem d_Mo_topAll_115 : decode Y_Mo_topAll.2.2.1 115 = .ok (.iconst 0, 1) := by decide +kernel
theorem d_Mo_topAll_116 : decode Y_Mo_topAll.2.2.1 116 = .ok (.istore_n 3, 1) := by decide +kernel
theorem d_Mo_topAll_117 : decode Y_Mo_topAll.2.2.1 117 = .ok (.iinc 4 1, 3) := by decide +kernel
theorem d_Mo_topAll_120 : decode Y_Mo_topAll.2.2.1 120 = .ok (.goto (-79), 3) := by decide +kernel
theorem d_Mo_topAll_123 : decode Y_Mo_topAll.2.2.1 123 = .ok (.iload_n 3, 1) := by decide +kernel
theorem d_Mo_topAll_124 : decode Y_Mo_topAll.2.2.1 124 = .ok (.ifCond .eq 7, 3) := by decide +kernel
theorem d_Mo_topAll_127 : decode Y_Mo_topAll.2.2.1 127 = .ok (.iload_n 2, 1) := by decide +kernel
theorem d_Mo_topAll_128 : decode Y_Mo_topAll.2.2.1 128 = .ok (.goto 4, 3) := by decide +kernel
theorem d_Mo_topAll_131 : decode Y_Mo_topAll.2.2.1 131 = .ok (.iload_n 1, 1) := by decide +kernel
theorem d_Mo_topAll_132 : decode Y_Mo_topAll.2.2.1 132 = .ok (.istore_n 1, 1) := by decide +kernel
theorem d_Mo_topAll_133 : decode Y_Mo_topAll.2.2.1 133 = .ok (.iinc 2 1, 3) := by decide +kernel
theorem d_Mo_topAll_136 : decode Y_Mo_topAll.2.2.1 136 = .ok (.goto (-125), 3) := by decide +kernel
theorem d_Mo_topAll_139 : decode Y_Mo_topAll.2.2.1 139 = .ok (.aload_n 0, 1) := by decide +kernel
theorem d_Mo_topAll_140 : decode Y_Mo_topAll.2.2.1 140 = .ok (.iconst 0, 1) := by decide +kernel
theorem d_Mo_topAll_141 : decode Y_Mo_topAll.2.2.1 141 = .ok (.putfield 101, 3) := by decide +kernel
theorem d_Mo_topAll_144 : decode Y_Mo_topAll.2.2.1 144 = .ok (.iconst 0, 1) := by decide +kernel
theorem d_Mo_topAll_145 : decode Y_Mo_topAll.2.2.1 145 = .ok (.istore_n 2, 1) := by decide +kernel
theorem d_Mo_topAll_146 : decode Y_Mo_topAll.2.2.1 146 = .ok (.iload_n 2, 1) := by decide +kernel
theorem d_Mo_topAll_147 : decode Y_Mo_topAll.2.2.1 147 = .ok (.aload_n 0, 1) := by decide +kernel
theorem d_Mo_topAll_148 : decode Y_Mo_topAll.2.2.1 148 = .ok (.getfield 47, 3) := by decide +kernel
theorem d_Mo_topAll_151 : decode Y_Mo_topAll.2.2.1 151 = .ok (.if_icmp .ge 38, 3) := by decide +kernel
theorem d_Mo_topAll_154 : decode Y_Mo_topAll.2.2.1 154 = .ok (.iload_n 1, 1) := by decide +kernel
theorem d_Mo_topAll_155 : decode Y_Mo_topAll.2.2.1 155 = .ok (.iload_n 2, 1) := by decide +kernel
theorem d_Mo_topAll_156 : decode Y_Mo_topAll.2.2.1 156 = .ok (.ishr, 1) := by decide +kernel
theorem d_Mo_topAll_157 : decode Y_Mo_topAll.2.2.1 157 = .ok (.iconst 1, 1) := by decide +kernel
theorem d_Mo_topAll_158 : decode Y_Mo_topAll.2.2.1 158 = .ok (.iand, 1) := by decide +kernel
theorem d_Mo_topAll_159 : decode Y_Mo_topAll.2.2.1 159 = .ok (.iconst 1, 1) := by decide +kernel
theorem d_Mo_topAll_160 : decode Y_Mo_topAll.2.2.1 160 = .ok (.if_icmp .ne 23, 3) := by decide +kernel
theorem d_Mo_topAll_163 : decode Y_Mo_topAll.2.2.1 163 = .ok (.aload_n 0, 1) := by decide +kernel
theorem d_Mo_topAll_164 : decode Y_Mo_topAll.2.2.1 164 = .ok (.getfield 44, 3) := by decide +kernel
theorem d_Mo_topAll_167 : decode Y_Mo_topAll.2.2.1 167 = .ok (.aload_n 0, 1) := by decide +kernel
theorem d_Mo_topAll_168 : decode Y_Mo_topAll.2.2.1 168 = .ok (.getfield 101, 3) := by decide +kernel
theorem d_Mo_topAll_171 : decode Y_Mo_topAll.2.2.1 171 = .ok (.iload_n 2, 1) := by decide +kernel
theorem d_Mo_topAll_172 : decode Y_Mo_topAll.2.2.1 172 = .ok (.iastore, 1) := by decide +kernel
theorem d_Mo_topAll_173 : decode Y_Mo_topAll.2.2.1 173 = .ok (.aload_n 0, 1) := by decide +kernel
theorem d_Mo_topAll_174 : decode Y_Mo_topAll.2.2.1 174 = .ok (.dup, 1) := by decide +kernel
theorem d_Mo_topAll_175 : decode Y_Mo_topAll.2.2.1 175 = .ok (.getfield 101, 3) := by decide +kernel
theorem d_Mo_topAll_178 : decode Y_Mo_topAll.2.2.1 178 = .ok (.iconst 1, 1) := by decide +kernel
theorem d_Mo_topAll_179 : decode Y_Mo_topAll.2.2.1 179 = .ok (.iadd, 1) := by decide +kernel
theorem d_Mo_topAll_180 : decode Y_Mo_topAll.2.2.1 180 = .ok (.putfield 101, 3) := by decide +kernel
theorem d_Mo_topAll_183 : decode Y_Mo_topAll.2.2.1 183 = .ok (.iinc 2 1, 3) := by decide +kernel
theorem d_Mo_topAll_186 : decode Y_Mo_topAll.2.2.1 186 = .ok (.goto (-40), 3) := by decide +kernel
theorem d_Mo_topAll_189 : decode Y_Mo_topAll.2.2.1 189 = .ok (.return_, 1) := by decide +kernel
theorem d_Mo_sizeOf_0 : decode Y_Mo_sizeOf.2.2.1 0 = .ok (.iconst 0, 1) := by decide +kernel
theorem d_Mo_sizeOf_1 : decode Y_Mo_sizeOf.2.2.1 1 = .ok (.istore_n 1, 1) := by decide +kernel
theorem d_Mo_sizeOf_2 : decode Y_Mo_sizeOf.2.2.1 2 = .ok (.iconst 0, 1) := by decide +kernel
theorem d_Mo_sizeOf_3 : decode Y_Mo_sizeOf.2.2.1 3 = .ok (.istore_n 2, 1) := by decide +kernel
theorem d_Mo_sizeOf_4 : decode Y_Mo_sizeOf.2.2.1 4 = .ok (.iload_n 2, 1) := by decide +kernel
theorem d_Mo_sizeOf_5 : decode Y_Mo_sizeOf.2.2.1 5 = .ok (.bipush 8, 2) := by decide +kernel
theorem d_Mo_sizeOf_7 : decode Y_Mo_sizeOf.2.2.1 7 = .ok (.if_icmp .ge 17, 3) := by decide +kernel
theorem d_Mo_sizeOf_10 : decode Y_Mo_sizeOf.2.2.1 10 = .ok (.iload_n 1, 1) := by decide +kernel
theorem d_Mo_sizeOf_11 : decode Y_Mo_sizeOf.2.2.1 11 = .ok (.iload_n 0, 1) := by decide +kernel
theorem d_Mo_sizeOf_12 : decode Y_Mo_sizeOf.2.2.1 12 = .ok (.iload_n 2, 1) := by decide +kernel
theorem d_Mo_sizeOf_13 : decode Y_Mo_sizeOf.2.2.1 13 = .ok (.ishr, 1) := by decide +kernel
theorem d_Mo_sizeOf_14 : decode Y_Mo_sizeOf.2.2.1 14 = .ok (.iconst 1, 1) := by decide +kernel
theorem d_Mo_sizeOf_15 : decode Y_Mo_sizeOf.2.2.1 15 = .ok (.iand, 1) := by decide +kernel
theorem d_Mo_sizeOf_16 : decode Y_Mo_sizeOf.2.2.1 16 = .ok (.iadd, 1) := by decide +kernel
theorem d_Mo_sizeOf_17 : decode Y_Mo_sizeOf.2.2.1 17 = .ok (.istore_n 1, 1) := by decide +kernel
theorem d_Mo_sizeOf_18 : decode Y_Mo_sizeOf.2.2.1 18 = .ok (.iinc 2 1, 3) := by decide +kernel
theorem d_Mo_sizeOf_21 : decode Y_Mo_sizeOf.2.2.1 21 = .ok (.goto (-17), 3) := by decide +kernel
theorem d_Mo_sizeOf_24 : decode Y_Mo_sizeOf.2.2.1 24 = .ok (.iload_n 1, 1) := by decide +kernel
theorem d_Mo_sizeOf_25 : decode Y_Mo_sizeOf.2.2.1 25 = .ok (.ireturn, 1) := by decide +kernel
theorem d_Mo_tell_0 : decode Y_Mo_tell.2.2.1 0 = .ok (.aload_n 0, 1) := by decide +kernel
theorem d_Mo_tell_1 : decode Y_Mo_tell.2.2.1 1 = .ok (.iload_n 2, 1) := by decide +kernel
theorem d_Mo_tell_2 : decode Y_Mo_tell.2.2.1 2 = .ok (.invokevirtual 86, 3) := by decide +kernel
theorem d_Mo_tell_5 : decode Y_Mo_tell.2.2.1 5 = .ok (.iload_n 1, 1) := by decide +kernel
theorem d_Mo_tell_6 : decode Y_Mo_tell.2.2.1 6 = .ok (.ifCond .ne 10, 3) := by decide +kernel
theorem d_Mo_tell_9 : decode Y_Mo_tell.2.2.1 9 = .ok (.aload_n 0, 1) := by decide +kernel
theorem d_Mo_tell_10 : decode Y_Mo_tell.2.2.1 10 = .ok (.invokevirtual 116, 3) := by decide +kernel
theorem d_Mo_tell_13 : decode Y_Mo_tell.2.2.1 13 = .ok (.goto 19, 3) := by decide +kernel
theorem d_Mo_tell_16 : decode Y_Mo_tell.2.2.1 16 = .ok (.iload_n 1, 1) := by decide +kernel
theorem d_Mo_tell_17 : decode Y_Mo_tell.2.2.1 17 = .ok (.iconst 1, 1) := by decide +kernel
theorem d_Mo_tell_18 : decode Y_Mo_tell.2.2.1 18 = .ok (.if_icmp .ne 10, 3) := by decide +kernel
theorem d_Mo_tell_21 : decode Y_Mo_tell.2.2.1 21 = .ok (.aload_n 0, 1) := by decide +kernel
theorem d_Mo_tell_22 : decode Y_Mo_tell.2.2.1 22 = .ok (.invokevirtual 119, 3) := by decide +kernel
theorem d_Mo_tell_25 : decode Y_Mo_tell.2.2.1 25 = .ok (.goto 7, 3) := by decide +kernel
theorem d_Mo_tell_28 : decode Y_Mo_tell.2.2.1 28 = .ok (.aload_n 0, 1) := by decide +kernel
theorem d_Mo_tell_29 : decode Y_Mo_tell.2.2.1 29 = .ok (.invokevirtual 122, 3) := by decide +kernel
theorem d_Mo_tell_32 : decode Y_Mo_tell.2.2.1 32 = .ok (.aload_n 0, 1) := by decide +kernel
theorem d_Mo_tell_33 : decode Y_Mo_tell.2.2.1 33 = .ok (.iload_n 3, 1) := by decide +kernel
theorem d_Mo_tell_34 : decode Y_Mo_tell.2.2.1 34 = .ok (.ifCond .lt 11, 3) := by decide +kernel
theorem d_Mo_tell_37 : decode Y_Mo_tell.2.2.1 37 = .ok (.iload_n 3, 1) := by decide +kernel
theorem d_Mo_tell_38 : decode Y_Mo_tell.2.2.1 38 = .ok (.aload_n 0, 1) := by decide +kernel
theorem d_Mo_tell_39 : decode Y_Mo_tell.2.2.1 39 = .ok (.getfield 101, 3) := by decide +kernel
theorem d_Mo_tell_42 : decode Y_Mo_tell.2.2.1 42 = .ok (.if_icmp .lt 8, 3) := by decide +kernel
theorem d_Mo_tell_45 : decode Y_Mo_tell.2.2.1 45 = .ok (.iload 4, 2) := by decide +kernel
theorem d_Mo_tell_47 : decode Y_Mo_tell.2.2.1 47 = .ok (.goto 4, 3) := by decide +kernel
theorem d_Mo_tell_50 : decode Y_Mo_tell.2.2.1 50 = .ok (.iconst 0, 1) := by decide +kernel
theorem d_Mo_tell_51 : decode Y_Mo_tell.2.2.1 51 = .ok (.putfield 51, 3) := by decide +kernel
theorem d_Mo_tell_54 : decode Y_Mo_tell.2.2.1 54 = .ok (.aload_n 0, 1) := by decide +kernel
theorem d_Mo_tell_55 : decode Y_Mo_tell.2.2.1 55 = .ok (.getfield 51, 3) := by decide +kernel
theorem d_Mo_tell_58 : decode Y_Mo_tell.2.2.1 58 = .ok (.ifCond .le 7, 3) := by decide +kernel
theorem d_Mo_tell_61 : decode Y_Mo_tell.2.2.1 61 = .ok (.iconst 0, 1) := by decide +kernel
theorem d_Mo_tell_62 : decode Y_Mo_tell.2.2.1 62 = .ok (.goto 9, 3) := by decide +kernel
theorem d_Mo_tell_65 : decode Y_Mo_tell.2.2.1 65 = .ok (.aload_n 0, 1) := by decide +kernel
theorem d_Mo_tell_66 : decode Y_Mo_tell.2.2.1 66 = .ok (.getfield 44, 3) := by decide +kernel
theorem d_Mo_tell_69 : decode Y_Mo_tell.2.2.1 69 = .ok (.iload_n 3, 1) := by decide +kernel
theorem d_Mo_tell_70 : decode Y_Mo_tell.2.2.1 70 = .ok (.iaload, 1) := by decide +kernel
theorem d_Mo_tell_71 : decode Y_Mo_tell.2.2.1 71 = .ok (.ireturn, 1) := by decide +kernel
theorem d_Mo_winner_0 : decode Y_Mo_winner.2.2.1 0 = .ok (.aload_n 0, 1) := by decide +kernel
theorem d_Mo_winner_1 : decode Y_Mo_winner.2.2.1 1 = .ok (.iconst 0, 1) := by decide +kernel
theorem d_Mo_winner_2 : decode Y_Mo_winner.2.2.1 2 = .ok (.iconst (-1), 1) := by decide +kernel
theorem d_Mo_winner_3 : decode Y_Mo_winner.2.2.1 3 = .ok (.iload_n 1, 1) := by decide +kernel
theorem d_Mo_winner_4 : decode Y_Mo_winner.2.2.1 4 = .ok (.iconst 1, 1) := by decide +kernel
theorem d_Mo_winner_5 : decode Y_Mo_winner.2.2.1 5 = .ok (.invokevirtual 125, 3) := by decide +kernel
theorem d_Mo_winner_8 : decode Y_Mo_winner.2.2.1 8 = .ok (.ireturn, 1) := by decide +kernel
theorem d_Mo_locked_0 : decode Y_Mo_locked.2.2.1 0 = .ok (.aload_n 0, 1) := by decide +kernel
theorem d_Mo_locked_1 : decode Y_Mo_locked.2.2.1 1 = .ok (.iload_n 1, 1) := by decide +kernel
theorem d_Mo_locked_2 : decode Y_Mo_locked.2.2.1 2 = .ok (.iload_n 2, 1) := by decide +kernel
theorem d_Mo_locked_3 : decode Y_Mo_locked.2.2.1 3 = .ok (.invokevirtual 93, 3) := by decide +kernel
theorem d_Mo_locked_6 : decode Y_Mo_locked.2.2.1 6 = .ok (.ifCond .eq 5, 3) := by decide +kernel
theorem d_Mo_locked_9 : decode Y_Mo_locked.2.2.1 9 = .ok (.iconst 0, 1) := by decide +kernel
theorem d_Mo_locked_10 : decode Y_Mo_locked.2.2.1 10 = .ok (.ireturn, 1) := by decide +kernel
theorem d_Mo_locked_11 : decode Y_Mo_locked.2.2.1 11 = .ok (.aload_n 0, 1) := by decide +kernel
theorem d_Mo_locked_12 : decode Y_Mo_locked.2.2.1 12 = .ok (.invokevirtual 110, 3) := by decide +kernel
theorem d_Mo_locked_15 : decode Y_Mo_locked.2.2.1 15 = .ok (.aload_n 0, 1) := by decide +kernel
theorem d_Mo_locked_16 : decode Y_Mo_locked.2.2.1 16 = .ok (.getfield 34, 3) := by decide +kernel
theorem d_Mo_locked_19 : decode Y_Mo_locked.2.2.1 19 = .ok (.bipush 8, 2) := by decide +kernel
theorem d_Mo_locked_21 : decode Y_Mo_locked.2.2.1 21 = .ok (.iload_n 1, 1) := by decide +kernel
theorem d_Mo_locked_22 : decode Y_Mo_locked.2.2.1 22 = .ok (.imul, 1) := by decide +kernel
theorem d_Mo_locked_23 : decode Y_Mo_locked.2.2.1 23 = .ok (.iload_n 2, 1) := by decide +kernel
theorem d_Mo_locked_24 : decode Y_Mo_locked.2.2.1 24 = .ok (.iadd, 1) := by decide +kernel
theorem d_Mo_locked_25 : decode Y_Mo_locked.2.2.1 25 = .ok (.baload, 1) := by decide +kernel
theorem d_Mo_locked_26 : decode Y_Mo_locked.2.2.1 26 = .ok (.ireturn, 1) := by decide +kernel
theorem d_Mo_order_0 : decode Y_Mo_order.2.2.1 0 = .ok (.aload_n 0, 1) := by decide +kernel
theorem d_Mo_order_1 : decode Y_Mo_order.2.2.1 1 = .ok (.iconst 1, 1) := by decide +kernel
theorem d_Mo_order_2 : decode Y_Mo_order.2.2.1 2 = .ok (.iconst (-1), 1) := by decide +kernel
theorem d_Mo_order_3 : decode Y_Mo_order.2.2.1 3 = .ok (.iload_n 1, 1) := by decide +kernel
theorem d_Mo_order_4 : decode Y_Mo_order.2.2.1 4 = .ok (.iconst 1, 1) := by decide +kernel
theorem d_Mo_order_5 : decode Y_Mo_order.2.2.1 5 = .ok (.invokevirtual 125, 3) := by decide +kernel
theorem d_Mo_order_8 : decode Y_Mo_order.2.2.1 8 = .ok (.ireturn, 1) := by decide +kernel
theorem d_Mo_top_0 : decode Y_Mo_top.2.2.1 0 = .ok (.aload_n 0, 1) := by decide +kernel
theorem d_Mo_top_1 : decode Y_Mo_top.2.2.1 1 = .ok (.iconst 2, 1) := by decide +kernel
theorem d_Mo_top_2 : decode Y_Mo_top.2.2.1 2 = .ok (.iconst (-1), 1) := by decide +kernel
theorem d_Mo_top_3 : decode Y_Mo_top.2.2.1 3 = .ok (.iload_n 1, 1) := by decide +kernel
theorem d_Mo_top_4 : decode Y_Mo_top.2.2.1 4 = .ok (.iconst 1, 1) := by decide +kernel
theorem d_Mo_top_5 : decode Y_Mo_top.2.2.1 5 = .ok (.invokevirtual 125, 3) := by decide +kernel
theorem d_Mo_top_8 : decode Y_Mo_top.2.2.1 8 = .ok (.ireturn, 1) := by decide +kernel
theorem d_Mo_without_0 : decode Y_Mo_without.2.2.1 0 = .ok (.aload_n 0, 1) := by decide +kernel
theorem d_Mo_without_1 : decode Y_Mo_without.2.2.1 1 = .ok (.aload_n 0, 1) := by decide +kernel
theorem d_Mo_without_2 : decode Y_Mo_without.2.2.1 2 = .ok (.iload_n 1, 1) := by decide +kernel
theorem d_Mo_without_3 : decode Y_Mo_without.2.2.1 3 = .ok (.invokevirtual 73, 3) := by decide +kernel
theorem d_Mo_without_6 : decode Y_Mo_without.2.2.1 6 = .ok (.ifCond .eq 12, 3) := by decide +kernel
theorem d_Mo_without_9 : decode Y_Mo_without.2.2.1 9 = .ok (.iload_n 2, 1) := by decide +kernel
theorem d_Mo_without_10 : decode Y_Mo_without.2.2.1 10 = .ok (.ifCond .lt 8, 3) := by decide +kernel
theorem d_Mo_without_13 : decode Y_Mo_without.2.2.1 13 = .ok (.iload_n 2, 1) := by decide +kernel
theorem d_Mo_without_14 : decode Y_Mo_without.2.2.1 14 = .ok (.iconst 2, 1) := by decide +kernel
theorem d_Mo_without_15 : decode Y_Mo_without.2.2.1 15 = .ok (.if_icmp .le 7, 3) := by decide +kernel
theorem d_Mo_without_18 : decode Y_Mo_without.2.2.1 18 = .ok (.iconst 1, 1) := by decide +kernel
theorem d_Mo_without_19 : decode Y_Mo_without.2.2.1 19 = .ok (.goto 4, 3) := by decide +kernel
theorem d_Mo_without_22 : decode Y_Mo_without.2.2.1 22 = .ok (.iconst 0, 1) := by decide +kernel
theorem d_Mo_without_23 : decode Y_Mo_without.2.2.1 23 = .ok (.putfield 51, 3) := by decide +kernel
theorem d_Mo_without_26 : decode Y_Mo_without.2.2.1 26 = .ok (.aload_n 0, 1) := by decide +kernel
theorem d_Mo_without_27 : decode Y_Mo_without.2.2.1 27 = .ok (.getfield 51, 3) := by decide +kernel
theorem d_Mo_without_30 : decode Y_Mo_without.2.2.1 30 = .ok (.ifCond .le 7, 3) := by decide +kernel
theorem d_Mo_without_33 : decode Y_Mo_without.2.2.1 33 = .ok (.iconst 0, 1) := by decide +kernel
theorem d_Mo_without_34 : decode Y_Mo_without.2.2.1 34 = .ok (.goto 11, 3) := by decide +kernel
theorem d_Mo_without_37 : decode Y_Mo_without.2.2.1 37 = .ok (.aload_n 0, 1) := by decide +kernel
theorem d_Mo_without_38 : decode Y_Mo_without.2.2.1 38 = .ok (.iload_n 2, 1) := by decide +kernel
theorem d_Mo_without_39 : decode Y_Mo_without.2.2.1 39 = .ok (.iload_n 1, 1) := by decide +kernel
theorem d_Mo_without_40 : decode Y_Mo_without.2.2.1 40 = .ok (.iload_n 3, 1) := by decide +kernel
theorem d_Mo_without_41 : decode Y_Mo_without.2.2.1 41 = .ok (.iconst 2, 1) := by decide +kernel
theorem d_Mo_without_42 : decode Y_Mo_without.2.2.1 42 = .ok (.invokevirtual 125, 3) := by decide +kernel
theorem d_Mo_without_45 : decode Y_Mo_without.2.2.1 45 = .ok (.ireturn, 1) := by decide +kernel
theorem d_Mo_seal_0 : decode Y_Mo_seal.2.2.1 0 = .ok (.aload_n 0, 1) := by decide +kernel
theorem d_Mo_seal_1 : decode Y_Mo_seal.2.2.1 1 = .ok (.iconst 0, 1) := by decide +kernel
theorem d_Mo_seal_2 : decode Y_Mo_seal.2.2.1 2 = .ok (.putfield 51, 3) := by decide +kernel
theorem d_Mo_seal_5 : decode Y_Mo_seal.2.2.1 5 = .ok (.aload_n 0, 1) := by decide +kernel
theorem d_Mo_seal_6 : decode Y_Mo_seal.2.2.1 6 = .ok (.getfield 61, 3) := by decide +kernel
theorem d_Mo_seal_9 : decode Y_Mo_seal.2.2.1 9 = .ok (.istore_n 1, 1) := by decide +kernel
theorem d_Mo_seal_10 : decode Y_Mo_seal.2.2.1 10 = .ok (.aload_n 0, 1) := by decide +kernel
theorem d_Mo_seal_11 : decode Y_Mo_seal.2.2.1 11 = .ok (.iconst 1, 1) := by decide +kernel
theorem d_Mo_seal_12 : decode Y_Mo_seal.2.2.1 12 = .ok (.putfield 61, 3) := by decide +kernel
theorem d_Mo_seal_15 : decode Y_Mo_seal.2.2.1 15 = .ok (.iload_n 1, 1) := by decide +kernel
theorem d_Mo_seal_16 : decode Y_Mo_seal.2.2.1 16 = .ok (.ifCond .ne 7, 3) := by decide +kernel
theorem d_Mo_seal_19 : decode Y_Mo_seal.2.2.1 19 = .ok (.iconst 1, 1) := by decide +kernel
theorem d_Mo_seal_20 : decode Y_Mo_seal.2.2.1 20 = .ok (.goto 4, 3) := by decide +kernel
theorem d_Mo_seal_23 : decode Y_Mo_seal.2.2.1 23 = .ok (.iconst 0, 1) := by decide +kernel
theorem d_Mo_seal_24 : decode Y_Mo_seal.2.2.1 24 = .ok (.ireturn, 1) := by decide +kernel
end
section
/-! decode rows, written by gen/dec.py -/
theorem d_Of_init_0 : decode Y_Of_init.2.2.1 0 = .ok (.aload_n 0, 1) := by decide +kernel
theorem d_Of_init_1 : decode Y_Of_init.2.2.1 1 = .ok (.invokespecial 1, 3) := by decide +kernel
theorem d_Of_init_4 : decode Y_Of_init.2.2.1 4 = .ok (.aload_n 0, 1) := by decide +kernel
theorem d_Of_init_5 : decode Y_Of_init.2.2.1 5 = .ok (.iload_n 1, 1) := by decide +kernel
theorem d_Of_init_6 : decode Y_Of_init.2.2.1 6 = .ok (.iconst 1, 1) := by decide +kernel
theorem d_Of_init_7 : decode Y_Of_init.2.2.1 7 = .ok (.if_icmp .lt 13, 3) := by decide +kernel
theorem d_Of_init_10 : decode Y_Of_init.2.2.1 10 = .ok (.iload_n 1, 1) := by decide +kernel
theorem d_Of_init_11 : decode Y_Of_init.2.2.1 11 = .ok (.bipush 8, 2) := by decide +kernel
theorem d_Of_init_13 : decode Y_Of_init.2.2.1 13 = .ok (.if_icmp .gt 7, 3) := by decide +kernel
theorem d_Of_init_16 : decode Y_Of_init.2.2.1 16 = .ok (.iload_n 1, 1) := by decide +kernel
theorem d_Of_init_17 : decode Y_Of_init.2.2.1 17 = .ok (.goto 4, 3) := by decide +kernel
theorem d_Of_init_20 : decode Y_Of_init.2.2.1 20 = .ok (.iconst 5, 1) := by decide +kernel
theorem d_Of_init_21 : decode Y_Of_init.2.2.1 21 = .ok (.putfield 9, 3) := by decide +kernel
theorem d_Of_init_24 : decode Y_Of_init.2.2.1 24 = .ok (.aload_n 0, 1) := by decide +kernel
theorem d_Of_init_25 : decode Y_Of_init.2.2.1 25 = .ok (.aload_n 0, 1) := by decide +kernel
theorem d_Of_init_26 : decode Y_Of_init.2.2.1 26 = .ok (.getfield 9, 3) := by decide +kernel
theorem d_Of_init_29 : decode Y_Of_init.2.2.1 29 = .ok (.newarray .int, 2) := by decide +kernel
theorem d_Of_init_31 : decode Y_Of_init.2.2.1 31 = .ok (.putfield 13, 3) := by decide +kernel
theorem d_Of_init_34 : decode Y_Of_init.2.2.1 34 = .ok (.iconst 0, 1) := by decide +kernel
theorem d_Of_init_35 : decode Y_Of_init.2.2.1 35 = .ok (.istore_n 2, 1) := by decide +kernel
theorem d_Of_init_36 : decode Y_Of_init.2.2.1 36 = .ok (.iload_n 2, 1) := by decide +kernel
theorem d_Of_init_37 : decode Y_Of_init.2.2.1 37 = .ok (.aload_n 0, 1) := by decide +kernel
theorem d_Of_init_38 : decode Y_Of_init.2.2.1 38 = .ok (.getfield 9, 3) := by decide +kernel
theorem d_Of_init_41 : decode Y_Of_init.2.2.1 41 = .ok (.if_icmp .ge 16, 3) := by decide +kernel
theorem d_Of_init_44 : decode Y_Of_init.2.2.1 44 = .ok (.aload_n 0, 1) := by decide +kernel
theorem d_Of_init_45 : decode Y_Of_init.2.2.1 45 = .ok (.getfield 13, 3) := by decide +kernel
theorem d_Of_init_48 : decode Y_Of_init.2.2.1 48 = .ok (.iload_n 2, 1) := by decide +kernel
theorem d_Of_init_49 : decode Y_Of_init.2.2.1 49 = .ok (.iload_n 2, 1) := by decide +kernel
theorem d_Of_init_50 : decode Y_Of_init.2.2.1 50 = .ok (.iastore, 1) := by decide +kernel
theorem d_Of_init_51 : decode Y_Of_init.2.2.1 51 = .ok (.iinc 2 1, 3) := by decide +kernel
theorem d_Of_init_54 : decode Y_Of_init.2.2.1 54 = .ok (.goto (-18), 3) := by decide +kernel
theorem d_Of_init_57 : decode Y_Of_init.2.2.1 57 = .ok (.aload_n 0, 1) := by decide +kernel
theorem d_Of_init_58 : decode Y_Of_init.2.2.1 58 = .ok (.bipush 12, 2) := by decide +kernel
theorem d_Of_init_60 : decode Y_Of_init.2.2.1 60 = .ok (.anewarray 17, 3) := by decide +kernel
theorem d_Of_init_63 : decode Y_Of_init.2.2.1 63 = .ok (.putfield 19, 3) := by decide +kernel
theorem d_Of_init_66 : decode Y_Of_init.2.2.1 66 = .ok (.iconst 0, 1) := by decide +kernel
theorem d_Of_init_67 : decode Y_Of_init.2.2.1 67 = .ok (.istore_n 2, 1) := by decide +kernel
theorem d_Of_init_68 : decode Y_Of_init.2.2.1 68 = .ok (.iload_n 2, 1) := by decide +kernel
theorem d_Of_init_69 : decode Y_Of_init.2.2.1 69 = .ok (.bipush 12, 2) := by decide +kernel
theorem d_Of_init_71 : decode Y_Of_init.2.2.1 71 = .ok (.if_icmp .ge 22, 3) := by decide +kernel
theorem d_Of_init_74 : decode Y_Of_init.2.2.1 74 = .ok (.aload_n 0, 1) := by decide +kernel
theorem d_Of_init_75 : decode Y_Of_init.2.2.1 75 = .ok (.getfield 19, 3) := by decide +kernel
theorem d_Of_init_78 : decode Y_Of_init.2.2.1 78 = .ok (.iload_n 2, 1) := by decide +kernel
theorem d_Of_init_79 : decode Y_Of_init.2.2.1 79 = .ok (.new 17, 3) := by decide +kernel
theorem d_Of_init_82 : decode Y_Of_init.2.2.1 82 = .ok (.dup, 1) := by decide +kernel
theorem d_Of_init_83 : decode Y_Of_init.2.2.1 83 = .ok (.invokespecial 23, 3) := by decide +kernel
theorem d_Of_init_86 : decode Y_Of_init.2.2.1 86 = .ok (.aastore, 1) := by decide +kernel
theorem d_Of_init_87 : decode Y_Of_init.2.2.1 87 = .ok (.iinc 2 1, 3) := by decide +kernel
theorem d_Of_init_90 : decode Y_Of_init.2.2.1 90 = .ok (.goto (-22), 3) := by decide +kernel
theorem d_Of_init_93 : decode Y_Of_init.2.2.1 93 = .ok (.aload_n 0, 1) := by decide +kernel
theorem d_Of_init_94 : decode Y_Of_init.2.2.1 94 = .ok (.iconst 0, 1) := by decide +kernel
theorem d_Of_init_95 : decode Y_Of_init.2.2.1 95 = .ok (.putfield 24, 3) := by decide +kernel
theorem d_Of_init_98 : decode Y_Of_init.2.2.1 98 = .ok (.aload_n 0, 1) := by decide +kernel
theorem d_Of_init_99 : decode Y_Of_init.2.2.1 99 = .ok (.iconst 0, 1) := by decide +kernel
theorem d_Of_init_100 : decode Y_Of_init.2.2.1 100 = .ok (.putfield 27, 3) := by decide +kernel
theorem d_Of_init_103 : decode Y_Of_init.2.2.1 103 = .ok (.aload_n 0, 1) := by decide +kernel
theorem d_Of_init_104 : decode Y_Of_init.2.2.1 104 = .ok (.new 31, 3) := by decide +kernel
theorem d_Of_init_107 : decode Y_Of_init.2.2.1 107 = .ok (.dup, 1) := by decide +kernel
theorem d_Of_init_108 : decode Y_Of_init.2.2.1 108 = .ok (.aload_n 0, 1) := by decide +kernel
theorem d_Of_init_109 : decode Y_Of_init.2.2.1 109 = .ok (.getfield 9, 3) := by decide +kernel
theorem d_Of_init_112 : decode Y_Of_init.2.2.1 112 = .ok (.invokespecial 33, 3) := by decide +kernel
theorem d_Of_init_115 : decode Y_Of_init.2.2.1 115 = .ok (.putfield 36, 3) := by decide +kernel
theorem d_Of_init_118 : decode Y_Of_init.2.2.1 118 = .ok (.aload_n 0, 1) := by decide +kernel
theorem d_Of_init_119 : decode Y_Of_init.2.2.1 119 = .ok (.new 31, 3) := by decide +kernel
theorem d_Of_init_122 : decode Y_Of_init.2.2.1 122 = .ok (.dup, 1) := by decide +kernel
theorem d_Of_init_123 : decode Y_Of_init.2.2.1 123 = .ok (.aload_n 0, 1) := by decide +kernel
theorem d_Of_init_124 : decode Y_Of_init.2.2.1 124 = .ok (.getfield 9, 3) := by decide +kernel
theorem d_Of_init_127 : decode Y_Of_init.2.2.1 127 = .ok (.invokespecial 33, 3) := by decide +kernel
theorem d_Of_init_130 : decode Y_Of_init.2.2.1 130 = .ok (.putfield 40, 3) := by decide +kernel
theorem d_Of_init_133 : decode Y_Of_init.2.2.1 133 = .ok (.aload_n 0, 1) := by decide +kernel
theorem d_Of_init_134 : decode Y_Of_init.2.2.1 134 = .ok (.new 43, 3) := by decide +kernel
theorem d_Of_init_137 : decode Y_Of_init.2.2.1 137 = .ok (.dup, 1) := by decide +kernel
theorem d_Of_init_138 : decode Y_Of_init.2.2.1 138 = .ok (.aload_n 0, 1) := by decide +kernel
theorem d_Of_init_139 : decode Y_Of_init.2.2.1 139 = .ok (.getfield 9, 3) := by decide +kernel
theorem d_Of_init_142 : decode Y_Of_init.2.2.1 142 = .ok (.invokespecial 45, 3) := by decide +kernel
theorem d_Of_init_145 : decode Y_Of_init.2.2.1 145 = .ok (.putfield 46, 3) := by decide +kernel
theorem d_Of_init_148 : decode Y_Of_init.2.2.1 148 = .ok (.aload_n 0, 1) := by decide +kernel
theorem d_Of_init_149 : decode Y_Of_init.2.2.1 149 = .ok (.new 50, 3) := by decide +kernel
theorem d_Of_init_152 : decode Y_Of_init.2.2.1 152 = .ok (.dup, 1) := by decide +kernel
theorem d_Of_init_153 : decode Y_Of_init.2.2.1 153 = .ok (.aload_n 0, 1) := by decide +kernel
theorem d_Of_init_154 : decode Y_Of_init.2.2.1 154 = .ok (.getfield 9, 3) := by decide +kernel
theorem d_Of_init_157 : decode Y_Of_init.2.2.1 157 = .ok (.invokespecial 52, 3) := by decide +kernel
theorem d_Of_init_160 : decode Y_Of_init.2.2.1 160 = .ok (.putfield 53, 3) := by decide +kernel
theorem d_Of_init_163 : decode Y_Of_init.2.2.1 163 = .ok (.return_, 1) := by decide +kernel
theorem d_Of_tie_0 : decode Y_Of_tie.2.2.1 0 = .ok (.aload_n 0, 1) := by decide +kernel
theorem d_Of_tie_1 : decode Y_Of_tie.2.2.1 1 = .ok (.iload_n 1, 1) := by decide +kernel
theorem d_Of_tie_2 : decode Y_Of_tie.2.2.1 2 = .ok (.invokevirtual 57, 3) := by decide +kernel
theorem d_Of_tie_5 : decode Y_Of_tie.2.2.1 5 = .ok (.aload_n 0, 1) := by decide +kernel
theorem d_Of_tie_6 : decode Y_Of_tie.2.2.1 6 = .ok (.iload_n 2, 1) := by decide +kernel
theorem d_Of_tie_7 : decode Y_Of_tie.2.2.1 7 = .ok (.invokevirtual 60, 3) := by decide +kernel
theorem d_Of_tie_10 : decode Y_Of_tie.2.2.1 10 = .ok (.ifCond .ne 13, 3) := by decide +kernel
theorem d_Of_tie_13 : decode Y_Of_tie.2.2.1 13 = .ok (.new 64, 3) := by decide +kernel
theorem d_Of_tie_16 : decode Y_Of_tie.2.2.1 16 = .ok (.dup, 1) := by decide +kernel
theorem d_Of_tie_17 : decode Y_Of_tie.2.2.1 17 = .ok (.ldc 66, 2) := by decide +kernel
theorem d_Of_tie_19 : decode Y_Of_tie.2.2.1 19 = .ok (.invokespecial 68, 3) := by decide +kernel
theorem d_Of_tie_22 : decode Y_Of_tie.2.2.1 22 = .ok (.athrow, 1) := by decide +kernel
theorem d_Of_tie_23 : decode Y_Of_tie.2.2.1 23 = .ok (.aload_n 0, 1) := by decide +kernel
theorem d_Of_tie_24 : decode Y_Of_tie.2.2.1 24 = .ok (.invokevirtual 71, 3) := by decide +kernel
theorem d_Of_tie_27 : decode Y_Of_tie.2.2.1 27 = .ok (.aload_n 0, 1) := by decide +kernel
theorem d_Of_tie_28 : decode Y_Of_tie.2.2.1 28 = .ok (.getfield 24, 3) := by decide +kernel
theorem d_Of_tie_31 : decode Y_Of_tie.2.2.1 31 = .ok (.ifCond .le 13, 3) := by decide +kernel
theorem d_Of_tie_34 : decode Y_Of_tie.2.2.1 34 = .ok (.new 74, 3) := by decide +kernel
theorem d_Of_tie_37 : decode Y_Of_tie.2.2.1 37 = .ok (.dup, 1) := by decide +kernel
theorem d_Of_tie_38 : decode Y_Of_tie.2.2.1 38 = .ok (.ldc 76, 2) := by decide +kernel
theorem d_Of_tie_40 : decode Y_Of_tie.2.2.1 40 = .ok (.invokespecial 78, 3) := by decide +kernel
theorem d_Of_tie_43 : decode Y_Of_tie.2.2.1 43 = .ok (.athrow, 1) := by decide +kernel
theorem d_Of_tie_44 : decode Y_Of_tie.2.2.1 44 = .ok (.aload_n 0, 1) := by decide +kernel
theorem d_Of_tie_45 : decode Y_Of_tie.2.2.1 45 = .ok (.iload_n 1, 1) := by decide +kernel
theorem d_Of_tie_46 : decode Y_Of_tie.2.2.1 46 = .ok (.iload_n 2, 1) := by decide +kernel
theorem d_Of_tie_47 : decode Y_Of_tie.2.2.1 47 = .ok (.invokevirtual 79, 3) := by decide +kernel
theorem d_Of_tie_50 : decode Y_Of_tie.2.2.1 50 = .ok (.return_, 1) := by decide +kernel
theorem d_Of_drawn_0 : decode Y_Of_drawn.2.2.1 0 = .ok (.aload_n 0, 1) := by decide +kernel
theorem d_Of_drawn_1 : decode Y_Of_drawn.2.2.1 1 = .ok (.iload_n 1, 1) := by decide +kernel
theorem d_Of_drawn_2 : decode Y_Of_drawn.2.2.1 2 = .ok (.invokevirtual 60, 3) := by decide +kernel
theorem d_Of_drawn_5 : decode Y_Of_drawn.2.2.1 5 = .ok (.ifCond .ne 13, 3) := by decide +kernel
theorem d_Of_drawn_8 : decode Y_Of_drawn.2.2.1 8 = .ok (.new 83, 3) := by decide +kernel
theorem d_Of_drawn_11 : decode Y_Of_drawn.2.2.1 11 = .ok (.dup, 1) := by decide +kernel
theorem d_Of_drawn_12 : decode Y_Of_drawn.2.2.1 12 = .ok (.ldc 66, 2) := by decide +kernel
theorem d_Of_drawn_14 : decode Y_Of_drawn.2.2.1 14 = .ok (.invokespecial 85, 3) := by decide +kernel
theorem d_Of_drawn_17 : decode Y_Of_drawn.2.2.1 17 = .ok (.athrow, 1) := by decide +kernel
theorem d_Of_drawn_18 : decode Y_Of_drawn.2.2.1 18 = .ok (.aload_n 0, 1) := by decide +kernel
theorem d_Of_drawn_19 : decode Y_Of_drawn.2.2.1 19 = .ok (.getfield 13, 3) := by decide +kernel
theorem d_Of_drawn_22 : decode Y_Of_drawn.2.2.1 22 = .ok (.iload_n 1, 1) := by decide +kernel
theorem d_Of_drawn_23 : decode Y_Of_drawn.2.2.1 23 = .ok (.iaload, 1) := by decide +kernel
theorem d_Of_drawn_24 : decode Y_Of_drawn.2.2.1 24 = .ok (.ireturn, 1) := by decide +kernel
theorem d_Of_open_0 : decode Y_Of_open.2.2.1 0 = .ok (.aload_n 0, 1) := by decide +kernel
theorem d_Of_open_1 : decode Y_Of_open.2.2.1 1 = .ok (.invokevirtual 71, 3) := by decide +kernel
theorem d_Of_open_4 : decode Y_Of_open.2.2.1 4 = .ok (.aload_n 0, 1) := by decide +kernel
theorem d_Of_open_5 : decode Y_Of_open.2.2.1 5 = .ok (.getfield 24, 3) := by decide +kernel
theorem d_Of_open_8 : decode Y_Of_open.2.2.1 8 = .ok (.bipush 12, 2) := by decide +kernel
theorem d_Of_open_10 : decode Y_Of_open.2.2.1 10 = .ok (.if_icmp .lt 13, 3) := by decide +kernel
theorem d_Of_open_13 : decode Y_Of_open.2.2.1 13 = .ok (.new 74, 3) := by decide +kernel
theorem d_Of_open_16 : decode Y_Of_open.2.2.1 16 = .ok (.dup, 1) := by decide +kernel
theorem d_Of_open_17 : decode Y_Of_open.2.2.1 17 = .ok (.ldc 86, 2) := by decide +kernel
theorem d_Of_open_19 : decode Y_Of_open.2.2.1 19 = .ok (.invokespecial 78, 3) := by decide +kernel
theorem d_Of_open_22 : decode Y_Of_open.2.2.1 22 = .ok (.athrow, 1) := by decide +kernel
theorem d_Of_open_23 : decode Y_Of_open.2.2.1 23 = .ok (.aload_n 0, 1) := by decide +kernel
theorem d_Of_open_24 : decode Y_Of_open.2.2.1 24 = .ok (.dup, 1) := by decide +kernel
theorem d_Of_open_25 : decode Y_Of_open.2.2.1 25 = .ok (.getfield 24, 3) := by decide +kernel
theorem d_Of_open_28 : decode Y_Of_open.2.2.1 28 = .ok (.iconst 1, 1) := by decide +kernel
theorem d_Of_open_29 : decode Y_Of_open.2.2.1 29 = .ok (.iadd, 1) := by decide +kernel
theorem d_Of_open_30 : decode Y_Of_open.2.2.1 30 = .ok (.putfield 24, 3) := by decide +kernel
theorem d_Of_open_33 : decode Y_Of_open.2.2.1 33 = .ok (.aload_n 0, 1) := by decide +kernel
theorem d_Of_open_34 : decode Y_Of_open.2.2.1 34 = .ok (.getfield 24, 3) := by decide +kernel
theorem d_Of_open_37 : decode Y_Of_open.2.2.1 37 = .ok (.iconst 1, 1) := by decide +kernel
theorem d_Of_open_38 : decode Y_Of_open.2.2.1 38 = .ok (.isub, 1) := by decide +kernel
theorem d_Of_open_39 : decode Y_Of_open.2.2.1 39 = .ok (.ireturn, 1) := by decide +kernel
theorem d_Of_ballot_0 : decode Y_Of_ballot.2.2.1 0 = .ok (.aload_n 0, 1) := by decide +kernel
theorem d_Of_ballot_1 : decode Y_Of_ballot.2.2.1 1 = .ok (.iload_n 1, 1) := by decide +kernel
theorem d_Of_ballot_2 : decode Y_Of_ballot.2.2.1 2 = .ok (.invokevirtual 88, 3) := by decide +kernel
theorem d_Of_ballot_5 : decode Y_Of_ballot.2.2.1 5 = .ok (.aload_n 0, 1) := by decide +kernel
theorem d_Of_ballot_6 : decode Y_Of_ballot.2.2.1 6 = .ok (.iload_n 2, 1) := by decide +kernel
theorem d_Of_ballot_7 : decode Y_Of_ballot.2.2.1 7 = .ok (.invokevirtual 91, 3) := by decide +kernel
theorem d_Of_ballot_10 : decode Y_Of_ballot.2.2.1 10 = .ok (.iload_n 3, 1) := by decide +kernel
theorem d_Of_ballot_11 : decode Y_Of_ballot.2.2.1 11 = .ok (.iconst 1, 1) := by decide +kernel
theorem d_Of_ballot_12 : decode Y_Of_ballot.2.2.1 12 = .ok (.if_icmp .lt 10, 3) := by decide +kernel
theorem d_Of_ballot_15 : decode Y_Of_ballot.2.2.1 15 = .ok (.iload_n 3, 1) := by decide +kernel
theorem d_Of_ballot_16 : decode Y_Of_ballot.2.2.1 16 = .ok (.sipush 10000, 3) := by decide +kernel
theorem d_Of_ballot_19 : decode Y_Of_ballot.2.2.1 19 = .ok (.if_icmp .le 13, 3) := by decide +kernel
theorem d_Of_ballot_22 : decode Y_Of_ballot.2.2.1 22 = .ok (.new 64, 3) := by decide +kernel
theorem d_Of_ballot_25 : decode Y_Of_ballot.2.2.1 25 = .ok (.dup, 1) := by decide +kernel
theorem d_Of_ballot_26 : decode Y_Of_ballot.2.2.1 26 = .ok (.ldc 94, 2) := by decide +kernel
theorem d_Of_ballot_28 : decode Y_Of_ballot.2.2.1 28 = .ok (.invokespecial 68, 3) := by decide +kernel
theorem d_Of_ballot_31 : decode Y_Of_ballot.2.2.1 31 = .ok (.athrow, 1) := by decide +kernel
theorem d_Of_ballot_32 : decode Y_Of_ballot.2.2.1 32 = .ok (.aload_n 0, 1) := by decide +kernel
theorem d_Of_ballot_33 : decode Y_Of_ballot.2.2.1 33 = .ok (.invokevirtual 71, 3) := by decide +kernel
theorem d_Of_ballot_36 : decode Y_Of_ballot.2.2.1 36 = .ok (.aload_n 0, 1) := by decide +kernel
theorem d_Of_ballot_37 : decode Y_Of_ballot.2.2.1 37 = .ok (.getfield 19, 3) := by decide +kernel
theorem d_Of_ballot_40 : decode Y_Of_ballot.2.2.1 40 = .ok (.iload_n 1, 1) := by decide +kernel
theorem d_Of_ballot_41 : decode Y_Of_ballot.2.2.1 41 = .ok (.aaload, 1) := by decide +kernel
theorem d_Of_ballot_42 : decode Y_Of_ballot.2.2.1 42 = .ok (.astore 4, 2) := by decide +kernel
theorem d_Of_ballot_44 : decode Y_Of_ballot.2.2.1 44 = .ok (.aload 4, 2) := by decide +kernel
theorem d_Of_ballot_46 : decode Y_Of_ballot.2.2.1 46 = .ok (.getfield 96, 3) := by decide +kernel
theorem d_Of_ballot_49 : decode Y_Of_ballot.2.2.1 49 = .ok (.ifCond .ne 13, 3) := by decide +kernel
theorem d_Of_ballot_52 : decode Y_Of_ballot.2.2.1 52 = .ok (.aload 4, 2) := by decide +kernel
theorem d_Of_ballot_54 : decode Y_Of_ballot.2.2.1 54 = .ok (.getfield 99, 3) := by decide +kernel
theorem d_Of_ballot_57 : decode Y_Of_ballot.2.2.1 57 = .ok (.bipush 6, 2) := by decide +kernel
theorem d_Of_ballot_59 : decode Y_Of_ballot.2.2.1 59 = .ok (.if_icmp .lt 13, 3) := by decide +kernel
theorem d_Of_ballot_62 : decode Y_Of_ballot.2.2.1 62 = .ok (.new 74, 3) := by decide +kernel
theorem d_Of_ballot_65 : decode Y_Of_ballot.2.2.1 65 = .ok (.dup, 1) := by decide +kernel
theorem d_Of_ballot_66 : decode Y_Of_ballot.2.2.1 66 = .ok (.ldc 102, 2) := by decide +kernel
theorem d_Of_ballot_68 : decode Y_Of_ballot.2.2.1 68 = .ok (.invokespecial 78, 3) := by decide +kernel
theorem d_Of_ballot_71 : decode Y_Of_ballot.2.2.1 71 = .ok (.athrow, 1) := by decide +kernel
theorem d_Of_ballot_72 : decode Y_Of_ballot.2.2.1 72 = .ok (.aload 4, 2) := by decide +kernel
theorem d_Of_ballot_74 : decode Y_Of_ballot.2.2.1 74 = .ok (.iload_n 2, 1) := by decide +kernel
theorem d_Of_ballot_75 : decode Y_Of_ballot.2.2.1 75 = .ok (.iload_n 3, 1) := by decide +kernel
theorem d_Of_ballot_76 : decode Y_Of_ballot.2.2.1 76 = .ok (.invokevirtual 104, 3) := by decide +kernel
theorem d_Of_ballot_79 : decode Y_Of_ballot.2.2.1 79 = .ok (.ireturn, 1) := by decide +kernel
theorem d_Of_turn_0 : decode Y_Of_turn.2.2.1 0 = .ok (.aload_n 0, 1) := by decide +kernel
theorem d_Of_turn_1 : decode Y_Of_turn.2.2.1 1 = .ok (.iload_n 1, 1) := by decide +kernel
theorem d_Of_turn_2 : decode Y_Of_turn.2.2.1 2 = .ok (.invokevirtual 88, 3) := by decide +kernel
theorem d_Of_turn_5 : decode Y_Of_turn.2.2.1 5 = .ok (.iload_n 2, 1) := by decide +kernel
theorem d_Of_turn_6 : decode Y_Of_turn.2.2.1 6 = .ok (.ifCond .eq 23, 3) := by decide +kernel
theorem d_Of_turn_9 : decode Y_Of_turn.2.2.1 9 = .ok (.iload_n 2, 1) := by decide +kernel
theorem d_Of_turn_10 : decode Y_Of_turn.2.2.1 10 = .ok (.iconst 1, 1) := by decide +kernel
theorem d_Of_turn_11 : decode Y_Of_turn.2.2.1 11 = .ok (.if_icmp .eq 18, 3) := by decide +kernel
theorem d_Of_turn_14 : decode Y_Of_turn.2.2.1 14 = .ok (.iload_n 2, 1) := by decide +kernel
theorem d_Of_turn_15 : decode Y_Of_turn.2.2.1 15 = .ok (.iconst 2, 1) := by decide +kernel
theorem d_Of_turn_16 : decode Y_Of_turn.2.2.1 16 = .ok (.if_icmp .eq 13, 3) := by decide +kernel
theorem d_Of_turn_19 : decode Y_Of_turn.2.2.1 19 = .ok (.new 64, 3) := by decide +kernel
theorem d_Of_turn_22 : decode Y_Of_turn.2.2.1 22 = .ok (.dup, 1) := by decide +kernel
theorem d_Of_turn_23 : decode Y_Of_turn.2.2.1 23 = .ok (.ldc 108, 2) := by decide +kernel
theorem d_Of_turn_25 : decode Y_Of_turn.2.2.1 25 = .ok (.invokespecial 68, 3) := by decide +kernel
theorem d_Of_turn_28 : decode Y_Of_turn.2.2.1 28 = .ok (.athrow, 1) := by decide +kernel
theorem d_Of_turn_29 : decode Y_Of_turn.2.2.1 29 = .ok (.aload_n 0, 1) := by decide +kernel
theorem d_Of_turn_30 : decode Y_Of_turn.2.2.1 30 = .ok (.invokevirtual 71, 3) := by decide +kernel
theorem d_Of_turn_33 : decode Y_Of_turn.2.2.1 33 = .ok (.aload_n 0, 1) := by decide +kernel
theorem d_Of_turn_34 : decode Y_Of_turn.2.2.1 34 = .ok (.getfield 19, 3) := by decide +kernel
theorem d_Of_turn_37 : decode Y_Of_turn.2.2.1 37 = .ok (.iload_n 1, 1) := by decide +kernel
theorem d_Of_turn_38 : decode Y_Of_turn.2.2.1 38 = .ok (.aaload, 1) := by decide +kernel
theorem d_Of_turn_39 : decode Y_Of_turn.2.2.1 39 = .ok (.astore_n 3, 1) := by decide +kernel
theorem d_Of_turn_40 : decode Y_Of_turn.2.2.1 40 = .ok (.aload_n 3, 1) := by decide +kernel
theorem d_Of_turn_41 : decode Y_Of_turn.2.2.1 41 = .ok (.getfield 96, 3) := by decide +kernel
theorem d_Of_turn_44 : decode Y_Of_turn.2.2.1 44 = .ok (.iload_n 2, 1) := by decide +kernel
theorem d_Of_turn_45 : decode Y_Of_turn.2.2.1 45 = .ok (.invokestatic 110, 3) := by decide +kernel
theorem d_Of_turn_48 : decode Y_Of_turn.2.2.1 48 = .ok (.if_icmp .eq 13, 3) := by decide +kernel
theorem d_Of_turn_51 : decode Y_Of_turn.2.2.1 51 = .ok (.new 74, 3) := by decide +kernel
theorem d_Of_turn_54 : decode Y_Of_turn.2.2.1 54 = .ok (.dup, 1) := by decide +kernel
theorem d_Of_turn_55 : decode Y_Of_turn.2.2.1 55 = .ok (.ldc 114, 2) := by decide +kernel
theorem d_Of_turn_57 : decode Y_Of_turn.2.2.1 57 = .ok (.invokespecial 78, 3) := by decide +kernel
theorem d_Of_turn_60 : decode Y_Of_turn.2.2.1 60 = .ok (.athrow, 1) := by decide +kernel
theorem d_Of_turn_61 : decode Y_Of_turn.2.2.1 61 = .ok (.iload_n 2, 1) := by decide +kernel
theorem d_Of_turn_62 : decode Y_Of_turn.2.2.1 62 = .ok (.iconst 1, 1) := by decide +kernel
theorem d_Of_turn_63 : decode Y_Of_turn.2.2.1 63 = .ok (.if_icmp .ne 19, 3) := by decide +kernel
theorem d_Of_turn_66 : decode Y_Of_turn.2.2.1 66 = .ok (.aload_n 3, 1) := by decide +kernel
theorem d_Of_turn_67 : decode Y_Of_turn.2.2.1 67 = .ok (.iconst 2, 1) := by decide +kernel
theorem d_Of_turn_68 : decode Y_Of_turn.2.2.1 68 = .ok (.putfield 96, 3) := by decide +kernel
theorem d_Of_turn_71 : decode Y_Of_turn.2.2.1 71 = .ok (.aload_n 0, 1) := by decide +kernel
theorem d_Of_turn_72 : decode Y_Of_turn.2.2.1 72 = .ok (.getfield 36, 3) := by decide +kernel
theorem d_Of_turn_75 : decode Y_Of_turn.2.2.1 75 = .ok (.aload_n 3, 1) := by decide +kernel
theorem d_Of_turn_76 : decode Y_Of_turn.2.2.1 76 = .ok (.invokevirtual 116, 3) := by decide +kernel
theorem d_Of_turn_79 : decode Y_Of_turn.2.2.1 79 = .ok (.goto 16, 3) := by decide +kernel
theorem d_Of_turn_82 : decode Y_Of_turn.2.2.1 82 = .ok (.aload_n 3, 1) := by decide +kernel
theorem d_Of_turn_83 : decode Y_Of_turn.2.2.1 83 = .ok (.iconst 1, 1) := by decide +kernel
theorem d_Of_turn_84 : decode Y_Of_turn.2.2.1 84 = .ok (.putfield 96, 3) := by decide +kernel
theorem d_Of_turn_87 : decode Y_Of_turn.2.2.1 87 = .ok (.aload_n 0, 1) := by decide +kernel
theorem d_Of_turn_88 : decode Y_Of_turn.2.2.1 88 = .ok (.getfield 36, 3) := by decide +kernel
theorem d_Of_turn_91 : decode Y_Of_turn.2.2.1 91 = .ok (.aload_n 3, 1) := by decide +kernel
theorem d_Of_turn_92 : decode Y_Of_turn.2.2.1 92 = .ok (.invokevirtual 120, 3) := by decide +kernel
theorem d_Of_turn_95 : decode Y_Of_turn.2.2.1 95 = .ok (.return_, 1) := by decide +kernel
theorem d_Of_correct_0 : decode Y_Of_correct.2.2.1 0 = .ok (.aload_n 0, 1) := by decide +kernel
theorem d_Of_correct_1 : decode Y_Of_correct.2.2.1 1 = .ok (.iload_n 1, 1) := by decide +kernel
theorem d_Of_correct_2 : decode Y_Of_correct.2.2.1 2 = .ok (.invokevirtual 88, 3) := by decide +kernel
theorem d_Of_correct_5 : decode Y_Of_correct.2.2.1 5 = .ok (.aload_n 0, 1) := by decide +kernel
theorem d_Of_correct_6 : decode Y_Of_correct.2.2.1 6 = .ok (.iload_n 3, 1) := by decide +kernel
theorem d_Of_correct_7 : decode Y_Of_correct.2.2.1 7 = .ok (.invokevirtual 91, 3) := by decide +kernel
theorem d_Of_correct_10 : decode Y_Of_correct.2.2.1 10 = .ok (.aload_n 0, 1) := by decide +kernel
theorem d_Of_correct_11 : decode Y_Of_correct.2.2.1 11 = .ok (.getfield 19, 3) := by decide +kernel
theorem d_Of_correct_14 : decode Y_Of_correct.2.2.1 14 = .ok (.iload_n 1, 1) := by decide +kernel
theorem d_Of_correct_15 : decode Y_Of_correct.2.2.1 15 = .ok (.aaload, 1) := by decide +kernel
theorem d_Of_correct_16 : decode Y_Of_correct.2.2.1 16 = .ok (.astore 4, 2) := by decide +kernel
theorem d_Of_correct_18 : decode Y_Of_correct.2.2.1 18 = .ok (.iload_n 2, 1) := by decide +kernel
theorem d_Of_correct_19 : decode Y_Of_correct.2.2.1 19 = .ok (.ifCond .lt 12, 3) := by decide +kernel
theorem d_Of_correct_22 : decode Y_Of_correct.2.2.1 22 = .ok (.iload_n 2, 1) := by decide +kernel
theorem d_Of_correct_23 : decode Y_Of_correct.2.2.1 23 = .ok (.aload 4, 2) := by decide +kernel
theorem d_Of_correct_25 : decode Y_Of_correct.2.2.1 25 = .ok (.getfield 99, 3) := by decide +kernel
theorem d_Of_correct_28 : decode Y_Of_correct.2.2.1 28 = .ok (.if_icmp .lt 13, 3) := by decide +kernel
theorem d_Of_correct_31 : decode Y_Of_correct.2.2.1 31 = .ok (.new 83, 3) := by decide +kernel
theorem d_Of_correct_34 : decode Y_Of_correct.2.2.1 34 = .ok (.dup, 1) := by decide +kernel
theorem d_Of_correct_35 : decode Y_Of_correct.2.2.1 35 = .ok (.ldc 123, 2) := by decide +kernel
theorem d_Of_correct_37 : decode Y_Of_correct.2.2.1 37 = .ok (.invokespecial 85, 3) := by decide +kernel
theorem d_Of_correct_40 : decode Y_Of_correct.2.2.1 40 = .ok (.athrow, 1) := by decide +kernel
theorem d_Of_correct_41 : decode Y_Of_correct.2.2.1 41 = .ok (.aload_n 0, 1) := by decide +kernel
theorem d_Of_correct_42 : decode Y_Of_correct.2.2.1 42 = .ok (.invokevirtual 71, 3) := by decide +kernel
theorem d_Of_correct_45 : decode Y_Of_correct.2.2.1 45 = .ok (.aload 4, 2) := by decide +kernel
theorem d_Of_correct_47 : decode Y_Of_correct.2.2.1 47 = .ok (.getfield 96, 3) := by decide +kernel
theorem d_Of_correct_50 : decode Y_Of_correct.2.2.1 50 = .ok (.ifCond .ne 13, 3) := by decide +kernel
theorem d_Of_correct_53 : decode Y_Of_correct.2.2.1 53 = .ok (.new 74, 3) := by decide +kernel
theorem d_Of_correct_56 : decode Y_Of_correct.2.2.1 56 = .ok (.dup, 1) := by decide +kernel
theorem d_Of_correct_57 : decode Y_Of_correct.2.2.1 57 = .ok (.ldc 125, 2) := by decide +kernel
theorem d_Of_correct_59 : decode Y_Of_correct.2.2.1 59 = .ok (.invokespecial 78, 3) := by decide +kernel
theorem d_Of_correct_62 : decode Y_Of_correct.2.2.1 62 = .ok (.athrow, 1) := by decide +kernel
theorem d_Of_correct_63 : decode Y_Of_correct.2.2.1 63 = .ok (.aload 4, 2) := by decide +kernel
theorem d_Of_correct_65 : decode Y_Of_correct.2.2.1 65 = .ok (.getfield 127, 3) := by decide +kernel
theorem d_Of_correct_68 : decode Y_Of_correct.2.2.1 68 = .ok (.iload_n 2, 1) := by decide +kernel
theorem d_Of_correct_69 : decode Y_Of_correct.2.2.1 69 = .ok (.iaload, 1) := by decide +kernel
theorem d_Of_correct_70 : decode Y_Of_correct.2.2.1 70 = .ok (.istore 5, 2) := by decide +kernel
theorem d_Of_correct_72 : decode Y_Of_correct.2.2.1 72 = .ok (.aload 4, 2) := by decide +kernel
theorem d_Of_correct_74 : decode Y_Of_correct.2.2.1 74 = .ok (.getfield 127, 3) := by decide +kernel
theorem d_Of_correct_77 : decode Y_Of_correct.2.2.1 77 = .ok (.iload_n 2, 1) := by decide +kernel
theorem d_Of_correct_78 : decode Y_Of_correct.2.2.1 78 = .ok (.iload_n 3, 1) := by decide +kernel
theorem d_Of_correct_79 : decode Y_Of_correct.2.2.1 79 = .ok (.iastore, 1) := by decide +kernel
theorem d_Of_correct_80 : decode Y_Of_correct.2.2.1 80 = .ok (.aload 4, 2) := by decide +kernel
theorem d_Of_correct_82 : decode Y_Of_correct.2.2.1 82 = .ok (.getfield 96, 3) := by decide +kernel
theorem d_Of_correct_85 : decode Y_Of_correct.2.2.1 85 = .ok (.iconst 1, 1) := by decide +kernel
theorem d_Of_correct_86 : decode Y_Of_correct.2.2.1 86 = .ok (.if_icmp .ne 35, 3) := by decide +kernel
theorem d_Of_correct_89 : decode Y_Of_correct.2.2.1 89 = .ok (.aload_n 0, 1) := by decide +kernel
theorem d_Of_correct_90 : decode Y_Of_correct.2.2.1 90 = .ok (.getfield 36, 3) := by decide +kernel
theorem d_Of_correct_93 : decode Y_Of_correct.2.2.1 93 = .ok (.iload 5, 2) := by decide +kernel
theorem d_Of_correct_95 : decode Y_Of_correct.2.2.1 95 = .ok (.aload 4, 2) := by decide +kernel
theorem d_Of_correct_97 : decode Y_Of_correct.2.2.1 97 = .ok (.getfield 130, 3) := by decide +kernel
theorem d_Of_correct_100 : decode Y_Of_correct.2.2.1 100 = .ok (.iload_n 2, 1) := by decide +kernel
theorem d_Of_correct_101 : decode Y_Of_correct.2.2.1 101 = .ok (.iaload, 1) := by decide +kernel
theorem d_Of_correct_102 : decode Y_Of_correct.2.2.1 102 = .ok (.ineg, 1) := by decide +kernel
theorem d_Of_correct_103 : decode Y_Of_correct.2.2.1 103 = .ok (.invokevirtual 132, 3) := by decide +kernel
theorem d_Of_correct_106 : decode Y_Of_correct.2.2.1 106 = .ok (.aload_n 0, 1) := by decide +kernel
theorem d_Of_correct_107 : decode Y_Of_correct.2.2.1 107 = .ok (.getfield 36, 3) := by decide +kernel
theorem d_Of_correct_110 : decode Y_Of_correct.2.2.1 110 = .ok (.iload_n 3, 1) := by decide +kernel
theorem d_Of_correct_111 : decode Y_Of_correct.2.2.1 111 = .ok (.aload 4, 2) := by decide +kernel
theorem d_Of_correct_113 : decode Y_Of_correct.2.2.1 113 = .ok (.getfield 130, 3) := by decide +kernel
theorem d_Of_correct_116 : decode Y_Of_correct.2.2.1 116 = .ok (.iload_n 2, 1) := by decide +kernel
theorem d_Of_correct_117 : decode Y_Of_correct.2.2.1 117 = .ok (.iaload, 1) := by decide +kernel
theorem d_Of_correct_118 : decode Y_Of_correct.2.2.1 118 = .ok (.invokevirtual 132, 3) := by decide +kernel
theorem d_Of_correct_121 : decode Y_Of_correct.2.2.1 121 = .ok (.iload 5, 2) := by decide +kernel
theorem d_Of_correct_123 : decode Y_Of_correct.2.2.1 123 = .ok (.ireturn, 1) := by decide +kernel
theorem d_Of_state_0 : decode Y_Of_state.2.2.1 0 = .ok (.aload_n 0, 1) := by decide +kernel
theorem d_Of_state_1 : decode Y_Of_state.2.2.1 1 = .ok (.iload_n 1, 1) := by decide +kernel
theorem d_Of_state_2 : decode Y_Of_state.2.2.1 2 = .ok (.invokevirtual 88, 3) := by decide +kernel
theorem d_Of_state_5 : decode Y_Of_state.2.2.1 5 = .ok (.aload_n 0, 1) := by decide +kernel
theorem d_Of_state_6 : decode Y_Of_state.2.2.1 6 = .ok (.getfield 19, 3) := by decide +kernel
theorem d_Of_state_9 : decode Y_Of_state.2.2.1 9 = .ok (.iload_n 1, 1) := by decide +kernel
theorem d_Of_state_10 : decode Y_Of_state.2.2.1 10 = .ok (.aaload, 1) := by decide +kernel
theorem d_Of_state_11 : decode Y_Of_state.2.2.1 11 = .ok (.getfield 96, 3) := by decide +kernel
theorem d_Of_state_14 : decode Y_Of_state.2.2.1 14 = .ok (.ireturn, 1) := by decide +kernel
theorem d_Of_voters_0 : decode Y_Of_voters.2.2.1 0 = .ok (.aload_n 0, 1) := by decide +kernel
theorem d_Of_voters_1 : decode Y_Of_voters.2.2.1 1 = .ok (.getfield 36, 3) := by decide +kernel
theorem d_Of_voters_4 : decode Y_Of_voters.2.2.1 4 = .ok (.getfield 135, 3) := by decide +kernel
theorem d_Of_voters_7 : decode Y_Of_voters.2.2.1 7 = .ok (.ireturn, 1) := by decide +kernel
theorem d_Of_prefer_0 : decode Y_Of_prefer.2.2.1 0 = .ok (.aload_n 0, 1) := by decide +kernel
theorem d_Of_prefer_1 : decode Y_Of_prefer.2.2.1 1 = .ok (.iload_n 1, 1) := by decide +kernel
theorem d_Of_prefer_2 : decode Y_Of_prefer.2.2.1 2 = .ok (.iload_n 2, 1) := by decide +kernel
theorem d_Of_prefer_3 : decode Y_Of_prefer.2.2.1 3 = .ok (.invokevirtual 138, 3) := by decide +kernel
theorem d_Of_prefer_6 : decode Y_Of_prefer.2.2.1 6 = .ok (.aload_n 0, 1) := by decide +kernel
theorem d_Of_prefer_7 : decode Y_Of_prefer.2.2.1 7 = .ok (.getfield 36, 3) := by decide +kernel
theorem d_Of_prefer_10 : decode Y_Of_prefer.2.2.1 10 = .ok (.getfield 141, 3) := by decide +kernel
theorem d_Of_prefer_13 : decode Y_Of_prefer.2.2.1 13 = .ok (.iload_n 1, 1) := by decide +kernel
theorem d_Of_prefer_14 : decode Y_Of_prefer.2.2.1 14 = .ok (.aaload, 1) := by decide +kernel
theorem d_Of_prefer_15 : decode Y_Of_prefer.2.2.1 15 = .ok (.iload_n 2, 1) := by decide +kernel
theorem d_Of_prefer_16 : decode Y_Of_prefer.2.2.1 16 = .ok (.iaload, 1) := by decide +kernel
theorem d_Of_prefer_17 : decode Y_Of_prefer.2.2.1 17 = .ok (.ireturn, 1) := by decide +kernel
theorem d_Of_strength_0 : decode Y_Of_strength.2.2.1 0 = .ok (.aload_n 0, 1) := by decide +kernel
theorem d_Of_strength_1 : decode Y_Of_strength.2.2.1 1 = .ok (.iload_n 1, 1) := by decide +kernel
theorem d_Of_strength_2 : decode Y_Of_strength.2.2.1 2 = .ok (.iload_n 2, 1) := by decide +kernel
theorem d_Of_strength_3 : decode Y_Of_strength.2.2.1 3 = .ok (.invokevirtual 138, 3) := by decide +kernel
theorem d_Of_strength_6 : decode Y_Of_strength.2.2.1 6 = .ok (.aload_n 0, 1) := by decide +kernel
theorem d_Of_strength_7 : decode Y_Of_strength.2.2.1 7 = .ok (.getfield 46, 3) := by decide +kernel
theorem d_Of_strength_10 : decode Y_Of_strength.2.2.1 10 = .ok (.aload_n 0, 1) := by decide +kernel
theorem d_Of_strength_11 : decode Y_Of_strength.2.2.1 11 = .ok (.getfield 36, 3) := by decide +kernel
theorem d_Of_strength_14 : decode Y_Of_strength.2.2.1 14 = .ok (.invokevirtual 145, 3) := by decide +kernel
theorem d_Of_strength_17 : decode Y_Of_strength.2.2.1 17 = .ok (.aload_n 0, 1) := by decide +kernel
theorem d_Of_strength_18 : decode Y_Of_strength.2.2.1 18 = .ok (.getfield 46, 3) := by decide +kernel
theorem d_Of_strength_21 : decode Y_Of_strength.2.2.1 21 = .ok (.getfield 149, 3) := by decide +kernel
theorem d_Of_strength_24 : decode Y_Of_strength.2.2.1 24 = .ok (.iload_n 1, 1) := by decide +kernel
theorem d_Of_strength_25 : decode Y_Of_strength.2.2.1 25 = .ok (.aaload, 1) := by decide +kernel
theorem d_Of_strength_26 : decode Y_Of_strength.2.2.1 26 = .ok (.iload_n 2, 1) := by decide +kernel
theorem d_Of_strength_27 : decode Y_Of_strength.2.2.1 27 = .ok (.iaload, 1) := by decide +kernel
theorem d_Of_strength_28 : decode Y_Of_strength.2.2.1 28 = .ok (.ireturn, 1) := by decide +kernel
theorem d_Of_way_0 : decode Y_Of_way.2.2.1 0 = .ok (.aload_n 0, 1) := by decide +kernel
theorem d_Of_way_1 : decode Y_Of_way.2.2.1 1 = .ok (.iload_n 1, 1) := by decide +kernel
theorem d_Of_way_2 : decode Y_Of_way.2.2.1 2 = .ok (.iload_n 2, 1) := by decide +kernel
theorem d_Of_way_3 : decode Y_Of_way.2.2.1 3 = .ok (.invokevirtual 138, 3) := by decide +kernel
theorem d_Of_way_6 : decode Y_Of_way.2.2.1 6 = .ok (.aload_n 0, 1) := by decide +kernel
theorem d_Of_way_7 : decode Y_Of_way.2.2.1 7 = .ok (.getfield 46, 3) := by decide +kernel
theorem d_Of_way_10 : decode Y_Of_way.2.2.1 10 = .ok (.aload_n 0, 1) := by decide +kernel
theorem d_Of_way_11 : decode Y_Of_way.2.2.1 11 = .ok (.getfield 36, 3) := by decide +kernel
theorem d_Of_way_14 : decode Y_Of_way.2.2.1 14 = .ok (.invokevirtual 145, 3) := by decide +kernel
theorem d_Of_way_17 : decode Y_Of_way.2.2.1 17 = .ok (.aload_n 0, 1) := by decide +kernel
theorem d_Of_way_18 : decode Y_Of_way.2.2.1 18 = .ok (.getfield 46, 3) := by decide +kernel
theorem d_Of_way_21 : decode Y_Of_way.2.2.1 21 = .ok (.aload_n 0, 1) := by decide +kernel
theorem d_Of_way_22 : decode Y_Of_way.2.2.1 22 = .ok (.getfield 36, 3) := by decide +kernel
theorem d_Of_way_25 : decode Y_Of_way.2.2.1 25 = .ok (.iload_n 1, 1) := by decide +kernel
theorem d_Of_way_26 : decode Y_Of_way.2.2.1 26 = .ok (.iload_n 2, 1) := by decide +kernel
theorem d_Of_way_27 : decode Y_Of_way.2.2.1 27 = .ok (.invokevirtual 152, 3) := by decide +kernel
theorem d_Of_way_30 : decode Y_Of_way.2.2.1 30 = .ok (.ireturn, 1) := by decide +kernel
theorem d_Of_cut_0 : decode Y_Of_cut.2.2.1 0 = .ok (.aload_n 0, 1) := by decide +kernel
theorem d_Of_cut_1 : decode Y_Of_cut.2.2.1 1 = .ok (.iload_n 1, 1) := by decide +kernel
theorem d_Of_cut_2 : decode Y_Of_cut.2.2.1 2 = .ok (.iload_n 2, 1) := by decide +kernel
theorem d_Of_cut_3 : decode Y_Of_cut.2.2.1 3 = .ok (.invokevirtual 138, 3) := by decide +kernel
theorem d_Of_cut_6 : decode Y_Of_cut.2.2.1 6 = .ok (.aload_n 0, 1) := by decide +kernel
theorem d_Of_cut_7 : decode Y_Of_cut.2.2.1 7 = .ok (.getfield 46, 3) := by decide +kernel
theorem d_Of_cut_10 : decode Y_Of_cut.2.2.1 10 = .ok (.aload_n 0, 1) := by decide +kernel
theorem d_Of_cut_11 : decode Y_Of_cut.2.2.1 11 = .ok (.getfield 36, 3) := by decide +kernel
theorem d_Of_cut_14 : decode Y_Of_cut.2.2.1 14 = .ok (.invokevirtual 145, 3) := by decide +kernel
theorem d_Of_cut_17 : decode Y_Of_cut.2.2.1 17 = .ok (.aload_n 0, 1) := by decide +kernel
theorem d_Of_cut_18 : decode Y_Of_cut.2.2.1 18 = .ok (.getfield 46, 3) := by decide +kernel
theorem d_Of_cut_21 : decode Y_Of_cut.2.2.1 21 = .ok (.iload_n 1, 1) := by decide +kernel
theorem d_Of_cut_22 : decode Y_Of_cut.2.2.1 22 = .ok (.aload_n 0, 1) := by decide +kernel
theorem d_Of_cut_23 : decode Y_Of_cut.2.2.1 23 = .ok (.getfield 46, 3) := by decide +kernel
theorem d_Of_cut_26 : decode Y_Of_cut.2.2.1 26 = .ok (.getfield 149, 3) := by decide +kernel
theorem d_Of_cut_29 : decode Y_Of_cut.2.2.1 29 = .ok (.iload_n 1, 1) := by decide +kernel
theorem d_Of_cut_30 : decode Y_Of_cut.2.2.1 30 = .ok (.aaload, 1) := by decide +kernel
theorem d_Of_cut_31 : decode Y_Of_cut.2.2.1 31 = .ok (.iload_n 2, 1) := by decide +kernel
theorem d_Of_cut_32 : decode Y_Of_cut.2.2.1 32 = .ok (.iaload, 1) := by decide +kernel
theorem d_Of_cut_33 : decode Y_Of_cut.2.2.1 33 = .ok (.invokevirtual 156, 3) := by decide +kernel
theorem d_Of_cut_36 : decode Y_Of_cut.2.2.1 36 = .ok (.ireturn, 1) := by decide +kernel
theorem d_Of_proves_0 : decode Y_Of_proves.2.2.1 0 = .ok (.aload_n 0, 1) := by decide +kernel
theorem d_Of_proves_1 : decode Y_Of_proves.2.2.1 1 = .ok (.iload_n 1, 1) := by decide +kernel
theorem d_Of_proves_2 : decode Y_Of_proves.2.2.1 2 = .ok (.iload_n 2, 1) := by decide +kernel
theorem d_Of_proves_3 : decode Y_Of_proves.2.2.1 3 = .ok (.invokevirtual 138, 3) := by decide +kernel
theorem d_Of_proves_6 : decode Y_Of_proves.2.2.1 6 = .ok (.iload_n 3, 1) := by decide +kernel
theorem d_Of_proves_7 : decode Y_Of_proves.2.2.1 7 = .ok (.ifCond .ge 5, 3) := by decide +kernel
theorem d_Of_proves_10 : decode Y_Of_proves.2.2.1 10 = .ok (.iconst 0, 1) := by decide +kernel
theorem d_Of_proves_11 : decode Y_Of_proves.2.2.1 11 = .ok (.ireturn, 1) := by decide +kernel
theorem d_Of_proves_12 : decode Y_Of_proves.2.2.1 12 = .ok (.iload_n 3, 1) := by decide +kernel
theorem d_Of_proves_13 : decode Y_Of_proves.2.2.1 13 = .ok (.ifCond .ne 16, 3) := by decide +kernel
theorem d_Of_proves_16 : decode Y_Of_proves.2.2.1 16 = .ok (.iload 4, 2) := by decide +kernel
theorem d_Of_proves_18 : decode Y_Of_proves.2.2.1 18 = .ok (.ifCond .ne 7, 3) := by decide +kernel
theorem d_Of_proves_21 : decode Y_Of_proves.2.2.1 21 = .ok (.iconst 1, 1) := by decide +kernel
theorem d_Of_proves_22 : decode Y_Of_proves.2.2.1 22 = .ok (.goto 19, 3) := by decide +kernel
theorem d_Of_proves_25 : decode Y_Of_proves.2.2.1 25 = .ok (.iconst 0, 1) := by decide +kernel
theorem d_Of_proves_26 : decode Y_Of_proves.2.2.1 26 = .ok (.goto 15, 3) := by decide +kernel
theorem d_Of_proves_29 : decode Y_Of_proves.2.2.1 29 = .ok (.aload_n 0, 1) := by decide +kernel
theorem d_Of_proves_30 : decode Y_Of_proves.2.2.1 30 = .ok (.getfield 36, 3) := by decide +kernel
theorem d_Of_proves_33 : decode Y_Of_proves.2.2.1 33 = .ok (.iload_n 1, 1) := by decide +kernel
theorem d_Of_proves_34 : decode Y_Of_proves.2.2.1 34 = .ok (.iload_n 2, 1) := by decide +kernel
theorem d_Of_proves_35 : decode Y_Of_proves.2.2.1 35 = .ok (.iload_n 3, 1) := by decide +kernel
theorem d_Of_proves_36 : decode Y_Of_proves.2.2.1 36 = .ok (.iload 4, 2) := by decide +kernel
theorem d_Of_proves_38 : decode Y_Of_proves.2.2.1 38 = .ok (.invokevirtual 159, 3) := by decide +kernel
theorem d_Of_proves_41 : decode Y_Of_proves.2.2.1 41 = .ok (.istore 6, 2) := by decide +kernel
theorem d_Of_proves_43 : decode Y_Of_proves.2.2.1 43 = .ok (.iload 6, 2) := by decide +kernel
theorem d_Of_proves_45 : decode Y_Of_proves.2.2.1 45 = .ok (.ifCond .eq 38, 3) := by decide +kernel
theorem d_Of_proves_48 : decode Y_Of_proves.2.2.1 48 = .ok (.iload 5, 2) := by decide +kernel
theorem d_Of_proves_50 : decode Y_Of_proves.2.2.1 50 = .ok (.iload_n 1, 1) := by decide +kernel
theorem d_Of_proves_51 : decode Y_Of_proves.2.2.1 51 = .ok (.invokestatic 163, 3) := by decide +kernel
theorem d_Of_proves_54 : decode Y_Of_proves.2.2.1 54 = .ok (.ifCond .eq 29, 3) := by decide +kernel
theorem d_Of_proves_57 : decode Y_Of_proves.2.2.1 57 = .ok (.iload 5, 2) := by decide +kernel
theorem d_Of_proves_59 : decode Y_Of_proves.2.2.1 59 = .ok (.iload_n 2, 1) := by decide +kernel
theorem d_Of_proves_60 : decode Y_Of_proves.2.2.1 60 = .ok (.invokestatic 163, 3) := by decide +kernel
theorem d_Of_proves_63 : decode Y_Of_proves.2.2.1 63 = .ok (.ifCond .ne 20, 3) := by decide +kernel
theorem d_Of_proves_66 : decode Y_Of_proves.2.2.1 66 = .ok (.aload_n 0, 1) := by decide +kernel
theorem d_Of_proves_67 : decode Y_Of_proves.2.2.1 67 = .ok (.getfield 36, 3) := by decide +kernel
theorem d_Of_proves_70 : decode Y_Of_proves.2.2.1 70 = .ok (.iload 5, 2) := by decide +kernel
theorem d_Of_proves_72 : decode Y_Of_proves.2.2.1 72 = .ok (.iload_n 3, 1) := by decide +kernel
theorem d_Of_proves_73 : decode Y_Of_proves.2.2.1 73 = .ok (.invokevirtual 167, 3) := by decide +kernel
theorem d_Of_proves_76 : decode Y_Of_proves.2.2.1 76 = .ok (.ifCond .eq 7, 3) := by decide +kernel
theorem d_Of_proves_79 : decode Y_Of_proves.2.2.1 79 = .ok (.iconst 1, 1) := by decide +kernel
theorem d_Of_proves_80 : decode Y_Of_proves.2.2.1 80 = .ok (.goto 4, 3) := by decide +kernel
theorem d_Of_proves_83 : decode Y_Of_proves.2.2.1 83 = .ok (.iconst 0, 1) := by decide +kernel
theorem d_Of_proves_84 : decode Y_Of_proves.2.2.1 84 = .ok (.ireturn, 1) := by decide +kernel
theorem d_Of_winner_0 : decode Y_Of_winner.2.2.1 0 = .ok (.aload_n 0, 1) := by decide +kernel
theorem d_Of_winner_1 : decode Y_Of_winner.2.2.1 1 = .ok (.aload_n 0, 1) := by decide +kernel
theorem d_Of_winner_2 : decode Y_Of_winner.2.2.1 2 = .ok (.getfield 36, 3) := by decide +kernel
theorem d_Of_winner_5 : decode Y_Of_winner.2.2.1 5 = .ok (.invokevirtual 170, 3) := by decide +kernel
theorem d_Of_winner_8 : decode Y_Of_winner.2.2.1 8 = .ok (.iload_n 1, 1) := by decide +kernel
theorem d_Of_winner_9 : decode Y_Of_winner.2.2.1 9 = .ok (.invokestatic 174, 3) := by decide +kernel
theorem d_Of_winner_12 : decode Y_Of_winner.2.2.1 12 = .ok (.invokestatic 177, 3) := by decide +kernel
theorem d_Of_winner_15 : decode Y_Of_winner.2.2.1 15 = .ok (.ireturn, 1) := by decide +kernel
theorem d_Of_locked_0 : decode Y_Of_locked.2.2.1 0 = .ok (.aload_n 0, 1) := by decide +kernel
theorem d_Of_locked_1 : decode Y_Of_locked.2.2.1 1 = .ok (.iload_n 1, 1) := by decide +kernel
theorem d_Of_locked_2 : decode Y_Of_locked.2.2.1 2 = .ok (.iload_n 2, 1) := by decide +kernel
theorem d_Of_locked_3 : decode Y_Of_locked.2.2.1 3 = .ok (.invokevirtual 138, 3) := by decide +kernel
theorem d_Of_locked_6 : decode Y_Of_locked.2.2.1 6 = .ok (.aload_n 0, 1) := by decide +kernel
theorem d_Of_locked_7 : decode Y_Of_locked.2.2.1 7 = .ok (.getfield 53, 3) := by decide +kernel
theorem d_Of_locked_10 : decode Y_Of_locked.2.2.1 10 = .ok (.aload_n 0, 1) := by decide +kernel
theorem d_Of_locked_11 : decode Y_Of_locked.2.2.1 11 = .ok (.getfield 36, 3) := by decide +kernel
theorem d_Of_locked_14 : decode Y_Of_locked.2.2.1 14 = .ok (.aload_n 0, 1) := by decide +kernel
theorem d_Of_locked_15 : decode Y_Of_locked.2.2.1 15 = .ok (.getfield 13, 3) := by decide +kernel
theorem d_Of_locked_18 : decode Y_Of_locked.2.2.1 18 = .ok (.invokevirtual 180, 3) := by decide +kernel
theorem d_Of_locked_21 : decode Y_Of_locked.2.2.1 21 = .ok (.aload_n 0, 1) := by decide +kernel
theorem d_Of_locked_22 : decode Y_Of_locked.2.2.1 22 = .ok (.getfield 53, 3) := by decide +kernel
theorem d_Of_locked_25 : decode Y_Of_locked.2.2.1 25 = .ok (.getfield 184, 3) := by decide +kernel
theorem d_Of_locked_28 : decode Y_Of_locked.2.2.1 28 = .ok (.iload_n 2, 1) := by decide +kernel
theorem d_Of_locked_29 : decode Y_Of_locked.2.2.1 29 = .ok (.iaload, 1) := by decide +kernel
theorem d_Of_locked_30 : decode Y_Of_locked.2.2.1 30 = .ok (.iload_n 1, 1) := by decide +kernel
theorem d_Of_locked_31 : decode Y_Of_locked.2.2.1 31 = .ok (.invokestatic 163, 3) := by decide +kernel
theorem d_Of_locked_34 : decode Y_Of_locked.2.2.1 34 = .ok (.ireturn, 1) := by decide +kernel
theorem d_Of_order_0 : decode Y_Of_order.2.2.1 0 = .ok (.aload_n 0, 1) := by decide +kernel
theorem d_Of_order_1 : decode Y_Of_order.2.2.1 1 = .ok (.aload_n 0, 1) := by decide +kernel
theorem d_Of_order_2 : decode Y_Of_order.2.2.1 2 = .ok (.getfield 36, 3) := by decide +kernel
theorem d_Of_order_5 : decode Y_Of_order.2.2.1 5 = .ok (.iload_n 1, 1) := by decide +kernel
theorem d_Of_order_6 : decode Y_Of_order.2.2.1 6 = .ok (.invokevirtual 187, 3) := by decide +kernel
theorem d_Of_order_9 : decode Y_Of_order.2.2.1 9 = .ok (.invokestatic 177, 3) := by decide +kernel
theorem d_Of_order_12 : decode Y_Of_order.2.2.1 12 = .ok (.ireturn, 1) := by decide +kernel
theorem d_Of_top_0 : decode Y_Of_top.2.2.1 0 = .ok (.aload_n 0, 1) := by decide +kernel
theorem d_Of_top_1 : decode Y_Of_top.2.2.1 1 = .ok (.getfield 36, 3) := by decide +kernel
theorem d_Of_top_4 : decode Y_Of_top.2.2.1 4 = .ok (.invokevirtual 191, 3) := by decide +kernel
theorem d_Of_top_7 : decode Y_Of_top.2.2.1 7 = .ok (.iload_n 1, 1) := by decide +kernel
theorem d_Of_top_8 : decode Y_Of_top.2.2.1 8 = .ok (.invokestatic 174, 3) := by decide +kernel
theorem d_Of_top_11 : decode Y_Of_top.2.2.1 11 = .ok (.invokestatic 177, 3) := by decide +kernel
theorem d_Of_top_14 : decode Y_Of_top.2.2.1 14 = .ok (.ireturn, 1) := by decide +kernel
theorem d_Of_without_0 : decode Y_Of_without.2.2.1 0 = .ok (.aload_n 0, 1) := by decide +kernel
theorem d_Of_without_1 : decode Y_Of_without.2.2.1 1 = .ok (.iload_n 1, 1) := by decide +kernel
theorem d_Of_without_2 : decode Y_Of_without.2.2.1 2 = .ok (.invokevirtual 88, 3) := by decide +kernel
theorem d_Of_without_5 : decode Y_Of_without.2.2.1 5 = .ok (.iload_n 2, 1) := by decide +kernel
theorem d_Of_without_6 : decode Y_Of_without.2.2.1 6 = .ok (.ifCond .eq 23, 3) := by decide +kernel
theorem d_Of_without_9 : decode Y_Of_without.2.2.1 9 = .ok (.iload_n 2, 1) := by decide +kernel
theorem d_Of_without_10 : decode Y_Of_without.2.2.1 10 = .ok (.iconst 1, 1) := by decide +kernel
theorem d_Of_without_11 : decode Y_Of_without.2.2.1 11 = .ok (.if_icmp .eq 18, 3) := by decide +kernel
theorem d_Of_without_14 : decode Y_Of_without.2.2.1 14 = .ok (.iload_n 2, 1) := by decide +kernel
theorem d_Of_without_15 : decode Y_Of_without.2.2.1 15 = .ok (.iconst 2, 1) := by decide +kernel
theorem d_Of_without_16 : decode Y_Of_without.2.2.1 16 = .ok (.if_icmp .eq 13, 3) := by decide +kernel
theorem d_Of_without_19 : decode Y_Of_without.2.2.1 19 = .ok (.new 64, 3) := by decide +kernel
theorem d_Of_without_22 : decode Y_Of_without.2.2.1 22 = .ok (.dup, 1) := by decide +kernel
theorem d_Of_without_23 : decode Y_Of_without.2.2.1 23 = .ok (.ldc 195, 2) := by decide +kernel
theorem d_Of_without_25 : decode Y_Of_without.2.2.1 25 = .ok (.invokespecial 68, 3) := by decide +kernel
theorem d_Of_without_28 : decode Y_Of_without.2.2.1 28 = .ok (.athrow, 1) := by decide +kernel
theorem d_Of_without_29 : decode Y_Of_without.2.2.1 29 = .ok (.aload_n 0, 1) := by decide +kernel
theorem d_Of_without_30 : decode Y_Of_without.2.2.1 30 = .ok (.getfield 40, 3) := by decide +kernel
theorem d_Of_without_33 : decode Y_Of_without.2.2.1 33 = .ok (.aload_n 0, 1) := by decide +kernel
theorem d_Of_without_34 : decode Y_Of_without.2.2.1 34 = .ok (.getfield 36, 3) := by decide +kernel
theorem d_Of_without_37 : decode Y_Of_without.2.2.1 37 = .ok (.invokevirtual 197, 3) := by decide +kernel
theorem d_Of_without_40 : decode Y_Of_without.2.2.1 40 = .ok (.aload_n 0, 1) := by decide +kernel
theorem d_Of_without_41 : decode Y_Of_without.2.2.1 41 = .ok (.getfield 19, 3) := by decide +kernel
theorem d_Of_without_44 : decode Y_Of_without.2.2.1 44 = .ok (.iload_n 1, 1) := by decide +kernel
theorem d_Of_without_45 : decode Y_Of_without.2.2.1 45 = .ok (.aaload, 1) := by decide +kernel
theorem d_Of_without_46 : decode Y_Of_without.2.2.1 46 = .ok (.getfield 96, 3) := by decide +kernel
theorem d_Of_without_49 : decode Y_Of_without.2.2.1 49 = .ok (.iconst 1, 1) := by decide +kernel
theorem d_Of_without_50 : decode Y_Of_without.2.2.1 50 = .ok (.if_icmp .ne 16, 3) := by decide +kernel
theorem d_Of_without_53 : decode Y_Of_without.2.2.1 53 = .ok (.aload_n 0, 1) := by decide +kernel
theorem d_Of_without_54 : decode Y_Of_without.2.2.1 54 = .ok (.getfield 40, 3) := by decide +kernel
theorem d_Of_without_57 : decode Y_Of_without.2.2.1 57 = .ok (.aload_n 0, 1) := by decide +kernel
theorem d_Of_without_58 : decode Y_Of_without.2.2.1 58 = .ok (.getfield 19, 3) := by decide +kernel
theorem d_Of_without_61 : decode Y_Of_without.2.2.1 61 = .ok (.iload_n 1, 1) := by decide +kernel
theorem d_Of_without_62 : decode Y_Of_without.2.2.1 62 = .ok (.aaload, 1) := by decide +kernel
theorem d_Of_without_63 : decode Y_Of_without.2.2.1 63 = .ok (.invokevirtual 116, 3) := by decide +kernel
theorem d_Of_without_66 : decode Y_Of_without.2.2.1 66 = .ok (.iload_n 2, 1) := by decide +kernel
theorem d_Of_without_67 : decode Y_Of_without.2.2.1 67 = .ok (.ifCond .ne 19, 3) := by decide +kernel
theorem d_Of_without_70 : decode Y_Of_without.2.2.1 70 = .ok (.aload_n 0, 1) := by decide +kernel
theorem d_Of_without_71 : decode Y_Of_without.2.2.1 71 = .ok (.aload_n 0, 1) := by decide +kernel
theorem d_Of_without_72 : decode Y_Of_without.2.2.1 72 = .ok (.getfield 40, 3) := by decide +kernel
theorem d_Of_without_75 : decode Y_Of_without.2.2.1 75 = .ok (.invokevirtual 170, 3) := by decide +kernel
theorem d_Of_without_78 : decode Y_Of_without.2.2.1 78 = .ok (.iload_n 3, 1) := by decide +kernel
theorem d_Of_without_79 : decode Y_Of_without.2.2.1 79 = .ok (.invokestatic 174, 3) := by decide +kernel
theorem d_Of_without_82 : decode Y_Of_without.2.2.1 82 = .ok (.invokestatic 177, 3) := by decide +kernel
theorem d_Of_without_85 : decode Y_Of_without.2.2.1 85 = .ok (.ireturn, 1) := by decide +kernel
theorem d_Of_without_86 : decode Y_Of_without.2.2.1 86 = .ok (.iload_n 2, 1) := by decide +kernel
theorem d_Of_without_87 : decode Y_Of_without.2.2.1 87 = .ok (.iconst 1, 1) := by decide +kernel
theorem d_Of_without_88 : decode Y_Of_without.2.2.1 88 = .ok (.if_icmp .ne 16, 3) := by decide +kernel
theorem d_Of_without_91 : decode Y_Of_without.2.2.1 91 = .ok (.aload_n 0, 1) := by decide +kernel
theorem d_Of_without_92 : decode Y_Of_without.2.2.1 92 = .ok (.aload_n 0, 1) := by decide +kernel
theorem d_Of_without_93 : decode Y_Of_without.2.2.1 93 = .ok (.getfield 40, 3) := by decide +kernel
theorem d_Of_without_96 : decode Y_Of_without.2.2.1 96 = .ok (.iload_n 3, 1) := by decide +kernel
theorem d_Of_without_97 : decode Y_Of_without.2.2.1 97 = .ok (.invokevirtual 187, 3) := by decide +kernel
theorem d_Of_without_100 : decode Y_Of_without.2.2.1 100 = .ok (.invokestatic 177, 3) := by decide +kernel
theorem d_Of_without_103 : decode Y_Of_without.2.2.1 103 = .ok (.ireturn, 1) := by decide +kernel
theorem d_Of_without_104 : decode Y_Of_without.2.2.1 104 = .ok (.aload_n 0, 1) := by decide +kernel
theorem d_Of_without_105 : decode Y_Of_without.2.2.1 105 = .ok (.getfield 40, 3) := by decide +kernel
theorem d_Of_without_108 : decode Y_Of_without.2.2.1 108 = .ok (.invokevirtual 191, 3) := by decide +kernel
theorem d_Of_without_111 : decode Y_Of_without.2.2.1 111 = .ok (.iload_n 3, 1) := by decide +kernel
theorem d_Of_without_112 : decode Y_Of_without.2.2.1 112 = .ok (.invokestatic 174, 3) := by decide +kernel
theorem d_Of_without_115 : decode Y_Of_without.2.2.1 115 = .ok (.invokestatic 177, 3) := by decide +kernel
theorem d_Of_without_118 : decode Y_Of_without.2.2.1 118 = .ok (.ireturn, 1) := by decide +kernel
theorem d_Of_seal_0 : decode Y_Of_seal.2.2.1 0 = .ok (.aload_n 0, 1) := by decide +kernel
theorem d_Of_seal_1 : decode Y_Of_seal.2.2.1 1 = .ok (.getfield 27, 3) := by decide +kernel
theorem d_Of_seal_4 : decode Y_Of_seal.2.2.1 4 = .ok (.ifCond .ne 7, 3) := by decide +kernel
theorem d_Of_seal_7 : decode Y_Of_seal.2.2.1 7 = .ok (.iconst 1, 1) := by decide +kernel
theorem d_Of_seal_8 : decode Y_Of_seal.2.2.1 8 = .ok (.goto 4, 3) := by decide +kernel
theorem d_Of_seal_11 : decode Y_Of_seal.2.2.1 11 = .ok (.iconst 0, 1) := by decide +kernel
theorem d_Of_seal_12 : decode Y_Of_seal.2.2.1 12 = .ok (.istore_n 1, 1) := by decide +kernel
theorem d_Of_seal_13 : decode Y_Of_seal.2.2.1 13 = .ok (.aload_n 0, 1) := by decide +kernel
theorem d_Of_seal_14 : decode Y_Of_seal.2.2.1 14 = .ok (.iconst 1, 1) := by decide +kernel
theorem d_Of_seal_15 : decode Y_Of_seal.2.2.1 15 = .ok (.putfield 27, 3) := by decide +kernel
theorem d_Of_seal_18 : decode Y_Of_seal.2.2.1 18 = .ok (.iload_n 1, 1) := by decide +kernel
theorem d_Of_seal_19 : decode Y_Of_seal.2.2.1 19 = .ok (.ireturn, 1) := by decide +kernel
theorem d_Of_isCandidate_0 : decode Y_Of_isCandidate.2.2.1 0 = .ok (.iload_n 1, 1) := by decide +kernel
theorem d_Of_isCandidate_1 : decode Y_Of_isCandidate.2.2.1 1 = .ok (.ifCond .lt 15, 3) := by decide +kernel
theorem d_Of_isCandidate_4 : decode Y_Of_isCandidate.2.2.1 4 = .ok (.iload_n 1, 1) := by decide +kernel
theorem d_Of_isCandidate_5 : decode Y_Of_isCandidate.2.2.1 5 = .ok (.aload_n 0, 1) := by decide +kernel
theorem d_Of_isCandidate_6 : decode Y_Of_isCandidate.2.2.1 6 = .ok (.getfield 9, 3) := by decide +kernel
theorem d_Of_isCandidate_9 : decode Y_Of_isCandidate.2.2.1 9 = .ok (.if_icmp .ge 7, 3) := by decide +kernel
theorem d_Of_isCandidate_12 : decode Y_Of_isCandidate.2.2.1 12 = .ok (.iconst 1, 1) := by decide +kernel
theorem d_Of_isCandidate_13 : decode Y_Of_isCandidate.2.2.1 13 = .ok (.goto 4, 3) := by decide +kernel
theorem d_Of_isCandidate_16 : decode Y_Of_isCandidate.2.2.1 16 = .ok (.iconst 0, 1) := by decide +kernel
theorem d_Of_isCandidate_17 : decode Y_Of_isCandidate.2.2.1 17 = .ok (.ireturn, 1) := by decide +kernel
theorem d_Of_needCandidate_0 : decode Y_Of_needCandidate.2.2.1 0 = .ok (.aload_n 0, 1) := by decide +kernel
theorem d_Of_needCandidate_1 : decode Y_Of_needCandidate.2.2.1 1 = .ok (.iload_n 1, 1) := by decide +kernel
theorem d_Of_needCandidate_2 : decode Y_Of_needCandidate.2.2.1 2 = .ok (.invokevirtual 60, 3) := by decide +kernel
theorem d_Of_needCandidate_5 : decode Y_Of_needCandidate.2.2.1 5 = .ok (.ifCond .ne 13, 3) := by decide +kernel
theorem d_Of_needCandidate_8 : decode Y_Of_needCandidate.2.2.1 8 = .ok (.new 64, 3) := by decide +kernel
theorem d_Of_needCandidate_11 : decode Y_Of_needCandidate.2.2.1 11 = .ok (.dup, 1) := by decide +kernel
theorem d_Of_needCandidate_12 : decode Y_Of_needCandidate.2.2.1 12 = .ok (.ldc 200, 2) := by decide +kernel
theorem d_Of_needCandidate_14 : decode Y_Of_needCandidate.2.2.1 14 = .ok (.invokespecial 68, 3) := by decide +kernel
theorem d_Of_needCandidate_17 : decode Y_Of_needCandidate.2.2.1 17 = .ok (.athrow, 1) := by decide +kernel
theorem d_Of_needCandidate_18 : decode Y_Of_needCandidate.2.2.1 18 = .ok (.return_, 1) := by decide +kernel
theorem d_Of_needPair_0 : decode Y_Of_needPair.2.2.1 0 = .ok (.aload_n 0, 1) := by decide +kernel
theorem d_Of_needPair_1 : decode Y_Of_needPair.2.2.1 1 = .ok (.iload_n 1, 1) := by decide +kernel
theorem d_Of_needPair_2 : decode Y_Of_needPair.2.2.1 2 = .ok (.invokevirtual 57, 3) := by decide +kernel
theorem d_Of_needPair_5 : decode Y_Of_needPair.2.2.1 5 = .ok (.aload_n 0, 1) := by decide +kernel
theorem d_Of_needPair_6 : decode Y_Of_needPair.2.2.1 6 = .ok (.iload_n 2, 1) := by decide +kernel
theorem d_Of_needPair_7 : decode Y_Of_needPair.2.2.1 7 = .ok (.invokevirtual 57, 3) := by decide +kernel
theorem d_Of_needPair_10 : decode Y_Of_needPair.2.2.1 10 = .ok (.iload_n 1, 1) := by decide +kernel
theorem d_Of_needPair_11 : decode Y_Of_needPair.2.2.1 11 = .ok (.iload_n 2, 1) := by decide +kernel
theorem d_Of_needPair_12 : decode Y_Of_needPair.2.2.1 12 = .ok (.if_icmp .ne 13, 3) := by decide +kernel
theorem d_Of_needPair_15 : decode Y_Of_needPair.2.2.1 15 = .ok (.new 64, 3) := by decide +kernel
theorem d_Of_needPair_18 : decode Y_Of_needPair.2.2.1 18 = .ok (.dup, 1) := by decide +kernel
theorem d_Of_needPair_19 : decode Y_Of_needPair.2.2.1 19 = .ok (.ldc 202, 2) := by decide +kernel
theorem d_Of_needPair_21 : decode Y_Of_needPair.2.2.1 21 = .ok (.invokespecial 68, 3) := by decide +kernel
theorem d_Of_needPair_24 : decode Y_Of_needPair.2.2.1 24 = .ok (.athrow, 1) := by decide +kernel
theorem d_Of_needPair_25 : decode Y_Of_needPair.2.2.1 25 = .ok (.return_, 1) := by decide +kernel
theorem d_Of_needBatch_0 : decode Y_Of_needBatch.2.2.1 0 = .ok (.iload_n 1, 1) := by decide +kernel
theorem d_Of_needBatch_1 : decode Y_Of_needBatch.2.2.1 1 = .ok (.ifCond .lt 11, 3) := by decide +kernel
theorem d_Of_needBatch_4 : decode Y_Of_needBatch.2.2.1 4 = .ok (.iload_n 1, 1) := by decide +kernel
theorem d_Of_needBatch_5 : decode Y_Of_needBatch.2.2.1 5 = .ok (.aload_n 0, 1) := by decide +kernel
theorem d_Of_needBatch_6 : decode Y_Of_needBatch.2.2.1 6 = .ok (.getfield 24, 3) := by decide +kernel
theorem d_Of_needBatch_9 : decode Y_Of_needBatch.2.2.1 9 = .ok (.if_icmp .lt 13, 3) := by decide +kernel
theorem d_Of_needBatch_12 : decode Y_Of_needBatch.2.2.1 12 = .ok (.new 64, 3) := by decide +kernel
theorem d_Of_needBatch_15 : decode Y_Of_needBatch.2.2.1 15 = .ok (.dup, 1) := by decide +kernel
theorem d_Of_needBatch_16 : decode Y_Of_needBatch.2.2.1 16 = .ok (.ldc 204, 2) := by decide +kernel
theorem d_Of_needBatch_18 : decode Y_Of_needBatch.2.2.1 18 = .ok (.invokespecial 68, 3) := by decide +kernel
theorem d_Of_needBatch_21 : decode Y_Of_needBatch.2.2.1 21 = .ok (.athrow, 1) := by decide +kernel
theorem d_Of_needBatch_22 : decode Y_Of_needBatch.2.2.1 22 = .ok (.return_, 1) := by decide +kernel
theorem d_Of_needRanking_0 : decode Y_Of_needRanking.2.2.1 0 = .ok (.aload_n 0, 1) := by decide +kernel
theorem d_Of_needRanking_1 : decode Y_Of_needRanking.2.2.1 1 = .ok (.iload_n 1, 1) := by decide +kernel
theorem d_Of_needRanking_2 : decode Y_Of_needRanking.2.2.1 2 = .ok (.invokevirtual 206, 3) := by decide +kernel
theorem d_Of_needRanking_5 : decode Y_Of_needRanking.2.2.1 5 = .ok (.ifCond .ne 13, 3) := by decide +kernel
theorem d_Of_needRanking_8 : decode Y_Of_needRanking.2.2.1 8 = .ok (.new 64, 3) := by decide +kernel
theorem d_Of_needRanking_11 : decode Y_Of_needRanking.2.2.1 11 = .ok (.dup, 1) := by decide +kernel
theorem d_Of_needRanking_12 : decode Y_Of_needRanking.2.2.1 12 = .ok (.ldc 209, 2) := by decide +kernel
theorem d_Of_needRanking_14 : decode Y_Of_needRanking.2.2.1 14 = .ok (.invokespecial 68, 3) := by decide +kernel
theorem d_Of_needRanking_17 : decode Y_Of_needRanking.2.2.1 17 = .ok (.athrow, 1) := by decide +kernel
theorem d_Of_needRanking_18 : decode Y_Of_needRanking.2.2.1 18 = .ok (.return_, 1) := by decide +kernel
theorem d_Of_needUnsealed_0 : decode Y_Of_needUnsealed.2.2.1 0 = .ok (.aload_n 0, 1) := by decide +kernel
theorem d_Of_needUnsealed_1 : decode Y_Of_needUnsealed.2.2.1 1 = .ok (.getfield 27, 3) := by decide +kernel
theorem d_Of_needUnsealed_4 : decode Y_Of_needUnsealed.2.2.1 4 = .ok (.ifCond .eq 13, 3) := by decide +kernel
theorem d_Of_needUnsealed_7 : decode Y_Of_needUnsealed.2.2.1 7 = .ok (.new 74, 3) := by decide +kernel
theorem d_Of_needUnsealed_10 : decode Y_Of_needUnsealed.2.2.1 10 = .ok (.dup, 1) := by decide +kernel
theorem d_Of_needUnsealed_11 : decode Y_Of_needUnsealed.2.2.1 11 = .ok (.ldc 211, 2) := by decide +kernel
theorem d_Of_needUnsealed_13 : decode Y_Of_needUnsealed.2.2.1 13 = .ok (.invokespecial 78, 3) := by decide +kernel
theorem d_Of_needUnsealed_16 : decode Y_Of_needUnsealed.2.2.1 16 = .ok (.athrow, 1) := by decide +kernel
theorem d_Of_needUnsealed_17 : decode Y_Of_needUnsealed.2.2.1 17 = .ok (.return_, 1) := by decide +kernel
theorem d_Of_needFound_0 : decode Y_Of_needFound.2.2.1 0 = .ok (.iload_n 0, 1) := by decide +kernel
theorem d_Of_needFound_1 : decode Y_Of_needFound.2.2.1 1 = .ok (.iconst (-1), 1) := by decide +kernel
theorem d_Of_needFound_2 : decode Y_Of_needFound.2.2.1 2 = .ok (.if_icmp .ne 13, 3) := by decide +kernel
theorem d_Of_needFound_5 : decode Y_Of_needFound.2.2.1 5 = .ok (.new 83, 3) := by decide +kernel
theorem d_Of_needFound_8 : decode Y_Of_needFound.2.2.1 8 = .ok (.dup, 1) := by decide +kernel
theorem d_Of_needFound_9 : decode Y_Of_needFound.2.2.1 9 = .ok (.ldc 213, 2) := by decide +kernel
theorem d_Of_needFound_11 : decode Y_Of_needFound.2.2.1 11 = .ok (.invokespecial 85, 3) := by decide +kernel
theorem d_Of_needFound_14 : decode Y_Of_needFound.2.2.1 14 = .ok (.athrow, 1) := by decide +kernel
theorem d_Of_needFound_15 : decode Y_Of_needFound.2.2.1 15 = .ok (.iload_n 0, 1) := by decide +kernel
theorem d_Of_needFound_16 : decode Y_Of_needFound.2.2.1 16 = .ok (.ireturn, 1) := by decide +kernel
theorem d_Of_isRanking_0 : decode Y_Of_isRanking.2.2.1 0 = .ok (.iconst 0, 1) := by decide +kernel
theorem d_Of_isRanking_1 : decode Y_Of_isRanking.2.2.1 1 = .ok (.istore_n 2, 1) := by decide +kernel
theorem d_Of_isRanking_2 : decode Y_Of_isRanking.2.2.1 2 = .ok (.iload_n 2, 1) := by decide +kernel
theorem d_Of_isRanking_3 : decode Y_Of_isRanking.2.2.1 3 = .ok (.bipush 8, 2) := by decide +kernel
theorem d_Of_isRanking_5 : decode Y_Of_isRanking.2.2.1 5 = .ok (.if_icmp .ge 33, 3) := by decide +kernel
theorem d_Of_isRanking_8 : decode Y_Of_isRanking.2.2.1 8 = .ok (.iload_n 1, 1) := by decide +kernel
theorem d_Of_isRanking_9 : decode Y_Of_isRanking.2.2.1 9 = .ok (.iload_n 2, 1) := by decide +kernel
theorem d_Of_isRanking_10 : decode Y_Of_isRanking.2.2.1 10 = .ok (.invokestatic 215, 3) := by decide +kernel
theorem d_Of_isRanking_13 : decode Y_Of_isRanking.2.2.1 13 = .ok (.iload_n 2, 1) := by decide +kernel
theorem d_Of_isRanking_14 : decode Y_Of_isRanking.2.2.1 14 = .ok (.aload_n 0, 1) := by decide +kernel
theorem d_Of_isRanking_15 : decode Y_Of_isRanking.2.2.1 15 = .ok (.getfield 9, 3) := by decide +kernel
theorem d_Of_isRanking_18 : decode Y_Of_isRanking.2.2.1 18 = .ok (.if_icmp .ge 8, 3) := by decide +kernel
theorem d_Of_isRanking_21 : decode Y_Of_isRanking.2.2.1 21 = .ok (.bipush 8, 2) := by decide +kernel
theorem d_Of_isRanking_23 : decode Y_Of_isRanking.2.2.1 23 = .ok (.goto 4, 3) := by decide +kernel
theorem d_Of_isRanking_26 : decode Y_Of_isRanking.2.2.1 26 = .ok (.iconst 0, 1) := by decide +kernel
theorem d_Of_isRanking_27 : decode Y_Of_isRanking.2.2.1 27 = .ok (.if_icmp .le 5, 3) := by decide +kernel
theorem d_Of_isRanking_30 : decode Y_Of_isRanking.2.2.1 30 = .ok (.iconst 0, 1) := by decide +kernel
theorem d_Of_isRanking_31 : decode Y_Of_isRanking.2.2.1 31 = .ok (.ireturn, 1) := by decide +kernel
theorem d_Of_isRanking_32 : decode Y_Of_isRanking.2.2.1 32 = .ok (.iinc 2 1, 3) := by decide +kernel
theorem d_Of_isRanking_35 : decode Y_Of_isRanking.2.2.1 35 = .ok (.goto (-33), 3) := by decide +kernel
theorem d_Of_isRanking_38 : decode Y_Of_isRanking.2.2.1 38 = .ok (.iconst 1, 1) := by decide +kernel
theorem d_Of_isRanking_39 : decode Y_Of_isRanking.2.2.1 39 = .ok (.ireturn, 1) := by decide +kernel
theorem d_Of_stageBefore_0 : decode Y_Of_stageBefore.2.2.1 0 = .ok (.iload_n 0, 1) := by decide +kernel
theorem d_Of_stageBefore_1 : decode Y_Of_stageBefore.2.2.1 1 = .ok (.ifCond .ne 5, 3) := by decide +kernel
theorem d_Of_stageBefore_4 : decode Y_Of_stageBefore.2.2.1 4 = .ok (.iconst 0, 1) := by decide +kernel
theorem d_Of_stageBefore_5 : decode Y_Of_stageBefore.2.2.1 5 = .ok (.ireturn, 1) := by decide +kernel
theorem d_Of_stageBefore_6 : decode Y_Of_stageBefore.2.2.1 6 = .ok (.iload_n 0, 1) := by decide +kernel
theorem d_Of_stageBefore_7 : decode Y_Of_stageBefore.2.2.1 7 = .ok (.iconst 1, 1) := by decide +kernel
theorem d_Of_stageBefore_8 : decode Y_Of_stageBefore.2.2.1 8 = .ok (.if_icmp .ne 7, 3) := by decide +kernel
theorem d_Of_stageBefore_11 : decode Y_Of_stageBefore.2.2.1 11 = .ok (.iconst 1, 1) := by decide +kernel
theorem d_Of_stageBefore_12 : decode Y_Of_stageBefore.2.2.1 12 = .ok (.goto 4, 3) := by decide +kernel
theorem d_Of_stageBefore_15 : decode Y_Of_stageBefore.2.2.1 15 = .ok (.iconst 2, 1) := by decide +kernel
theorem d_Of_stageBefore_16 : decode Y_Of_stageBefore.2.2.1 16 = .ok (.ireturn, 1) := by decide +kernel
theorem d_Of_moveInDrawnOrder_0 : decode Y_Of_moveInDrawnOrder.2.2.1 0 = .ok (.iconst 0, 1) := by decide +kernel
theorem d_Of_moveInDrawnOrder_1 : decode Y_Of_moveInDrawnOrder.2.2.1 1 = .ok (.istore_n 3, 1) := by decide +kernel
theorem d_Of_moveInDrawnOrder_2 : decode Y_Of_moveInDrawnOrder.2.2.1 2 = .ok (.iconst 0, 1) := by decide +kernel
theorem d_Of_moveInDrawnOrder_3 : decode Y_Of_moveInDrawnOrder.2.2.1 3 = .ok (.istore 4, 2) := by decide +kernel
theorem d_Of_moveInDrawnOrder_5 : decode Y_Of_moveInDrawnOrder.2.2.1 5 = .ok (.iload 4, 2) := by decide +kernel
theorem d_Of_moveInDrawnOrder_7 : decode Y_Of_moveInDrawnOrder.2.2.1 7 = .ok (.aload_n 0, 1) := by decide +kernel
theorem d_Of_moveInDrawnOrder_8 : decode Y_Of_moveInDrawnOrder.2.2.1 8 = .ok (.getfield 9, 3) := by decide +kernel
theorem d_Of_moveInDrawnOrder_11 : decode Y_Of_moveInDrawnOrder.2.2.1 11 = .ok (.if_icmp .ge 23, 3) := by decide +kernel
theorem d_Of_moveInDrawnOrder_14 : decode Y_Of_moveInDrawnOrder.2.2.1 14 = .ok (.aload_n 0, 1) := by decide +kernel
theorem d_Of_moveInDrawnOrder_15 : decode Y_Of_moveInDrawnOrder.2.2.1 15 = .ok (.getfield 13, 3) := by decide +kernel
theorem d_Of_moveInDrawnOrder_18 : decode Y_Of_moveInDrawnOrder.2.2.1 18 = .ok (.iload 4, 2) := by decide +kernel
theorem d_Of_moveInDrawnOrder_20 : decode Y_Of_moveInDrawnOrder.2.2.1 20 = .ok (.iaload, 1) := by decide +kernel
theorem d_Of_moveInDrawnOrder_21 : decode Y_Of_moveInDrawnOrder.2.2.1 21 = .ok (.iload_n 1, 1) := by decide +kernel
theorem d_Of_moveInDrawnOrder_22 : decode Y_Of_moveInDrawnOrder.2.2.1 22 = .ok (.if_icmp .ne 6, 3) := by decide +kernel
theorem d_Of_moveInDrawnOrder_25 : decode Y_Of_moveInDrawnOrder.2.2.1 25 = .ok (.iload 4, 2) := by decide +kernel
theorem d_Of_moveInDrawnOrder_27 : decode Y_Of_moveInDrawnOrder.2.2.1 27 = .ok (.istore_n 3, 1) := by decide +kernel
theorem d_Of_moveInDrawnOrder_28 : decode Y_Of_moveInDrawnOrder.2.2.1 28 = .ok (.iinc 4 1, 3) := by decide +kernel
theorem d_Of_moveInDrawnOrder_31 : decode Y_Of_moveInDrawnOrder.2.2.1 31 = .ok (.goto (-26), 3) := by decide +kernel
theorem d_Of_moveInDrawnOrder_34 : decode Y_Of_moveInDrawnOrder.2.2.1 34 = .ok (.iload_n 3, 1) := by decide +kernel
theorem d_Of_moveInDrawnOrder_35 : decode Y_Of_moveInDrawnOrder.2.2.1 35 = .ok (.istore 4, 2) := by decide +kernel
theorem d_Of_moveInDrawnOrder_37 : decode Y_Of_moveInDrawnOrder.2.2.1 37 = .ok (.iload 4, 2) := by decide +kernel
theorem d_Of_moveInDrawnOrder_39 : decode Y_Of_moveInDrawnOrder.2.2.1 39 = .ok (.iload_n 2, 1) := by decide +kernel
theorem d_Of_moveInDrawnOrder_40 : decode Y_Of_moveInDrawnOrder.2.2.1 40 = .ok (.if_icmp .ge 25, 3) := by decide +kernel
theorem d_Of_moveInDrawnOrder_43 : decode Y_Of_moveInDrawnOrder.2.2.1 43 = .ok (.aload_n 0, 1) := by decide +kernel
theorem d_Of_moveInDrawnOrder_44 : decode Y_Of_moveInDrawnOrder.2.2.1 44 = .ok (.getfield 13, 3) := by decide +kernel
theorem d_Of_moveInDrawnOrder_47 : decode Y_Of_moveInDrawnOrder.2.2.1 47 = .ok (.iload 4, 2) := by decide +kernel
theorem d_Of_moveInDrawnOrder_49 : decode Y_Of_moveInDrawnOrder.2.2.1 49 = .ok (.aload_n 0, 1) := by decide +kernel
theorem d_Of_moveInDrawnOrder_50 : decode Y_Of_moveInDrawnOrder.2.2.1 50 = .ok (.getfield 13, 3) := by decide +kernel
theorem d_Of_moveInDrawnOrder_53 : decode Y_Of_moveInDrawnOrder.2.2.1 53 = .ok (.iload 4, 2) := by decide +kernel
theorem d_Of_moveInDrawnOrder_55 : decode Y_Of_moveInDrawnOrder.2.2.1 55 = .ok (.iconst 1, 1) := by decide +kernel
theorem d_Of_moveInDrawnOrder_56 : decode Y_Of_moveInDrawnOrder.2.2.1 56 = .ok (.iadd, 1) := by decide +kernel
theorem d_Of_moveInDrawnOrder_57 : decode Y_Of_moveInDrawnOrder.2.2.1 57 = .ok (.iaload, 1) := by decide +kernel
theorem d_Of_moveInDrawnOrder_58 : decode Y_Of_moveInDrawnOrder.2.2.1 58 = .ok (.iastore, 1) := by decide +kernel
theorem d_Of_moveInDrawnOrder_59 : decode Y_Of_moveInDrawnOrder.2.2.1 59 = .ok (.iinc 4 1, 3) := by decide +kernel
theorem d_Of_moveInDrawnOrder_62 : decode Y_Of_moveInDrawnOrder.2.2.1 62 = .ok (.goto (-25), 3) := by decide +kernel
theorem d_Of_moveInDrawnOrder_65 : decode Y_Of_moveInDrawnOrder.2.2.1 65 = .ok (.iload_n 3, 1) := by decide +kernel
theorem d_Of_moveInDrawnOrder_66 : decode Y_Of_moveInDrawnOrder.2.2.1 66 = .ok (.istore 4, 2) := by decide +kernel
theorem d_Of_moveInDrawnOrder_68 : decode Y_Of_moveInDrawnOrder.2.2.1 68 = .ok (.iload 4, 2) := by decide +kernel
theorem d_Of_moveInDrawnOrder_70 : decode Y_Of_moveInDrawnOrder.2.2.1 70 = .ok (.iload_n 2, 1) := by decide +kernel
theorem d_Of_moveInDrawnOrder_71 : decode Y_Of_moveInDrawnOrder.2.2.1 71 = .ok (.if_icmp .le 25, 3) := by decide +kernel
theorem d_Of_moveInDrawnOrder_74 : decode Y_Of_moveInDrawnOrder.2.2.1 74 = .ok (.aload_n 0, 1) := by decide +kernel
theorem d_Of_moveInDrawnOrder_75 : decode Y_Of_moveInDrawnOrder.2.2.1 75 = .ok (.getfield 13, 3) := by decide +kernel
theorem d_Of_moveInDrawnOrder_78 : decode Y_Of_moveInDrawnOrder.2.2.1 78 = .ok (.iload 4, 2) := by decide +kernel
theorem d_Of_moveInDrawnOrder_80 : decode Y_Of_moveInDrawnOrder.2.2.1 80 = .ok (.aload_n 0, 1) := by decide +kernel
theorem d_Of_moveInDrawnOrder_81 : decode Y_Of_moveInDrawnOrder.2.2.1 81 = .ok (.getfield 13, 3) := by decide +kernel
theorem d_Of_moveInDrawnOrder_84 : decode Y_Of_moveInDrawnOrder.2.2.1 84 = .ok (.iload 4, 2) := by decide +kernel
theorem d_Of_moveInDrawnOrder_86 : decode Y_Of_moveInDrawnOrder.2.2.1 86 = .ok (.iconst 1, 1) := by decide +kernel
end
section
/-! decode rows, written by gen/dec.py -/
theorem d_Of_moveInDrawnOrder_87 : decode Y_Of_moveInDrawnOrder.2.2.1 87 = .ok (.isub, 1) := by decide +kernel
theorem d_Of_moveInDrawnOrder_88 : decode Y_Of_moveInDrawnOrder.2.2.1 88 = .ok (.iaload, 1) := by decide +kernel
theorem d_Of_moveInDrawnOrder_89 : decode Y_Of_moveInDrawnOrder.2.2.1 89 = .ok (.iastore, 1) := by decide +kernel
theorem d_Of_moveInDrawnOrder_90 : decode Y_Of_moveInDrawnOrder.2.2.1 90 = .ok (.iinc 4 (-1), 3) := by decide +kernel
theorem d_Of_moveInDrawnOrder_93 : decode Y_Of_moveInDrawnOrder.2.2.1 93 = .ok (.goto (-25), 3) := by decide +kernel
theorem d_Of_moveInDrawnOrder_96 : decode Y_Of_moveInDrawnOrder.2.2.1 96 = .ok (.aload_n 0, 1) := by decide +kernel
theorem d_Of_moveInDrawnOrder_97 : decode Y_Of_moveInDrawnOrder.2.2.1 97 = .ok (.getfield 13, 3) := by decide +kernel
theorem d_Of_moveInDrawnOrder_100 : decode Y_Of_moveInDrawnOrder.2.2.1 100 = .ok (.iload_n 2, 1) := by decide +kernel
theorem d_Of_moveInDrawnOrder_101 : decode Y_Of_moveInDrawnOrder.2.2.1 101 = .ok (.iload_n 1, 1) := by decide +kernel
theorem d_Of_moveInDrawnOrder_102 : decode Y_Of_moveInDrawnOrder.2.2.1 102 = .ok (.iastore, 1) := by decide +kernel
theorem d_Of_moveInDrawnOrder_103 : decode Y_Of_moveInDrawnOrder.2.2.1 103 = .ok (.return_, 1) := by decide +kernel
theorem d_Of_winnerSet_0 : decode Y_Of_winnerSet.2.2.1 0 = .ok (.aload_n 0, 1) := by decide +kernel
theorem d_Of_winnerSet_1 : decode Y_Of_winnerSet.2.2.1 1 = .ok (.getfield 46, 3) := by decide +kernel
theorem d_Of_winnerSet_4 : decode Y_Of_winnerSet.2.2.1 4 = .ok (.aload_n 1, 1) := by decide +kernel
theorem d_Of_winnerSet_5 : decode Y_Of_winnerSet.2.2.1 5 = .ok (.invokevirtual 145, 3) := by decide +kernel
theorem d_Of_winnerSet_8 : decode Y_Of_winnerSet.2.2.1 8 = .ok (.aload_n 0, 1) := by decide +kernel
theorem d_Of_winnerSet_9 : decode Y_Of_winnerSet.2.2.1 9 = .ok (.getfield 46, 3) := by decide +kernel
theorem d_Of_winnerSet_12 : decode Y_Of_winnerSet.2.2.1 12 = .ok (.invokevirtual 218, 3) := by decide +kernel
theorem d_Of_winnerSet_15 : decode Y_Of_winnerSet.2.2.1 15 = .ok (.ireturn, 1) := by decide +kernel
theorem d_Of_inOrder_0 : decode Y_Of_inOrder.2.2.1 0 = .ok (.aload_n 0, 1) := by decide +kernel
theorem d_Of_inOrder_1 : decode Y_Of_inOrder.2.2.1 1 = .ok (.iload_n 2, 1) := by decide +kernel
theorem d_Of_inOrder_2 : decode Y_Of_inOrder.2.2.1 2 = .ok (.invokevirtual 60, 3) := by decide +kernel
theorem d_Of_inOrder_5 : decode Y_Of_inOrder.2.2.1 5 = .ok (.ifCond .ne 5, 3) := by decide +kernel
theorem d_Of_inOrder_8 : decode Y_Of_inOrder.2.2.1 8 = .ok (.iconst (-1), 1) := by decide +kernel
theorem d_Of_inOrder_9 : decode Y_Of_inOrder.2.2.1 9 = .ok (.ireturn, 1) := by decide +kernel
theorem d_Of_inOrder_10 : decode Y_Of_inOrder.2.2.1 10 = .ok (.aload_n 0, 1) := by decide +kernel
theorem d_Of_inOrder_11 : decode Y_Of_inOrder.2.2.1 11 = .ok (.getfield 53, 3) := by decide +kernel
theorem d_Of_inOrder_14 : decode Y_Of_inOrder.2.2.1 14 = .ok (.aload_n 1, 1) := by decide +kernel
theorem d_Of_inOrder_15 : decode Y_Of_inOrder.2.2.1 15 = .ok (.aload_n 0, 1) := by decide +kernel
theorem d_Of_inOrder_16 : decode Y_Of_inOrder.2.2.1 16 = .ok (.getfield 13, 3) := by decide +kernel
theorem d_Of_inOrder_19 : decode Y_Of_inOrder.2.2.1 19 = .ok (.invokevirtual 180, 3) := by decide +kernel
theorem d_Of_inOrder_22 : decode Y_Of_inOrder.2.2.1 22 = .ok (.aload_n 0, 1) := by decide +kernel
theorem d_Of_inOrder_23 : decode Y_Of_inOrder.2.2.1 23 = .ok (.getfield 53, 3) := by decide +kernel
theorem d_Of_inOrder_26 : decode Y_Of_inOrder.2.2.1 26 = .ok (.aload_n 0, 1) := by decide +kernel
theorem d_Of_inOrder_27 : decode Y_Of_inOrder.2.2.1 27 = .ok (.getfield 13, 3) := by decide +kernel
theorem d_Of_inOrder_30 : decode Y_Of_inOrder.2.2.1 30 = .ok (.iload_n 2, 1) := by decide +kernel
theorem d_Of_inOrder_31 : decode Y_Of_inOrder.2.2.1 31 = .ok (.invokevirtual 221, 3) := by decide +kernel
theorem d_Of_inOrder_34 : decode Y_Of_inOrder.2.2.1 34 = .ok (.ireturn, 1) := by decide +kernel
theorem d_Of_member_0 : decode Y_Of_member.2.2.1 0 = .ok (.iconst 0, 1) := by decide +kernel
theorem d_Of_member_1 : decode Y_Of_member.2.2.1 1 = .ok (.istore_n 2, 1) := by decide +kernel
theorem d_Of_member_2 : decode Y_Of_member.2.2.1 2 = .ok (.iconst 0, 1) := by decide +kernel
theorem d_Of_member_3 : decode Y_Of_member.2.2.1 3 = .ok (.istore_n 3, 1) := by decide +kernel
theorem d_Of_member_4 : decode Y_Of_member.2.2.1 4 = .ok (.iload_n 3, 1) := by decide +kernel
theorem d_Of_member_5 : decode Y_Of_member.2.2.1 5 = .ok (.bipush 8, 2) := by decide +kernel
theorem d_Of_member_7 : decode Y_Of_member.2.2.1 7 = .ok (.if_icmp .ge 27, 3) := by decide +kernel
theorem d_Of_member_10 : decode Y_Of_member.2.2.1 10 = .ok (.iload_n 0, 1) := by decide +kernel
theorem d_Of_member_11 : decode Y_Of_member.2.2.1 11 = .ok (.iload_n 3, 1) := by decide +kernel
theorem d_Of_member_12 : decode Y_Of_member.2.2.1 12 = .ok (.invokestatic 163, 3) := by decide +kernel
theorem d_Of_member_15 : decode Y_Of_member.2.2.1 15 = .ok (.ifCond .eq 13, 3) := by decide +kernel
theorem d_Of_member_18 : decode Y_Of_member.2.2.1 18 = .ok (.iload_n 2, 1) := by decide +kernel
theorem d_Of_member_19 : decode Y_Of_member.2.2.1 19 = .ok (.iload_n 1, 1) := by decide +kernel
theorem d_Of_member_20 : decode Y_Of_member.2.2.1 20 = .ok (.if_icmp .ne 5, 3) := by decide +kernel
theorem d_Of_member_23 : decode Y_Of_member.2.2.1 23 = .ok (.iload_n 3, 1) := by decide +kernel
theorem d_Of_member_24 : decode Y_Of_member.2.2.1 24 = .ok (.ireturn, 1) := by decide +kernel
theorem d_Of_member_25 : decode Y_Of_member.2.2.1 25 = .ok (.iinc 2 1, 3) := by decide +kernel
theorem d_Of_member_28 : decode Y_Of_member.2.2.1 28 = .ok (.iinc 3 1, 3) := by decide +kernel
theorem d_Of_member_31 : decode Y_Of_member.2.2.1 31 = .ok (.goto (-27), 3) := by decide +kernel
theorem d_Of_member_34 : decode Y_Of_member.2.2.1 34 = .ok (.iconst (-1), 1) := by decide +kernel
theorem d_Of_member_35 : decode Y_Of_member.2.2.1 35 = .ok (.ireturn, 1) := by decide +kernel
theorem d_Of_has_0 : decode Y_Of_has.2.2.1 0 = .ok (.iload_n 0, 1) := by decide +kernel
theorem d_Of_has_1 : decode Y_Of_has.2.2.1 1 = .ok (.iload_n 1, 1) := by decide +kernel
theorem d_Of_has_2 : decode Y_Of_has.2.2.1 2 = .ok (.iushr, 1) := by decide +kernel
theorem d_Of_has_3 : decode Y_Of_has.2.2.1 3 = .ok (.iconst 1, 1) := by decide +kernel
theorem d_Of_has_4 : decode Y_Of_has.2.2.1 4 = .ok (.iand, 1) := by decide +kernel
theorem d_Of_has_5 : decode Y_Of_has.2.2.1 5 = .ok (.ifCond .eq 7, 3) := by decide +kernel
theorem d_Of_has_8 : decode Y_Of_has.2.2.1 8 = .ok (.iconst 1, 1) := by decide +kernel
theorem d_Of_has_9 : decode Y_Of_has.2.2.1 9 = .ok (.goto 4, 3) := by decide +kernel
theorem d_Of_has_12 : decode Y_Of_has.2.2.1 12 = .ok (.iconst 0, 1) := by decide +kernel
theorem d_Of_has_13 : decode Y_Of_has.2.2.1 13 = .ok (.ireturn, 1) := by decide +kernel
theorem d_Of_nibble_0 : decode Y_Of_nibble.2.2.1 0 = .ok (.iload_n 0, 1) := by decide +kernel
theorem d_Of_nibble_1 : decode Y_Of_nibble.2.2.1 1 = .ok (.iconst 4, 1) := by decide +kernel
theorem d_Of_nibble_2 : decode Y_Of_nibble.2.2.1 2 = .ok (.iload_n 1, 1) := by decide +kernel
theorem d_Of_nibble_3 : decode Y_Of_nibble.2.2.1 3 = .ok (.imul, 1) := by decide +kernel
theorem d_Of_nibble_4 : decode Y_Of_nibble.2.2.1 4 = .ok (.iushr, 1) := by decide +kernel
theorem d_Of_nibble_5 : decode Y_Of_nibble.2.2.1 5 = .ok (.bipush 15, 2) := by decide +kernel
theorem d_Of_nibble_7 : decode Y_Of_nibble.2.2.1 7 = .ok (.iand, 1) := by decide +kernel
theorem d_Of_nibble_8 : decode Y_Of_nibble.2.2.1 8 = .ok (.ireturn, 1) := by decide +kernel
end
section
/-! decode rows, written by gen/dec.py -/
theorem d_Pa_init_0 : decode Y_Pa_init.2.2.1 0 = .ok (.aload_n 0, 1) := by decide +kernel
theorem d_Pa_init_1 : decode Y_Pa_init.2.2.1 1 = .ok (.invokespecial 3, 3) := by decide +kernel
theorem d_Pa_init_4 : decode Y_Pa_init.2.2.1 4 = .ok (.aload_n 0, 1) := by decide +kernel
theorem d_Pa_init_5 : decode Y_Pa_init.2.2.1 5 = .ok (.iload_n 1, 1) := by decide +kernel
theorem d_Pa_init_6 : decode Y_Pa_init.2.2.1 6 = .ok (.putfield 9, 3) := by decide +kernel
theorem d_Pa_init_9 : decode Y_Pa_init.2.2.1 9 = .ok (.aload_n 0, 1) := by decide +kernel
theorem d_Pa_init_10 : decode Y_Pa_init.2.2.1 10 = .ok (.iload_n 1, 1) := by decide +kernel
theorem d_Pa_init_11 : decode Y_Pa_init.2.2.1 11 = .ok (.iload_n 1, 1) := by decide +kernel
theorem d_Pa_init_12 : decode Y_Pa_init.2.2.1 12 = .ok (.multianewarray 15 2, 4) := by decide +kernel
theorem d_Pa_init_16 : decode Y_Pa_init.2.2.1 16 = .ok (.putfield 17, 3) := by decide +kernel
theorem d_Pa_init_19 : decode Y_Pa_init.2.2.1 19 = .ok (.aload_n 0, 1) := by decide +kernel
theorem d_Pa_init_20 : decode Y_Pa_init.2.2.1 20 = .ok (.iload_n 1, 1) := by decide +kernel
theorem d_Pa_init_21 : decode Y_Pa_init.2.2.1 21 = .ok (.newarray .int, 2) := by decide +kernel
theorem d_Pa_init_23 : decode Y_Pa_init.2.2.1 23 = .ok (.putfield 20, 3) := by decide +kernel
theorem d_Pa_init_26 : decode Y_Pa_init.2.2.1 26 = .ok (.return_, 1) := by decide +kernel
theorem d_Pa_weigh_0 : decode Y_Pa_weigh.2.2.1 0 = .ok (.iconst 0, 1) := by decide +kernel
theorem d_Pa_weigh_1 : decode Y_Pa_weigh.2.2.1 1 = .ok (.istore_n 2, 1) := by decide +kernel
theorem d_Pa_weigh_2 : decode Y_Pa_weigh.2.2.1 2 = .ok (.iload_n 2, 1) := by decide +kernel
theorem d_Pa_weigh_3 : decode Y_Pa_weigh.2.2.1 3 = .ok (.aload_n 0, 1) := by decide +kernel
theorem d_Pa_weigh_4 : decode Y_Pa_weigh.2.2.1 4 = .ok (.getfield 9, 3) := by decide +kernel
theorem d_Pa_weigh_7 : decode Y_Pa_weigh.2.2.1 7 = .ok (.if_icmp .ge 39, 3) := by decide +kernel
theorem d_Pa_weigh_10 : decode Y_Pa_weigh.2.2.1 10 = .ok (.iconst 0, 1) := by decide +kernel
theorem d_Pa_weigh_11 : decode Y_Pa_weigh.2.2.1 11 = .ok (.istore_n 3, 1) := by decide +kernel
theorem d_Pa_weigh_12 : decode Y_Pa_weigh.2.2.1 12 = .ok (.iload_n 3, 1) := by decide +kernel
theorem d_Pa_weigh_13 : decode Y_Pa_weigh.2.2.1 13 = .ok (.aload_n 0, 1) := by decide +kernel
theorem d_Pa_weigh_14 : decode Y_Pa_weigh.2.2.1 14 = .ok (.getfield 9, 3) := by decide +kernel
theorem d_Pa_weigh_17 : decode Y_Pa_weigh.2.2.1 17 = .ok (.if_icmp .ge 23, 3) := by decide +kernel
theorem d_Pa_weigh_20 : decode Y_Pa_weigh.2.2.1 20 = .ok (.aload_n 0, 1) := by decide +kernel
theorem d_Pa_weigh_21 : decode Y_Pa_weigh.2.2.1 21 = .ok (.getfield 17, 3) := by decide +kernel
theorem d_Pa_weigh_24 : decode Y_Pa_weigh.2.2.1 24 = .ok (.iload_n 2, 1) := by decide +kernel
theorem d_Pa_weigh_25 : decode Y_Pa_weigh.2.2.1 25 = .ok (.aaload, 1) := by decide +kernel
theorem d_Pa_weigh_26 : decode Y_Pa_weigh.2.2.1 26 = .ok (.iload_n 3, 1) := by decide +kernel
theorem d_Pa_weigh_27 : decode Y_Pa_weigh.2.2.1 27 = .ok (.aload_n 1, 1) := by decide +kernel
theorem d_Pa_weigh_28 : decode Y_Pa_weigh.2.2.1 28 = .ok (.iload_n 2, 1) := by decide +kernel
theorem d_Pa_weigh_29 : decode Y_Pa_weigh.2.2.1 29 = .ok (.iload_n 3, 1) := by decide +kernel
theorem d_Pa_weigh_30 : decode Y_Pa_weigh.2.2.1 30 = .ok (.invokevirtual 24, 3) := by decide +kernel
theorem d_Pa_weigh_33 : decode Y_Pa_weigh.2.2.1 33 = .ok (.iastore, 1) := by decide +kernel
theorem d_Pa_weigh_34 : decode Y_Pa_weigh.2.2.1 34 = .ok (.iinc 3 1, 3) := by decide +kernel
theorem d_Pa_weigh_37 : decode Y_Pa_weigh.2.2.1 37 = .ok (.goto (-25), 3) := by decide +kernel
theorem d_Pa_weigh_40 : decode Y_Pa_weigh.2.2.1 40 = .ok (.iinc 2 1, 3) := by decide +kernel
theorem d_Pa_weigh_43 : decode Y_Pa_weigh.2.2.1 43 = .ok (.goto (-41), 3) := by decide +kernel
theorem d_Pa_weigh_46 : decode Y_Pa_weigh.2.2.1 46 = .ok (.iconst 0, 1) := by decide +kernel
theorem d_Pa_weigh_47 : decode Y_Pa_weigh.2.2.1 47 = .ok (.istore_n 2, 1) := by decide +kernel
theorem d_Pa_weigh_48 : decode Y_Pa_weigh.2.2.1 48 = .ok (.iload_n 2, 1) := by decide +kernel
theorem d_Pa_weigh_49 : decode Y_Pa_weigh.2.2.1 49 = .ok (.aload_n 0, 1) := by decide +kernel
theorem d_Pa_weigh_50 : decode Y_Pa_weigh.2.2.1 50 = .ok (.getfield 9, 3) := by decide +kernel
theorem d_Pa_weigh_53 : decode Y_Pa_weigh.2.2.1 53 = .ok (.if_icmp .ge 31, 3) := by decide +kernel
theorem d_Pa_weigh_56 : decode Y_Pa_weigh.2.2.1 56 = .ok (.iconst 0, 1) := by decide +kernel
theorem d_Pa_weigh_57 : decode Y_Pa_weigh.2.2.1 57 = .ok (.istore_n 3, 1) := by decide +kernel
theorem d_Pa_weigh_58 : decode Y_Pa_weigh.2.2.1 58 = .ok (.iload_n 3, 1) := by decide +kernel
theorem d_Pa_weigh_59 : decode Y_Pa_weigh.2.2.1 59 = .ok (.aload_n 0, 1) := by decide +kernel
theorem d_Pa_weigh_60 : decode Y_Pa_weigh.2.2.1 60 = .ok (.getfield 9, 3) := by decide +kernel
theorem d_Pa_weigh_63 : decode Y_Pa_weigh.2.2.1 63 = .ok (.if_icmp .ge 15, 3) := by decide +kernel
theorem d_Pa_weigh_66 : decode Y_Pa_weigh.2.2.1 66 = .ok (.aload_n 0, 1) := by decide +kernel
theorem d_Pa_weigh_67 : decode Y_Pa_weigh.2.2.1 67 = .ok (.iload_n 3, 1) := by decide +kernel
theorem d_Pa_weigh_68 : decode Y_Pa_weigh.2.2.1 68 = .ok (.iload_n 2, 1) := by decide +kernel
theorem d_Pa_weigh_69 : decode Y_Pa_weigh.2.2.1 69 = .ok (.invokevirtual 30, 3) := by decide +kernel
theorem d_Pa_weigh_72 : decode Y_Pa_weigh.2.2.1 72 = .ok (.iinc 3 1, 3) := by decide +kernel
theorem d_Pa_weigh_75 : decode Y_Pa_weigh.2.2.1 75 = .ok (.goto (-17), 3) := by decide +kernel
theorem d_Pa_weigh_78 : decode Y_Pa_weigh.2.2.1 78 = .ok (.iinc 2 1, 3) := by decide +kernel
theorem d_Pa_weigh_81 : decode Y_Pa_weigh.2.2.1 81 = .ok (.goto (-33), 3) := by decide +kernel
theorem d_Pa_weigh_84 : decode Y_Pa_weigh.2.2.1 84 = .ok (.return_, 1) := by decide +kernel
theorem d_Pa_widen_0 : decode Y_Pa_widen.2.2.1 0 = .ok (.iconst 0, 1) := by decide +kernel
theorem d_Pa_widen_1 : decode Y_Pa_widen.2.2.1 1 = .ok (.istore_n 3, 1) := by decide +kernel
theorem d_Pa_widen_2 : decode Y_Pa_widen.2.2.1 2 = .ok (.iload_n 3, 1) := by decide +kernel
theorem d_Pa_widen_3 : decode Y_Pa_widen.2.2.1 3 = .ok (.aload_n 0, 1) := by decide +kernel
theorem d_Pa_widen_4 : decode Y_Pa_widen.2.2.1 4 = .ok (.getfield 9, 3) := by decide +kernel
theorem d_Pa_widen_7 : decode Y_Pa_widen.2.2.1 7 = .ok (.if_icmp .ge 51, 3) := by decide +kernel
theorem d_Pa_widen_10 : decode Y_Pa_widen.2.2.1 10 = .ok (.aload_n 0, 1) := by decide +kernel
theorem d_Pa_widen_11 : decode Y_Pa_widen.2.2.1 11 = .ok (.getfield 17, 3) := by decide +kernel
theorem d_Pa_widen_14 : decode Y_Pa_widen.2.2.1 14 = .ok (.iload_n 1, 1) := by decide +kernel
theorem d_Pa_widen_15 : decode Y_Pa_widen.2.2.1 15 = .ok (.aaload, 1) := by decide +kernel
theorem d_Pa_widen_16 : decode Y_Pa_widen.2.2.1 16 = .ok (.iload_n 2, 1) := by decide +kernel
theorem d_Pa_widen_17 : decode Y_Pa_widen.2.2.1 17 = .ok (.iaload, 1) := by decide +kernel
theorem d_Pa_widen_18 : decode Y_Pa_widen.2.2.1 18 = .ok (.aload_n 0, 1) := by decide +kernel
theorem d_Pa_widen_19 : decode Y_Pa_widen.2.2.1 19 = .ok (.getfield 17, 3) := by decide +kernel
theorem d_Pa_widen_22 : decode Y_Pa_widen.2.2.1 22 = .ok (.iload_n 2, 1) := by decide +kernel
theorem d_Pa_widen_23 : decode Y_Pa_widen.2.2.1 23 = .ok (.aaload, 1) := by decide +kernel
theorem d_Pa_widen_24 : decode Y_Pa_widen.2.2.1 24 = .ok (.iload_n 3, 1) := by decide +kernel
theorem d_Pa_widen_25 : decode Y_Pa_widen.2.2.1 25 = .ok (.iaload, 1) := by decide +kernel
theorem d_Pa_widen_26 : decode Y_Pa_widen.2.2.1 26 = .ok (.invokestatic 34, 3) := by decide +kernel
theorem d_Pa_widen_29 : decode Y_Pa_widen.2.2.1 29 = .ok (.istore 4, 2) := by decide +kernel
theorem d_Pa_widen_31 : decode Y_Pa_widen.2.2.1 31 = .ok (.aload_n 0, 1) := by decide +kernel
theorem d_Pa_widen_32 : decode Y_Pa_widen.2.2.1 32 = .ok (.getfield 17, 3) := by decide +kernel
theorem d_Pa_widen_35 : decode Y_Pa_widen.2.2.1 35 = .ok (.iload_n 1, 1) := by decide +kernel
theorem d_Pa_widen_36 : decode Y_Pa_widen.2.2.1 36 = .ok (.aaload, 1) := by decide +kernel
theorem d_Pa_widen_37 : decode Y_Pa_widen.2.2.1 37 = .ok (.iload_n 3, 1) := by decide +kernel
theorem d_Pa_widen_38 : decode Y_Pa_widen.2.2.1 38 = .ok (.aload_n 0, 1) := by decide +kernel
theorem d_Pa_widen_39 : decode Y_Pa_widen.2.2.1 39 = .ok (.getfield 17, 3) := by decide +kernel
theorem d_Pa_widen_42 : decode Y_Pa_widen.2.2.1 42 = .ok (.iload_n 1, 1) := by decide +kernel
theorem d_Pa_widen_43 : decode Y_Pa_widen.2.2.1 43 = .ok (.aaload, 1) := by decide +kernel
theorem d_Pa_widen_44 : decode Y_Pa_widen.2.2.1 44 = .ok (.iload_n 3, 1) := by decide +kernel
theorem d_Pa_widen_45 : decode Y_Pa_widen.2.2.1 45 = .ok (.iaload, 1) := by decide +kernel
theorem d_Pa_widen_46 : decode Y_Pa_widen.2.2.1 46 = .ok (.iload 4, 2) := by decide +kernel
theorem d_Pa_widen_48 : decode Y_Pa_widen.2.2.1 48 = .ok (.invokestatic 39, 3) := by decide +kernel
theorem d_Pa_widen_51 : decode Y_Pa_widen.2.2.1 51 = .ok (.iastore, 1) := by decide +kernel
theorem d_Pa_widen_52 : decode Y_Pa_widen.2.2.1 52 = .ok (.iinc 3 1, 3) := by decide +kernel
theorem d_Pa_widen_55 : decode Y_Pa_widen.2.2.1 55 = .ok (.goto (-53), 3) := by decide +kernel
theorem d_Pa_widen_58 : decode Y_Pa_widen.2.2.1 58 = .ok (.return_, 1) := by decide +kernel
theorem d_Pa_reachedAbove_0 : decode Y_Pa_reachedAbove.2.2.1 0 = .ok (.iconst 1, 1) := by decide +kernel
theorem d_Pa_reachedAbove_1 : decode Y_Pa_reachedAbove.2.2.1 1 = .ok (.iload_n 1, 1) := by decide +kernel
theorem d_Pa_reachedAbove_2 : decode Y_Pa_reachedAbove.2.2.1 2 = .ok (.ishl, 1) := by decide +kernel
theorem d_Pa_reachedAbove_3 : decode Y_Pa_reachedAbove.2.2.1 3 = .ok (.istore_n 3, 1) := by decide +kernel
theorem d_Pa_reachedAbove_4 : decode Y_Pa_reachedAbove.2.2.1 4 = .ok (.iconst 0, 1) := by decide +kernel
theorem d_Pa_reachedAbove_5 : decode Y_Pa_reachedAbove.2.2.1 5 = .ok (.istore 4, 2) := by decide +kernel
theorem d_Pa_reachedAbove_7 : decode Y_Pa_reachedAbove.2.2.1 7 = .ok (.iload 4, 2) := by decide +kernel
theorem d_Pa_reachedAbove_9 : decode Y_Pa_reachedAbove.2.2.1 9 = .ok (.aload_n 0, 1) := by decide +kernel
theorem d_Pa_reachedAbove_10 : decode Y_Pa_reachedAbove.2.2.1 10 = .ok (.getfield 9, 3) := by decide +kernel
theorem d_Pa_reachedAbove_13 : decode Y_Pa_reachedAbove.2.2.1 13 = .ok (.if_icmp .ge 29, 3) := by decide +kernel
theorem d_Pa_reachedAbove_16 : decode Y_Pa_reachedAbove.2.2.1 16 = .ok (.aload_n 0, 1) := by decide +kernel
theorem d_Pa_reachedAbove_17 : decode Y_Pa_reachedAbove.2.2.1 17 = .ok (.getfield 17, 3) := by decide +kernel
theorem d_Pa_reachedAbove_20 : decode Y_Pa_reachedAbove.2.2.1 20 = .ok (.iload_n 1, 1) := by decide +kernel
theorem d_Pa_reachedAbove_21 : decode Y_Pa_reachedAbove.2.2.1 21 = .ok (.aaload, 1) := by decide +kernel
theorem d_Pa_reachedAbove_22 : decode Y_Pa_reachedAbove.2.2.1 22 = .ok (.iload 4, 2) := by decide +kernel
theorem d_Pa_reachedAbove_24 : decode Y_Pa_reachedAbove.2.2.1 24 = .ok (.iaload, 1) := by decide +kernel
theorem d_Pa_reachedAbove_25 : decode Y_Pa_reachedAbove.2.2.1 25 = .ok (.iload_n 2, 1) := by decide +kernel
theorem d_Pa_reachedAbove_26 : decode Y_Pa_reachedAbove.2.2.1 26 = .ok (.if_icmp .le 10, 3) := by decide +kernel
theorem d_Pa_reachedAbove_29 : decode Y_Pa_reachedAbove.2.2.1 29 = .ok (.iload_n 3, 1) := by decide +kernel
theorem d_Pa_reachedAbove_30 : decode Y_Pa_reachedAbove.2.2.1 30 = .ok (.iconst 1, 1) := by decide +kernel
theorem d_Pa_reachedAbove_31 : decode Y_Pa_reachedAbove.2.2.1 31 = .ok (.iload 4, 2) := by decide +kernel
theorem d_Pa_reachedAbove_33 : decode Y_Pa_reachedAbove.2.2.1 33 = .ok (.ishl, 1) := by decide +kernel
theorem d_Pa_reachedAbove_34 : decode Y_Pa_reachedAbove.2.2.1 34 = .ok (.ior, 1) := by decide +kernel
theorem d_Pa_reachedAbove_35 : decode Y_Pa_reachedAbove.2.2.1 35 = .ok (.istore_n 3, 1) := by decide +kernel
theorem d_Pa_reachedAbove_36 : decode Y_Pa_reachedAbove.2.2.1 36 = .ok (.iinc 4 1, 3) := by decide +kernel
theorem d_Pa_reachedAbove_39 : decode Y_Pa_reachedAbove.2.2.1 39 = .ok (.goto (-32), 3) := by decide +kernel
theorem d_Pa_reachedAbove_42 : decode Y_Pa_reachedAbove.2.2.1 42 = .ok (.iload_n 3, 1) := by decide +kernel
theorem d_Pa_reachedAbove_43 : decode Y_Pa_reachedAbove.2.2.1 43 = .ok (.ireturn, 1) := by decide +kernel
theorem d_Pa_unbeaten_0 : decode Y_Pa_unbeaten.2.2.1 0 = .ok (.iconst 0, 1) := by decide +kernel
theorem d_Pa_unbeaten_1 : decode Y_Pa_unbeaten.2.2.1 1 = .ok (.istore_n 1, 1) := by decide +kernel
theorem d_Pa_unbeaten_2 : decode Y_Pa_unbeaten.2.2.1 2 = .ok (.iconst 0, 1) := by decide +kernel
theorem d_Pa_unbeaten_3 : decode Y_Pa_unbeaten.2.2.1 3 = .ok (.istore_n 2, 1) := by decide +kernel
theorem d_Pa_unbeaten_4 : decode Y_Pa_unbeaten.2.2.1 4 = .ok (.iload_n 2, 1) := by decide +kernel
theorem d_Pa_unbeaten_5 : decode Y_Pa_unbeaten.2.2.1 5 = .ok (.aload_n 0, 1) := by decide +kernel
theorem d_Pa_unbeaten_6 : decode Y_Pa_unbeaten.2.2.1 6 = .ok (.getfield 9, 3) := by decide +kernel
theorem d_Pa_unbeaten_9 : decode Y_Pa_unbeaten.2.2.1 9 = .ok (.if_icmp .ge 23, 3) := by decide +kernel
theorem d_Pa_unbeaten_12 : decode Y_Pa_unbeaten.2.2.1 12 = .ok (.aload_n 0, 1) := by decide +kernel
theorem d_Pa_unbeaten_13 : decode Y_Pa_unbeaten.2.2.1 13 = .ok (.iload_n 2, 1) := by decide +kernel
theorem d_Pa_unbeaten_14 : decode Y_Pa_unbeaten.2.2.1 14 = .ok (.invokevirtual 42, 3) := by decide +kernel
theorem d_Pa_unbeaten_17 : decode Y_Pa_unbeaten.2.2.1 17 = .ok (.ifCond .eq 9, 3) := by decide +kernel
theorem d_Pa_unbeaten_20 : decode Y_Pa_unbeaten.2.2.1 20 = .ok (.iload_n 1, 1) := by decide +kernel
theorem d_Pa_unbeaten_21 : decode Y_Pa_unbeaten.2.2.1 21 = .ok (.iconst 1, 1) := by decide +kernel
theorem d_Pa_unbeaten_22 : decode Y_Pa_unbeaten.2.2.1 22 = .ok (.iload_n 2, 1) := by decide +kernel
theorem d_Pa_unbeaten_23 : decode Y_Pa_unbeaten.2.2.1 23 = .ok (.ishl, 1) := by decide +kernel
theorem d_Pa_unbeaten_24 : decode Y_Pa_unbeaten.2.2.1 24 = .ok (.ior, 1) := by decide +kernel
theorem d_Pa_unbeaten_25 : decode Y_Pa_unbeaten.2.2.1 25 = .ok (.istore_n 1, 1) := by decide +kernel
theorem d_Pa_unbeaten_26 : decode Y_Pa_unbeaten.2.2.1 26 = .ok (.iinc 2 1, 3) := by decide +kernel
theorem d_Pa_unbeaten_29 : decode Y_Pa_unbeaten.2.2.1 29 = .ok (.goto (-25), 3) := by decide +kernel
theorem d_Pa_unbeaten_32 : decode Y_Pa_unbeaten.2.2.1 32 = .ok (.iload_n 1, 1) := by decide +kernel
theorem d_Pa_unbeaten_33 : decode Y_Pa_unbeaten.2.2.1 33 = .ok (.ireturn, 1) := by decide +kernel
theorem d_Pa_isUnbeaten_0 : decode Y_Pa_isUnbeaten.2.2.1 0 = .ok (.iconst 0, 1) := by decide +kernel
theorem d_Pa_isUnbeaten_1 : decode Y_Pa_isUnbeaten.2.2.1 1 = .ok (.istore_n 2, 1) := by decide +kernel
theorem d_Pa_isUnbeaten_2 : decode Y_Pa_isUnbeaten.2.2.1 2 = .ok (.iload_n 2, 1) := by decide +kernel
theorem d_Pa_isUnbeaten_3 : decode Y_Pa_isUnbeaten.2.2.1 3 = .ok (.aload_n 0, 1) := by decide +kernel
theorem d_Pa_isUnbeaten_4 : decode Y_Pa_isUnbeaten.2.2.1 4 = .ok (.getfield 9, 3) := by decide +kernel
theorem d_Pa_isUnbeaten_7 : decode Y_Pa_isUnbeaten.2.2.1 7 = .ok (.if_icmp .ge 30, 3) := by decide +kernel
theorem d_Pa_isUnbeaten_10 : decode Y_Pa_isUnbeaten.2.2.1 10 = .ok (.aload_n 0, 1) := by decide +kernel
theorem d_Pa_isUnbeaten_11 : decode Y_Pa_isUnbeaten.2.2.1 11 = .ok (.getfield 17, 3) := by decide +kernel
theorem d_Pa_isUnbeaten_14 : decode Y_Pa_isUnbeaten.2.2.1 14 = .ok (.iload_n 1, 1) := by decide +kernel
theorem d_Pa_isUnbeaten_15 : decode Y_Pa_isUnbeaten.2.2.1 15 = .ok (.aaload, 1) := by decide +kernel
theorem d_Pa_isUnbeaten_16 : decode Y_Pa_isUnbeaten.2.2.1 16 = .ok (.iload_n 2, 1) := by decide +kernel
theorem d_Pa_isUnbeaten_17 : decode Y_Pa_isUnbeaten.2.2.1 17 = .ok (.iaload, 1) := by decide +kernel
theorem d_Pa_isUnbeaten_18 : decode Y_Pa_isUnbeaten.2.2.1 18 = .ok (.aload_n 0, 1) := by decide +kernel
theorem d_Pa_isUnbeaten_19 : decode Y_Pa_isUnbeaten.2.2.1 19 = .ok (.getfield 17, 3) := by decide +kernel
theorem d_Pa_isUnbeaten_22 : decode Y_Pa_isUnbeaten.2.2.1 22 = .ok (.iload_n 2, 1) := by decide +kernel
theorem d_Pa_isUnbeaten_23 : decode Y_Pa_isUnbeaten.2.2.1 23 = .ok (.aaload, 1) := by decide +kernel
theorem d_Pa_isUnbeaten_24 : decode Y_Pa_isUnbeaten.2.2.1 24 = .ok (.iload_n 1, 1) := by decide +kernel
theorem d_Pa_isUnbeaten_25 : decode Y_Pa_isUnbeaten.2.2.1 25 = .ok (.iaload, 1) := by decide +kernel
theorem d_Pa_isUnbeaten_26 : decode Y_Pa_isUnbeaten.2.2.1 26 = .ok (.if_icmp .ge 5, 3) := by decide +kernel
theorem d_Pa_isUnbeaten_29 : decode Y_Pa_isUnbeaten.2.2.1 29 = .ok (.iconst 0, 1) := by decide +kernel
theorem d_Pa_isUnbeaten_30 : decode Y_Pa_isUnbeaten.2.2.1 30 = .ok (.ireturn, 1) := by decide +kernel
theorem d_Pa_isUnbeaten_31 : decode Y_Pa_isUnbeaten.2.2.1 31 = .ok (.iinc 2 1, 3) := by decide +kernel
theorem d_Pa_isUnbeaten_34 : decode Y_Pa_isUnbeaten.2.2.1 34 = .ok (.goto (-32), 3) := by decide +kernel
theorem d_Pa_isUnbeaten_37 : decode Y_Pa_isUnbeaten.2.2.1 37 = .ok (.iconst 1, 1) := by decide +kernel
theorem d_Pa_isUnbeaten_38 : decode Y_Pa_isUnbeaten.2.2.1 38 = .ok (.ireturn, 1) := by decide +kernel
theorem d_Pa_strongestWay_0 : decode Y_Pa_strongestWay.2.2.1 0 = .ok (.aload_n 0, 1) := by decide +kernel
theorem d_Pa_strongestWay_1 : decode Y_Pa_strongestWay.2.2.1 1 = .ok (.getfield 17, 3) := by decide +kernel
theorem d_Pa_strongestWay_4 : decode Y_Pa_strongestWay.2.2.1 4 = .ok (.iload_n 2, 1) := by decide +kernel
theorem d_Pa_strongestWay_5 : decode Y_Pa_strongestWay.2.2.1 5 = .ok (.aaload, 1) := by decide +kernel
theorem d_Pa_strongestWay_6 : decode Y_Pa_strongestWay.2.2.1 6 = .ok (.iload_n 3, 1) := by decide +kernel
theorem d_Pa_strongestWay_7 : decode Y_Pa_strongestWay.2.2.1 7 = .ok (.iaload, 1) := by decide +kernel
theorem d_Pa_strongestWay_8 : decode Y_Pa_strongestWay.2.2.1 8 = .ok (.istore 4, 2) := by decide +kernel
theorem d_Pa_strongestWay_10 : decode Y_Pa_strongestWay.2.2.1 10 = .ok (.iload 4, 2) := by decide +kernel
theorem d_Pa_strongestWay_12 : decode Y_Pa_strongestWay.2.2.1 12 = .ok (.ifCond .ne 5, 3) := by decide +kernel
theorem d_Pa_strongestWay_15 : decode Y_Pa_strongestWay.2.2.1 15 = .ok (.iconst 0, 1) := by decide +kernel
theorem d_Pa_strongestWay_16 : decode Y_Pa_strongestWay.2.2.1 16 = .ok (.ireturn, 1) := by decide +kernel
theorem d_Pa_strongestWay_17 : decode Y_Pa_strongestWay.2.2.1 17 = .ok (.aload_n 0, 1) := by decide +kernel
theorem d_Pa_strongestWay_18 : decode Y_Pa_strongestWay.2.2.1 18 = .ok (.aload_n 1, 1) := by decide +kernel
theorem d_Pa_strongestWay_19 : decode Y_Pa_strongestWay.2.2.1 19 = .ok (.iload_n 3, 1) := by decide +kernel
theorem d_Pa_strongestWay_20 : decode Y_Pa_strongestWay.2.2.1 20 = .ok (.iload 4, 2) := by decide +kernel
theorem d_Pa_strongestWay_22 : decode Y_Pa_strongestWay.2.2.1 22 = .ok (.invokevirtual 46, 3) := by decide +kernel
theorem d_Pa_strongestWay_25 : decode Y_Pa_strongestWay.2.2.1 25 = .ok (.iload_n 2, 1) := by decide +kernel
theorem d_Pa_strongestWay_26 : decode Y_Pa_strongestWay.2.2.1 26 = .ok (.iconst 1, 1) := by decide +kernel
theorem d_Pa_strongestWay_27 : decode Y_Pa_strongestWay.2.2.1 27 = .ok (.iadd, 1) := by decide +kernel
theorem d_Pa_strongestWay_28 : decode Y_Pa_strongestWay.2.2.1 28 = .ok (.istore 5, 2) := by decide +kernel
theorem d_Pa_strongestWay_30 : decode Y_Pa_strongestWay.2.2.1 30 = .ok (.iload_n 2, 1) := by decide +kernel
theorem d_Pa_strongestWay_31 : decode Y_Pa_strongestWay.2.2.1 31 = .ok (.istore 6, 2) := by decide +kernel
theorem d_Pa_strongestWay_33 : decode Y_Pa_strongestWay.2.2.1 33 = .ok (.iconst 1, 1) := by decide +kernel
theorem d_Pa_strongestWay_34 : decode Y_Pa_strongestWay.2.2.1 34 = .ok (.istore 7, 2) := by decide +kernel
theorem d_Pa_strongestWay_36 : decode Y_Pa_strongestWay.2.2.1 36 = .ok (.iload 7, 2) := by decide +kernel
theorem d_Pa_strongestWay_38 : decode Y_Pa_strongestWay.2.2.1 38 = .ok (.aload_n 0, 1) := by decide +kernel
theorem d_Pa_strongestWay_39 : decode Y_Pa_strongestWay.2.2.1 39 = .ok (.getfield 9, 3) := by decide +kernel
theorem d_Pa_strongestWay_42 : decode Y_Pa_strongestWay.2.2.1 42 = .ok (.if_icmp .ge 40, 3) := by decide +kernel
theorem d_Pa_strongestWay_45 : decode Y_Pa_strongestWay.2.2.1 45 = .ok (.iload 6, 2) := by decide +kernel
theorem d_Pa_strongestWay_47 : decode Y_Pa_strongestWay.2.2.1 47 = .ok (.iload_n 3, 1) := by decide +kernel
theorem d_Pa_strongestWay_48 : decode Y_Pa_strongestWay.2.2.1 48 = .ok (.if_icmp .eq 34, 3) := by decide +kernel
theorem d_Pa_strongestWay_51 : decode Y_Pa_strongestWay.2.2.1 51 = .ok (.aload_n 0, 1) := by decide +kernel
theorem d_Pa_strongestWay_52 : decode Y_Pa_strongestWay.2.2.1 52 = .ok (.aload_n 1, 1) := by decide +kernel
theorem d_Pa_strongestWay_53 : decode Y_Pa_strongestWay.2.2.1 53 = .ok (.iload 6, 2) := by decide +kernel
theorem d_Pa_strongestWay_55 : decode Y_Pa_strongestWay.2.2.1 55 = .ok (.iload 4, 2) := by decide +kernel
theorem d_Pa_strongestWay_57 : decode Y_Pa_strongestWay.2.2.1 57 = .ok (.invokevirtual 50, 3) := by decide +kernel
theorem d_Pa_strongestWay_60 : decode Y_Pa_strongestWay.2.2.1 60 = .ok (.istore 6, 2) := by decide +kernel
theorem d_Pa_strongestWay_62 : decode Y_Pa_strongestWay.2.2.1 62 = .ok (.iload 5, 2) := by decide +kernel
theorem d_Pa_strongestWay_64 : decode Y_Pa_strongestWay.2.2.1 64 = .ok (.iload 6, 2) := by decide +kernel
theorem d_Pa_strongestWay_66 : decode Y_Pa_strongestWay.2.2.1 66 = .ok (.iconst 1, 1) := by decide +kernel
theorem d_Pa_strongestWay_67 : decode Y_Pa_strongestWay.2.2.1 67 = .ok (.iadd, 1) := by decide +kernel
theorem d_Pa_strongestWay_68 : decode Y_Pa_strongestWay.2.2.1 68 = .ok (.iconst 4, 1) := by decide +kernel
theorem d_Pa_strongestWay_69 : decode Y_Pa_strongestWay.2.2.1 69 = .ok (.iload 7, 2) := by decide +kernel
theorem d_Pa_strongestWay_71 : decode Y_Pa_strongestWay.2.2.1 71 = .ok (.imul, 1) := by decide +kernel
theorem d_Pa_strongestWay_72 : decode Y_Pa_strongestWay.2.2.1 72 = .ok (.ishl, 1) := by decide +kernel
theorem d_Pa_strongestWay_73 : decode Y_Pa_strongestWay.2.2.1 73 = .ok (.ior, 1) := by decide +kernel
theorem d_Pa_strongestWay_74 : decode Y_Pa_strongestWay.2.2.1 74 = .ok (.istore 5, 2) := by decide +kernel
theorem d_Pa_strongestWay_76 : decode Y_Pa_strongestWay.2.2.1 76 = .ok (.iinc 7 1, 3) := by decide +kernel
theorem d_Pa_strongestWay_79 : decode Y_Pa_strongestWay.2.2.1 79 = .ok (.goto (-43), 3) := by decide +kernel
theorem d_Pa_strongestWay_82 : decode Y_Pa_strongestWay.2.2.1 82 = .ok (.iload 5, 2) := by decide +kernel
theorem d_Pa_strongestWay_84 : decode Y_Pa_strongestWay.2.2.1 84 = .ok (.ireturn, 1) := by decide +kernel
theorem d_Pa_countSteps_0 : decode Y_Pa_countSteps.2.2.1 0 = .ok (.aload_n 0, 1) := by decide +kernel
theorem d_Pa_countSteps_1 : decode Y_Pa_countSteps.2.2.1 1 = .ok (.getfield 20, 3) := by decide +kernel
theorem d_Pa_countSteps_4 : decode Y_Pa_countSteps.2.2.1 4 = .ok (.aload_n 0, 1) := by decide +kernel
theorem d_Pa_countSteps_5 : decode Y_Pa_countSteps.2.2.1 5 = .ok (.getfield 9, 3) := by decide +kernel
theorem d_Pa_countSteps_8 : decode Y_Pa_countSteps.2.2.1 8 = .ok (.invokestatic 54, 3) := by decide +kernel
theorem d_Pa_countSteps_11 : decode Y_Pa_countSteps.2.2.1 11 = .ok (.aload_n 0, 1) := by decide +kernel
theorem d_Pa_countSteps_12 : decode Y_Pa_countSteps.2.2.1 12 = .ok (.getfield 20, 3) := by decide +kernel
theorem d_Pa_countSteps_15 : decode Y_Pa_countSteps.2.2.1 15 = .ok (.iload_n 2, 1) := by decide +kernel
theorem d_Pa_countSteps_16 : decode Y_Pa_countSteps.2.2.1 16 = .ok (.iconst 0, 1) := by decide +kernel
theorem d_Pa_countSteps_17 : decode Y_Pa_countSteps.2.2.1 17 = .ok (.iastore, 1) := by decide +kernel
theorem d_Pa_countSteps_18 : decode Y_Pa_countSteps.2.2.1 18 = .ok (.iconst 1, 1) := by decide +kernel
theorem d_Pa_countSteps_19 : decode Y_Pa_countSteps.2.2.1 19 = .ok (.istore 4, 2) := by decide +kernel
theorem d_Pa_countSteps_21 : decode Y_Pa_countSteps.2.2.1 21 = .ok (.iload 4, 2) := by decide +kernel
theorem d_Pa_countSteps_23 : decode Y_Pa_countSteps.2.2.1 23 = .ok (.aload_n 0, 1) := by decide +kernel
theorem d_Pa_countSteps_24 : decode Y_Pa_countSteps.2.2.1 24 = .ok (.getfield 9, 3) := by decide +kernel
theorem d_Pa_countSteps_27 : decode Y_Pa_countSteps.2.2.1 27 = .ok (.if_icmp .ge 66, 3) := by decide +kernel
theorem d_Pa_countSteps_30 : decode Y_Pa_countSteps.2.2.1 30 = .ok (.iconst 0, 1) := by decide +kernel
theorem d_Pa_countSteps_31 : decode Y_Pa_countSteps.2.2.1 31 = .ok (.istore 5, 2) := by decide +kernel
theorem d_Pa_countSteps_33 : decode Y_Pa_countSteps.2.2.1 33 = .ok (.iload 5, 2) := by decide +kernel
theorem d_Pa_countSteps_35 : decode Y_Pa_countSteps.2.2.1 35 = .ok (.aload_n 0, 1) := by decide +kernel
theorem d_Pa_countSteps_36 : decode Y_Pa_countSteps.2.2.1 36 = .ok (.getfield 9, 3) := by decide +kernel
theorem d_Pa_countSteps_39 : decode Y_Pa_countSteps.2.2.1 39 = .ok (.if_icmp .ge 48, 3) := by decide +kernel
theorem d_Pa_countSteps_42 : decode Y_Pa_countSteps.2.2.1 42 = .ok (.aload_n 0, 1) := by decide +kernel
theorem d_Pa_countSteps_43 : decode Y_Pa_countSteps.2.2.1 43 = .ok (.getfield 20, 3) := by decide +kernel
theorem d_Pa_countSteps_46 : decode Y_Pa_countSteps.2.2.1 46 = .ok (.iload 5, 2) := by decide +kernel
theorem d_Pa_countSteps_48 : decode Y_Pa_countSteps.2.2.1 48 = .ok (.iaload, 1) := by decide +kernel
theorem d_Pa_countSteps_49 : decode Y_Pa_countSteps.2.2.1 49 = .ok (.aload_n 0, 1) := by decide +kernel
theorem d_Pa_countSteps_50 : decode Y_Pa_countSteps.2.2.1 50 = .ok (.getfield 9, 3) := by decide +kernel
theorem d_Pa_countSteps_53 : decode Y_Pa_countSteps.2.2.1 53 = .ok (.if_icmp .ne 28, 3) := by decide +kernel
theorem d_Pa_countSteps_56 : decode Y_Pa_countSteps.2.2.1 56 = .ok (.aload_n 0, 1) := by decide +kernel
theorem d_Pa_countSteps_57 : decode Y_Pa_countSteps.2.2.1 57 = .ok (.aload_n 1, 1) := by decide +kernel
theorem d_Pa_countSteps_58 : decode Y_Pa_countSteps.2.2.1 58 = .ok (.iload 5, 2) := by decide +kernel
theorem d_Pa_countSteps_60 : decode Y_Pa_countSteps.2.2.1 60 = .ok (.iload_n 3, 1) := by decide +kernel
theorem d_Pa_countSteps_61 : decode Y_Pa_countSteps.2.2.1 61 = .ok (.iload 4, 2) := by decide +kernel
theorem d_Pa_countSteps_63 : decode Y_Pa_countSteps.2.2.1 63 = .ok (.iconst 1, 1) := by decide +kernel
theorem d_Pa_countSteps_64 : decode Y_Pa_countSteps.2.2.1 64 = .ok (.isub, 1) := by decide +kernel
theorem d_Pa_countSteps_65 : decode Y_Pa_countSteps.2.2.1 65 = .ok (.invokevirtual 60, 3) := by decide +kernel
theorem d_Pa_countSteps_68 : decode Y_Pa_countSteps.2.2.1 68 = .ok (.iconst (-1), 1) := by decide +kernel
theorem d_Pa_countSteps_69 : decode Y_Pa_countSteps.2.2.1 69 = .ok (.if_icmp .eq 12, 3) := by decide +kernel
theorem d_Pa_countSteps_72 : decode Y_Pa_countSteps.2.2.1 72 = .ok (.aload_n 0, 1) := by decide +kernel
theorem d_Pa_countSteps_73 : decode Y_Pa_countSteps.2.2.1 73 = .ok (.getfield 20, 3) := by decide +kernel
theorem d_Pa_countSteps_76 : decode Y_Pa_countSteps.2.2.1 76 = .ok (.iload 5, 2) := by decide +kernel
theorem d_Pa_countSteps_78 : decode Y_Pa_countSteps.2.2.1 78 = .ok (.iload 4, 2) := by decide +kernel
theorem d_Pa_countSteps_80 : decode Y_Pa_countSteps.2.2.1 80 = .ok (.iastore, 1) := by decide +kernel
theorem d_Pa_countSteps_81 : decode Y_Pa_countSteps.2.2.1 81 = .ok (.iinc 5 1, 3) := by decide +kernel
theorem d_Pa_countSteps_84 : decode Y_Pa_countSteps.2.2.1 84 = .ok (.goto (-51), 3) := by decide +kernel
theorem d_Pa_countSteps_87 : decode Y_Pa_countSteps.2.2.1 87 = .ok (.iinc 4 1, 3) := by decide +kernel
theorem d_Pa_countSteps_90 : decode Y_Pa_countSteps.2.2.1 90 = .ok (.goto (-69), 3) := by decide +kernel
theorem d_Pa_countSteps_93 : decode Y_Pa_countSteps.2.2.1 93 = .ok (.return_, 1) := by decide +kernel
theorem d_Pa_nextTowards_0 : decode Y_Pa_nextTowards.2.2.1 0 = .ok (.aload_n 0, 1) := by decide +kernel
theorem d_Pa_nextTowards_1 : decode Y_Pa_nextTowards.2.2.1 1 = .ok (.aload_n 1, 1) := by decide +kernel
theorem d_Pa_nextTowards_2 : decode Y_Pa_nextTowards.2.2.1 2 = .ok (.iload_n 2, 1) := by decide +kernel
theorem d_Pa_nextTowards_3 : decode Y_Pa_nextTowards.2.2.1 3 = .ok (.iload_n 3, 1) := by decide +kernel
theorem d_Pa_nextTowards_4 : decode Y_Pa_nextTowards.2.2.1 4 = .ok (.aload_n 0, 1) := by decide +kernel
theorem d_Pa_nextTowards_5 : decode Y_Pa_nextTowards.2.2.1 5 = .ok (.getfield 20, 3) := by decide +kernel
theorem d_Pa_nextTowards_8 : decode Y_Pa_nextTowards.2.2.1 8 = .ok (.iload_n 2, 1) := by decide +kernel
theorem d_Pa_nextTowards_9 : decode Y_Pa_nextTowards.2.2.1 9 = .ok (.iaload, 1) := by decide +kernel
theorem d_Pa_nextTowards_10 : decode Y_Pa_nextTowards.2.2.1 10 = .ok (.iconst 1, 1) := by decide +kernel
theorem d_Pa_nextTowards_11 : decode Y_Pa_nextTowards.2.2.1 11 = .ok (.isub, 1) := by decide +kernel
theorem d_Pa_nextTowards_12 : decode Y_Pa_nextTowards.2.2.1 12 = .ok (.invokevirtual 60, 3) := by decide +kernel
theorem d_Pa_nextTowards_15 : decode Y_Pa_nextTowards.2.2.1 15 = .ok (.istore 4, 2) := by decide +kernel
theorem d_Pa_nextTowards_17 : decode Y_Pa_nextTowards.2.2.1 17 = .ok (.iload 4, 2) := by decide +kernel
theorem d_Pa_nextTowards_19 : decode Y_Pa_nextTowards.2.2.1 19 = .ok (.iconst (-1), 1) := by decide +kernel
theorem d_Pa_nextTowards_20 : decode Y_Pa_nextTowards.2.2.1 20 = .ok (.if_icmp .ne 7, 3) := by decide +kernel
theorem d_Pa_nextTowards_23 : decode Y_Pa_nextTowards.2.2.1 23 = .ok (.iload_n 2, 1) := by decide +kernel
theorem d_Pa_nextTowards_24 : decode Y_Pa_nextTowards.2.2.1 24 = .ok (.goto 5, 3) := by decide +kernel
theorem d_Pa_nextTowards_27 : decode Y_Pa_nextTowards.2.2.1 27 = .ok (.iload 4, 2) := by decide +kernel
theorem d_Pa_nextTowards_29 : decode Y_Pa_nextTowards.2.2.1 29 = .ok (.ireturn, 1) := by decide +kernel
theorem d_Pa_nextAt_0 : decode Y_Pa_nextAt.2.2.1 0 = .ok (.iconst 0, 1) := by decide +kernel
theorem d_Pa_nextAt_1 : decode Y_Pa_nextAt.2.2.1 1 = .ok (.istore 5, 2) := by decide +kernel
theorem d_Pa_nextAt_3 : decode Y_Pa_nextAt.2.2.1 3 = .ok (.iload 5, 2) := by decide +kernel
theorem d_Pa_nextAt_5 : decode Y_Pa_nextAt.2.2.1 5 = .ok (.aload_n 0, 1) := by decide +kernel
theorem d_Pa_nextAt_6 : decode Y_Pa_nextAt.2.2.1 6 = .ok (.getfield 9, 3) := by decide +kernel
theorem d_Pa_nextAt_9 : decode Y_Pa_nextAt.2.2.1 9 = .ok (.if_icmp .ge 35, 3) := by decide +kernel
theorem d_Pa_nextAt_12 : decode Y_Pa_nextAt.2.2.1 12 = .ok (.aload_n 0, 1) := by decide +kernel
theorem d_Pa_nextAt_13 : decode Y_Pa_nextAt.2.2.1 13 = .ok (.getfield 20, 3) := by decide +kernel
theorem d_Pa_nextAt_16 : decode Y_Pa_nextAt.2.2.1 16 = .ok (.iload 5, 2) := by decide +kernel
theorem d_Pa_nextAt_18 : decode Y_Pa_nextAt.2.2.1 18 = .ok (.iaload, 1) := by decide +kernel
theorem d_Pa_nextAt_19 : decode Y_Pa_nextAt.2.2.1 19 = .ok (.iload 4, 2) := by decide +kernel
theorem d_Pa_nextAt_21 : decode Y_Pa_nextAt.2.2.1 21 = .ok (.if_icmp .ne 17, 3) := by decide +kernel
theorem d_Pa_nextAt_24 : decode Y_Pa_nextAt.2.2.1 24 = .ok (.aload_n 1, 1) := by decide +kernel
theorem d_Pa_nextAt_25 : decode Y_Pa_nextAt.2.2.1 25 = .ok (.iload_n 2, 1) := by decide +kernel
theorem d_Pa_nextAt_26 : decode Y_Pa_nextAt.2.2.1 26 = .ok (.iload 5, 2) := by decide +kernel
theorem d_Pa_nextAt_28 : decode Y_Pa_nextAt.2.2.1 28 = .ok (.invokevirtual 24, 3) := by decide +kernel
theorem d_Pa_nextAt_31 : decode Y_Pa_nextAt.2.2.1 31 = .ok (.iload_n 3, 1) := by decide +kernel
theorem d_Pa_nextAt_32 : decode Y_Pa_nextAt.2.2.1 32 = .ok (.if_icmp .lt 6, 3) := by decide +kernel
theorem d_Pa_nextAt_35 : decode Y_Pa_nextAt.2.2.1 35 = .ok (.iload 5, 2) := by decide +kernel
theorem d_Pa_nextAt_37 : decode Y_Pa_nextAt.2.2.1 37 = .ok (.ireturn, 1) := by decide +kernel
theorem d_Pa_nextAt_38 : decode Y_Pa_nextAt.2.2.1 38 = .ok (.iinc 5 1, 3) := by decide +kernel
theorem d_Pa_nextAt_41 : decode Y_Pa_nextAt.2.2.1 41 = .ok (.goto (-38), 3) := by decide +kernel
theorem d_Pa_nextAt_44 : decode Y_Pa_nextAt.2.2.1 44 = .ok (.iconst (-1), 1) := by decide +kernel
theorem d_Pa_nextAt_45 : decode Y_Pa_nextAt.2.2.1 45 = .ok (.ireturn, 1) := by decide +kernel
end
section
/-! the launch, the classes, the array classes (0 int[], 1 boolean[], 2 long[], 3 Batch[], 4 int[][]) and the words as one; more views -/
abbrev bw_G (l : Launch) (D : va_G) (c : Nat → ClassId) : bj_G := (l, D, bw_cl, [(c 0, .int), (c 1, .boolean), (c 2, .long), (c 3, .object "BeatPathOffice$Batch"), (c 4, .array .int)], bw_TB)
theorem bj_inc1 (a : Nat) : nI a + Int32.ofInt 1 = nI (a + 1) := nI_1 a
theorem bj_dec1 {a : Nat} (h : 0 < a) : nI a + Int32.ofInt (-1) = nI (a - 1) := by
  have e : nI a + (-1) = nI (a - 1) := sb_m1 h
  exact e
section BV2
def bv_R (cA : ClassId) (M : bj_M) (k N : Nat) (g : Nat → Nat) : Prop := ∃ f : Nat → Option Nat, M k = some (.inl (cA, N, .inr (.inr (.inr (.inr f))))) ∧ ∀ j, j < N → f j = some (g j)
theorem bv_R.in {cA : ClassId} {M M' : bj_M} {k N : Nat} {g : Nat → Nat} (h : bv_R cA M k N g) (e : M' k = M k) : bv_R cA M' k N g := by
  obtain ⟨f, h1, h2⟩ := h
  exact ⟨f, e.trans h1, h2⟩
variable {G : bj_G} {Y : bj_Y} {n : Nat} {K : bj_K} {ad : Nat → Nat} {Q : bj_R → bj_M → Prop} {cs sl pc : Nat} {L : List (Option Value)} {st : List Value} {M : bj_M}
theorem bv_aald {k j N : Nat} {cA : ClassId} {ty : FieldType} {g : Nat → Nat} (d : decode Y.2.2.1 pc = .ok (.aaload, 1)) (t : Nat) (ht : G.2.2.2.1[t]? = some (cA, ty)) (hty : ty.isReference = true) (h : bv_R cA M k N g) (hj : j < N) (hN : N < 2 ^ 31)
    (kk : bj_S G Y n K ad Q cs sl (pc + 1) L (.ref (g j) :: st) M) : bj_S G Y n K ad Q cs sl pc L (.int (nI j) :: .ref (ad k) :: st) M := by
  obtain ⟨f, h1, h2⟩ := h
  exact bj_aald d t ht hty h1 rfl hj hN (h2 j hj) kk
/-- a count: its number of candidates, its voters, its grid -/
def co_ok (c : Nat → ClassId) (ad : Nat → Nat) (M : bj_M) (k N : Nat) (vs : Int32) (P : Nat → Nat → Int32) : Prop := M k = some (.inr (2, [.int (nI N), .int vs, .ref (ad (k + 1))])) ∧ bv_R (c 4) M (k + 1) N (fun i => ad (k + 2 + i)) ∧ ∀ a, a < N → bv_I (c 0) M (k + 2 + a) N (P a)
end BV2
end
section
/-! the class's small methods: nibble, has, comesBefore, direct (walks by gen/m_co1.py) -/
section C1
variable (l : Launch) (D : va_G) (c : Nat → ClassId) (ad : Nat → Nat) (M : bj_M)
theorem bt_t {b : Bool} (h : b = true) : (some (.int (nI 1)) : Option Value) = some (.int (bt_n b)) := by rw [h]; rfl
theorem bt_f {b : Bool} (h : b = false) : (some (.int (nI 0)) : Option Value) = some (.int (bt_n b)) := by rw [h]; rfl
set_option maxRecDepth 100000 in
set_option maxHeartbeats 4000000 in
/-- four bits of a word -/
theorem t_Of_nibble {w : Int32} {i : Nat} (hi : i < 8) : bj_T (bw_G l D c) Y_Of_nibble 0 (0, 0, 0, 0) ad (bj_fn (nI (nb w i)) M) [.int w, .int (nI i)] M := by
  show bj_S _ _ _ _ _ _ 0 0 0 [some (.int w), some (.int (nI i))] [] M
  refine bj_iload_n d_Of_nibble_0 rfl rfl ?_
  refine bj_iconst (v := (nI 4)) d_Of_nibble_1 (by decide) ?_
  refine bj_iload_n d_Of_nibble_2 rfl rfl ?_
  refine bj_imul (v := (nI (4 * i))) d_Of_nibble_3 (pk_mul _ _) ?_
  refine bj_iushr (v := (w.toUInt32 >>> ((nI (4 * i)).toUInt32 &&& Int32.toUInt32 31)).toInt32) d_Of_nibble_4 rfl ?_
  refine bj_bipush (v := (nI 15)) d_Of_nibble_5 (by decide) ?_
  refine bj_iand (v := (nI (nb w i))) d_Of_nibble_7 (nb_get w hi) ?_
  exact bj_iret d_Of_nibble_8 rfl rfl (Nat.le_refl _) (Nat.le_refl _) ⟨rfl, rfl⟩
theorem bt_nn {b : Bool} (h : ¬ bt_n b = 0) : b = true := by cases b with
  | true => rfl
  | false => exact absurd rfl h
set_option maxRecDepth 100000 in
set_option maxHeartbeats 4000000 in
/-- one bit of a set -/
theorem t_Of_has {w : Int32} {i : Nat} (hi : i < 32) : bj_T (bw_G l D c) Y_Of_has 0 (0, 0, 0, 0) ad (bj_fn (bt_n (bt w i)) M) [.int w, .int (nI i)] M := by
  show bj_S _ _ _ _ _ _ 0 0 0 [some (.int w), some (.int (nI i))] [] M
  refine bj_iload_n d_Of_has_0 rfl rfl ?_
  refine bj_iload_n d_Of_has_1 rfl rfl ?_
  refine bj_iushr (v := (w.toUInt32 >>> ((nI i).toUInt32 &&& Int32.toUInt32 31)).toInt32) d_Of_has_2 rfl ?_
  refine bj_iconst (v := (nI 1)) d_Of_has_3 (by decide) ?_
  refine bj_iand (v := (bt_n (bt w i))) d_Of_has_4 (bt_has w hi) ?_
  refine bj_if_eq (tgt := 12) d_Of_has_5 (by decide) (fun h5 => ?_) (fun h5 => ?_)
  · have e := bt_n0.mp h5
    refine bj_iconst (v := (nI 0)) d_Of_has_12 (by decide) ?_
    exact bj_iret d_Of_has_13 rfl rfl (Nat.le_refl _) (Nat.le_refl _) ⟨by rw [e]; rfl, rfl⟩
  · have e := bt_nn h5
    refine bj_iconst (v := (nI 1)) d_Of_has_8 (by decide) ?_
    refine bj_goto (tgt := 13) d_Of_has_9 (by decide) ?_
    exact bj_iret d_Of_has_13 rfl rfl (Nat.le_refl _) (Nat.le_refl _) ⟨by rw [e]; rfl, rfl⟩
/-- whether a ranking has a before b -/
def bef (w : Int32) (a b : Nat) : Bool := nb w a != 0 && (nb w b == 0 || decide (nb w a < nb w b))
set_option maxRecDepth 100000 in
set_option maxHeartbeats 4000000 in
/-- comesBefore -/
theorem t_Co_comesBefore {w : Int32} {a b : Nat} (ha : a < 8) (hb : b < 8) : bj_T (bw_G l D c) Y_Co_comesBefore 1 (0, 0, 0, 0) ad (bj_fn (bt_n (bef w a b)) M) [.int w, .int (nI a), .int (nI b)] M := by
  show bj_S _ _ _ _ _ _ 0 0 0 [some (.int w), some (.int (nI a)), some (.int (nI b)), none, none] [] M
  refine bj_iload_n d_Co_comesBefore_0 rfl rfl ?_
  refine bj_iload_n d_Co_comesBefore_1 rfl rfl ?_
  refine bj_cnF sn_Co_49 d_Co_comesBefore_2 (t_Of_nibble l D c ad M ha) rfl rfl (by decide) (by decide) (by decide) (Nat.le_of_ble_eq_true rfl) rfl ?_
  refine bj_istore_n (L' := [some (.int w), some (.int (nI a)), some (.int (nI b)), some (.int (nI (nb w a))), none]) d_Co_comesBefore_5 rfl (by decide) rfl ?_
  refine bj_iload_n d_Co_comesBefore_6 rfl rfl ?_
  refine bj_iload_n d_Co_comesBefore_7 rfl rfl ?_
  refine bj_cnF sn_Co_49 d_Co_comesBefore_8 (t_Of_nibble l D c ad M hb) rfl rfl (by decide) (by decide) (by decide) (Nat.le_of_ble_eq_true rfl) rfl ?_
  refine bj_istore (L' := [some (.int w), some (.int (nI a)), some (.int (nI b)), some (.int (nI (nb w a))), some (.int (nI (nb w b)))]) d_Co_comesBefore_11 (by decide) rfl ?_
  refine bj_iload_n d_Co_comesBefore_13 rfl rfl ?_
  refine bj_if_eqN (tgt := 32) d_Co_comesBefore_14 (by decide) (by have := nb_lt w a; have := nb_lt w b; omega) (fun h14 => ?_) (fun h14 => ?_)
  · refine bj_iconst (v := (nI 0)) d_Co_comesBefore_32 (by decide) ?_
    exact bj_iret d_Co_comesBefore_33 rfl rfl (Nat.le_refl _) (Nat.le_refl _) ⟨bt_f (by simp [bef]; omega), rfl⟩
  · refine bj_iload d_Co_comesBefore_17 rfl ?_
    refine bj_if_eqN (tgt := 28) d_Co_comesBefore_19 (by decide) (by have := nb_lt w a; have := nb_lt w b; omega) (fun h19 => ?_) (fun h19 => ?_)
    · refine bj_iconst (v := (nI 1)) d_Co_comesBefore_28 (by decide) ?_
      refine bj_goto (tgt := 33) d_Co_comesBefore_29 (by decide) ?_
      exact bj_iret d_Co_comesBefore_33 rfl rfl (Nat.le_refl _) (Nat.le_refl _) ⟨bt_t (by simp [bef]; omega), rfl⟩
    · refine bj_iload_n d_Co_comesBefore_22 rfl rfl ?_
      refine bj_iload d_Co_comesBefore_23 rfl ?_
      refine bj_icmp_geN (tgt := 32) d_Co_comesBefore_25 (by decide) (by have := nb_lt w a; have := nb_lt w b; omega) (by have := nb_lt w a; have := nb_lt w b; omega) (fun h25 => ?_) (fun h25 => ?_)
      · refine bj_iconst (v := (nI 0)) d_Co_comesBefore_32 (by decide) ?_
        exact bj_iret d_Co_comesBefore_33 rfl rfl (Nat.le_refl _) (Nat.le_refl _) ⟨bt_f (by simp [bef]; omega), rfl⟩
      · refine bj_iconst (v := (nI 1)) d_Co_comesBefore_28 (by decide) ?_
        refine bj_goto (tgt := 33) d_Co_comesBefore_29 (by decide) ?_
        exact bj_iret d_Co_comesBefore_33 rfl rfl (Nat.le_refl _) (Nat.le_refl _) ⟨bt_t (by simp [bef]; omega), rfl⟩
/-- the direct strength, as ints -/
def dir (P : Nat → Nat → Int32) (a b : Nat) : Int32 := if P b a < P a b then P a b else 0
set_option maxRecDepth 100000 in
set_option maxHeartbeats 4000000 in
/-- direct -/
theorem t_Co_direct {k N a b : Nat} {vs : Int32} {P : Nat → Nat → Int32} (h : co_ok c ad M k N vs P) (hN : N ≤ 8) (ha : a < N) (hb : b < N) : bj_T (bw_G l D c) Y_Co_direct 0 (0, 0, 0, 0) ad (bj_fn (dir P a b) M) [.ref (ad k), .int (nI a), .int (nI b)] M := by
  show bj_S _ _ _ _ _ _ 0 0 0 [some (.ref (ad k)), some (.int (nI a)), some (.int (nI b))] [] M
  refine bj_aload_n d_Co_direct_0 rfl rfl ?_
  refine bj_get d_Co_direct_1 in_Co rfl (by decide : 2 < 3) wf_Co_20 rfl h.1 rfl ?_
  refine bj_iload_n d_Co_direct_4 rfl rfl ?_
  refine bv_aald d_Co_direct_5 4 rfl rfl h.2.1 (by omega) (by omega) ?_
  refine bj_iload_n d_Co_direct_6 rfl rfl ?_
  refine bv_iald d_Co_direct_7 0 rfl (h.2.2 a ha) (by omega) (by omega) rfl ?_
  refine bj_aload_n d_Co_direct_8 rfl rfl ?_
  refine bj_get d_Co_direct_9 in_Co rfl (by decide : 2 < 3) wf_Co_20 rfl h.1 rfl ?_
  refine bj_iload_n d_Co_direct_12 rfl rfl ?_
  refine bv_aald d_Co_direct_13 4 rfl rfl h.2.1 (by omega) (by omega) ?_
  refine bj_iload_n d_Co_direct_14 rfl rfl ?_
  refine bv_iald d_Co_direct_15 0 rfl (h.2.2 b hb) (by omega) (by omega) rfl ?_
  refine bj_icmp_le (tgt := 30) d_Co_direct_16 (by decide) (fun h16 => ?_) (fun h16 => ?_)
  · refine bj_iconst (v := (nI 0)) d_Co_direct_30 (by decide) ?_
    exact bj_iret d_Co_direct_31 rfl rfl (Nat.le_refl _) (Nat.le_refl _) ⟨by first | (rw [dir, if_pos (Int32.not_le.mp h16)]) | (rw [dir, if_neg (Int32.not_lt.mpr h16)]; rfl), rfl⟩
  · refine bj_aload_n d_Co_direct_19 rfl rfl ?_
    refine bj_get d_Co_direct_20 in_Co rfl (by decide : 2 < 3) wf_Co_20 rfl h.1 rfl ?_
    refine bj_iload_n d_Co_direct_23 rfl rfl ?_
    refine bv_aald d_Co_direct_24 4 rfl rfl h.2.1 (by omega) (by omega) ?_
    refine bj_iload_n d_Co_direct_25 rfl rfl ?_
    refine bv_iald d_Co_direct_26 0 rfl (h.2.2 a ha) (by omega) (by omega) rfl ?_
    refine bj_goto (tgt := 31) d_Co_direct_27 (by decide) ?_
    exact bj_iret d_Co_direct_31 rfl rfl (Nat.le_refl _) (Nat.le_refl _) ⟨by first | (rw [dir, if_pos (Int32.not_le.mp h16)]) | (rw [dir, if_neg (Int32.not_lt.mpr h16)]; rfl), rfl⟩
end C1
end
section
/-! Count.add, putIn, takeOut (walks by gen/m_co2.py) -/
section C2
/-- cells outside a count stay -/
def co_fr (k N : Nat) (M M' : bj_M) : Prop := ∀ q, ¬ (k ≤ q ∧ q < k + 2 + N) → M' q = M q
theorem co_fr.rf {k N : Nat} {M : bj_M} : co_fr k N M M := fun _ _ => rfl
theorem co_fr.tr {k N : Nat} {M M' M'' : bj_M} (h : co_fr k N M M') (h' : co_fr k N M' M'') : co_fr k N M M'' := fun q hq => (h' q hq).trans (h q hq)
theorem co_fr.at {k N j : Nat} {M M' M'' : bj_M} (h : co_fr k N M M') (hj : k ≤ j ∧ j < k + 2 + N) (ho : ∀ q, q ≠ j → M'' q = M' q) : co_fr k N M M'' := fun q hq => (ho q (fun e => hq (by rw [e]; exact hj))).trans (h q hq)
theorem co_ok.to {c : Nat → ClassId} {ad : Nat → Nat} {M : bj_M} {k N : Nat} {vs : Int32} {P P' : Nat → Nat → Int32} (h : co_ok c ad M k N vs P) (e : ∀ a b, a < N → b < N → P a b = P' a b) : co_ok c ad M k N vs P' := ⟨h.1, h.2.1, fun a ha => (h.2.2 a ha).to (fun b hb => e a b ha hb)⟩
theorem co_ok.in {c : Nat → ClassId} {ad : Nat → Nat} {M M' : bj_M} {k N : Nat} {vs : Int32} {P : Nat → Nat → Int32} (h : co_ok c ad M k N vs P) (e : ∀ q, k ≤ q → q < k + 2 + N → M' q = M q) : co_ok c ad M' k N vs P := ⟨(e k (by omega) (by omega)).trans h.1, h.2.1.in (e _ (by omega) (by omega)), fun a ha => (h.2.2 a ha).in (e _ (by omega) (by omega))⟩
/-- one row of the grid is written -/
theorem co_ok.row {c : Nat → ClassId} {ad : Nat → Nat} {M M' : bj_M} {k N a : Nat} {vs : Int32} {P : Nat → Nat → Int32} {g : Nat → Int32} (h : co_ok c ad M k N vs P) (ha : a < N) (hr : bv_I (c 0) M' (k + 2 + a) N g) (ho : ∀ q, q ≠ k + 2 + a → M' q = M q) : co_ok c ad M' k N vs (va_up P a g) := by
  refine ⟨(ho k (by omega)).trans h.1, h.2.1.in (ho _ (by omega)), fun i hi => ?_⟩
  by_cases e : i = a
  · subst e
    rw [va_up_self]
    exact hr
  · rw [va_up_ne _ _ e]
    exact (h.2.2 i hi).in (ho _ (by omega))
theorem co_ok.vs {c : Nat → ClassId} {ad : Nat → Nat} {M : bj_M} {k N : Nat} {vs vs' : Int32} {P : Nat → Nat → Int32} (h : co_ok c ad M k N vs P) : co_ok c ad (va_up M k (some (.inr (2, [.int (nI N), .int vs', .ref (ad (k + 1))])))) k N vs' P :=
  ⟨va_up_self _ _ _, h.2.1.in (va_up_ne _ _ (by omega)), fun a ha => (h.2.2 a ha).in (va_up_ne _ _ (by omega))⟩
/-- v voters more with the ranking w -/
def co_add (w v : Int32) (P : Nat → Nat → Int32) (a b : Nat) : Int32 := P a b + (if bef w a b = true then v else 0)
/-- the same, as far as row a0, place b0 -/
def co_mid (w v : Int32) (P : Nat → Nat → Int32) (a0 b0 a b : Nat) : Int32 := if a < a0 ∨ (a = a0 ∧ b < b0) then co_add w v P a b else P a b
def q_Co_add (c : Nat → ClassId) (ad : Nat → Nat) (M : bj_M) (k N : Nat) (vs : Int32) (P : Nat → Nat → Int32) (w v : Int32) : bj_R → bj_M → Prop := bj_ret (fun r M' => r = none ∧ co_ok c ad M' k N (vs + v) (co_add w v P) ∧ co_fr k N M M')
variable (l : Launch) (D : va_G) (c : Nat → ClassId) (ad : Nat → Nat) (M : bj_M)
theorem co_mid_put {w v : Int32} {P : Nat → Nat → Int32} {a0 b0 : Nat} (h : bef w a0 b0 = true) (a b : Nat) : va_up (co_mid w v P a0 b0) a0 (va_up (co_mid w v P a0 b0 a0) b0 (co_mid w v P a0 b0 a0 b0 + v)) a b = co_mid w v P a0 (b0 + 1) a b := by
  by_cases e : a = a0
  · subst e
    rw [va_up_self]
    by_cases e2 : b = b0
    · subst e2
      rw [va_up_self]
      simp [co_mid, co_add, h]
    · rw [va_up_ne _ _ e2]
      unfold co_mid
      by_cases h2 : b < b0
      · rw [if_pos (Or.inr ⟨rfl, h2⟩), if_pos (Or.inr ⟨rfl, by omega⟩)]
      · rw [if_neg (by omega), if_neg (by omega)]
  · rw [va_up_ne _ _ e]
    unfold co_mid
    by_cases h2 : a < a0
    · rw [if_pos (Or.inl h2), if_pos (Or.inl h2)]
    · rw [if_neg (by omega), if_neg (by omega)]
theorem co_mid_no {w v : Int32} {P : Nat → Nat → Int32} {a0 b0 : Nat} (h : bef w a0 b0 = false) (a b : Nat) : co_mid w v P a0 b0 a b = co_mid w v P a0 (b0 + 1) a b := by
  unfold co_mid
  by_cases e : a = a0 ∧ b = b0
  · obtain ⟨rfl, rfl⟩ := e
    rw [if_neg (by omega), if_pos (Or.inr ⟨rfl, by omega⟩)]
    simp [co_add, h]
  · by_cases h2 : a < a0 ∨ (a = a0 ∧ b < b0)
    · rw [if_pos h2, if_pos (by omega)]
    · rw [if_neg h2, if_neg (by omega)]
theorem co_mid_next {w v : Int32} {P : Nat → Nat → Int32} {a0 b0 a b N : Nat} (h : N ≤ b0) (hb : b < N) : co_mid w v P a0 b0 a b = co_mid w v P (a0 + 1) 0 a b := by
  unfold co_mid
  by_cases h2 : a < a0 ∨ (a = a0 ∧ b < b0)
  · rw [if_pos h2, if_pos (by omega)]
  · rw [if_neg h2, if_neg (by omega)]
set_option maxRecDepth 100000 in
set_option maxHeartbeats 4000000 in
/-- add: the ranking's voters come to the count -/
theorem t_Co_add {k N : Nat} {vs w v : Int32} {P : Nat → Nat → Int32} (h : co_ok c ad M k N vs P) (hN : N ≤ 8) : bj_T (bw_G l D c) Y_Co_add 2 (0, 0, 0, 0) ad (q_Co_add c ad M k N vs P w v) [.ref (ad k), .int w, .int v] M := by
  show bj_S _ _ _ _ _ _ 0 0 0 [some (.ref (ad k)), some (.int w), some (.int v), none, none] [] M
  refine bj_aload_n d_Co_add_0 rfl rfl ?_
  refine bj_dup d_Co_add_1 rfl ?_
  refine bj_get d_Co_add_2 in_Co rfl (by decide : 1 < 3) wf_Co_15 rfl h.1 rfl ?_
  refine bj_iload_n d_Co_add_5 rfl rfl ?_
  refine bj_iadd (v := (vs + v)) d_Co_add_6 rfl ?_
  refine bj_put d_Co_add_7 in_Co ok_Co nm_Co rfl (by decide : 1 < 3) wf_Co_15 rfl rfl rfl rfl rfl (Nat.le_of_ble_eq_true rfl) h.1 ?_
  have h1 := h.vs (vs' := vs + v)
  have hf1 : co_fr k N M (va_up M k (some (.inr (2, [.int (nI N), .int (vs + v), .ref (ad (k + 1))])))) := fun q hq => va_up_ne _ _ (by omega)
  show bj_S _ _ _ _ _ _ 0 0 _ _ [] (va_up M k (some (.inr (2, [.int (nI N), .int (vs + v), .ref (ad (k + 1))]))))
  generalize va_up M k (some (.inr (2, [.int (nI N), .int (vs + v), .ref (ad (k + 1))]))) = M1 at h1 hf1 ⊢
  refine bj_iconst (v := (nI 0)) d_Co_add_10 (by decide) ?_
  refine bj_istore_n (L' := [some (.ref (ad k)), some (.int w), some (.int v), some (.int (nI 0)), none]) d_Co_add_11 rfl (by decide) rfl ?_
  have outer : ∀ (a0 : Nat) (x : Option Value) (M2 : bj_M), a0 ≤ N → co_ok c ad M2 k N (vs + v) (co_mid w v P a0 0) → co_fr k N M M2 → bj_S (bw_G l D c) Y_Co_add 2 (0, 0, 0, 0) ad (q_Co_add c ad M k N vs P w v) 0 0 12 [some (.ref (ad k)), some (.int w), some (.int v), some (.int (nI a0)), x] [] M2 := by
    intro a0 x M2
    induction hd : N - a0 using Nat.strongRecOn generalizing a0 x M2 with
    | ind d ih =>
      intro ha0 h2 hf
      refine bj_iload_n d_Co_add_12 rfl rfl ?_
      refine bj_aload_n d_Co_add_13 rfl rfl ?_
      refine bj_get d_Co_add_14 in_Co rfl (by decide : 0 < 3) wf_Co_9 rfl h2.1 rfl ?_
      refine bj_icmp_geN (tgt := 67) d_Co_add_17 (by decide) (by omega) (by omega) (fun h17 => ?_) (fun h17 => ?_)
      · exact bj_vret d_Co_add_67 rfl (Nat.le_refl _) (Nat.le_refl _) ⟨rfl, h2.to (fun a b ha hb => by rw [co_mid, if_pos (Or.inl (by omega))]), hf⟩
      · refine bj_iconst (v := (nI 0)) d_Co_add_20 (by decide) ?_
        refine bj_istore (L' := [some (.ref (ad k)), some (.int w), some (.int v), some (.int (nI a0)), some (.int (nI 0))]) d_Co_add_21 (by decide) rfl ?_
        have inner : ∀ (b0 : Nat) (M3 : bj_M), b0 ≤ N → co_ok c ad M3 k N (vs + v) (co_mid w v P a0 b0) → co_fr k N M M3 → bj_S (bw_G l D c) Y_Co_add 2 (0, 0, 0, 0) ad (q_Co_add c ad M k N vs P w v) 0 0 23 [some (.ref (ad k)), some (.int w), some (.int v), some (.int (nI a0)), some (.int (nI b0))] [] M3 := by
          intro b0 M3
          induction hd2 : N - b0 using Nat.strongRecOn generalizing b0 M3 with
          | ind d2 ih2 =>
            intro hb0 h3 hf3
            refine bj_iload d_Co_add_23 rfl ?_
            refine bj_aload_n d_Co_add_25 rfl rfl ?_
            refine bj_get d_Co_add_26 in_Co rfl (by decide : 0 < 3) wf_Co_9 rfl h3.1 rfl ?_
            refine bj_icmp_geN (tgt := 61) d_Co_add_29 (by decide) (by omega) (by omega) (fun h29 => ?_) (fun h29 => ?_)
            · refine bj_iinc (v := (nI (a0 + 1))) (L' := [some (.ref (ad k)), some (.int w), some (.int v), some (.int (nI (a0 + 1))), some (.int (nI b0))]) d_Co_add_61 rfl (bj_inc1 _) (by decide) rfl ?_
              refine bj_goto (tgt := 12) d_Co_add_64 (by decide) ?_
              exact ih (N - (a0 + 1)) (by omega) (a0 + 1) _ M3 rfl (by omega) (h3.to (fun a b ha hb => co_mid_next (by omega) (by omega))) hf3
            · refine bj_iload_n d_Co_add_32 rfl rfl ?_
              refine bj_iload_n d_Co_add_33 rfl rfl ?_
              refine bj_iload d_Co_add_34 rfl ?_
              refine bj_csF ss_Co_45 d_Co_add_36 (t_Co_comesBefore l D c ad M3 (by omega) (by omega)) rfl rfl (by decide) (by decide) (by decide) (Nat.le_of_ble_eq_true rfl) rfl ?_
              refine bj_if_eq (tgt := 55) d_Co_add_39 (by decide) (fun h39 => ?_) (fun h39 => ?_)
              · have e := bt_n0.mp h39
                refine bj_iinc (v := (nI (b0 + 1))) (L' := [some (.ref (ad k)), some (.int w), some (.int v), some (.int (nI a0)), some (.int (nI (b0 + 1)))]) d_Co_add_55 rfl (bj_inc1 _) (by decide) rfl ?_
                refine bj_goto (tgt := 23) d_Co_add_58 (by decide) ?_
                exact ih2 (N - (b0 + 1)) (by omega) (b0 + 1) M3 rfl (by omega) (h3.to (fun a b ha hb => co_mid_no (by assumption) a b)) hf3
              · have e := bt_nn h39
                refine bj_aload_n d_Co_add_42 rfl rfl ?_
                refine bj_get d_Co_add_43 in_Co rfl (by decide : 2 < 3) wf_Co_20 rfl h3.1 rfl ?_
                refine bj_iload_n d_Co_add_46 rfl rfl ?_
                refine bv_aald d_Co_add_47 4 rfl rfl h3.2.1 (by omega) (by omega) ?_
                refine bj_iload d_Co_add_48 rfl ?_
                refine bj_dup2 d_Co_add_50 rfl rfl ?_
                refine bv_iald d_Co_add_51 0 rfl (h3.2.2 a0 (by omega)) (by omega) (by omega) rfl ?_
                refine bj_iload_n d_Co_add_52 rfl rfl ?_
                refine bj_iadd (v := ((co_mid w v P a0 b0 a0 b0) + v)) d_Co_add_53 rfl ?_
                refine bv_iast d_Co_add_54 0 rfl (h3.2.2 a0 (by omega)) (by omega) (by omega) (fun N1 hN1 hO1 => ?_)
                have h4 := h3.row (by omega) hN1 hO1
                have hf4 := hf3.at (by omega) hO1
                refine bj_iinc (v := (nI (b0 + 1))) (L' := [some (.ref (ad k)), some (.int w), some (.int v), some (.int (nI a0)), some (.int (nI (b0 + 1)))]) d_Co_add_55 rfl (bj_inc1 _) (by decide) rfl ?_
                refine bj_goto (tgt := 23) d_Co_add_58 (by decide) ?_
                exact ih2 (N - (b0 + 1)) (by omega) (b0 + 1) N1 rfl (by omega) (h4.to (fun a b ha hb => co_mid_put (by assumption) a b)) hf4
        exact inner 0 M2 (Nat.zero_le _) h2 hf
        
  exact outer 0 none M1 (Nat.zero_le _) (h1.to (fun a b _ _ => by rw [co_mid, if_neg (by omega)])) hf1
  
end C2
end
section
/-! Count.putIn, takeOut (walks by gen/m_co3.py) -/
section C3
/-- a batch: its stage, its ballots -/
def ba_ok (c : Nat → ClassId) (ad : Nat → Nat) (M : bj_M) (k kr kt : Nat) (sg : Int32) (sz : Nat) (rk tm : Nat → Int32) : Prop := M k = some (.inr (0, [.int sg, .int (nI sz), .ref (ad kr), .ref (ad kt)])) ∧ bv_I (c 0) M kr 6 rk ∧ bv_I (c 0) M kt 6 tm
theorem ba_ok.in {c : Nat → ClassId} {ad : Nat → Nat} {M M' : bj_M} {k kr kt : Nat} {sg : Int32} {sz : Nat} {rk tm : Nat → Int32} (h : ba_ok c ad M k kr kt sg sz rk tm) (e1 : M' k = M k) (e2 : M' kr = M kr) (e3 : M' kt = M kt) : ba_ok c ad M' k kr kt sg sz rk tm := ⟨e1.trans h.1, h.2.1.in e2, h.2.2.in e3⟩
/-- all ballots of a batch come to a count -/
def co_sum (rk tm : Nat → Int32) (P : Nat → Nat → Int32) : Nat → Nat → Nat → Int32
  | 0 => P
  | i + 1 => co_add (rk i) (tm i) (co_sum rk tm P i)
def co_vs (tm : Nat → Int32) (vs : Int32) : Nat → Int32
  | 0 => vs
  | i + 1 => co_vs tm vs i + tm i
def q_Co_putIn (c : Nat → ClassId) (ad : Nat → Nat) (M : bj_M) (k N : Nat) (vs : Int32) (P : Nat → Nat → Int32) (rk tm : Nat → Int32) (sz : Nat) : bj_R → bj_M → Prop := bj_ret (fun r M' => r = none ∧ co_ok c ad M' k N (co_vs tm vs sz) (co_sum rk tm P sz) ∧ co_fr k N M M')
variable (l : Launch) (D : va_G) (c : Nat → ClassId) (ad : Nat → Nat) (M : bj_M)
set_option maxRecDepth 100000 in
set_option maxHeartbeats 4000000 in
/-- putIn: the ballots of a batch -/
theorem t_Co_putIn {k N kb kr kt sz : Nat} {vs sg : Int32} {P : Nat → Nat → Int32} {rk tm : Nat → Int32} (h : co_ok c ad M k N vs P) (hN : N ≤ 8) (hb : ba_ok c ad M kb kr kt sg sz rk tm) (hsz : sz ≤ 6) (h1 : kb < k) (h2 : kr < k) (h3 : kt < k) : bj_T (bw_G l D c) Y_Co_putIn 3 (0, 0, 0, 0) ad (q_Co_putIn c ad M k N vs P rk tm sz) [.ref (ad k), .ref (ad kb)] M := by
  show bj_S _ _ _ _ _ _ 0 0 0 [some (.ref (ad k)), some (.ref (ad kb)), none] [] M
  refine bj_iconst (v := (nI 0)) d_Co_putIn_0 (by decide) ?_
  refine bj_istore_n (L' := [some (.ref (ad k)), some (.ref (ad kb)), some (.int (nI 0))]) d_Co_putIn_1 rfl (by decide) rfl ?_
  have lp : ∀ (i : Nat), ∀ (M2 : bj_M), (i ≤ sz) → (co_ok c ad M2 k N (co_vs tm vs i) (co_sum rk tm P i)) → (co_fr k N M M2) → bj_S (bw_G l D c) Y_Co_putIn 3 (0, 0, 0, 0) ad (q_Co_putIn c ad M k N vs P rk tm sz) 0 0 2 [some (.ref (ad k)), some (.ref (ad kb)), some (.int (nI i))] [] M2 := by
    intro i M2
    induction hd_lp : sz - i using Nat.strongRecOn generalizing i M2 with
    | ind d_lp ih_lp =>
      intro hi h2c hf
      have hb2 : ba_ok c ad M2 kb kr kt sg sz rk tm := hb.in (hf _ (by omega)) (hf _ (by omega)) (hf _ (by omega))
      refine bj_iload_n d_Co_putIn_2 rfl rfl ?_
      refine bj_aload_n d_Co_putIn_3 rfl rfl ?_
      refine bj_getN d_Co_putIn_4 in_Ba rfl (by decide : 1 < 4) wf_Co_29 rfl hb2.1 rfl ?_
      refine bj_icmp_geN (tgt := 32) d_Co_putIn_7 (by decide) (by omega) (by omega) (fun h7 => ?_) (fun h7 => ?_)
      · exact bj_vret d_Co_putIn_32 rfl (Nat.le_refl _) (Nat.le_refl _) ⟨rfl, by rw [show sz = i by omega]; exact h2c, hf⟩
      · refine bj_aload_n d_Co_putIn_10 rfl rfl ?_
        refine bj_aload_n d_Co_putIn_11 rfl rfl ?_
        refine bj_getN d_Co_putIn_12 in_Ba rfl (by decide : 2 < 4) wf_Co_34 rfl hb2.1 rfl ?_
        refine bj_iload_n d_Co_putIn_15 rfl rfl ?_
        refine bv_iald d_Co_putIn_16 0 rfl hb2.2.1 (by omega) (by omega) rfl ?_
        refine bj_aload_n d_Co_putIn_17 rfl rfl ?_
        refine bj_getN d_Co_putIn_18 in_Ba rfl (by decide : 3 < 4) wf_Co_38 rfl hb2.1 rfl ?_
        refine bj_iload_n d_Co_putIn_21 rfl rfl ?_
        refine bv_iald d_Co_putIn_22 0 rfl hb2.2.2 (by omega) (by omega) rfl ?_
        refine bj_cvR sv_Co_41 d_Co_putIn_23 (t_Co_add l D c ad M2 h2c hN) rfl rfl (by decide) (by decide) (by decide) (Nat.le_of_ble_eq_true rfl) rfl h2c.1 rfl rfl (fun v1 N1 hq1 => ?_)
        obtain ⟨rfl, hc1, hf1⟩ := hq1
        show bj_S (bw_G l D c) Y_Co_putIn 3 (0, 0, 0, 0) ad (q_Co_putIn c ad M k N vs P rk tm sz) 0 0 26 [some (.ref (ad k)), some (.ref (ad kb)), some (.int (nI i))] [] N1
        refine bj_iinc (v := (nI (i + 1))) (L' := [some (.ref (ad k)), some (.ref (ad kb)), some (.int (nI (i + 1)))]) d_Co_putIn_26 rfl (bj_inc1 _) (by decide) rfl ?_
        refine bj_goto (tgt := 2) d_Co_putIn_29 (by decide) ?_
        exact ih_lp (sz - (i + 1)) (by omega) (i + 1) N1 rfl (by omega) hc1 (hf.tr hf1)
  exact lp 0 M (Nat.zero_le _) h co_fr.rf
set_option maxRecDepth 100000 in
set_option maxHeartbeats 4000000 in
/-- takeOut: the ballots of a batch -/
theorem t_Co_takeOut {k N kb kr kt sz : Nat} {vs sg : Int32} {P : Nat → Nat → Int32} {rk tm : Nat → Int32} (h : co_ok c ad M k N vs P) (hN : N ≤ 8) (hb : ba_ok c ad M kb kr kt sg sz rk tm) (hsz : sz ≤ 6) (h1 : kb < k) (h2 : kr < k) (h3 : kt < k) : bj_T (bw_G l D c) Y_Co_takeOut 3 (0, 0, 0, 0) ad (q_Co_putIn c ad M k N vs P rk (fun i => - tm i) sz) [.ref (ad k), .ref (ad kb)] M := by
  show bj_S _ _ _ _ _ _ 0 0 0 [some (.ref (ad k)), some (.ref (ad kb)), none] [] M
  refine bj_iconst (v := (nI 0)) d_Co_takeOut_0 (by decide) ?_
  refine bj_istore_n (L' := [some (.ref (ad k)), some (.ref (ad kb)), some (.int (nI 0))]) d_Co_takeOut_1 rfl (by decide) rfl ?_
  have lp : ∀ (i : Nat), ∀ (M2 : bj_M), (i ≤ sz) → (co_ok c ad M2 k N (co_vs (fun i => - tm i) vs i) (co_sum rk (fun i => - tm i) P i)) → (co_fr k N M M2) → bj_S (bw_G l D c) Y_Co_takeOut 3 (0, 0, 0, 0) ad (q_Co_putIn c ad M k N vs P rk (fun i => - tm i) sz) 0 0 2 [some (.ref (ad k)), some (.ref (ad kb)), some (.int (nI i))] [] M2 := by
    intro i M2
    induction hd_lp : sz - i using Nat.strongRecOn generalizing i M2 with
    | ind d_lp ih_lp =>
      intro hi h2c hf
      have hb2 : ba_ok c ad M2 kb kr kt sg sz rk tm := hb.in (hf _ (by omega)) (hf _ (by omega)) (hf _ (by omega))
      refine bj_iload_n d_Co_takeOut_2 rfl rfl ?_
      refine bj_aload_n d_Co_takeOut_3 rfl rfl ?_
      refine bj_getN d_Co_takeOut_4 in_Ba rfl (by decide : 1 < 4) wf_Co_29 rfl hb2.1 rfl ?_
      refine bj_icmp_geN (tgt := 33) d_Co_takeOut_7 (by decide) (by omega) (by omega) (fun h7 => ?_) (fun h7 => ?_)
      · exact bj_vret d_Co_takeOut_33 rfl (Nat.le_refl _) (Nat.le_refl _) ⟨rfl, by rw [show sz = i by omega]; exact h2c, hf⟩
      · refine bj_aload_n d_Co_takeOut_10 rfl rfl ?_
        refine bj_aload_n d_Co_takeOut_11 rfl rfl ?_
        refine bj_getN d_Co_takeOut_12 in_Ba rfl (by decide : 2 < 4) wf_Co_34 rfl hb2.1 rfl ?_
        refine bj_iload_n d_Co_takeOut_15 rfl rfl ?_
        refine bv_iald d_Co_takeOut_16 0 rfl hb2.2.1 (by omega) (by omega) rfl ?_
        refine bj_aload_n d_Co_takeOut_17 rfl rfl ?_
        refine bj_getN d_Co_takeOut_18 in_Ba rfl (by decide : 3 < 4) wf_Co_38 rfl hb2.1 rfl ?_
        refine bj_iload_n d_Co_takeOut_21 rfl rfl ?_
        refine bv_iald d_Co_takeOut_22 0 rfl hb2.2.2 (by omega) (by omega) rfl ?_
        refine bj_ineg (v := (-(tm i))) d_Co_takeOut_23 rfl ?_
        refine bj_cvR sv_Co_41 d_Co_takeOut_24 (t_Co_add l D c ad M2 h2c hN) rfl rfl (by decide) (by decide) (by decide) (Nat.le_of_ble_eq_true rfl) rfl h2c.1 rfl rfl (fun v1 N1 hq1 => ?_)
        obtain ⟨rfl, hc1, hf1⟩ := hq1
        show bj_S (bw_G l D c) Y_Co_takeOut 3 (0, 0, 0, 0) ad (q_Co_putIn c ad M k N vs P rk (fun i => - tm i) sz) 0 0 27 [some (.ref (ad k)), some (.ref (ad kb)), some (.int (nI i))] [] N1
        refine bj_iinc (v := (nI (i + 1))) (L' := [some (.ref (ad k)), some (.ref (ad kb)), some (.int (nI (i + 1)))]) d_Co_takeOut_27 rfl (bj_inc1 _) (by decide) rfl ?_
        refine bj_goto (tgt := 2) d_Co_takeOut_30 (by decide) ?_
        exact ih_lp (sz - (i + 1)) (by omega) (i + 1) N1 rfl (by omega) hc1 (hf.tr hf1)
  exact lp 0 M (Nat.zero_le _) h co_fr.rf
end C3
end
section
/-! Count.notBeatenBy, beatingSetAround (walks by gen/m_co4.py) -/
section C4
/-- the set of those below n for which p holds -/
def bm (p : Nat → Bool) : Nat → Int32
  | 0 => nI 0
  | n + 1 => if p n = true then bm p n ||| ((nI 1) <<< ((nI n) &&& 31)) else bm p n
theorem bm_s {p : Nat → Bool} {n : Nat} (h : p n = true) : bm p n ||| ((nI 1) <<< ((nI n) &&& 31)) = bm p (n + 1) := by rw [bm, if_pos h]
theorem bm_n {p : Nat → Bool} {n : Nat} (h : p n = false) : bm p (n + 1) = bm p n := by rw [bm, if_neg (by rw [h]; decide)]
theorem bt_nI0 (i : Nat) : bt (nI 0) i = false := b_0 i
theorem bt_one' {c i : Nat} (hc : c < 32) (hi : i < 32) : bt ((nI 1) <<< ((nI c) &&& 31)) i = decide (i = c) := bt_one hc hi
theorem bm_bt (p : Nat → Bool) {i : Nat} (hi : i < 32) : ∀ n, n ≤ 32 → bt (bm p n) i = (decide (i < n) && p i)
  | 0, _ => by rw [bm, bt_nI0]; simp
  | n + 1, h => by
    have ih := bm_bt p hi n (by omega)
    by_cases e : p n = true
    · rw [bm, if_pos e, b_or, ih, bt_one' (by omega) hi]
      by_cases e2 : i = n
      · subst e2; simp [e]
      · by_cases e3 : i < n
        · simp [e2, e3]; omega
        · simp [e2, e3]; omega
    · rw [bm, if_neg e, ih]
      by_cases e2 : i = n
      · subst e2; simp [e]
      · by_cases e3 : i < n
        · simp [e3]; omega
        · simp [e3]; omega
/-- whom a does not beat -/
def nbt (P : Nat → Nat → Int32) (a b : Nat) : Bool := decide (dir P a b = 0)
variable (l : Launch) (D : va_G) (c : Nat → ClassId) (ad : Nat → Nat) (M : bj_M)
set_option maxRecDepth 100000 in
set_option maxHeartbeats 4000000 in
/-- notBeatenBy -/
theorem t_Co_notBeatenBy {k N a : Nat} {vs : Int32} {P : Nat → Nat → Int32} (h : co_ok c ad M k N vs P) (hN : N ≤ 8) (ha : a < N) : bj_T (bw_G l D c) Y_Co_notBeatenBy 1 (0, 0, 0, 0) ad (bj_fn (bm (nbt P a) N) M) [.ref (ad k), .int (nI a)] M := by
  show bj_S _ _ _ _ _ _ 0 0 0 [some (.ref (ad k)), some (.int (nI a)), none, none] [] M
  refine bj_iconst (v := (nI 0)) d_Co_notBeatenBy_0 (by decide) ?_
  refine bj_istore_n (L' := [some (.ref (ad k)), some (.int (nI a)), some (.int (nI 0)), none]) d_Co_notBeatenBy_1 rfl (by decide) rfl ?_
  refine bj_iconst (v := (nI 0)) d_Co_notBeatenBy_2 (by decide) ?_
  refine bj_istore_n (L' := [some (.ref (ad k)), some (.int (nI a)), some (.int (nI 0)), some (.int (nI 0))]) d_Co_notBeatenBy_3 rfl (by decide) rfl ?_
  have lp : ∀ (b0 : Nat), (b0 ≤ N) → bj_S (bw_G l D c) Y_Co_notBeatenBy 1 (0, 0, 0, 0) ad (bj_fn (bm (nbt P a) N) M) 0 0 4 [some (.ref (ad k)), some (.int (nI a)), some (.int (bm (nbt P a) b0)), some (.int (nI b0))] [] M := by
    intro b0
    induction hd_lp : N - b0 using Nat.strongRecOn generalizing b0 with
    | ind d_lp ih_lp =>
      intro hb0
      refine bj_iload_n d_Co_notBeatenBy_4 rfl rfl ?_
      refine bj_aload_n d_Co_notBeatenBy_5 rfl rfl ?_
      refine bj_get d_Co_notBeatenBy_6 in_Co rfl (by decide : 0 < 3) wf_Co_9 rfl h.1 rfl ?_
      refine bj_icmp_geN (tgt := 33) d_Co_notBeatenBy_9 (by decide) (by omega) (by omega) (fun h9 => ?_) (fun h9 => ?_)
      · refine bj_iload_n d_Co_notBeatenBy_33 rfl rfl ?_
        exact bj_iret d_Co_notBeatenBy_34 rfl rfl (Nat.le_refl _) (Nat.le_refl _) ⟨by rw [show N = b0 by omega], rfl⟩
      · refine bj_aload_n d_Co_notBeatenBy_12 rfl rfl ?_
        refine bj_iload_n d_Co_notBeatenBy_13 rfl rfl ?_
        refine bj_iload_n d_Co_notBeatenBy_14 rfl rfl ?_
        refine bj_cvF sv_Co_53 d_Co_notBeatenBy_15 (t_Co_direct l D c ad M h hN ha (by omega)) rfl rfl (by decide) (by decide) (by decide) (Nat.le_of_ble_eq_true rfl) rfl h.1 rfl rfl ?_
        refine bj_if_ne (tgt := 27) d_Co_notBeatenBy_18 (by decide) (fun h18 => ?_) (fun h18 => ?_)
        · have e : nbt P a b0 = false := decide_eq_false h18
          refine bj_iinc (v := (nI (b0 + 1))) (L' := [some (.ref (ad k)), some (.int (nI a)), some (.int (bm (nbt P a) b0)), some (.int (nI (b0 + 1)))]) d_Co_notBeatenBy_27 rfl (bj_inc1 _) (by decide) rfl ?_
          refine bj_goto (tgt := 4) d_Co_notBeatenBy_30 (by decide) ?_
          rw [← bm_n e]
          exact ih_lp (N - (b0 + 1)) (by omega) (b0 + 1) rfl (by omega)
        · have e : nbt P a b0 = true := decide_eq_true h18
          refine bj_iload_n d_Co_notBeatenBy_21 rfl rfl ?_
          refine bj_iconst (v := (nI 1)) d_Co_notBeatenBy_22 (by decide) ?_
          refine bj_iload_n d_Co_notBeatenBy_23 rfl rfl ?_
          refine bj_ishl (v := ((nI 1) <<< ((nI b0) &&& 31))) d_Co_notBeatenBy_24 rfl ?_
          refine bj_ior (v := (bm (nbt P a) (b0 + 1))) d_Co_notBeatenBy_25 (bm_s e) ?_
          refine bj_istore_n (L' := [some (.ref (ad k)), some (.int (nI a)), some (.int (bm (nbt P a) (b0 + 1))), some (.int (nI b0))]) d_Co_notBeatenBy_26 rfl (by decide) rfl ?_
          refine bj_iinc (v := (nI (b0 + 1))) (L' := [some (.ref (ad k)), some (.int (nI a)), some (.int (bm (nbt P a) (b0 + 1))), some (.int (nI (b0 + 1)))]) d_Co_notBeatenBy_27 rfl (bj_inc1 _) (by decide) rfl ?_
          refine bj_goto (tgt := 4) d_Co_notBeatenBy_30 (by decide) ?_
          exact ih_lp (N - (b0 + 1)) (by omega) (b0 + 1) rfl (by omega)
  exact lp 0 (Nat.zero_le _)
/-- a set that grows towards all that must be members: what k rounds give stands, and of round k + 1 what comes by those below a0 -/
def bs_in (P : Nat → Nat → Int32) (N a k a0 : Nat) (x : Int32) : Prop := (∀ i, i < 32 → bt x i = true → i < N ∧ mt_of (nbt P) N a i = true) ∧ (∀ i, i < N → mn_nr (fun x y => nbt P y x) N a k i = true → bt x i = true) ∧ ∀ y, y < a0 → y < N → mn_nr (fun x y => nbt P y x) N a k y = true → ∀ i, i < N → nbt P y i = true → bt x i = true
theorem bs_0 {P : Nat → Nat → Int32} {N a : Nat} (hN : N ≤ 8) (ha : a < N) : bs_in P N a 0 0 ((nI 1) <<< ((nI a) &&& 31)) := by
  refine ⟨fun i hi h => ?_, fun i hi h => ?_, fun y hy => absurd hy (Nat.not_lt_zero _)⟩
  · rw [bt_one' (by omega) hi] at h
    have e : i = a := of_decide_eq_true h
    subst e
    exact ⟨ha, mt_of_self⟩
  · have e := mn_nr_0.mp h
    subst e
    rw [bt_one' (by omega) (by omega)]
    exact decide_eq_true rfl
theorem bs_no {P : Nat → Nat → Int32} {N a k a0 : Nat} {x : Int32} (h : bs_in P N a k a0 x) (hn : bt x a0 = false) : bs_in P N a k (a0 + 1) x := by
  refine ⟨h.1, h.2.1, fun y hy hyN hk i hi hr => ?_⟩
  by_cases e : y = a0
  · subst e
    have := h.2.1 y hyN hk
    rw [hn] at this
    cases this
  · exact h.2.2 y (by omega) hyN hk i hi hr
theorem bs_yes {P : Nat → Nat → Int32} {N a k a0 : Nat} {x : Int32} (h : bs_in P N a k a0 x) (hN : N ≤ 8) (ha : a < N) (h0 : a0 < N) (hy : bt x a0 = true) : bs_in P N a k (a0 + 1) (x ||| bm (nbt P a0) N) := by
  refine ⟨fun i hi hb => ?_, fun i hi hb => ?_, fun y hy2 hyN hk i hi hr => ?_⟩
  · rw [b_or, bm_bt _ hi _ (by omega)] at hb
    by_cases e : bt x i = true
    · exact h.1 i hi e
    · simp [e] at hb
      exact ⟨hb.1, mt_of_cl ha a0 i h0 hb.1 (h.1 a0 (by omega) hy).2 hb.2⟩
  · rw [b_or, h.2.1 i hi hb]
    rfl
  · rw [b_or, bm_bt _ (by omega) _ (by omega)]
    by_cases e : y = a0
    · subst e
      simp [hr, hi]
    · rw [h.2.2 y (by omega) hyN hk i hi hr]
      rfl
theorem bs_next {P : Nat → Nat → Int32} {N a k a0 : Nat} {x : Int32} (h : bs_in P N a k a0 x) (e9 : a0 = N) : bs_in P N a (k + 1) 0 x := by
  subst e9
  refine ⟨h.1, fun i hi hb => ?_, fun y hy => absurd hy (Nat.not_lt_zero _)⟩
  rcases mn_nr_s.mp hb with h1 | ⟨y, hy, h1, h2⟩
  · exact h.2.1 i hi h1
  · exact h.2.2 y hy hy h2 i hi h1
theorem bs_end {P : Nat → Nat → Int32} {N a r : Nat} {x : Int32} (h : bs_in P N a r 0 x) (e9 : r = N) (hN : N ≤ 8) (ha : a < N) : x = bm (mt_of (nbt P) N a) N := by
  rw [e9] at h
  apply b_ext
  intro i hi
  rw [bm_bt _ hi _ (by omega)]
  cases hx : bt x i with
  | true =>
    have h1 := h.1 i hi hx
    simp [h1.1, h1.2]
  | false =>
    by_cases e : i < N
    · cases h2 : mt_of (nbt P) N a i with
      | false => simp
      | true =>
        have h3 := h.2.1 i e (mn_nr_le (Nat.sub_le N 1) h2)
        rw [hx] at h3
        cases h3
    · simp [e]
set_option maxRecDepth 100000 in
set_option maxHeartbeats 4000000 in
/-- beatingSetAround -/
theorem t_Co_beatingSetAround {k N a : Nat} {vs : Int32} {P : Nat → Nat → Int32} (h : co_ok c ad M k N vs P) (hN : N ≤ 8) (ha : a < N) : bj_T (bw_G l D c) Y_Co_beatingSetAround 2 (0, 0, 0, 0) ad (bj_fn (bm (mt_of (nbt P) N a) N) M) [.ref (ad k), .int (nI a)] M := by
  show bj_S _ _ _ _ _ _ 0 0 0 [some (.ref (ad k)), some (.int (nI a)), none, none, none] [] M
  refine bj_iconst (v := (nI 1)) d_Co_beatingSetAround_0 (by decide) ?_
  refine bj_iload_n d_Co_beatingSetAround_1 rfl rfl ?_
  refine bj_ishl (v := ((nI 1) <<< ((nI a) &&& 31))) d_Co_beatingSetAround_2 rfl ?_
  refine bj_istore_n (L' := [some (.ref (ad k)), some (.int (nI a)), some (.int ((nI 1) <<< ((nI a) &&& 31))), none, none]) d_Co_beatingSetAround_3 rfl (by decide) rfl ?_
  refine bj_iconst (v := (nI 0)) d_Co_beatingSetAround_4 (by decide) ?_
  refine bj_istore_n (L' := [some (.ref (ad k)), some (.int (nI a)), some (.int ((nI 1) <<< ((nI a) &&& 31))), some (.int (nI 0)), none]) d_Co_beatingSetAround_5 rfl (by decide) rfl ?_
  have lp : ∀ (r : Nat), ∀ (x : Int32), ∀ (z : Option Value), (r ≤ N) → (bs_in P N a r 0 x) → bj_S (bw_G l D c) Y_Co_beatingSetAround 2 (0, 0, 0, 0) ad (bj_fn (bm (mt_of (nbt P) N a) N) M) 0 0 6 [some (.ref (ad k)), some (.int (nI a)), some (.int x), some (.int (nI r)), z] [] M := by
    intro r x z
    induction hd_lp : N - r using Nat.strongRecOn generalizing r x z with
    | ind d_lp ih_lp =>
      intro hr hs
      refine bj_iload_n d_Co_beatingSetAround_6 rfl rfl ?_
      refine bj_aload_n d_Co_beatingSetAround_7 rfl rfl ?_
      refine bj_get d_Co_beatingSetAround_8 in_Co rfl (by decide : 0 < 3) wf_Co_9 rfl h.1 rfl ?_
      refine bj_icmp_geN (tgt := 56) d_Co_beatingSetAround_11 (by decide) (by omega) (by omega) (fun h11 => ?_) (fun h11 => ?_)
      · refine bj_iload_n d_Co_beatingSetAround_56 rfl rfl ?_
        exact bj_iret d_Co_beatingSetAround_57 rfl rfl (Nat.le_refl _) (Nat.le_refl _) ⟨by rw [bs_end hs (by omega) hN ha], rfl⟩
      · refine bj_iconst (v := (nI 0)) d_Co_beatingSetAround_14 (by decide) ?_
        refine bj_istore (L' := [some (.ref (ad k)), some (.int (nI a)), some (.int x), some (.int (nI r)), some (.int (nI 0))]) d_Co_beatingSetAround_15 (by decide) rfl ?_
        have inn : ∀ (a0 : Nat), ∀ (y : Int32), (a0 ≤ N) → (bs_in P N a r a0 y) → bj_S (bw_G l D c) Y_Co_beatingSetAround 2 (0, 0, 0, 0) ad (bj_fn (bm (mt_of (nbt P) N a) N) M) 0 0 17 [some (.ref (ad k)), some (.int (nI a)), some (.int y), some (.int (nI r)), some (.int (nI a0))] [] M := by
          intro a0 y
          induction hd_in : N - a0 using Nat.strongRecOn generalizing a0 y with
          | ind d_in ih_in =>
            intro ha0 hs2
            refine bj_iload d_Co_beatingSetAround_17 rfl ?_
            refine bj_aload_n d_Co_beatingSetAround_19 rfl rfl ?_
            refine bj_get d_Co_beatingSetAround_20 in_Co rfl (by decide : 0 < 3) wf_Co_9 rfl h.1 rfl ?_
            refine bj_icmp_geN (tgt := 50) d_Co_beatingSetAround_23 (by decide) (by omega) (by omega) (fun h23 => ?_) (fun h23 => ?_)
            · refine bj_iinc (v := (nI (r + 1))) (L' := [some (.ref (ad k)), some (.int (nI a)), some (.int y), some (.int (nI (r + 1))), some (.int (nI a0))]) d_Co_beatingSetAround_50 rfl (bj_inc1 _) (by decide) rfl ?_
              refine bj_goto (tgt := 6) d_Co_beatingSetAround_53 (by decide) ?_
              exact ih_lp (N - (r + 1)) (by omega) (r + 1) y _ rfl (by omega) (bs_next hs2 (by omega))
            · refine bj_iload_n d_Co_beatingSetAround_26 rfl rfl ?_
              refine bj_iload d_Co_beatingSetAround_27 rfl ?_
              refine bj_cnF sn_Co_56 d_Co_beatingSetAround_29 (t_Of_has l D c ad M (by omega)) rfl rfl (by decide) (by decide) (by decide) (Nat.le_of_ble_eq_true rfl) rfl ?_
              refine bj_if_eq (tgt := 44) d_Co_beatingSetAround_32 (by decide) (fun h32 => ?_) (fun h32 => ?_)
              · have e := bt_n0.mp h32
                refine bj_iinc (v := (nI (a0 + 1))) (L' := [some (.ref (ad k)), some (.int (nI a)), some (.int y), some (.int (nI r)), some (.int (nI (a0 + 1)))]) d_Co_beatingSetAround_44 rfl (bj_inc1 _) (by decide) rfl ?_
                refine bj_goto (tgt := 17) d_Co_beatingSetAround_47 (by decide) ?_
                exact ih_in (N - (a0 + 1)) (by omega) (a0 + 1) _ rfl (by omega) (bs_no hs2 e)
              · have e := bt_nn h32
                refine bj_iload_n d_Co_beatingSetAround_35 rfl rfl ?_
                refine bj_aload_n d_Co_beatingSetAround_36 rfl rfl ?_
                refine bj_iload d_Co_beatingSetAround_37 rfl ?_
                refine bj_cvF sv_Co_69 d_Co_beatingSetAround_39 (t_Co_notBeatenBy l D c ad M h hN (by omega)) rfl rfl (by decide) (by decide) (by decide) (Nat.le_of_ble_eq_true rfl) rfl h.1 rfl rfl ?_
                refine bj_ior (v := (y ||| (bm (nbt P a0) N))) d_Co_beatingSetAround_42 rfl ?_
                refine bj_istore_n (L' := [some (.ref (ad k)), some (.int (nI a)), some (.int (y ||| (bm (nbt P a0) N))), some (.int (nI r)), some (.int (nI a0))]) d_Co_beatingSetAround_43 rfl (by decide) rfl ?_
                refine bj_iinc (v := (nI (a0 + 1))) (L' := [some (.ref (ad k)), some (.int (nI a)), some (.int (y ||| (bm (nbt P a0) N))), some (.int (nI r)), some (.int (nI (a0 + 1)))]) d_Co_beatingSetAround_44 rfl (bj_inc1 _) (by decide) rfl ?_
                refine bj_goto (tgt := 17) d_Co_beatingSetAround_47 (by decide) ?_
                exact ih_in (N - (a0 + 1)) (by omega) (a0 + 1) _ rfl (by omega) (bs_yes hs2 hN ha (by omega) e)
        exact inn 0 x (Nat.zero_le _) hs
  exact lp 0 _ none (Nat.zero_le _) (bs_0 hN ha)
end C4
end
section
/-! Count.isHeldIn, isWay (walks by gen/m_co5.py) -/
section C5
/-- a post: whether φ holds, the cells as they were -/
def q_b (M : bj_M) (φ : Prop) : bj_R → bj_M → Prop := bj_ret (fun v M' => ∃ r : Bool, v = some (.int (bt_n r)) ∧ (r = true ↔ φ) ∧ M' = M)
theorem qb_t {M : bj_M} {φ : Prop} (h : φ) : q_b M φ (.inl (some (.int (nI 1)))) M := ⟨true, rfl, ⟨fun _ => h, fun _ => rfl⟩, rfl⟩
theorem qb_f {M : bj_M} {φ : Prop} (h : ¬ φ) : q_b M φ (.inl (some (.int (nI 0)))) M := ⟨false, rfl, ⟨fun e => (by cases e), fun e => absurd e h⟩, rfl⟩
def ush (x : Int32) (k : Nat) : Int32 := (x.toUInt32 >>> ((nI k).toUInt32 &&& Int32.toUInt32 31)).toInt32
theorem ush_bt (x : Int32) {k : Nat} (hk : k < 32) (i : Nat) : bt (ush x k) i = bt x (k + i) := b_ushr k hk x i
theorem ush_0 (x : Int32) {k : Nat} (hk : k < 32) : ush x k = 0 ↔ ∀ i, k ≤ i → i < 32 → bt x i = false := by
  constructor
  · intro h i h1 h2
    have h3 := ush_bt x hk (i - k)
    rw [h, b_0, show k + (i - k) = i by omega] at h3
    exact h3.symm
  · intro h
    apply b_ext
    intro i hi
    rw [ush_bt x hk, b_0]
    rcases Nat.lt_or_ge (k + i) 32 with h1 | h1
    · exact h _ (by omega) h1
    · exact b_big h1
theorem ush_n (x : Int32) {k : Nat} (hk : k < 32) : (ush x k).toBitVec.toNat = x.toBitVec.toNat / 2 ^ k := pk_ushr x (nI k) k (s_u k hk)
theorem ush_nb (x : Int32) {i : Nat} (hi : i < 8) : nb (ush x (4 * i)) 0 = nb x i := by
  unfold nb
  rw [ush_n x (by omega)]
  simp
theorem ush_s (x : Int32) {i : Nat} (hi : i + 1 < 8) : ush (ush x (4 * i)) 4 = ush x (4 * (i + 1)) := by
  apply b_ext
  intro j hj
  rw [ush_bt _ (by omega), ush_bt _ (by omega), ush_bt _ (by omega)]
  congr 1
  omega
theorem ush_z (w : Int32) : ∀ d i, i + d = 8 → (w.toBitVec.toNat / 2 ^ (4 * i) = 0 ↔ ∀ m, i ≤ m → m < 8 → nb w m = 0)
  | 0, i, h => by
    have e : i = 8 := by omega
    subst e
    have := w.toBitVec.isLt
    constructor
    · intro _ m h1 h2; omega
    · intro _; omega
  | d + 1, i, h => by
    have ih := ush_z w d (i + 1) (by omega)
    have e : w.toBitVec.toNat / 2 ^ (4 * (i + 1)) = w.toBitVec.toNat / 2 ^ (4 * i) / 16 := by
      rw [Nat.div_div_eq_div_mul, show 4 * (i + 1) = 4 * i + 4 by omega, Nat.pow_add]
    rw [e] at ih
    constructor
    · intro h0 m h1 h2
      by_cases e2 : m = i
      · subst e2
        unfold nb
        rw [h0]
      · exact ih.mp (by rw [h0]) m (by omega) h2
    · intro h0
      have h1 := ih.mpr (fun m h1 h2 => h0 m (by omega) h2)
      have h2 := h0 i (Nat.le_refl _) (by omega)
      unfold nb at h2
      omega
theorem ush_zero (w : Int32) {i : Nat} (hi : i < 8) : ush w (4 * i) = 0 ↔ ∀ m, i ≤ m → m < 8 → nb w m = 0 := by
  rw [← ush_z w (8 - i) i (by omega), ← ush_n w (by omega)]
  constructor
  · intro h; rw [h]; rfl
  · intro h
    apply Int32.toBitVec_inj.mp
    apply BitVec.eq_of_toNat_eq
    rw [h]; rfl
/-- no direct above s leads out of the set, which is one of candidates -/
def hd_all (P : Nat → Nat → Int32) (N : Nat) (x s : Int32) : Prop := (∀ i, N ≤ i → i < 32 → bt x i = false) ∧ ∀ a b, a < N → b < N → bt x a = true → bt x b = false → dir P a b ≤ s
def hd_ok (P : Nat → Nat → Int32) (N : Nat) (x s : Int32) (a0 b0 : Nat) : Prop := ∀ a b, a < N → b < N → (a < a0 ∨ (a = a0 ∧ b < b0)) → bt x a = true → bt x b = false → dir P a b ≤ s
theorem hd_step {P : Nat → Nat → Int32} {N a0 b0 : Nat} {x s : Int32} (h : hd_ok P N x s a0 b0) (hx : bt x a0 = true → bt x b0 = false → dir P a0 b0 ≤ s) : hd_ok P N x s a0 (b0 + 1) := by
  intro a b ha hb hab h1 h2
  by_cases e : a = a0 ∧ b = b0
  · obtain ⟨rfl, rfl⟩ := e
    exact hx h1 h2
  · exact h a b ha hb (by omega) h1 h2
theorem hd_next {P : Nat → Nat → Int32} {N a0 b0 : Nat} {x s : Int32} (h : hd_ok P N x s a0 b0) (e : N ≤ b0) : hd_ok P N x s (a0 + 1) 0 := fun a b ha hb hab h1 h2 => h a b ha hb (by omega) h1 h2
/-- w tells a way from a to b of which no step is below s -/
def wy (P : Nat → Nat → Int32) (N a b : Nat) (s w : Int32) : Prop := ∃ m, 1 ≤ m ∧ m ≤ 8 ∧ (∀ j, m ≤ j → j < 8 → nb w j = 0) ∧ nb w 0 = a + 1 ∧ nb w (m - 1) = b + 1 ∧ ∀ j, j + 1 < m → 1 ≤ nb w (j + 1) ∧ nb w (j + 1) ≤ N ∧ s ≤ dir P (nb w j - 1) (nb w (j + 1) - 1)
/-- the way as far as place i -/
def wy_in (P : Nat → Nat → Int32) (N a : Nat) (s w : Int32) (i p : Nat) (x : Int32) : Prop := 1 ≤ i ∧ i ≤ 8 ∧ nb w 0 = a + 1 ∧ nb w (i - 1) = p + 1 ∧ p < N ∧ (i < 8 → x = ush w (4 * i)) ∧ ∀ j, j + 1 < i → 1 ≤ nb w (j + 1) ∧ nb w (j + 1) ≤ N ∧ s ≤ dir P (nb w j - 1) (nb w (j + 1) - 1)
theorem wy_nz {P : Nat → Nat → Int32} {N a i p : Nat} {s w x : Int32} (h : wy_in P N a s w i p x) : ∀ j, j < i → nb w j ≠ 0 := by
  obtain ⟨h1, h2, h3, h4, h5, h6, h7⟩ := h
  intro j hj
  cases j with
  | zero => omega
  | succ j => have := h7 j (by omega); omega
/-- at its end -/
theorem wy_end {P : Nat → Nat → Int32} {N a b i p : Nat} {s w x : Int32} (h : wy_in P N a s w i p x) (hz : ∀ m, i ≤ m → m < 8 → nb w m = 0) : wy P N a b s w ↔ p = b := by
  have hnz := wy_nz h
  obtain ⟨h1, h2, h3, h4, h5, h6, h7⟩ := h
  constructor
  · rintro ⟨m, m1, m2, m3, m4, m5, m6⟩
    have e : m = i := by
      rcases Nat.lt_trichotomy m i with h8 | h8 | h8
      · exact absurd (m3 m (Nat.le_refl _) (by omega)) (hnz m h8)
      · exact h8
      · have h9 := m6 (i - 1) (by omega)
        rw [show i - 1 + 1 = i by omega] at h9
        have := hz i (Nat.le_refl _) (by omega)
        omega
    subst e
    omega
  · intro e
    subst e
    exact ⟨i, h1, h2, hz, h3, h4, h7⟩
/-- a step that isn't one -/
theorem wy_bad {P : Nat → Nat → Int32} {N a b i p : Nat} {s w x : Int32} (h : wy_in P N a s w i p x) (hi : i < 8) (hx : x ≠ 0) (hb : ¬ (1 ≤ nb w i ∧ nb w i ≤ N ∧ s ≤ dir P p (nb w i - 1))) : ¬ wy P N a b s w := by
  obtain ⟨h1, h2, h3, h4, h5, h6, h7⟩ := h
  rintro ⟨m, m1, m2, m3, m4, m5, m6⟩
  have e : i < m := by
    refine Classical.byContradiction fun hn => hx ?_
    rw [h6 hi, ush_zero w hi]
    exact fun j hj => m3 j (by omega)
  have h9 := m6 (i - 1) (by omega)
  rw [show i - 1 + 1 = i by omega, h4] at h9
  exact hb h9
theorem wy_step {P : Nat → Nat → Int32} {N a i p : Nat} {s w x : Int32} (h : wy_in P N a s w i p x) (hi : i < 8) (h1 : 1 ≤ nb w i) (h2 : nb w i - 1 < N) (h3 : s ≤ dir P p (nb w i - 1)) : wy_in P N a s w (i + 1) (nb w i - 1) (ush x 4) := by
  obtain ⟨g1, g2, g3, g4, g5, g6, g7⟩ := h
  refine ⟨by omega, by omega, g3, ?_, h2, fun h8 => ?_, fun j hj => ?_⟩
  · rw [show i + 1 - 1 = i by omega]; omega
  · rw [g6 hi]; exact ush_s w h8
  · by_cases e : j + 1 = i
    · subst e
      refine ⟨h1, by omega, ?_⟩
      rw [show j + 1 - 1 = j by omega] at g4
      rw [show nb w j - 1 = p by omega]
      exact h3
    · exact g7 j (by omega)
variable (l : Launch) (D : va_G) (c : Nat → ClassId) (ad : Nat → Nat) (M : bj_M)
set_option maxRecDepth 100000 in
set_option maxHeartbeats 4000000 in
/-- isHeldIn -/
theorem t_Co_isHeldIn {k N : Nat} {vs x s : Int32} {P : Nat → Nat → Int32} (h : co_ok c ad M k N vs P) (hN : N ≤ 8) : bj_T (bw_G l D c) Y_Co_isHeldIn 1 (0, 0, 0, 0) ad (q_b M (hd_all P N x s)) [.ref (ad k), .int x, .int s] M := by
  show bj_S _ _ _ _ _ _ 0 0 0 [some (.ref (ad k)), some (.int x), some (.int s), none, none] [] M
  refine bj_iload_n d_Co_isHeldIn_0 rfl rfl ?_
  refine bj_aload_n d_Co_isHeldIn_1 rfl rfl ?_
  refine bj_get d_Co_isHeldIn_2 in_Co rfl (by decide : 0 < 3) wf_Co_9 rfl h.1 rfl ?_
  refine bj_iushr (v := (ush x N)) d_Co_isHeldIn_5 rfl ?_
  refine bj_if_eq (tgt := 11) d_Co_isHeldIn_6 (by decide) (fun h6 => ?_) (fun h6 => ?_)
  · have hz := (ush_0 x (by omega)).mp h6
    refine bj_iconst (v := (nI 0)) d_Co_isHeldIn_11 (by decide) ?_
    refine bj_istore_n (L' := [some (.ref (ad k)), some (.int x), some (.int s), some (.int (nI 0)), none]) d_Co_isHeldIn_12 rfl (by decide) rfl ?_
    have lp : ∀ (a0 : Nat), ∀ (z : Option Value), (a0 ≤ N) → (hd_ok P N x s a0 0) → bj_S (bw_G l D c) Y_Co_isHeldIn 1 (0, 0, 0, 0) ad (q_b M (hd_all P N x s)) 0 0 13 [some (.ref (ad k)), some (.int x), some (.int s), some (.int (nI a0)), z] [] M := by
      intro a0 z
      induction hd_lp : N - a0 using Nat.strongRecOn generalizing a0 z with
      | ind d_lp ih_lp =>
        intro ha0 hs
        refine bj_iload_n d_Co_isHeldIn_13 rfl rfl ?_
        refine bj_aload_n d_Co_isHeldIn_14 rfl rfl ?_
        refine bj_get d_Co_isHeldIn_15 in_Co rfl (by decide : 0 < 3) wf_Co_9 rfl h.1 rfl ?_
        refine bj_icmp_geN (tgt := 75) d_Co_isHeldIn_18 (by decide) (by omega) (by omega) (fun h18 => ?_) (fun h18 => ?_)
        · refine bj_iconst (v := (nI 1)) d_Co_isHeldIn_75 (by decide) ?_
          exact bj_iret d_Co_isHeldIn_76 rfl rfl (Nat.le_refl _) (Nat.le_refl _) (qb_t ⟨hz, fun a b ha hb => hs a b ha hb (by omega)⟩)
        · refine bj_iconst (v := (nI 0)) d_Co_isHeldIn_21 (by decide) ?_
          refine bj_istore (L' := [some (.ref (ad k)), some (.int x), some (.int s), some (.int (nI a0)), some (.int (nI 0))]) d_Co_isHeldIn_22 (by decide) rfl ?_
          have inn : ∀ (b0 : Nat), (b0 ≤ N) → (hd_ok P N x s a0 b0) → bj_S (bw_G l D c) Y_Co_isHeldIn 1 (0, 0, 0, 0) ad (q_b M (hd_all P N x s)) 0 0 24 [some (.ref (ad k)), some (.int x), some (.int s), some (.int (nI a0)), some (.int (nI b0))] [] M := by
            intro b0
            induction hd_inn : N - b0 using Nat.strongRecOn generalizing b0 with
            | ind d_inn ih_inn =>
              intro hb0 hs2
              refine bj_iload d_Co_isHeldIn_24 rfl ?_
              refine bj_aload_n d_Co_isHeldIn_26 rfl rfl ?_
              refine bj_get d_Co_isHeldIn_27 in_Co rfl (by decide : 0 < 3) wf_Co_9 rfl h.1 rfl ?_
              refine bj_icmp_geN (tgt := 69) d_Co_isHeldIn_30 (by decide) (by omega) (by omega) (fun h30 => ?_) (fun h30 => ?_)
              · refine bj_iinc (v := (nI (a0 + 1))) (L' := [some (.ref (ad k)), some (.int x), some (.int s), some (.int (nI (a0 + 1))), some (.int (nI b0))]) d_Co_isHeldIn_69 rfl (bj_inc1 _) (by decide) rfl ?_
                refine bj_goto (tgt := 13) d_Co_isHeldIn_72 (by decide) ?_
                exact ih_lp (N - (a0 + 1)) (by omega) (a0 + 1) _ rfl (by omega) (hd_next hs2 (by omega))
              · refine bj_iload_n d_Co_isHeldIn_33 rfl rfl ?_
                refine bj_iload_n d_Co_isHeldIn_34 rfl rfl ?_
                refine bj_cnF sn_Co_56 d_Co_isHeldIn_35 (t_Of_has l D c ad M (by omega)) rfl rfl (by decide) (by decide) (by decide) (Nat.le_of_ble_eq_true rfl) rfl ?_
                refine bj_if_eq (tgt := 63) d_Co_isHeldIn_38 (by decide) (fun h38 => ?_) (fun h38 => ?_)
                · have e38 := bt_n0.mp h38
                  refine bj_iinc (v := (nI (b0 + 1))) (L' := [some (.ref (ad k)), some (.int x), some (.int s), some (.int (nI a0)), some (.int (nI (b0 + 1)))]) d_Co_isHeldIn_63 rfl (bj_inc1 _) (by decide) rfl ?_
                  refine bj_goto (tgt := 24) d_Co_isHeldIn_66 (by decide) ?_
                  exact ih_inn (N - (b0 + 1)) (by omega) (b0 + 1) rfl (by omega) (hd_step hs2 (by intro q1 q2; first | (rw [e38] at q1; cases q1; done) | (rw [e47] at q2; cases q2; done) | exact h58))
                · have e38 := bt_nn h38
                  refine bj_iload_n d_Co_isHeldIn_41 rfl rfl ?_
                  refine bj_iload d_Co_isHeldIn_42 rfl ?_
                  refine bj_cnF sn_Co_56 d_Co_isHeldIn_44 (t_Of_has l D c ad M (by omega)) rfl rfl (by decide) (by decide) (by decide) (Nat.le_of_ble_eq_true rfl) rfl ?_
                  refine bj_if_ne (tgt := 63) d_Co_isHeldIn_47 (by decide) (fun h47 => ?_) (fun h47 => ?_)
                  · have e47 := bt_nn h47
                    refine bj_iinc (v := (nI (b0 + 1))) (L' := [some (.ref (ad k)), some (.int x), some (.int s), some (.int (nI a0)), some (.int (nI (b0 + 1)))]) d_Co_isHeldIn_63 rfl (bj_inc1 _) (by decide) rfl ?_
                    refine bj_goto (tgt := 24) d_Co_isHeldIn_66 (by decide) ?_
                    exact ih_inn (N - (b0 + 1)) (by omega) (b0 + 1) rfl (by omega) (hd_step hs2 (by intro q1 q2; first | (rw [e38] at q1; cases q1; done) | (rw [e47] at q2; cases q2; done) | exact h58))
                  · have e47 := bt_n0.mp h47
                    refine bj_aload_n d_Co_isHeldIn_50 rfl rfl ?_
                    refine bj_iload_n d_Co_isHeldIn_51 rfl rfl ?_
                    refine bj_iload d_Co_isHeldIn_52 rfl ?_
                    refine bj_cvF sv_Co_53 d_Co_isHeldIn_54 (t_Co_direct l D c ad M h hN (by omega) (by omega)) rfl rfl (by decide) (by decide) (by decide) (Nat.le_of_ble_eq_true rfl) rfl h.1 rfl rfl ?_
                    refine bj_iload_n d_Co_isHeldIn_57 rfl rfl ?_
                    refine bj_icmp_le (tgt := 63) d_Co_isHeldIn_58 (by decide) (fun h58 => ?_) (fun h58 => ?_)
                    · refine bj_iinc (v := (nI (b0 + 1))) (L' := [some (.ref (ad k)), some (.int x), some (.int s), some (.int (nI a0)), some (.int (nI (b0 + 1)))]) d_Co_isHeldIn_63 rfl (bj_inc1 _) (by decide) rfl ?_
                      refine bj_goto (tgt := 24) d_Co_isHeldIn_66 (by decide) ?_
                      exact ih_inn (N - (b0 + 1)) (by omega) (b0 + 1) rfl (by omega) (hd_step hs2 (by intro q1 q2; first | (rw [e38] at q1; cases q1; done) | (rw [e47] at q2; cases q2; done) | exact h58))
                    · refine bj_iconst (v := (nI 0)) d_Co_isHeldIn_61 (by decide) ?_
                      exact bj_iret d_Co_isHeldIn_62 rfl rfl (Nat.le_refl _) (Nat.le_refl _) (qb_f (fun q => h58 (q.2 a0 b0 (by omega) (by omega) e38 e47)))
          exact inn 0 (Nat.zero_le _) hs
    exact lp 0 none (Nat.zero_le _) (fun a b _ _ hab => absurd hab (by omega))
  · refine bj_iconst (v := (nI 0)) d_Co_isHeldIn_9 (by decide) ?_
    exact bj_iret d_Co_isHeldIn_10 rfl rfl (Nat.le_refl _) (Nat.le_refl _) (qb_f (fun q => h6 ((ush_0 x (by omega)).mpr q.1)))
set_option maxRecDepth 100000 in
set_option maxHeartbeats 4000000 in
/-- isWay -/
theorem t_Co_isWay {k N a b : Nat} {vs s w : Int32} {P : Nat → Nat → Int32} (h : co_ok c ad M k N vs P) (hN : N ≤ 8) (ha : a < N) (hb : b < N) : bj_T (bw_G l D c) Y_Co_isWay 1 (0, 0, 0, 0) ad (q_b M (wy P N a b s w)) [.ref (ad k), .int (nI a), .int (nI b), .int s, .int w] M := by
  show bj_S _ _ _ _ _ _ 0 0 0 [some (.ref (ad k)), some (.int (nI a)), some (.int (nI b)), some (.int s), some (.int w), none, none, none, none] [] M
  refine bj_iload d_Co_isWay_0 rfl ?_
  refine bj_iconst (v := (nI 0)) d_Co_isWay_2 (by decide) ?_
  refine bj_cnF sn_Co_49 d_Co_isWay_3 (t_Of_nibble l D c ad M (by decide)) rfl rfl (by decide) (by decide) (by decide) (Nat.le_of_ble_eq_true rfl) rfl ?_
  refine bj_iload_n d_Co_isWay_6 rfl rfl ?_
  refine bj_iconst (v := (nI 1)) d_Co_isWay_7 (by decide) ?_
  refine bj_iadd (v := (nI (a + 1))) d_Co_isWay_8 (nI_add _ _) ?_
  refine bj_icmp_eqN (tgt := 14) d_Co_isWay_9 (by decide) (by have := nb_lt w 0; omega) (by have := nb_lt w 0; omega) (fun h9 => ?_) (fun h9 => ?_)
  · refine bj_iload_n d_Co_isWay_14 rfl rfl ?_
    refine bj_istore (L' := [some (.ref (ad k)), some (.int (nI a)), some (.int (nI b)), some (.int s), some (.int w), some (.int (nI a)), none, none, none]) d_Co_isWay_15 (by decide) rfl ?_
    refine bj_iload d_Co_isWay_17 rfl ?_
    refine bj_iconst (v := (nI 4)) d_Co_isWay_19 (by decide) ?_
    refine bj_iushr (v := (ush w 4)) d_Co_isWay_20 rfl ?_
    refine bj_istore (L' := [some (.ref (ad k)), some (.int (nI a)), some (.int (nI b)), some (.int s), some (.int w), some (.int (nI a)), some (.int (ush w 4)), none, none]) d_Co_isWay_21 (by decide) rfl ?_
    refine bj_iconst (v := (nI 1)) d_Co_isWay_23 (by decide) ?_
    refine bj_istore (L' := [some (.ref (ad k)), some (.int (nI a)), some (.int (nI b)), some (.int s), some (.int w), some (.int (nI a)), some (.int (ush w 4)), some (.int (nI 1)), none]) d_Co_isWay_24 (by decide) rfl ?_
    have lp : ∀ (i : Nat), ∀ (p : Nat), ∀ (x : Int32), ∀ (z : Option Value), (wy_in P N a s w i p x) → bj_S (bw_G l D c) Y_Co_isWay 1 (0, 0, 0, 0) ad (q_b M (wy P N a b s w)) 0 0 26 [some (.ref (ad k)), some (.int (nI a)), some (.int (nI b)), some (.int s), some (.int w), some (.int (nI p)), some (.int x), some (.int (nI i)), z] [] M := by
      intro i p x z
      induction hd_lp : 8 - i using Nat.strongRecOn generalizing i p x z with
      | ind d_lp ih_lp =>
        intro hi2
        have hi1 := hi2.2.1
        have hi5 := hi2.2.2.2.2.1
        refine bj_iload d_Co_isWay_26 rfl ?_
        refine bj_bipush (v := (nI 8)) d_Co_isWay_28 (by decide) ?_
        refine bj_icmp_geN (tgt := 92) d_Co_isWay_30 (by decide) (by have := nb_lt w i; omega) (by have := nb_lt w i; omega) (fun h30 => ?_) (fun h30 => ?_)
        · have hz : ∀ m, i ≤ m → m < 8 → nb w m = 0 := fun m h8 h9 => by omega
          refine bj_iload d_Co_isWay_92 rfl ?_
          refine bj_iload_n d_Co_isWay_94 rfl rfl ?_
          refine bj_icmp_neN (tgt := 102) d_Co_isWay_95 (by decide) (by have := nb_lt w i; omega) (by have := nb_lt w i; omega) (fun h95 => ?_) (fun h95 => ?_)
          · refine bj_iconst (v := (nI 0)) d_Co_isWay_102 (by decide) ?_
            exact bj_iret d_Co_isWay_103 rfl rfl (Nat.le_refl _) (Nat.le_refl _) (qb_f (fun q => h95 ((wy_end hi2 hz).mp q)))
          · refine bj_iconst (v := (nI 1)) d_Co_isWay_98 (by decide) ?_
            refine bj_goto (tgt := 103) d_Co_isWay_99 (by decide) ?_
            exact bj_iret d_Co_isWay_103 rfl rfl (Nat.le_refl _) (Nat.le_refl _) (qb_t ((wy_end hi2 hz).mpr (by omega)))
        · refine bj_iload d_Co_isWay_33 rfl ?_
          refine bj_if_eq (tgt := 92) d_Co_isWay_35 (by decide) (fun h35 => ?_) (fun h35 => ?_)
          · have hz := (ush_zero w h30).mp ((hi2.2.2.2.2.2.1 h30).symm.trans h35)
            refine bj_iload d_Co_isWay_92 rfl ?_
            refine bj_iload_n d_Co_isWay_94 rfl rfl ?_
            refine bj_icmp_neN (tgt := 102) d_Co_isWay_95 (by decide) (by have := nb_lt w i; omega) (by have := nb_lt w i; omega) (fun h95 => ?_) (fun h95 => ?_)
            · refine bj_iconst (v := (nI 0)) d_Co_isWay_102 (by decide) ?_
              exact bj_iret d_Co_isWay_103 rfl rfl (Nat.le_refl _) (Nat.le_refl _) (qb_f (fun q => h95 ((wy_end hi2 hz).mp q)))
            · refine bj_iconst (v := (nI 1)) d_Co_isWay_98 (by decide) ?_
              refine bj_goto (tgt := 103) d_Co_isWay_99 (by decide) ?_
              exact bj_iret d_Co_isWay_103 rfl rfl (Nat.le_refl _) (Nat.le_refl _) (qb_t ((wy_end hi2 hz).mpr (by omega)))
          · refine bj_iload d_Co_isWay_38 rfl ?_
            refine bj_iconst (v := (nI 0)) d_Co_isWay_40 (by decide) ?_
            have e9 : nb x 0 = nb w i := by rw [hi2.2.2.2.2.2.1 h30]; exact ush_nb w h30
            refine bj_cnF sn_Co_49 d_Co_isWay_41 (t_Of_nibble (w := x) (i := 0) l D c ad M (by decide)) rfl rfl (by decide) (by decide) (by decide) (Nat.le_of_ble_eq_true rfl) rfl ?_
            rw [e9]
            refine bj_iconst (v := (nI 1)) d_Co_isWay_44 (by decide) ?_
            rcases Nat.eq_zero_or_pos (nb w i) with z0 | z0
            · refine bj_isub (v := -1) d_Co_isWay_45 (by rw [z0]; decide) ?_
              refine bj_istore (L' := [some (.ref (ad k)), some (.int (nI a)), some (.int (nI b)), some (.int s), some (.int w), some (.int (nI p)), some (.int x), some (.int (nI i)), some (.int (-1))]) d_Co_isWay_46 (by decide) rfl ?_
              refine bj_iload d_Co_isWay_48 rfl ?_
              refine bj_if_lt (tgt := 74) d_Co_isWay_50 (by decide) (fun h50 => ?_) (fun h50 => ?_)
              · refine bj_iconst (v := (nI 0)) d_Co_isWay_74 (by decide) ?_
                exact bj_iret d_Co_isWay_75 rfl rfl (Nat.le_refl _) (Nat.le_refl _) (qb_f (wy_bad hi2 h30 h35 (by omega)))
              · exact absurd (by decide) h50
            · refine bj_isub (v := nI (nb w i - 1)) d_Co_isWay_45 (pk_sub z0) ?_
              refine bj_istore (L' := [some (.ref (ad k)), some (.int (nI a)), some (.int (nI b)), some (.int s), some (.int w), some (.int (nI p)), some (.int x), some (.int (nI i)), some (.int (nI (nb w i - 1)))]) d_Co_isWay_46 (by decide) rfl ?_
              refine bj_iload d_Co_isWay_48 rfl ?_
              refine bj_if_ltN (tgt := 74) d_Co_isWay_50 (by decide) (by have := nb_lt w i; omega) ?_
              refine bj_iload d_Co_isWay_53 rfl ?_
              refine bj_aload_n d_Co_isWay_55 rfl rfl ?_
              refine bj_get d_Co_isWay_56 in_Co rfl (by decide : 0 < 3) wf_Co_9 rfl h.1 rfl ?_
              refine bj_icmp_geN (tgt := 74) d_Co_isWay_59 (by decide) (by have := nb_lt w i; omega) (by have := nb_lt w i; omega) (fun h59 => ?_) (fun h59 => ?_)
              · refine bj_iconst (v := (nI 0)) d_Co_isWay_74 (by decide) ?_
                exact bj_iret d_Co_isWay_75 rfl rfl (Nat.le_refl _) (Nat.le_refl _) (qb_f (wy_bad hi2 h30 h35 (by first | omega | exact fun q => h71 q.2.2)))
              · refine bj_aload_n d_Co_isWay_62 rfl rfl ?_
                refine bj_iload d_Co_isWay_63 rfl ?_
                refine bj_iload d_Co_isWay_65 rfl ?_
                refine bj_cvF sv_Co_53 d_Co_isWay_67 (t_Co_direct l D c ad M h hN hi2.2.2.2.2.1 (by omega)) rfl rfl (by decide) (by decide) (by decide) (Nat.le_of_ble_eq_true rfl) rfl h.1 rfl rfl ?_
                refine bj_iload_n d_Co_isWay_70 rfl rfl ?_
                refine bj_icmp_ge (tgt := 76) d_Co_isWay_71 (by decide) (fun h71 => ?_) (fun h71 => ?_)
                · refine bj_iload d_Co_isWay_76 rfl ?_
                  refine bj_istore (L' := [some (.ref (ad k)), some (.int (nI a)), some (.int (nI b)), some (.int s), some (.int w), some (.int (nI (nb w i - 1))), some (.int x), some (.int (nI i)), some (.int (nI (nb w i - 1)))]) d_Co_isWay_78 (by decide) rfl ?_
                  refine bj_iload d_Co_isWay_80 rfl ?_
                  refine bj_iconst (v := (nI 4)) d_Co_isWay_82 (by decide) ?_
                  refine bj_iushr (v := (ush x 4)) d_Co_isWay_83 rfl ?_
                  refine bj_istore (L' := [some (.ref (ad k)), some (.int (nI a)), some (.int (nI b)), some (.int s), some (.int w), some (.int (nI (nb w i - 1))), some (.int (ush x 4)), some (.int (nI i)), some (.int (nI (nb w i - 1)))]) d_Co_isWay_84 (by decide) rfl ?_
                  refine bj_iinc (v := (nI (i + 1))) (L' := [some (.ref (ad k)), some (.int (nI a)), some (.int (nI b)), some (.int s), some (.int w), some (.int (nI (nb w i - 1))), some (.int (ush x 4)), some (.int (nI (i + 1))), some (.int (nI (nb w i - 1)))]) d_Co_isWay_86 rfl (bj_inc1 _) (by decide) rfl ?_
                  refine bj_goto (tgt := 26) d_Co_isWay_89 (by decide) ?_
                  exact ih_lp (8 - (i + 1)) (by omega) (i + 1) (nb w i - 1) (ush x 4) _ rfl (wy_step hi2 h30 z0 (by omega) h71)
                · refine bj_iconst (v := (nI 0)) d_Co_isWay_74 (by decide) ?_
                  exact bj_iret d_Co_isWay_75 rfl rfl (Nat.le_refl _) (Nat.le_refl _) (qb_f (wy_bad hi2 h30 h35 (by first | omega | exact fun q => h71 q.2.2)))
    exact lp 1 a (ush w 4) none ⟨by decide, by decide, h9, h9, ha, fun _ => rfl, fun j hj => absurd hj (by omega)⟩
  · refine bj_iconst (v := (nI 0)) d_Co_isWay_12 (by decide) ?_
    exact bj_iret d_Co_isWay_13 rfl rfl (Nat.le_refl _) (Nat.le_refl _) (qb_f (fun ⟨m, _, _, _, q, _⟩ => h9 q))
end C5
end
section
/-! Integer.bitCount, Count.topSet, System.arraycopy, Count.copy, Arrays.fill (walks by gen/m_co6.py) -/
section C6
section Rw
variable {G : bj_G} {Y : bj_Y} {n : Nat} {K : bj_K} {ad : Nat → Nat} {Q : bj_R → bj_M → Prop} {cs sl pc : Nat} {L : List (Option Value)} {st : List Value} {M : bj_M}
theorem bj_ldcw {index : Nat} {v : Int32} (d : decode Y.2.2.1 pc = .ok (.ldc_w index, 3)) (w : Cond.constant Y.1 index v ∈ G.2.2.2.2) (kk : bj_S G Y n K ad Q cs sl (pc + 3) L (.int v :: st) M) : bj_S G Y n K ad Q cs sl pc L st M :=
  fun p e s m ar be me c A H lo ls C hW hS hl => lv_ldcw C.ex C.by C.ow (C.ts _ w) d (kk p e s m ar be me c A H lo ls C hW hS hl)
/-- System.arraycopy of a whole int array to another of its length -/
theorem bv_copy {index k0 k1 N : Nat} {cA : ClassId} {f g : Nat → Int32} (d : decode Y.2.2.1 pc = .ok (.invokestatic index, 3)) (w1 : Cond.methodLink Y.1 index arraycopyName ∈ G.2.2.2.2) (w2 : Cond.native arraycopyName ∈ G.2.2.2.2) (w3 : Cond.static arraycopyName ∈ G.2.2.2.2) (w4 : Cond.initialized "java/lang/System" ∈ G.2.2.2.2) (t : Nat) (ht : G.2.2.2.1[t]? = some (cA, .int)) (h0 : bv_I cA M k0 N f) (h1 : bv_I cA M k1 N g) (hN : N < 2 ^ 31) (hn : 1 ≤ n) (hl9 : (st.map fun v => v.category).sum + (nativeFrameWords "java/lang/System" "arraycopy" 5 + 11) ≤ 36 * n)
    (kk : ∀ M' : bj_M, bv_I cA M' k1 N f → (∀ q, q ≠ k1 → M' q = M q) → bj_S G Y n K ad Q cs sl (pc + 3) L st M') : bj_S G Y n K ad Q cs sl pc L (.int (nI N) :: .int (nI 0) :: .ref (ad k1) :: .int (nI 0) :: .ref (ad k0) :: st) M := by
  intro p e s m ar be me c A H lo ls C hW hS hl T hT X
  subst hT
  obtain ⟨f0, h0, e0⟩ := h0
  obtain ⟨g0, h1, e1⟩ := h1
  have z0 : (nI 0).toNatClampNeg = 0 := nI_clamp (by decide)
  have zN : (nI N).toNatClampNeg = N := nI_clamp hN
  have hc0 : T.heap[ad k0]? = some (vp_cell cA (N, .inl f0)) := hW.1 k0 _ h0
  have hc1 : T.heap[ad k1]? = some (vp_cell cA (N, .inl g0)) := hW.1 k1 _ h1
  obtain ⟨-, kc0, hk0, cm0, hkk0⟩ := (C.k.2 t _ ht).1 N (fun j => .int (f0 j))
  have nn : ∀ z : Nat, z < 2 ^ 31 → (nI z).toInt = (z : Int) := fun z hz => nI_toInt hz
  obtain ⟨vm', X', step⟩ := X.arraycopy C.ex C.ow (C.ts _ w1) (C.ts _ w2) (C.ts _ w3) (C.ts _ w4) (src := ad k0) (dst := ad k1) (cs := vp_cell cA (N, .inl f0)) (cd := vp_cell cA (N, .inl g0)) (srcPos := nI 0) (destPos := nI 0) (n := nI N) hc0 hc1
    (fun _ h => by cases h) (fun _ h => by cases h) (fun h => by cases h) (fun h => by cases h) hk0 hk0 hkk0 hkk0 (by simp [refKind]) (nI_pos (by decide)) (nI_pos (by decide)) (nI_pos hN)
    (by rw [nn 0 (by decide), nn N hN]; show ¬ _ > ((arrV cA N (fun j => .int (f0 j))).slots.size : Int); rw [arrV_size]; omega)
    (by rw [nn 0 (by decide), nn N hN]; show ¬ _ > ((arrV cA N (fun j => .int (g0 j))).slots.size : Int); rw [arrV_size]; omega)
    (fun vm₁ _ i hi => by
      rw [zN] at hi
      have e : (vp_cell cA (N, .inl f0)).slots.getD ((nI 0).toNatClampNeg + i) .null = .int (f0 (0 + i)) := by
        show (arrV cA N (fun j => .int (f0 j))).slots.getD _ _ = _
        rw [z0, Array.getD_eq_getD_getElem?, arrV_read _ _ (by omega)]
        rfl
      rw [e]
      exact ⟨rfl, trivial⟩)
    (g := F0 m pc ls (.int (nI N) :: .int (nI 0) :: .ref (ad k1) :: .int (nI 0) :: .ref (ad k0) :: st)) rfl (hl.1.1.trans C.ml.symm) (rest := st) rfl (by rw [C.by]; exact d) hn (by show 2 * 0 + _ + _ ≤ 36 * n; omega)
  have e9 : copied (vp_cell cA (N, .inl f0)) (vp_cell cA (N, .inl g0)) (nI 0) (nI 0) (nI N) = vp_cell cA (N, .inl (va_cpy f0 g0 0 0 N)) := by
    have h := va_copied (fun z => Value.int z) cA cA (n0 := N) (n1 := N) (sp := (nI 0).toNatClampNeg) (dp := (nI 0).toNatClampNeg) (n := (nI N).toNatClampNeg) f0 g0 (by rw [z0, zN]; omega)
    rw [z0, zN] at h
    rw [copied, z0, zN]
    exact h
  rw [e9] at X' step
  have hlt : ad k1 < T.heap.size := (Array.getElem?_eq_some_iff.mp hc1).1
  have hheap : ((T.setVm vm').setCell (ad k1) (vp_cell cA (N, .inl (va_cpy f0 g0 0 0 N)))).heap = T.heap.setIfInBounds (ad k1) (vp_cell cA (N, .inl (va_cpy f0 g0 0 0 N))) := rfl
  have oq : ∀ q : Nat, q ≠ ad k1 → (T.heap.setIfInBounds (ad k1) (vp_cell cA (N, .inl (va_cpy f0 g0 0 0 N))))[q]? = T.heap[q]? := fun q hq => by simp [Array.getElem?_setIfInBounds, Ne.symm hq]
  have hin : bv_I cA (va_up M k1 (some (.inl (cA, N, .inl (va_cpy f0 g0 0 0 N))))) k1 N f := ⟨_, va_up_self _ _ _, fun j hj => by rw [sb_cpy0 hj]; exact e0 j hj⟩
  obtain ⟨t9, a1, b1⟩ := kk _ hin (fun q hq => va_up_ne _ _ hq) p e s m ar be me c A _ _ ls C (hW.set h1 (show (T.heap.setIfInBounds (ad k1) _)[ad k1]? = some _ by simp [Array.getElem?_setIfInBounds, hlt]) oq)
    ⟨by simp; exact hS.1, fun q g1 g2 => by
      rw [oq q (fun e => g2 (by rw [e]; exact hW.2.2 k1 (bj_ne h1)))]
      exact hS.2.1 q g1 g2, fun q hq => by
      rcases List.mem_append.mp hq with h | h
      · exact hS.2.2 q h
      · obtain ⟨z, -, hz⟩ := List.mem_map.mp h
        rw [← hz]
        exact hW.2.2 k1 (bj_ne h1)⟩ hl _ hheap X'
  exact ⟨t9, step t9 a1, b1⟩
end Rw
/-- Integer.bitCount, step by step -/
def jb1 (x : Int32) : Int32 := x - (ush x 1 &&& 1431655765)
def jb2 (x : Int32) : Int32 := (x &&& 858993459) + (ush x 2 &&& 858993459)
def jb3 (x : Int32) : Int32 := (x + ush x 4) &&& 252645135
def jb4 (x : Int32) : Int32 := x + ush x 8
def jb5 (x : Int32) : Int32 := x + ush x 16
def jbc (x : Int32) : Int32 := jb5 (jb4 (jb3 (jb2 (jb1 x)))) &&& 63
theorem jbc_n : ∀ m, m < 256 → jbc (nI m) = nI (mn_cnt (fun i => bt (nI m) i) 8) := by decide +kernel
theorem jbc_bm (p : Nat → Bool) {N : Nat} (hN : N ≤ 8) : jbc (bm p N) = nI (mn_cnt p N) := by
  have hb : ∀ i, i < 32 → bt (bm p N) i = (decide (i < N) && p i) := fun i hi => bm_bt p hi N (by omega)
  obtain ⟨m, hm, e⟩ : ∃ m, m < 256 ∧ bm p N = nI m := by
    have h1 : (bm p N).toBitVec.toNat < 2 ^ 8 := by
      apply Nat.lt_pow_two_of_testBit
      intro i hi
      rcases Nat.lt_or_ge i 32 with h2 | h2
      · have h3 := hb i h2
        have h4 : (bm p N).toBitVec.toNat.testBit i = bt (bm p N) i := rfl
        rw [h4, h3]
        simp
        omega
      · exact Nat.testBit_lt_two_pow (Nat.lt_of_lt_of_le (bm p N).toBitVec.isLt (Nat.pow_le_pow_right (by decide) h2))
    refine ⟨_, h1, ?_⟩
    apply Int32.toBitVec_inj.mp
    apply BitVec.eq_of_toNat_eq
    have := pk_tn (n := (bm p N).toBitVec.toNat) (by omega)
    rw [this]
  rw [e, jbc_n m hm, ← e]
  have h5 : ∀ k, k ≤ N → mn_cnt (fun i => bt (bm p N) i) k = mn_cnt p k := by
    intro k
    induction k with
    | zero => intro _; rfl
    | succ k ih =>
      intro hk
      unfold mn_cnt
      rw [ih (by omega), hb k (by omega), decide_eq_true (show k < N by omega)]
      simp
  have h6 : ∀ k, N ≤ k → k ≤ 8 → mn_cnt (fun i => bt (bm p N) i) k = mn_cnt (fun i => bt (bm p N) i) N := by
    intro k
    induction k with
    | zero => intro h _; rw [show N = 0 by omega]
    | succ k ih =>
      intro h1 h2
      by_cases e9 : N = k + 1
      · rw [e9]
      · rw [← ih (by omega) (by omega)]
        show mn_cnt (fun i => bt (bm p N) i) k + (if bt (bm p N) k = true then 1 else 0) = _
        rw [hb k (by omega), decide_eq_false (show ¬ k < N by omega)]
        simp
  rw [h6 8 hN (Nat.le_refl _), h5 N (Nat.le_refl _)]
/-- the least of the sets around a candidate -/
def q_top (M : bj_M) (N : Nat) (P : Nat → Nat → Int32) : bj_R → bj_M → Prop := bj_ret (fun v M' => ∃ c0, c0 < N ∧ v = some (.int (bm (mt_of (nbt P) N c0) N)) ∧ (∀ a, a < N → mn_cnt (mt_of (nbt P) N c0) N ≤ mn_cnt (mt_of (nbt P) N a) N) ∧ M' = M)
def q_copy (c : Nat → ClassId) (ad : Nat → Nat) (M : bj_M) (k N : Nat) (vs : Int32) (P : Nat → Nat → Int32) : bj_R → bj_M → Prop := bj_ret (fun r M' => r = none ∧ co_ok c ad M' k N vs P ∧ co_fr k N M M')
def q_fill (c : Nat → ClassId) (M : bj_M) (k N : Nat) (y : Int32) : bj_R → bj_M → Prop := bj_ret (fun r M' => r = none ∧ bv_I (c 0) M' k N (fun _ => y) ∧ ∀ q, q ≠ k → M' q = M q)
variable (l : Launch) (D : va_G) (c : Nat → ClassId) (ad : Nat → Nat) (M : bj_M)
set_option maxRecDepth 100000 in
set_option maxHeartbeats 4000000 in
/-- Integer.bitCount -/
theorem t_In_bitCount {x : Int32} : bj_T (bw_G l D c) Y_In_bitCount 0 (0, 0, 0, 0) ad (bj_fn (jbc x) M) [.int x] M := by
  show bj_S _ _ _ _ _ _ 0 0 0 [some (.int x)] [] M
  refine bj_iload_n d_In_bitCount_0 rfl rfl ?_
  refine bj_iload_n d_In_bitCount_1 rfl rfl ?_
  refine bj_iconst (v := (nI 1)) d_In_bitCount_2 (by decide) ?_
  refine bj_iushr (v := (ush x 1)) d_In_bitCount_3 rfl ?_
  refine bj_ldcw d_In_bitCount_4 wk_In_265 ?_
  refine bj_iand (v := ((ush x 1) &&& 1431655765)) d_In_bitCount_7 rfl ?_
  refine bj_isub (v := (jb1 x)) d_In_bitCount_8 rfl ?_
  refine bj_istore_n (L' := [some (.int (jb1 x))]) d_In_bitCount_9 rfl (by decide) rfl ?_
  refine bj_iload_n d_In_bitCount_10 rfl rfl ?_
  refine bj_ldcw d_In_bitCount_11 wk_In_266 ?_
  refine bj_iand (v := ((jb1 x) &&& 858993459)) d_In_bitCount_14 rfl ?_
  refine bj_iload_n d_In_bitCount_15 rfl rfl ?_
  refine bj_iconst (v := (nI 2)) d_In_bitCount_16 (by decide) ?_
  refine bj_iushr (v := (ush (jb1 x) 2)) d_In_bitCount_17 rfl ?_
  refine bj_ldcw d_In_bitCount_18 wk_In_266 ?_
  refine bj_iand (v := ((ush (jb1 x) 2) &&& 858993459)) d_In_bitCount_21 rfl ?_
  refine bj_iadd (v := (jb2 (jb1 x))) d_In_bitCount_22 rfl ?_
  refine bj_istore_n (L' := [some (.int (jb2 (jb1 x)))]) d_In_bitCount_23 rfl (by decide) rfl ?_
  refine bj_iload_n d_In_bitCount_24 rfl rfl ?_
  refine bj_iload_n d_In_bitCount_25 rfl rfl ?_
  refine bj_iconst (v := (nI 4)) d_In_bitCount_26 (by decide) ?_
  refine bj_iushr (v := (ush (jb2 (jb1 x)) 4)) d_In_bitCount_27 rfl ?_
  refine bj_iadd (v := ((jb2 (jb1 x)) + (ush (jb2 (jb1 x)) 4))) d_In_bitCount_28 rfl ?_
  refine bj_ldcw d_In_bitCount_29 wk_In_267 ?_
  refine bj_iand (v := (jb3 (jb2 (jb1 x)))) d_In_bitCount_32 rfl ?_
  refine bj_istore_n (L' := [some (.int (jb3 (jb2 (jb1 x))))]) d_In_bitCount_33 rfl (by decide) rfl ?_
  refine bj_iload_n d_In_bitCount_34 rfl rfl ?_
  refine bj_iload_n d_In_bitCount_35 rfl rfl ?_
  refine bj_bipush (v := (nI 8)) d_In_bitCount_36 (by decide) ?_
  refine bj_iushr (v := (ush (jb3 (jb2 (jb1 x))) 8)) d_In_bitCount_38 rfl ?_
  refine bj_iadd (v := (jb4 (jb3 (jb2 (jb1 x))))) d_In_bitCount_39 rfl ?_
  refine bj_istore_n (L' := [some (.int (jb4 (jb3 (jb2 (jb1 x)))))]) d_In_bitCount_40 rfl (by decide) rfl ?_
  refine bj_iload_n d_In_bitCount_41 rfl rfl ?_
  refine bj_iload_n d_In_bitCount_42 rfl rfl ?_
  refine bj_bipush (v := (nI 16)) d_In_bitCount_43 (by decide) ?_
  refine bj_iushr (v := (ush (jb4 (jb3 (jb2 (jb1 x)))) 16)) d_In_bitCount_45 rfl ?_
  refine bj_iadd (v := (jb5 (jb4 (jb3 (jb2 (jb1 x)))))) d_In_bitCount_46 rfl ?_
  refine bj_istore_n (L' := [some (.int (jb5 (jb4 (jb3 (jb2 (jb1 x))))))]) d_In_bitCount_47 rfl (by decide) rfl ?_
  refine bj_iload_n d_In_bitCount_48 rfl rfl ?_
  refine bj_bipush (v := (nI 63)) d_In_bitCount_49 (by decide) ?_
  refine bj_iand (v := (jbc x)) d_In_bitCount_51 rfl ?_
  exact bj_iret d_In_bitCount_52 rfl rfl (Nat.le_refl _) (Nat.le_refl _) ⟨rfl, rfl⟩
set_option maxRecDepth 100000 in
set_option maxHeartbeats 4000000 in
/-- topSet -/
theorem t_Co_topSet {k N : Nat} {vs : Int32} {P : Nat → Nat → Int32} (h : co_ok c ad M k N vs P) (hN : N ≤ 8) (h1 : 1 ≤ N) : bj_T (bw_G l D c) Y_Co_topSet 3 (0, 0, 0, 0) ad (q_top M N P) [.ref (ad k)] M := by
  show bj_S _ _ _ _ _ _ 0 0 0 [some (.ref (ad k)), none, none, none] [] M
  refine bj_aload_n d_Co_topSet_0 rfl rfl ?_
  refine bj_iconst (v := (nI 0)) d_Co_topSet_1 (by decide) ?_
  refine bj_cvF sv_Co_60 d_Co_topSet_2 (t_Co_beatingSetAround l D c ad M h hN (by omega)) rfl rfl (by decide) (by decide) (by decide) (Nat.le_of_ble_eq_true rfl) rfl h.1 rfl rfl ?_
  refine bj_istore_n (L' := [some (.ref (ad k)), some (.int (bm (mt_of (nbt P) N 0) N)), none, none]) d_Co_topSet_5 rfl (by decide) rfl ?_
  refine bj_iconst (v := (nI 1)) d_Co_topSet_6 (by decide) ?_
  refine bj_istore_n (L' := [some (.ref (ad k)), some (.int (bm (mt_of (nbt P) N 0) N)), some (.int (nI 1)), none]) d_Co_topSet_7 rfl (by decide) rfl ?_
  have lp : ∀ (i : Nat), ∀ (c0 : Nat), ∀ (z : Option Value), (1 ≤ i) → (i ≤ N) → (c0 < N) → (∀ a, a < i → mn_cnt (mt_of (nbt P) N c0) N ≤ mn_cnt (mt_of (nbt P) N a) N) → bj_S (bw_G l D c) Y_Co_topSet 3 (0, 0, 0, 0) ad (q_top M N P) 0 0 8 [some (.ref (ad k)), some (.int (bm (mt_of (nbt P) N c0) N)), some (.int (nI i)), z] [] M := by
    intro i c0 z
    induction hd_lp : N - i using Nat.strongRecOn generalizing i c0 z with
    | ind d_lp ih_lp =>
      intro hi hi2 hc hm
      refine bj_iload_n d_Co_topSet_8 rfl rfl ?_
      refine bj_aload_n d_Co_topSet_9 rfl rfl ?_
      refine bj_get d_Co_topSet_10 in_Co rfl (by decide : 0 < 3) wf_Co_9 rfl h.1 rfl ?_
      refine bj_icmp_geN (tgt := 41) d_Co_topSet_13 (by decide) (by have := mn_cnt_le (mt_of (nbt P) N i) N; have := mn_cnt_le (mt_of (nbt P) N c0) N; omega) (by have := mn_cnt_le (mt_of (nbt P) N i) N; have := mn_cnt_le (mt_of (nbt P) N c0) N; omega) (fun h13 => ?_) (fun h13 => ?_)
      · refine bj_iload_n d_Co_topSet_41 rfl rfl ?_
        exact bj_iret d_Co_topSet_42 rfl rfl (Nat.le_refl _) (Nat.le_refl _) ⟨c0, hc, rfl, fun a ha => hm a (by omega), rfl⟩
      · refine bj_aload_n d_Co_topSet_16 rfl rfl ?_
        refine bj_iload_n d_Co_topSet_17 rfl rfl ?_
        refine bj_cvF sv_Co_60 d_Co_topSet_18 (t_Co_beatingSetAround l D c ad M h hN (by omega)) rfl rfl (by decide) (by decide) (by decide) (Nat.le_of_ble_eq_true rfl) rfl h.1 rfl rfl ?_
        refine bj_istore_n (L' := [some (.ref (ad k)), some (.int (bm (mt_of (nbt P) N c0) N)), some (.int (nI i)), some (.int (bm (mt_of (nbt P) N i) N))]) d_Co_topSet_21 rfl (by decide) rfl ?_
        refine bj_iload_n d_Co_topSet_22 rfl rfl ?_
        refine bj_csF ss_Co_64 d_Co_topSet_23 (t_In_bitCount l D c ad M (x := bm (mt_of (nbt P) N i) N)) rfl rfl (by decide) (by decide) (by decide) (Nat.le_of_ble_eq_true rfl) rfl ?_
        rw [jbc_bm _ hN]
        refine bj_iload_n d_Co_topSet_26 rfl rfl ?_
        refine bj_csF ss_Co_64 d_Co_topSet_27 (t_In_bitCount l D c ad M (x := bm (mt_of (nbt P) N c0) N)) rfl rfl (by decide) (by decide) (by decide) (Nat.le_of_ble_eq_true rfl) rfl ?_
        rw [jbc_bm _ hN]
        refine bj_icmp_geN (tgt := 35) d_Co_topSet_30 (by decide) (by have := mn_cnt_le (mt_of (nbt P) N i) N; have := mn_cnt_le (mt_of (nbt P) N c0) N; omega) (by have := mn_cnt_le (mt_of (nbt P) N i) N; have := mn_cnt_le (mt_of (nbt P) N c0) N; omega) (fun h30 => ?_) (fun h30 => ?_)
        · refine bj_iinc (v := (nI (i + 1))) (L' := [some (.ref (ad k)), some (.int (bm (mt_of (nbt P) N c0) N)), some (.int (nI (i + 1))), some (.int (bm (mt_of (nbt P) N i) N))]) d_Co_topSet_35 rfl (bj_inc1 _) (by decide) rfl ?_
          refine bj_goto (tgt := 8) d_Co_topSet_38 (by decide) ?_
          exact ih_lp (N - (i + 1)) (by omega) (i + 1) c0 _ rfl (by omega) (by omega) (by omega) (fun a ha => by
            rcases Nat.lt_or_ge a i with q | q
            · have := hm a q; omega
            · have e : a = i := by omega
              subst e; omega)
        · refine bj_iload_n d_Co_topSet_33 rfl rfl ?_
          refine bj_istore_n (L' := [some (.ref (ad k)), some (.int (bm (mt_of (nbt P) N i) N)), some (.int (nI i)), some (.int (bm (mt_of (nbt P) N i) N))]) d_Co_topSet_34 rfl (by decide) rfl ?_
          refine bj_iinc (v := (nI (i + 1))) (L' := [some (.ref (ad k)), some (.int (bm (mt_of (nbt P) N i) N)), some (.int (nI (i + 1))), some (.int (bm (mt_of (nbt P) N i) N))]) d_Co_topSet_35 rfl (bj_inc1 _) (by decide) rfl ?_
          refine bj_goto (tgt := 8) d_Co_topSet_38 (by decide) ?_
          exact ih_lp (N - (i + 1)) (by omega) (i + 1) i _ rfl (by omega) (by omega) (by omega) (fun a ha => by
            rcases Nat.lt_or_ge a i with q | q
            · have := hm a q; omega
            · have e : a = i := by omega
              subst e; omega)
  exact lp 1 0 none (Nat.le_refl _) h1 (by omega) (fun a ha => Nat.le_of_eq (by rw [show a = 0 by omega]))
set_option maxRecDepth 100000 in
set_option maxHeartbeats 4000000 in
/-- Arrays.fill -/
theorem t_Ar_fill {k N : Nat} {y : Int32} {g : Nat → Int32} (h : bv_I (c 0) M k N g) (hN : N < 1000) : bj_T (bw_G l D c) Y_Ar_fill 0 (0, 0, 0, 0) ad (q_fill c M k N y) [.ref (ad k), .int y] M := by
  show bj_S _ _ _ _ _ _ 0 0 0 [some (.ref (ad k)), some (.int y), none, none] [] M
  refine bj_iconst (v := (nI 0)) d_Ar_fill_0 (by decide) ?_
  refine bj_istore_n (L' := [some (.ref (ad k)), some (.int y), some (.int (nI 0)), none]) d_Ar_fill_1 rfl (by decide) rfl ?_
  refine bj_aload_n d_Ar_fill_2 rfl rfl ?_
  obtain ⟨f0, hf0, -⟩ := id h
  refine bj_alen (v := nI N) d_Ar_fill_3 0 rfl hf0 rfl ?_
  refine bj_istore_n (L' := [some (.ref (ad k)), some (.int y), some (.int (nI 0)), some (.int (nI N))]) d_Ar_fill_4 rfl (by decide) rfl ?_
  have lp : ∀ (i : Nat), ∀ (M2 : bj_M), ∀ (g2 : Nat → Int32), (i ≤ N) → (bv_I (c 0) M2 k N g2) → (∀ j, j < i → g2 j = y) → (∀ q, q ≠ k → M2 q = M q) → bj_S (bw_G l D c) Y_Ar_fill 0 (0, 0, 0, 0) ad (q_fill c M k N y) 0 0 5 [some (.ref (ad k)), some (.int y), some (.int (nI i)), some (.int (nI N))] [] M2 := by
    intro i M2 g2
    induction hd_lp : N - i using Nat.strongRecOn generalizing i M2 g2 with
    | ind d_lp ih_lp =>
      intro hi hg he ho
      refine bj_iload_n d_Ar_fill_5 rfl rfl ?_
      refine bj_iload_n d_Ar_fill_6 rfl rfl ?_
      refine bj_icmp_geN (tgt := 20) d_Ar_fill_7 (by decide) (by omega) (by omega) (fun h7 => ?_) (fun h7 => ?_)
      · exact bj_vret d_Ar_fill_20 rfl (Nat.le_refl _) (Nat.le_refl _) ⟨rfl, hg.to (fun j hj => he j (by omega)), ho⟩
      · refine bj_aload_n d_Ar_fill_10 rfl rfl ?_
        refine bj_iload_n d_Ar_fill_11 rfl rfl ?_
        refine bj_iload_n d_Ar_fill_12 rfl rfl ?_
        refine bv_iast d_Ar_fill_13 0 rfl hg (by omega) (by omega) (fun N1 hN1 hO1 => ?_)
        refine bj_iinc (v := (nI (i + 1))) (L' := [some (.ref (ad k)), some (.int y), some (.int (nI (i + 1))), some (.int (nI N))]) d_Ar_fill_14 rfl (bj_inc1 _) (by decide) rfl ?_
        refine bj_goto (tgt := 5) d_Ar_fill_17 (by decide) ?_
        exact ih_lp (N - (i + 1)) (by omega) (i + 1) N1 _ rfl (by omega) hN1 (fun j hj => by
          by_cases e : j = i
          · subst e; exact va_up_self _ _ _
          · rw [va_up_ne _ _ e]; exact he j (by omega)) (fun q hq => (hO1 q hq).trans (ho q hq))
  exact lp 0 M g (Nat.zero_le _) h (fun j hj => absurd hj (Nat.not_lt_zero _)) (fun _ _ => rfl)
theorem wcp_1 : Cond.methodLink "BeatPathOffice$Count" 23 arraycopyName ∈ bw_TB := bw_t (i := 580) (by decide +kernel)
theorem wcp_2 : Cond.native arraycopyName ∈ bw_TB := bw_t (i := 582) (by decide +kernel)
theorem wcp_3 : Cond.static arraycopyName ∈ bw_TB := bw_t (i := 581) (by decide +kernel)
set_option maxRecDepth 100000 in
set_option maxHeartbeats 4000000 in
/-- copy -/
theorem t_Co_copy {k k2 N : Nat} {vs vs2 : Int32} {P P2 : Nat → Nat → Int32} (h : co_ok c ad M k N vs P) (h2 : co_ok c ad M k2 N vs2 P2) (hN : N ≤ 8) (hk : k2 + 10 ≤ k ∨ k + 10 ≤ k2) : bj_T (bw_G l D c) Y_Co_copy 3 (0, 0, 0, 0) ad (q_copy c ad M k N vs2 P2) [.ref (ad k), .ref (ad k2)] M := by
  show bj_S _ _ _ _ _ _ 0 0 0 [some (.ref (ad k)), some (.ref (ad k2)), none] [] M
  refine bj_aload_n d_Co_copy_0 rfl rfl ?_
  refine bj_aload_n d_Co_copy_1 rfl rfl ?_
  refine bj_get d_Co_copy_2 in_Co rfl (by decide : 1 < 3) wf_Co_15 rfl h2.1 rfl ?_
  refine bj_put d_Co_copy_5 in_Co ok_Co nm_Co rfl (by decide : 1 < 3) wf_Co_15 rfl rfl rfl rfl rfl (Nat.le_of_ble_eq_true rfl) h.1 ?_
  have h1 := h.vs (vs' := vs2)
  have hf1 : co_fr k N M (va_up M k (some (.inr (2, [.int (nI N), .int vs2, .ref (ad (k + 1))])))) := fun q hq => va_up_ne _ _ (by omega)
  show bj_S _ _ _ _ _ _ 0 0 _ _ [] (va_up M k (some (.inr (2, [.int (nI N), .int vs2, .ref (ad (k + 1))]))))
  generalize va_up M k (some (.inr (2, [.int (nI N), .int vs2, .ref (ad (k + 1))]))) = M1 at h1 hf1 ⊢
  refine bj_iconst (v := (nI 0)) d_Co_copy_8 (by decide) ?_
  refine bj_istore_n (L' := [some (.ref (ad k)), some (.ref (ad k2)), some (.int (nI 0))]) d_Co_copy_9 rfl (by decide) rfl ?_
  have lp : ∀ (i : Nat), ∀ (M2 : bj_M), (i ≤ N) → (co_ok c ad M2 k N vs2 (fun a b => if a < i then P2 a b else P a b)) → (co_fr k N M M2) → bj_S (bw_G l D c) Y_Co_copy 3 (0, 0, 0, 0) ad (q_copy c ad M k N vs2 P2) 0 0 10 [some (.ref (ad k)), some (.ref (ad k2)), some (.int (nI i))] [] M2 := by
    intro i M2
    induction hd_lp : N - i using Nat.strongRecOn generalizing i M2 with
    | ind d_lp ih_lp =>
      intro hi hc hf
      have h3 : co_ok c ad M2 k2 N vs2 P2 := h2.in (fun q q1 q2 => hf q (by omega))
      refine bj_iload_n d_Co_copy_10 rfl rfl ?_
      refine bj_aload_n d_Co_copy_11 rfl rfl ?_
      refine bj_get d_Co_copy_12 in_Co rfl (by decide : 0 < 3) wf_Co_9 rfl hc.1 rfl ?_
      refine bj_icmp_geN (tgt := 45) d_Co_copy_15 (by decide) (by omega) (by omega) (fun h15 => ?_) (fun h15 => ?_)
      · exact bj_vret d_Co_copy_45 rfl (Nat.le_refl _) (Nat.le_refl _) ⟨rfl, hc.to (fun a b ha hb => if_pos (by omega)), hf⟩
      · refine bj_aload_n d_Co_copy_18 rfl rfl ?_
        refine bj_get d_Co_copy_19 in_Co rfl (by decide : 2 < 3) wf_Co_20 rfl h3.1 rfl ?_
        refine bj_iload_n d_Co_copy_22 rfl rfl ?_
        refine bv_aald d_Co_copy_23 4 rfl rfl h3.2.1 (by omega) (by omega) ?_
        refine bj_iconst (v := (nI 0)) d_Co_copy_24 (by decide) ?_
        refine bj_aload_n d_Co_copy_25 rfl rfl ?_
        refine bj_get d_Co_copy_26 in_Co rfl (by decide : 2 < 3) wf_Co_20 rfl hc.1 rfl ?_
        refine bj_iload_n d_Co_copy_29 rfl rfl ?_
        refine bv_aald d_Co_copy_30 4 rfl rfl hc.2.1 (by omega) (by omega) ?_
        refine bj_iconst (v := (nI 0)) d_Co_copy_31 (by decide) ?_
        refine bj_aload_n d_Co_copy_32 rfl rfl ?_
        refine bj_get d_Co_copy_33 in_Co rfl (by decide : 0 < 3) wf_Co_9 rfl hc.1 rfl ?_
        refine bv_copy d_Co_copy_36 wcp_1 wcp_2 wcp_3 wi_System 0 rfl (h3.2.2 i (by omega)) (hc.2.2 i (by omega)) (by omega) (by decide) (by decide +kernel) (fun N1 hN1 hO1 => ?_)
        refine bj_iinc (v := (nI (i + 1))) (L' := [some (.ref (ad k)), some (.ref (ad k2)), some (.int (nI (i + 1)))]) d_Co_copy_39 rfl (bj_inc1 _) (by decide) rfl ?_
        refine bj_goto (tgt := 10) d_Co_copy_42 (by decide) ?_
        exact ih_lp (N - (i + 1)) (by omega) (i + 1) N1 rfl (by omega) ((hc.row (by omega) hN1 hO1).to (fun a b ha hb => by
          by_cases e : a = i
          · subst e; rw [va_up_self, if_pos (by omega)]
          · rw [va_up_ne _ _ e]
            by_cases e2 : a < i
            · rw [if_pos e2, if_pos (by omega)]
            · rw [if_neg e2, if_neg (by omega)])) (hf.at (by omega) hO1)
  exact lp 0 M1 (Nat.zero_le _) (h1.to (fun a b _ _ => (if_neg (Nat.not_lt_zero _)).symm)) hf1
end C6
end
section
/-! the office's numbers: sums over batches and ballots; the drawn order after a move -/
section SM
def sm (f : Nat → Nat) : Nat → Nat
  | 0 => 0
  | n + 1 => sm f n + f n
theorem sm_to {f g : Nat → Nat} : ∀ n, (∀ i, i < n → f i = g i) → sm f n = sm g n
  | 0, _ => rfl
  | n + 1, h => by rw [sm, sm, sm_to n (fun i hi => h i (by omega)), h n (by omega)]
theorem sm_up {f g : Nat → Nat} {j : Nat} : ∀ n, j < n → (∀ i, i < n → i ≠ j → f i = g i) → sm f n + g j = sm g n + f j
  | 0, hj, _ => absurd hj (Nat.not_lt_zero _)
  | n + 1, hj, h => by
    unfold sm
    by_cases e : j = n
    · subst e
      rw [sm_to j (fun i hi => h i (by omega) (by omega))]
      omega
    · have ih := sm_up n (by omega) (fun i hi => h i (by omega))
      rw [h n (by omega) (Ne.symm e)]
      omega
theorem sm_le {f : Nat → Nat} {B : Nat} : ∀ n, (∀ i, i < n → f i ≤ B) → sm f n ≤ n * B
  | 0, _ => by rw [sm]; omega
  | n + 1, h => by
    have := sm_le n (fun i hi => h i (by omega))
    have := h n (by omega)
    rw [sm, Nat.add_mul]
    omega
/-- what a batch has of a before b -/
def bsum (s : Nat) (rk : Nat → Int32) (tm : Nat → Nat) (a b : Nat) : Nat := sm (fun i => if bef (rk i) a b = true then tm i else 0) s
def psum (sg sz : Nat → Nat) (rk : Nat → Nat → Int32) (tm : Nat → Nat → Nat) (but a b : Nat) : Nat := sm (fun j => if sg j = 1 ∧ j ≠ but then bsum (sz j) (rk j) (tm j) a b else 0) 12
def vsum (sg sz : Nat → Nat) (tm : Nat → Nat → Nat) : Nat := sm (fun j => if sg j = 1 then sm (tm j) (sz j) else 0) 12
theorem bsum_le {s : Nat} {rk : Nat → Int32} {tm : Nat → Nat} {a b : Nat} (hs : s ≤ 6) (h : ∀ i, i < s → tm i ≤ 10000) : bsum s rk tm a b ≤ 60000 := by
  have := sm_le (f := fun i => if bef (rk i) a b = true then tm i else 0) (B := 10000) s (fun i hi => by
    have := h i hi
    split <;> omega)
  unfold bsum
  omega
theorem psum_le {sg sz : Nat → Nat} {rk : Nat → Nat → Int32} {tm : Nat → Nat → Nat} {but a b : Nat} (h : ∀ j, j < 12 → sz j ≤ 6 ∧ ∀ i, i < sz j → tm j i ≤ 10000) : psum sg sz rk tm but a b ≤ 720000 := by
  have := sm_le (f := fun j => if sg j = 1 ∧ j ≠ but then bsum (sz j) (rk j) (tm j) a b else 0) (B := 60000) 12 (fun j hj => by
    have := bsum_le (rk := rk j) (a := a) (b := b) (h j hj).1 (h j hj).2
    split <;> omega)
  unfold psum
  omega
theorem co_sum_p {rk : Nat → Int32} {tm : Nat → Nat} {P : Nat → Nat → Int32} {a b : Nat} : ∀ s, co_sum rk (fun i => nI (tm i)) P s a b = P a b + nI (bsum s rk tm a b)
  | 0 => by
    show P a b = P a b + nI 0
    rw [nI_0, Int32.add_zero]
  | s + 1 => by
    show co_sum rk (fun i => nI (tm i)) P s a b + (if bef (rk s) a b = true then nI (tm s) else 0) = P a b + nI (bsum s rk tm a b + (if bef (rk s) a b = true then tm s else 0))
    rw [co_sum_p s, ← nI_add, Int32.add_assoc]
    split
    · rfl
    · rw [nI_0]
theorem co_sum_m {rk : Nat → Int32} {tm : Nat → Nat} {P : Nat → Nat → Int32} {a b : Nat} : ∀ s, co_sum rk (fun i => - nI (tm i)) P s a b = P a b - nI (bsum s rk tm a b)
  | 0 => by
    show P a b = P a b - nI 0
    rw [nI_0, Int32.sub_zero]
  | s + 1 => by
    show co_sum rk (fun i => - nI (tm i)) P s a b + (if bef (rk s) a b = true then - nI (tm s) else 0) = P a b - nI (bsum s rk tm a b + (if bef (rk s) a b = true then tm s else 0))
    rw [co_sum_m s, ← nI_add, Int32.sub_eq_add_neg, Int32.sub_eq_add_neg, Int32.neg_add, Int32.add_assoc, Int32.sub_eq_add_neg]
    split
    · rfl
    · rw [nI_0]
      rfl
theorem co_vs_p {tm : Nat → Nat} {vs : Int32} : ∀ s, co_vs (fun i => nI (tm i)) vs s = vs + nI (sm tm s)
  | 0 => by
    show vs = vs + nI 0
    rw [nI_0, Int32.add_zero]
  | s + 1 => by
    show co_vs (fun i => nI (tm i)) vs s + nI (tm s) = vs + nI (sm tm s + tm s)
    rw [co_vs_p s, ← nI_add, Int32.add_assoc]
theorem co_vs_m {tm : Nat → Nat} {vs : Int32} : ∀ s, co_vs (fun i => - nI (tm i)) vs s = vs - nI (sm tm s)
  | 0 => by
    show vs = vs - nI 0
    rw [nI_0, Int32.sub_zero]
  | s + 1 => by
    show co_vs (fun i => - nI (tm i)) vs s + - nI (tm s) = vs - nI (sm tm s + tm s)
    rw [co_vs_m s, ← nI_add, Int32.sub_eq_add_neg, Int32.sub_eq_add_neg, Int32.neg_add, Int32.add_assoc, Int32.sub_eq_add_neg]
/-- a number up in one place, out of another -/
theorem nI_pl {x y d : Nat} (h : x + d = y) : nI x + nI d = nI y := by rw [nI_add, h]
theorem nI_mi {x y d : Nat} (h : y + d = x) : nI x - nI d = nI y := by rw [← h, ← nI_add, Int32.add_sub_cancel]
/-! the drawn order -/
def mv1 (dw : Nat → Nat) (fr i x : Nat) : Nat := if fr ≤ x ∧ x < i then dw (x + 1) else dw x
def mv2 (dw : Nat → Nat) (fr pl i x : Nat) : Nat := if i < x ∧ x ≤ fr then dw (x - 1) else mv1 dw fr pl x
def tdw (dw : Nat → Nat) (fr pl x : Nat) : Nat := if x = pl then dw fr else if fr ≤ x ∧ x < pl then dw (x + 1) else if pl < x ∧ x ≤ fr then dw (x - 1) else dw x
def tsg (fr pl x : Nat) : Nat := if x = pl then fr else if fr ≤ x ∧ x < pl then x + 1 else if pl < x ∧ x ≤ fr then x - 1 else x
def tsi (fr pl x : Nat) : Nat := if x = fr then pl else if fr < x ∧ x ≤ pl then x - 1 else if pl ≤ x ∧ x < fr then x + 1 else x
theorem tdw_sg {dw : Nat → Nat} {fr pl x : Nat} : tdw dw fr pl x = dw (tsg fr pl x) := by
  unfold tdw tsg
  split
  · rfl
  · split
    · rfl
    · split <;> rfl
theorem tsg_si {fr pl x : Nat} : tsg fr pl (tsi fr pl x) = x := by
  unfold tsi
  split
  · unfold tsg; rw [if_pos rfl]; omega
  · split
    · unfold tsg; rw [if_neg (by omega), if_pos (by omega)]; omega
    · split
      · unfold tsg; rw [if_neg (by omega), if_neg (by omega), if_pos (by omega)]; omega
      · unfold tsg; rw [if_neg (by omega), if_neg (by omega), if_neg (by omega)]
theorem tsi_sg {fr pl x : Nat} : tsi fr pl (tsg fr pl x) = x := by
  unfold tsg
  split
  · unfold tsi; rw [if_pos rfl]; omega
  · split
    · unfold tsi; rw [if_neg (by omega), if_pos (by omega)]; omega
    · split
      · unfold tsi; rw [if_neg (by omega), if_neg (by omega), if_pos (by omega)]; omega
      · unfold tsi; rw [if_neg (by omega), if_neg (by omega), if_neg (by omega)]
theorem tsg_lt {fr pl x N : Nat} (hf : fr < N) (hp : pl < N) (hx : x < N) : tsg fr pl x < N := by
  unfold tsg
  split
  · exact hf
  · split
    · omega
    · split <;> omega
theorem tsi_lt {fr pl x N : Nat} (hf : fr < N) (hp : pl < N) (hx : x < N) : tsi fr pl x < N := by
  unfold tsi
  split
  · exact hp
  · split
    · omega
    · split <;> omega
theorem tdw_pm {N fr pl : Nat} {dw ps : Nat → Nat} (h : pm_ok N dw ps) (hf : fr < N) (hp : pl < N) : pm_ok N (tdw dw fr pl) (fun a => tsi fr pl (ps a)) := by
  refine ⟨fun i hi => ?_, fun a ha => ?_⟩
  · rw [tdw_sg]
    have h1 := h.1 _ (tsg_lt hf hp hi)
    exact ⟨h1.1, by dsimp only; rw [h1.2, tsi_sg]⟩
  · have h1 := h.2 a ha
    exact ⟨tsi_lt hf hp h1.1, by rw [tdw_sg, tsg_si]; exact h1.2⟩
theorem mv1_s {dw : Nat → Nat} {fr i x : Nat} (h : fr ≤ i) : va_up (mv1 dw fr i) i (dw (i + 1)) x = mv1 dw fr (i + 1) x := by
  by_cases e : x = i
  · subst e
    rw [va_up_self]
    unfold mv1
    rw [if_pos (by omega)]
  · rw [va_up_ne _ _ e]
    unfold mv1
    by_cases e2 : fr ≤ x ∧ x < i
    · rw [if_pos e2, if_pos (by omega)]
    · rw [if_neg e2, if_neg (by omega)]
theorem mv1_r {dw : Nat → Nat} {fr i : Nat} : mv1 dw fr i (i + 1) = dw (i + 1) := if_neg (by omega)
theorem mv1_e {dw : Nat → Nat} {fr i pl x : Nat} (h : i = pl ∨ (i = fr ∧ pl ≤ fr)) : mv1 dw fr i x = mv2 dw fr pl fr x := by
  unfold mv2
  rw [if_neg (by omega)]
  unfold mv1
  by_cases e2 : fr ≤ x ∧ x < i
  · rw [if_pos e2, if_pos (by omega)]
  · rw [if_neg e2, if_neg (by omega)]
theorem mv2_r {dw : Nat → Nat} {fr pl i : Nat} (h : i ≤ fr) (h0 : 0 < i) : mv2 dw fr pl i (i - 1) = dw (i - 1) := by
  unfold mv2
  rw [if_neg (by omega)]
  exact if_neg (by omega)
theorem mv2_s {dw : Nat → Nat} {fr pl i x : Nat} (h : i ≤ fr) (h0 : 0 < i) : va_up (mv2 dw fr pl i) i (dw (i - 1)) x = mv2 dw fr pl (i - 1) x := by
  by_cases e : x = i
  · subst e
    rw [va_up_self]
    unfold mv2
    rw [if_pos (by omega)]
  · rw [va_up_ne _ _ e]
    unfold mv2
    by_cases e2 : i < x ∧ x ≤ fr
    · rw [if_pos e2, if_pos (by omega)]
    · rw [if_neg e2, if_neg (by omega)]
theorem mv2_e {dw : Nat → Nat} {fr pl i x : Nat} (h : i = pl ∨ (i = fr ∧ fr ≤ pl)) : va_up (mv2 dw fr pl i) pl (dw fr) x = tdw dw fr pl x := by
  unfold tdw
  by_cases e : x = pl
  · subst e
    rw [va_up_self, if_pos rfl]
  · rw [va_up_ne _ _ e, if_neg e]
    unfold mv2 mv1
    by_cases e2 : fr ≤ x ∧ x < pl
    · rw [if_neg (by omega), if_pos e2, if_pos e2]
    · rw [if_neg e2, if_neg e2]
      by_cases e3 : pl < x ∧ x ≤ fr
      · rw [if_pos (by omega), if_pos e3]
      · rw [if_neg (by omega), if_neg e3]
/-- where a candidate stands -/
def plc (dw : Nat → Nat) (N a : Nat) : Nat := (ft (fun i => decide (dw i = a)) N).getD 0
theorem plc_eq {N : Nat} {dw ps : Nat → Nat} (h : pm_ok N dw ps) {a : Nat} (ha : a < N) : plc dw N a = ps a := by
  have h1 := h.2 a ha
  unfold plc
  rw [ft_eq (q := fun i => decide (dw i = a)) |>.mpr ⟨h1.1, decide_eq_true h1.2, fun j hj => decide_eq_false (fun e => by
    have := (h.1 j (by omega)).2
    rw [e] at this
    omega)⟩]
  rfl
end SM
end
section
/-! BeatPaths: widen, weigh, reachedAbove, isUnbeaten, unbeaten (walks by gen/m_pa1.py) -/
section P1
section Rw
variable {G : bj_G} {Y : bj_Y} {n : Nat} {K : bj_K} {ad : Nat → Nat} {Q : bj_R → bj_M → Prop} {cs sl pc : Nat} {L : List (Option Value)} {st : List Value} {M : bj_M}
theorem bj_mmax {index : Nat} {x y v : Int32} (d : decode Y.2.2.1 pc = .ok (.invokestatic index, 3)) (w1 : Cond.methodLink Y.1 index Lib.Math.max.name ∈ G.2.2.2.2) (w2 : Cond.static Lib.Math.max.name ∈ G.2.2.2.2) (w3 : Cond.initialized "java/lang/Math" ∈ G.2.2.2.2) (w4 : Cond.code Lib.Math.max.name Lib.Math.max.code 2 (some .int) ∈ G.2.2.2.2) (hn : 1 ≤ n) (h8 : (st.map fun v => v.category).sum ≤ 8) (hc : cs ≤ K.1 + K.2.2.1) (hs : sl ≤ K.2.1 + K.2.2.2) (hv : (if x < y then y else x) = v)
    (kk : bj_S G Y n K ad Q cs sl (pc + 3) L (.int v :: st) M) : bj_S G Y n K ad Q cs sl pc L (.int y :: .int x :: st) M := by
  subst hv
  exact fun p e s m ar be me c A H lo ls C hW hS hl => va_mmax C.ex C.by (C.ml.trans hl.1.1.symm) C.ow (C.ts _ w1) (C.ts _ w2) (C.ts _ w3) (C.ts _ w4) hn (by show _ ≤ 36 * n; omega) hc hs d (kk p e s m ar be me c A H lo ls C hW hS hl)
theorem bj_mmin {index : Nat} {x y v : Int32} (d : decode Y.2.2.1 pc = .ok (.invokestatic index, 3)) (w1 : Cond.methodLink Y.1 index Lib.Math.min.name ∈ G.2.2.2.2) (w2 : Cond.static Lib.Math.min.name ∈ G.2.2.2.2) (w3 : Cond.initialized "java/lang/Math" ∈ G.2.2.2.2) (w4 : Cond.code Lib.Math.min.name Lib.Math.min.code 2 (some .int) ∈ G.2.2.2.2) (hn : 1 ≤ n) (h8 : (st.map fun v => v.category).sum ≤ 8) (hc : cs ≤ K.1 + K.2.2.1) (hs : sl ≤ K.2.1 + K.2.2.2) (hv : (if y < x then y else x) = v)
    (kk : bj_S G Y n K ad Q cs sl (pc + 3) L (.int v :: st) M) : bj_S G Y n K ad Q cs sl pc L (.int y :: .int x :: st) M := by
  subst hv
  exact fun p e s m ar be me c A H lo ls C hW hS hl => va_mmin C.ex C.by (C.ml.trans hl.1.1.symm) C.ow (C.ts _ w1) (C.ts _ w2) (C.ts _ w3) (C.ts _ w4) hn (by show _ ≤ 36 * n; omega) hc hs d (kk p e s m ar be me c A H lo ls C hW hS hl)
end Rw
theorem nI_max {a b : Nat} (ha : a < 2 ^ 31) (hb : b < 2 ^ 31) : (if nI a < nI b then nI b else nI a) = nI (max a b) := by
  by_cases h : a < b
  · rw [if_pos ((nI_ltI ha hb).mpr h), Nat.max_eq_right (by omega)]
  · rw [if_neg (fun q => h ((nI_ltI ha hb).mp q)), Nat.max_eq_left (by omega)]
theorem nI_min {a b : Nat} (ha : a < 2 ^ 31) (hb : b < 2 ^ 31) : (if nI b < nI a then nI b else nI a) = nI (min a b) := by
  by_cases h : b < a
  · rw [if_pos ((nI_ltI hb ha).mpr h), Nat.min_eq_right (by omega)]
  · rw [if_neg (fun q => h ((nI_ltI hb ha).mp q)), Nat.min_eq_left (by omega)]
/-- the paths: the grid of strengths, the steps -/
def pa_ok (c : Nat → ClassId) (ad : Nat → Nat) (M : bj_M) (k N : Nat) (f : Nat → Nat → Nat) : Prop := M k = some (.inr (1, [.int (nI N), .ref (ad (k + 1)), .ref (ad (k + 10))])) ∧ bv_R (c 4) M (k + 1) N (fun i => ad (k + 2 + i)) ∧ (∀ a, a < N → bv_I (c 0) M (k + 2 + a) N (fun b => nI (f a b))) ∧ ∀ a b, a < N → b < N → f a b < 2 ^ 31
def pa_fr (k N : Nat) (M M' : bj_M) : Prop := ∀ q, ¬ (k + 2 ≤ q ∧ q < k + 2 + N) → M' q = M q
theorem pa_fr.rf {k N : Nat} {M : bj_M} : pa_fr k N M M := fun _ _ => rfl
theorem pa_fr.tr {k N : Nat} {M M' M'' : bj_M} (h : pa_fr k N M M') (h' : pa_fr k N M' M'') : pa_fr k N M M'' := fun q hq => (h' q hq).trans (h q hq)
theorem pa_fr.at {k N j : Nat} {M M' M'' : bj_M} (h : pa_fr k N M M') (hj : k + 2 ≤ j ∧ j < k + 2 + N) (ho : ∀ q, q ≠ j → M'' q = M' q) : pa_fr k N M M'' := fun q hq => (ho q (fun e => hq (by rw [e]; exact hj))).trans (h q hq)
theorem pa_ok.to {c : Nat → ClassId} {ad : Nat → Nat} {M : bj_M} {k N : Nat} {f f' : Nat → Nat → Nat} (h : pa_ok c ad M k N f) (e : ∀ a b, a < N → b < N → f a b = f' a b) : pa_ok c ad M k N f' := ⟨h.1, h.2.1, fun a ha => (h.2.2.1 a ha).to (fun b hb => by show nI _ = nI _; rw [e a b ha hb]), fun a b ha hb => by rw [← e a b ha hb]; exact h.2.2.2 a b ha hb⟩
theorem pa_ok.row {c : Nat → ClassId} {ad : Nat → Nat} {M M' : bj_M} {k N a : Nat} {f : Nat → Nat → Nat} {g : Nat → Nat} (h : pa_ok c ad M k N f) (ha : a < N) (hr : bv_I (c 0) M' (k + 2 + a) N (fun b => nI (g b))) (hg : ∀ b, b < N → g b < 2 ^ 31) (ho : ∀ q, q ≠ k + 2 + a → M' q = M q) : pa_ok c ad M' k N (va_up f a g) := by
  refine ⟨(ho k (by omega)).trans h.1, h.2.1.in (ho _ (by omega)), fun i hi => ?_, fun i b hi hb => ?_⟩
  · by_cases e : i = a
    · subst e
      rw [va_up_self]
      exact hr
    · rw [va_up_ne _ _ e]
      exact (h.2.2.1 i hi).in (ho _ (by omega))
  · by_cases e : i = a
    · subst e
      rw [va_up_self]
      exact hg b hb
    · rw [va_up_ne _ _ e]
      exact h.2.2.2 i b hi hb
theorem bv_I.upn {cI : ClassId} {M : bj_M} {k N j : Nat} {g : Nat → Nat} {y : Nat} (h : bv_I cI M k N (va_up (fun b => nI (g b)) j (nI y))) : bv_I cI M k N (fun b => nI (va_up g j y b)) := h.to (fun i _ => by
  unfold va_up
  split <;> rfl)
def q_widen (c : Nat → ClassId) (ad : Nat → Nat) (M : bj_M) (k N : Nat) (f : Nat → Nat → Nat) (a o : Nat) : bj_R → bj_M → Prop := bj_ret (fun r M' => r = none ∧ pa_ok c ad M' k N (va_up f a (mg_fw f o a)) ∧ pa_fr k N M M')
/-- the row as far as b0 -/
def wd_row (f : Nat → Nat → Nat) (o a b0 b : Nat) : Nat := if b < b0 then mg_fw f o a b else f a b
theorem wd_o {f : Nat → Nat → Nat} {o a b0 : Nat} : wd_row f o a b0 o = f a o := by
  unfold wd_row mg_fw
  split <;> omega
theorem dir_nI {P : Nat → Nat → Int32} {p : Nat → Nat → Nat} {N a b : Nat} (hP : ∀ a b, a < N → b < N → P a b = nI (p a b)) (hp : ∀ a b, a < N → b < N → p a b < 2 ^ 31) (ha : a < N) (hb : b < N) : dir P a b = nI (drn p a b) := by
  unfold dir drn
  rw [hP a b ha hb, hP b a hb ha]
  by_cases h : p b a < p a b
  · rw [if_pos ((nI_ltI (hp b a hb ha) (hp a b ha hb)).mpr h), if_pos h]
  · rw [if_neg (fun q => h ((nI_ltI (hp b a hb ha) (hp a b ha hb)).mp q)), if_neg h]
    rfl
theorem drn_lt {p : Nat → Nat → Nat} {N a b : Nat} (hp : ∀ a b, a < N → b < N → p a b < 2 ^ 31) (ha : a < N) (hb : b < N) : drn p a b < 2 ^ 31 := by
  have := hp a b ha hb
  unfold drn
  split <;> omega
def q_weigh (c : Nat → ClassId) (ad : Nat → Nat) (M : bj_M) (k N : Nat) (p : Nat → Nat → Nat) : bj_R → bj_M → Prop := bj_ret (fun r M' => r = none ∧ pa_ok c ad M' k N (mg_F (drn p) N) ∧ pa_fr k N M M')
def bmo (x : Int32) (p : Nat → Bool) : Nat → Int32
  | 0 => x
  | n + 1 => if p n = true then bmo x p n ||| ((nI 1) <<< ((nI n) &&& 31)) else bmo x p n
theorem bmo_s {x : Int32} {p : Nat → Bool} {n : Nat} (h : p n = true) : bmo x p n ||| ((nI 1) <<< ((nI n) &&& 31)) = bmo x p (n + 1) := by rw [bmo, if_pos h]
theorem bmo_n {x : Int32} {p : Nat → Bool} {n : Nat} (h : p n = false) : bmo x p (n + 1) = bmo x p n := by rw [bmo, if_neg (by rw [h]; decide)]
theorem bmo_bt (x : Int32) (p : Nat → Bool) {i : Nat} (hi : i < 32) : ∀ n, n ≤ 32 → bt (bmo x p n) i = (bt x i || (decide (i < n) && p i))
  | 0, _ => by simp [bmo]
  | n + 1, h => by
    have ih := bmo_bt x p hi n (by omega)
    by_cases e : p n = true
    · rw [bmo, if_pos e, b_or, ih, bt_one' (by omega) hi]
      by_cases e2 : i = n
      · subst e2; simp [e]
      · by_cases e3 : i < n
        · simp [e2, e3, show i < n + 1 by omega]
        · simp [e2, e3, show ¬ i < n + 1 by omega]
    · rw [bmo, if_neg e, ih]
      by_cases e2 : i = n
      · subst e2; simp [e]
      · by_cases e3 : i < n
        · simp [e3, show i < n + 1 by omega]
        · simp [e3, show ¬ i < n + 1 by omega]
/-- nobody's way to a is stronger than a's to them -/
def ubn (f : Nat → Nat → Nat) (N a : Nat) : Bool := decide (∀ b, b < N → f b a ≤ f a b)
variable (l : Launch) (D : va_G) (c : Nat → ClassId) (ad : Nat → Nat) (M : bj_M)
theorem wm_min1 : Cond.methodLink "BeatPathOffice$BeatPaths" 34 Lib.Math.min.name ∈ bw_TB := bw_t (i := 405) (by decide +kernel)
theorem wm_min2 : Cond.static Lib.Math.min.name ∈ bw_TB := bw_t (i := 406) (by decide +kernel)
theorem wm_min4 : Cond.code Lib.Math.min.name Lib.Math.min.code 2 (some .int) ∈ bw_TB := bw_t (i := 407) (by decide +kernel)
theorem wm_max1 : Cond.methodLink "BeatPathOffice$BeatPaths" 39 Lib.Math.max.name ∈ bw_TB := bw_t (i := 408) (by decide +kernel)
theorem wm_max2 : Cond.static Lib.Math.max.name ∈ bw_TB := bw_t (i := 409) (by decide +kernel)
theorem wm_max4 : Cond.code Lib.Math.max.name Lib.Math.max.code 2 (some .int) ∈ bw_TB := bw_t (i := 410) (by decide +kernel)
set_option maxRecDepth 100000 in
set_option maxHeartbeats 4000000 in
/-- widen -/
theorem t_Pa_widen {k N a o : Nat} {f : Nat → Nat → Nat} (h : pa_ok c ad M k N f) (hN : N ≤ 8) (ha : a < N) (ho : o < N) : bj_T (bw_G l D c) Y_Pa_widen 1 (0, 0, 0, 0) ad (q_widen c ad M k N f a o) [.ref (ad k), .int (nI a), .int (nI o)] M := by
  show bj_S _ _ _ _ _ _ 0 0 0 [some (.ref (ad k)), some (.int (nI a)), some (.int (nI o)), none, none] [] M
  refine bj_iconst (v := (nI 0)) d_Pa_widen_0 (by decide) ?_
  refine bj_istore_n (L' := [some (.ref (ad k)), some (.int (nI a)), some (.int (nI o)), some (.int (nI 0)), none]) d_Pa_widen_1 rfl (by decide) rfl ?_
  have lp : ∀ (b0 : Nat), ∀ (M2 : bj_M), ∀ (z : Option Value), (b0 ≤ N) → (pa_ok c ad M2 k N (va_up f a (wd_row f o a b0))) → (pa_fr k N M M2) → bj_S (bw_G l D c) Y_Pa_widen 1 (0, 0, 0, 0) ad (q_widen c ad M k N f a o) 0 0 2 [some (.ref (ad k)), some (.int (nI a)), some (.int (nI o)), some (.int (nI b0)), z] [] M2 := by
    intro b0 M2 z
    induction hd_lp : N - b0 using Nat.strongRecOn generalizing b0 M2 z with
    | ind d_lp ih_lp =>
      intro hb0 h2 hf
      refine bj_iload_n d_Pa_widen_2 rfl rfl ?_
      refine bj_aload_n d_Pa_widen_3 rfl rfl ?_
      refine bj_get d_Pa_widen_4 in_Pa rfl (by decide : 0 < 3) wf_Pa_9 rfl h2.1 rfl ?_
      refine bj_icmp_geN (tgt := 58) d_Pa_widen_7 (by decide) (by omega) (by omega) (fun h7 => ?_) (fun h7 => ?_)
      · exact bj_vret d_Pa_widen_58 rfl (Nat.le_refl _) (Nat.le_refl _) ⟨rfl, h2.to (fun i b hi hb => by
  by_cases e : i = a
  · subst e; rw [va_up_self, va_up_self]; exact if_pos (by omega)
  · rw [va_up_ne _ _ e, va_up_ne _ _ e]), hf⟩
      · have wd_ob : (va_up f a (wd_row f o a b0)) o b0 = f o b0 := by
          by_cases e : o = a
          · subst e; rw [va_up_self]; exact if_neg (Nat.lt_irrefl _)
          · rw [va_up_ne _ _ e]
        have hb1 := h.2.2.2 a o ha ho
        have hb2 := h.2.2.2 o b0 ho h7
        have hb3 := h.2.2.2 a b0 ha h7
        have hb4 : mg_fw f o a b0 < 2 ^ 31 := by unfold mg_fw; omega
        refine bj_aload_n d_Pa_widen_10 rfl rfl ?_
        refine bj_get d_Pa_widen_11 in_Pa rfl (by decide : 1 < 3) wf_Pa_17 rfl h2.1 rfl ?_
        refine bj_iload_n d_Pa_widen_14 rfl rfl ?_
        refine bv_aald d_Pa_widen_15 4 rfl rfl h2.2.1 (by omega) (by omega) ?_
        refine bj_iload_n d_Pa_widen_16 rfl rfl ?_
        refine bv_iald d_Pa_widen_17 0 rfl (h2.2.2.1 a ha) (by omega) (by omega) rfl ?_
        refine bj_aload_n d_Pa_widen_18 rfl rfl ?_
        refine bj_get d_Pa_widen_19 in_Pa rfl (by decide : 1 < 3) wf_Pa_17 rfl h2.1 rfl ?_
        refine bj_iload_n d_Pa_widen_22 rfl rfl ?_
        refine bv_aald d_Pa_widen_23 4 rfl rfl h2.2.1 (by omega) (by omega) ?_
        refine bj_iload_n d_Pa_widen_24 rfl rfl ?_
        refine bv_iald d_Pa_widen_25 0 rfl (h2.2.2.1 o ho) (by omega) (by omega) rfl ?_
        refine bj_mmin (v := (nI (min (f a o) (f o b0)))) d_Pa_widen_26 wm_min1 wm_min2 wi_Math wm_min4 (by decide) (Nat.le_of_ble_eq_true rfl) (Nat.zero_le _) (Nat.zero_le _) (by rw [va_up_self, wd_o, wd_ob]; exact nI_min hb1 hb2) ?_
        refine bj_istore (L' := [some (.ref (ad k)), some (.int (nI a)), some (.int (nI o)), some (.int (nI b0)), some (.int (nI (min (f a o) (f o b0))))]) d_Pa_widen_29 (by decide) rfl ?_
        refine bj_aload_n d_Pa_widen_31 rfl rfl ?_
        refine bj_get d_Pa_widen_32 in_Pa rfl (by decide : 1 < 3) wf_Pa_17 rfl h2.1 rfl ?_
        refine bj_iload_n d_Pa_widen_35 rfl rfl ?_
        refine bv_aald d_Pa_widen_36 4 rfl rfl h2.2.1 (by omega) (by omega) ?_
        refine bj_iload_n d_Pa_widen_37 rfl rfl ?_
        refine bj_aload_n d_Pa_widen_38 rfl rfl ?_
        refine bj_get d_Pa_widen_39 in_Pa rfl (by decide : 1 < 3) wf_Pa_17 rfl h2.1 rfl ?_
        refine bj_iload_n d_Pa_widen_42 rfl rfl ?_
        refine bv_aald d_Pa_widen_43 4 rfl rfl h2.2.1 (by omega) (by omega) ?_
        refine bj_iload_n d_Pa_widen_44 rfl rfl ?_
        refine bv_iald d_Pa_widen_45 0 rfl (h2.2.2.1 a ha) (by omega) (by omega) rfl ?_
        refine bj_iload d_Pa_widen_46 rfl ?_
        refine bj_mmax (v := (nI (mg_fw f o a b0))) d_Pa_widen_48 wm_max1 wm_max2 wi_Math wm_max4 (by decide) (Nat.le_of_ble_eq_true rfl) (Nat.zero_le _) (Nat.zero_le _) (by rw [va_up_self, show wd_row f o a b0 b0 = f a b0 from if_neg (Nat.lt_irrefl _)]; exact nI_max hb3 (by omega)) ?_
        refine bv_iast d_Pa_widen_51 0 rfl (h2.2.2.1 a ha) (by omega) (by omega) (fun N1 hN1 hO1 => ?_)
        have hN2 := bv_I.upn hN1
        refine bj_iinc (v := (nI (b0 + 1))) (L' := [some (.ref (ad k)), some (.int (nI a)), some (.int (nI o)), some (.int (nI (b0 + 1))), some (.int (nI (min (f a o) (f o b0))))]) d_Pa_widen_52 rfl (bj_inc1 _) (by decide) rfl ?_
        refine bj_goto (tgt := 2) d_Pa_widen_55 (by decide) ?_
        exact ih_lp (N - (b0 + 1)) (by omega) (b0 + 1) N1 _ rfl (by omega) ((h2.row ha hN2 (fun b hb => by
          have q := h2.2.2.2 a b ha hb
          unfold va_up at q ⊢
          split
          · exact hb4
          · exact q) hO1).to (fun i b hi hb => by
          by_cases e : i = a
          · subst e
            by_cases e2 : b = b0
            · subst e2
              simp only [va_up_self]
              exact (if_pos (Nat.lt_succ_self _)).symm
            · simp only [va_up_self, va_up_ne _ _ e2]
              unfold wd_row
              by_cases e3 : b < b0
              · rw [if_pos e3, if_pos (by omega)]
              · rw [if_neg e3, if_neg (by omega)]
          · rw [va_up_ne _ _ e, va_up_ne _ _ e, va_up_ne _ _ e])) (hf.at (by omega) hO1)
  exact lp 0 M none (Nat.zero_le _) (h.to (fun i b hi hb => by
    by_cases e : i = a
    · subst e; rw [va_up_self]; exact (if_neg (Nat.not_lt_zero _)).symm
    · rw [va_up_ne _ _ e])) pa_fr.rf
set_option maxRecDepth 100000 in
set_option maxHeartbeats 4000000 in
/-- reachedAbove -/
theorem t_Pa_reachedAbove {k N a s : Nat} {f : Nat → Nat → Nat} (h : pa_ok c ad M k N f) (hN : N ≤ 8) (ha : a < N) (hs : s < 2 ^ 31) : bj_T (bw_G l D c) Y_Pa_reachedAbove 0 (0, 0, 0, 0) ad (bj_fn (bmo ((nI 1) <<< ((nI a) &&& 31)) (fun i => decide (s < f a i)) N) M) [.ref (ad k), .int (nI a), .int (nI s)] M := by
  show bj_S _ _ _ _ _ _ 0 0 0 [some (.ref (ad k)), some (.int (nI a)), some (.int (nI s)), none, none] [] M
  refine bj_iconst (v := (nI 1)) d_Pa_reachedAbove_0 (by decide) ?_
  refine bj_iload_n d_Pa_reachedAbove_1 rfl rfl ?_
  refine bj_ishl (v := ((nI 1) <<< ((nI a) &&& 31))) d_Pa_reachedAbove_2 rfl ?_
  refine bj_istore_n (L' := [some (.ref (ad k)), some (.int (nI a)), some (.int (nI s)), some (.int ((nI 1) <<< ((nI a) &&& 31))), none]) d_Pa_reachedAbove_3 rfl (by decide) rfl ?_
  refine bj_iconst (v := (nI 0)) d_Pa_reachedAbove_4 (by decide) ?_
  refine bj_istore (L' := [some (.ref (ad k)), some (.int (nI a)), some (.int (nI s)), some (.int ((nI 1) <<< ((nI a) &&& 31))), some (.int (nI 0))]) d_Pa_reachedAbove_5 (by decide) rfl ?_
  have lp : ∀ (i : Nat), (i ≤ N) → bj_S (bw_G l D c) Y_Pa_reachedAbove 0 (0, 0, 0, 0) ad (bj_fn (bmo ((nI 1) <<< ((nI a) &&& 31)) (fun i => decide (s < f a i)) N) M) 0 0 7 [some (.ref (ad k)), some (.int (nI a)), some (.int (nI s)), some (.int (bmo ((nI 1) <<< ((nI a) &&& 31)) (fun i => decide (s < f a i)) i)), some (.int (nI i))] [] M := by
    intro i
    induction hd_lp : N - i using Nat.strongRecOn generalizing i with
    | ind d_lp ih_lp =>
      intro hi
      refine bj_iload d_Pa_reachedAbove_7 rfl ?_
      refine bj_aload_n d_Pa_reachedAbove_9 rfl rfl ?_
      refine bj_get d_Pa_reachedAbove_10 in_Pa rfl (by decide : 0 < 3) wf_Pa_9 rfl h.1 rfl ?_
      refine bj_icmp_geN (tgt := 42) d_Pa_reachedAbove_13 (by decide) (by first | omega | exact h.2.2.2 a i ha (by omega)) (by first | omega | exact h.2.2.2 a i ha (by omega)) (fun h13 => ?_) (fun h13 => ?_)
      · refine bj_iload_n d_Pa_reachedAbove_42 rfl rfl ?_
        exact bj_iret d_Pa_reachedAbove_43 rfl rfl (Nat.le_refl _) (Nat.le_refl _) ⟨by rw [show N = i by omega], rfl⟩
      · refine bj_aload_n d_Pa_reachedAbove_16 rfl rfl ?_
        refine bj_get d_Pa_reachedAbove_17 in_Pa rfl (by decide : 1 < 3) wf_Pa_17 rfl h.1 rfl ?_
        refine bj_iload_n d_Pa_reachedAbove_20 rfl rfl ?_
        refine bv_aald d_Pa_reachedAbove_21 4 rfl rfl h.2.1 (by omega) (by first | omega | exact h.2.2.2 a i ha (by omega)) ?_
        refine bj_iload d_Pa_reachedAbove_22 rfl ?_
        refine bv_iald d_Pa_reachedAbove_24 0 rfl (h.2.2.1 a ha) (by omega) (by first | omega | exact h.2.2.2 a i ha (by omega)) rfl ?_
        refine bj_iload_n d_Pa_reachedAbove_25 rfl rfl ?_
        refine bj_icmp_leN (tgt := 36) d_Pa_reachedAbove_26 (by decide) (by first | omega | exact h.2.2.2 a i ha (by omega)) (by first | omega | exact h.2.2.2 a i ha (by omega)) (fun h26 => ?_) (fun h26 => ?_)
        · refine bj_iinc (v := (nI (i + 1))) (L' := [some (.ref (ad k)), some (.int (nI a)), some (.int (nI s)), some (.int (bmo ((nI 1) <<< ((nI a) &&& 31)) (fun i => decide (s < f a i)) i)), some (.int (nI (i + 1)))]) d_Pa_reachedAbove_36 rfl (bj_inc1 _) (by decide) rfl ?_
          refine bj_goto (tgt := 7) d_Pa_reachedAbove_39 (by decide) ?_
          rw [← bmo_n (p := fun i => decide (s < f a i)) (n := i) (decide_eq_false (by omega))]
          exact ih_lp (N - (i + 1)) (by omega) (i + 1) rfl (by omega)
        · refine bj_iload_n d_Pa_reachedAbove_29 rfl rfl ?_
          refine bj_iconst (v := (nI 1)) d_Pa_reachedAbove_30 (by decide) ?_
          refine bj_iload d_Pa_reachedAbove_31 rfl ?_
          refine bj_ishl (v := ((nI 1) <<< ((nI i) &&& 31))) d_Pa_reachedAbove_33 rfl ?_
          refine bj_ior (v := (bmo ((nI 1) <<< ((nI a) &&& 31)) (fun i => decide (s < f a i)) (i + 1))) d_Pa_reachedAbove_34 (bmo_s (decide_eq_true h26)) ?_
          refine bj_istore_n (L' := [some (.ref (ad k)), some (.int (nI a)), some (.int (nI s)), some (.int (bmo ((nI 1) <<< ((nI a) &&& 31)) (fun i => decide (s < f a i)) (i + 1))), some (.int (nI i))]) d_Pa_reachedAbove_35 rfl (by decide) rfl ?_
          refine bj_iinc (v := (nI (i + 1))) (L' := [some (.ref (ad k)), some (.int (nI a)), some (.int (nI s)), some (.int (bmo ((nI 1) <<< ((nI a) &&& 31)) (fun i => decide (s < f a i)) (i + 1))), some (.int (nI (i + 1)))]) d_Pa_reachedAbove_36 rfl (bj_inc1 _) (by decide) rfl ?_
          refine bj_goto (tgt := 7) d_Pa_reachedAbove_39 (by decide) ?_
          exact ih_lp (N - (i + 1)) (by omega) (i + 1) rfl (by omega)
  exact lp 0 (Nat.zero_le _)
set_option maxRecDepth 100000 in
set_option maxHeartbeats 4000000 in
/-- isUnbeaten -/
theorem t_Pa_isUnbeaten {k N a : Nat} {f : Nat → Nat → Nat} (h : pa_ok c ad M k N f) (hN : N ≤ 8) (ha : a < N) : bj_T (bw_G l D c) Y_Pa_isUnbeaten 0 (0, 0, 0, 0) ad (bj_fn (bt_n (ubn f N a)) M) [.ref (ad k), .int (nI a)] M := by
  show bj_S _ _ _ _ _ _ 0 0 0 [some (.ref (ad k)), some (.int (nI a)), none] [] M
  refine bj_iconst (v := (nI 0)) d_Pa_isUnbeaten_0 (by decide) ?_
  refine bj_istore_n (L' := [some (.ref (ad k)), some (.int (nI a)), some (.int (nI 0))]) d_Pa_isUnbeaten_1 rfl (by decide) rfl ?_
  have lp : ∀ (i : Nat), (i ≤ N) → (∀ b, b < i → f b a ≤ f a b) → bj_S (bw_G l D c) Y_Pa_isUnbeaten 0 (0, 0, 0, 0) ad (bj_fn (bt_n (ubn f N a)) M) 0 0 2 [some (.ref (ad k)), some (.int (nI a)), some (.int (nI i))] [] M := by
    intro i
    induction hd_lp : N - i using Nat.strongRecOn generalizing i with
    | ind d_lp ih_lp =>
      intro hi hu
      refine bj_iload_n d_Pa_isUnbeaten_2 rfl rfl ?_
      refine bj_aload_n d_Pa_isUnbeaten_3 rfl rfl ?_
      refine bj_get d_Pa_isUnbeaten_4 in_Pa rfl (by decide : 0 < 3) wf_Pa_9 rfl h.1 rfl ?_
      refine bj_icmp_geN (tgt := 37) d_Pa_isUnbeaten_7 (by decide) (by first | omega | exact h.2.2.2 a i ha (by omega) | exact h.2.2.2 i a (by omega) ha) (by first | omega | exact h.2.2.2 a i ha (by omega) | exact h.2.2.2 i a (by omega) ha) (fun h7 => ?_) (fun h7 => ?_)
      · refine bj_iconst (v := (nI 1)) d_Pa_isUnbeaten_37 (by decide) ?_
        exact bj_iret d_Pa_isUnbeaten_38 rfl rfl (Nat.le_refl _) (Nat.le_refl _) ⟨bt_t (decide_eq_true (fun b hb => hu b (by omega))), rfl⟩
      · refine bj_aload_n d_Pa_isUnbeaten_10 rfl rfl ?_
        refine bj_get d_Pa_isUnbeaten_11 in_Pa rfl (by decide : 1 < 3) wf_Pa_17 rfl h.1 rfl ?_
        refine bj_iload_n d_Pa_isUnbeaten_14 rfl rfl ?_
        refine bv_aald d_Pa_isUnbeaten_15 4 rfl rfl h.2.1 (by omega) (by first | omega | exact h.2.2.2 a i ha (by omega) | exact h.2.2.2 i a (by omega) ha) ?_
        refine bj_iload_n d_Pa_isUnbeaten_16 rfl rfl ?_
        refine bv_iald d_Pa_isUnbeaten_17 0 rfl (h.2.2.1 a ha) (by omega) (by first | omega | exact h.2.2.2 a i ha (by omega) | exact h.2.2.2 i a (by omega) ha) rfl ?_
        refine bj_aload_n d_Pa_isUnbeaten_18 rfl rfl ?_
        refine bj_get d_Pa_isUnbeaten_19 in_Pa rfl (by decide : 1 < 3) wf_Pa_17 rfl h.1 rfl ?_
        refine bj_iload_n d_Pa_isUnbeaten_22 rfl rfl ?_
        refine bv_aald d_Pa_isUnbeaten_23 4 rfl rfl h.2.1 (by omega) (by first | omega | exact h.2.2.2 a i ha (by omega) | exact h.2.2.2 i a (by omega) ha) ?_
        refine bj_iload_n d_Pa_isUnbeaten_24 rfl rfl ?_
        refine bv_iald d_Pa_isUnbeaten_25 0 rfl (h.2.2.1 i (by omega)) (by omega) (by first | omega | exact h.2.2.2 a i ha (by omega) | exact h.2.2.2 i a (by omega) ha) rfl ?_
        refine bj_icmp_geN (tgt := 31) d_Pa_isUnbeaten_26 (by decide) (by first | omega | exact h.2.2.2 a i ha (by omega) | exact h.2.2.2 i a (by omega) ha) (by first | omega | exact h.2.2.2 a i ha (by omega) | exact h.2.2.2 i a (by omega) ha) (fun h26 => ?_) (fun h26 => ?_)
        · refine bj_iinc (v := (nI (i + 1))) (L' := [some (.ref (ad k)), some (.int (nI a)), some (.int (nI (i + 1)))]) d_Pa_isUnbeaten_31 rfl (bj_inc1 _) (by decide) rfl ?_
          refine bj_goto (tgt := 2) d_Pa_isUnbeaten_34 (by decide) ?_
          exact ih_lp (N - (i + 1)) (by omega) (i + 1) rfl (by omega) (fun b hb => by
            rcases Nat.lt_or_ge b i with q | q
            · exact hu b q
            · rw [show b = i by omega]; exact h26)
        · refine bj_iconst (v := (nI 0)) d_Pa_isUnbeaten_29 (by decide) ?_
          exact bj_iret d_Pa_isUnbeaten_30 rfl rfl (Nat.le_refl _) (Nat.le_refl _) ⟨bt_f (decide_eq_false (fun q => by have := q i (by omega); omega)), rfl⟩
  exact lp 0 (Nat.zero_le _) (fun b hb => absurd hb (Nat.not_lt_zero _))
set_option maxRecDepth 100000 in
set_option maxHeartbeats 4000000 in
/-- unbeaten -/
theorem t_Pa_unbeaten {k N : Nat} {f : Nat → Nat → Nat} (h : pa_ok c ad M k N f) (hN : N ≤ 8) : bj_T (bw_G l D c) Y_Pa_unbeaten 1 (0, 0, 0, 0) ad (bj_fn (bm (ubn f N) N) M) [.ref (ad k)] M := by
  show bj_S _ _ _ _ _ _ 0 0 0 [some (.ref (ad k)), none, none] [] M
  refine bj_iconst (v := (nI 0)) d_Pa_unbeaten_0 (by decide) ?_
  refine bj_istore_n (L' := [some (.ref (ad k)), some (.int (nI 0)), none]) d_Pa_unbeaten_1 rfl (by decide) rfl ?_
  refine bj_iconst (v := (nI 0)) d_Pa_unbeaten_2 (by decide) ?_
  refine bj_istore_n (L' := [some (.ref (ad k)), some (.int (nI 0)), some (.int (nI 0))]) d_Pa_unbeaten_3 rfl (by decide) rfl ?_
  have lp : ∀ (i : Nat), (i ≤ N) → bj_S (bw_G l D c) Y_Pa_unbeaten 1 (0, 0, 0, 0) ad (bj_fn (bm (ubn f N) N) M) 0 0 4 [some (.ref (ad k)), some (.int (bm (ubn f N) i)), some (.int (nI i))] [] M := by
    intro i
    induction hd_lp : N - i using Nat.strongRecOn generalizing i with
    | ind d_lp ih_lp =>
      intro hi
      refine bj_iload_n d_Pa_unbeaten_4 rfl rfl ?_
      refine bj_aload_n d_Pa_unbeaten_5 rfl rfl ?_
      refine bj_get d_Pa_unbeaten_6 in_Pa rfl (by decide : 0 < 3) wf_Pa_9 rfl h.1 rfl ?_
      refine bj_icmp_geN (tgt := 32) d_Pa_unbeaten_9 (by decide) (by omega) (by omega) (fun h9 => ?_) (fun h9 => ?_)
      · refine bj_iload_n d_Pa_unbeaten_32 rfl rfl ?_
        exact bj_iret d_Pa_unbeaten_33 rfl rfl (Nat.le_refl _) (Nat.le_refl _) ⟨by rw [show bm (ubn f N) i = bm (ubn f N) N by rw [show i = N by omega]], rfl⟩
      · refine bj_aload_n d_Pa_unbeaten_12 rfl rfl ?_
        refine bj_iload_n d_Pa_unbeaten_13 rfl rfl ?_
        refine bj_cvF sv_Pa_42 d_Pa_unbeaten_14 (t_Pa_isUnbeaten l D c ad M h hN (by omega)) rfl rfl (by decide) (by decide) (by decide) (Nat.le_of_ble_eq_true rfl) rfl h.1 rfl rfl ?_
        refine bj_if_eq (tgt := 26) d_Pa_unbeaten_17 (by decide) (fun h17 => ?_) (fun h17 => ?_)
        · have e := bt_n0.mp h17
          refine bj_iinc (v := (nI (i + 1))) (L' := [some (.ref (ad k)), some (.int (bm (ubn f N) i)), some (.int (nI (i + 1)))]) d_Pa_unbeaten_26 rfl (bj_inc1 _) (by decide) rfl ?_
          refine bj_goto (tgt := 4) d_Pa_unbeaten_29 (by decide) ?_
          rw [← bm_n e]
          exact ih_lp (N - (i + 1)) (by omega) (i + 1) rfl (by omega)
        · have e := bt_nn h17
          refine bj_iload_n d_Pa_unbeaten_20 rfl rfl ?_
          refine bj_iconst (v := (nI 1)) d_Pa_unbeaten_21 (by decide) ?_
          refine bj_iload_n d_Pa_unbeaten_22 rfl rfl ?_
          refine bj_ishl (v := ((nI 1) <<< ((nI i) &&& 31))) d_Pa_unbeaten_23 rfl ?_
          refine bj_ior (v := (bm (ubn f N) (i + 1))) d_Pa_unbeaten_24 (bm_s e) ?_
          refine bj_istore_n (L' := [some (.ref (ad k)), some (.int (bm (ubn f N) (i + 1))), some (.int (nI i))]) d_Pa_unbeaten_25 rfl (by decide) rfl ?_
          refine bj_iinc (v := (nI (i + 1))) (L' := [some (.ref (ad k)), some (.int (bm (ubn f N) (i + 1))), some (.int (nI (i + 1)))]) d_Pa_unbeaten_26 rfl (bj_inc1 _) (by decide) rfl ?_
          refine bj_goto (tgt := 4) d_Pa_unbeaten_29 (by decide) ?_
          exact ih_lp (N - (i + 1)) (by omega) (i + 1) rfl (by omega)
  exact lp 0 (Nat.zero_le _)
/-- the first stage as far as row a0, place b0 -/
def we_mid (p f : Nat → Nat → Nat) (a0 b0 a b : Nat) : Nat := if a < a0 ∨ (a = a0 ∧ b < b0) then drn p a b else f a b
/-- a stage as far as row a0 -/
def we_st (F : Nat → Nat → Nat) (o a0 a b : Nat) : Nat := if a < a0 then mg_fw F o a b else F a b
theorem we_step {F : Nat → Nat → Nat} {o a0 a b : Nat} : va_up (we_st F o a0) a0 (mg_fw (we_st F o a0) o a0) a b = we_st F o (a0 + 1) a b := by
  have h1 : ∀ b, we_st F o a0 a0 b = F a0 b := fun b => if_neg (Nat.lt_irrefl _)
  have h2 : ∀ b, we_st F o a0 o b = F o b := fun b => by
    unfold we_st mg_fw
    split <;> omega
  by_cases e : a = a0
  · subst e
    rw [va_up_self]
    unfold mg_fw
    rw [h1, h1, h2]
    show _ = if a < a + 1 then mg_fw F o a b else F a b
    rw [if_pos (by omega)]
    rfl
  · rw [va_up_ne _ _ e]
    unfold we_st
    by_cases e2 : a < a0
    · rw [if_pos e2, if_pos (by omega)]
    · rw [if_neg e2, if_neg (by omega)]
set_option maxRecDepth 100000 in
set_option maxHeartbeats 4000000 in
/-- weigh: the strongest ways -/
theorem t_Pa_weigh {k N k2 : Nat} {vs : Int32} {P : Nat → Nat → Int32} {p f : Nat → Nat → Nat} (h : pa_ok c ad M k N f) (hN : N ≤ 8) (h2 : co_ok c ad M k2 N vs P) (hP : ∀ a b, a < N → b < N → P a b = nI (p a b)) (hp : ∀ a b, a < N → b < N → p a b < 2 ^ 31) (hk : k2 + 10 ≤ k) : bj_T (bw_G l D c) Y_Pa_weigh 2 (0, 0, 0, 0) ad (q_weigh c ad M k N p) [.ref (ad k), .ref (ad k2)] M := by
  show bj_S _ _ _ _ _ _ 0 0 0 [some (.ref (ad k)), some (.ref (ad k2)), none, none] [] M
  refine bj_iconst (v := (nI 0)) d_Pa_weigh_0 (by decide) ?_
  refine bj_istore_n (L' := [some (.ref (ad k)), some (.ref (ad k2)), some (.int (nI 0)), none]) d_Pa_weigh_1 rfl (by decide) rfl ?_
  have o1 : ∀ (a0 : Nat), ∀ (M2 : bj_M), ∀ (z : Option Value), (a0 ≤ N) → (pa_ok c ad M2 k N (we_mid p f a0 0)) → (pa_fr k N M M2) → bj_S (bw_G l D c) Y_Pa_weigh 2 (0, 0, 0, 0) ad (q_weigh c ad M k N p) 0 0 2 [some (.ref (ad k)), some (.ref (ad k2)), some (.int (nI a0)), z] [] M2 := by
    intro a0 M2 z
    induction hd_o1 : N - a0 using Nat.strongRecOn generalizing a0 M2 z with
    | ind d_o1 ih_o1 =>
      intro ha0 ha hf
      refine bj_iload_n d_Pa_weigh_2 rfl rfl ?_
      refine bj_aload_n d_Pa_weigh_3 rfl rfl ?_
      refine bj_get d_Pa_weigh_4 in_Pa rfl (by decide : 0 < 3) wf_Pa_9 rfl ha.1 rfl ?_
      refine bj_icmp_geN (tgt := 46) d_Pa_weigh_7 (by decide) (by omega) (by omega) (fun h7 => ?_) (fun h7 => ?_)
      · refine bj_iconst (v := (nI 0)) d_Pa_weigh_46 (by decide) ?_
        refine bj_istore_n (L' := [some (.ref (ad k)), some (.ref (ad k2)), some (.int (nI 0)), z]) d_Pa_weigh_47 rfl (by decide) rfl ?_
        have o2 : ∀ (o : Nat), ∀ (M4 : bj_M), ∀ (z2 : Option Value), (o ≤ N) → (pa_ok c ad M4 k N (mg_fws (drn p) o)) → (pa_fr k N M M4) → bj_S (bw_G l D c) Y_Pa_weigh 2 (0, 0, 0, 0) ad (q_weigh c ad M k N p) 0 0 48 [some (.ref (ad k)), some (.ref (ad k2)), some (.int (nI o)), z2] [] M4 := by
          intro o M4 z2
          induction hd_o2 : N - o using Nat.strongRecOn generalizing o M4 z2 with
          | ind d_o2 ih_o2 =>
            intro ho h4 hf4
            refine bj_iload_n d_Pa_weigh_48 rfl rfl ?_
            refine bj_aload_n d_Pa_weigh_49 rfl rfl ?_
            refine bj_get d_Pa_weigh_50 in_Pa rfl (by decide : 0 < 3) wf_Pa_9 rfl h4.1 rfl ?_
            refine bj_icmp_geN (tgt := 84) d_Pa_weigh_53 (by decide) (by omega) (by omega) (fun h53 => ?_) (fun h53 => ?_)
            · exact bj_vret d_Pa_weigh_84 rfl (Nat.le_refl _) (Nat.le_refl _) ⟨rfl, by rw [show o = N by omega] at h4; exact h4, hf4⟩
            · refine bj_iconst (v := (nI 0)) d_Pa_weigh_56 (by decide) ?_
              refine bj_istore_n (L' := [some (.ref (ad k)), some (.ref (ad k2)), some (.int (nI o)), some (.int (nI 0))]) d_Pa_weigh_57 rfl (by decide) rfl ?_
              have in2 : ∀ (a0 : Nat), ∀ (M5 : bj_M), (a0 ≤ N) → (pa_ok c ad M5 k N (we_st (mg_fws (drn p) o) o a0)) → (pa_fr k N M M5) → bj_S (bw_G l D c) Y_Pa_weigh 2 (0, 0, 0, 0) ad (q_weigh c ad M k N p) 0 0 58 [some (.ref (ad k)), some (.ref (ad k2)), some (.int (nI o)), some (.int (nI a0))] [] M5 := by
                intro a0 M5
                induction hd_in2 : N - a0 using Nat.strongRecOn generalizing a0 M5 with
                | ind d_in2 ih_in2 =>
                  intro ha5 hb5 hf5
                  refine bj_iload_n d_Pa_weigh_58 rfl rfl ?_
                  refine bj_aload_n d_Pa_weigh_59 rfl rfl ?_
                  refine bj_get d_Pa_weigh_60 in_Pa rfl (by decide : 0 < 3) wf_Pa_9 rfl hb5.1 rfl ?_
                  refine bj_icmp_geN (tgt := 78) d_Pa_weigh_63 (by decide) (by omega) (by omega) (fun h63 => ?_) (fun h63 => ?_)
                  · refine bj_iinc (v := (nI (o + 1))) (L' := [some (.ref (ad k)), some (.ref (ad k2)), some (.int (nI (o + 1))), some (.int (nI a0))]) d_Pa_weigh_78 rfl (bj_inc1 _) (by decide) rfl ?_
                    refine bj_goto (tgt := 48) d_Pa_weigh_81 (by decide) ?_
                    exact ih_o2 (N - (o + 1)) (by omega) (o + 1) M5 _ rfl (by omega) (hb5.to (fun i b hi hb => if_pos (by omega))) hf5
                  · refine bj_aload_n d_Pa_weigh_66 rfl rfl ?_
                    refine bj_iload_n d_Pa_weigh_67 rfl rfl ?_
                    refine bj_iload_n d_Pa_weigh_68 rfl rfl ?_
                    refine bj_cvR sv_Pa_30 d_Pa_weigh_69 (t_Pa_widen l D c ad M5 hb5 hN (by omega) (by omega)) rfl rfl (by decide) (by decide) (by decide) (Nat.le_of_ble_eq_true rfl) rfl hb5.1 rfl rfl (fun v1 N1 hq1 => ?_)
                    obtain ⟨rfl, hc1, hg1⟩ := hq1
                    show bj_S (bw_G l D c) Y_Pa_weigh 2 (0, 0, 0, 0) ad (q_weigh c ad M k N p) 0 0 72 [some (.ref (ad k)), some (.ref (ad k2)), some (.int (nI o)), some (.int (nI a0))] [] N1
                    refine bj_iinc (v := (nI (a0 + 1))) (L' := [some (.ref (ad k)), some (.ref (ad k2)), some (.int (nI o)), some (.int (nI (a0 + 1)))]) d_Pa_weigh_72 rfl (bj_inc1 _) (by decide) rfl ?_
                    refine bj_goto (tgt := 58) d_Pa_weigh_75 (by decide) ?_
                    exact ih_in2 (N - (a0 + 1)) (by omega) (a0 + 1) N1 rfl (by omega) (hc1.to (fun i b hi hb => we_step)) (hf5.tr hg1)
              exact in2 0 M4 (Nat.zero_le _) (h4.to (fun i b hi hb => (if_neg (Nat.not_lt_zero _)).symm)) hf4
        exact o2 0 M2 z (Nat.zero_le _) (ha.to (fun i b hi hb => if_pos (by omega))) hf
      · refine bj_iconst (v := (nI 0)) d_Pa_weigh_10 (by decide) ?_
        refine bj_istore_n (L' := [some (.ref (ad k)), some (.ref (ad k2)), some (.int (nI a0)), some (.int (nI 0))]) d_Pa_weigh_11 rfl (by decide) rfl ?_
        have in1 : ∀ (b0 : Nat), ∀ (M3 : bj_M), (b0 ≤ N) → (pa_ok c ad M3 k N (we_mid p f a0 b0)) → (pa_fr k N M M3) → bj_S (bw_G l D c) Y_Pa_weigh 2 (0, 0, 0, 0) ad (q_weigh c ad M k N p) 0 0 12 [some (.ref (ad k)), some (.ref (ad k2)), some (.int (nI a0)), some (.int (nI b0))] [] M3 := by
          intro b0 M3
          induction hd_in1 : N - b0 using Nat.strongRecOn generalizing b0 M3 with
          | ind d_in1 ih_in1 =>
            intro hb0 hb hf3
            have h3 : co_ok c ad M3 k2 N vs P := h2.in (fun q q1 q2 => hf3 q (by omega))
            refine bj_iload_n d_Pa_weigh_12 rfl rfl ?_
            refine bj_aload_n d_Pa_weigh_13 rfl rfl ?_
            refine bj_get d_Pa_weigh_14 in_Pa rfl (by decide : 0 < 3) wf_Pa_9 rfl hb.1 rfl ?_
            refine bj_icmp_geN (tgt := 40) d_Pa_weigh_17 (by decide) (by omega) (by omega) (fun h17 => ?_) (fun h17 => ?_)
            · refine bj_iinc (v := (nI (a0 + 1))) (L' := [some (.ref (ad k)), some (.ref (ad k2)), some (.int (nI (a0 + 1))), some (.int (nI b0))]) d_Pa_weigh_40 rfl (bj_inc1 _) (by decide) rfl ?_
              refine bj_goto (tgt := 2) d_Pa_weigh_43 (by decide) ?_
              exact ih_o1 (N - (a0 + 1)) (by omega) (a0 + 1) M3 _ rfl (by omega) (hb.to (fun i b hi hb9 => by
                unfold we_mid
                by_cases e : i < a0 ∨ (i = a0 ∧ b < b0)
                · rw [if_pos e, if_pos (by omega)]
                · rw [if_neg e, if_neg (by omega)])) hf3
            · refine bj_aload_n d_Pa_weigh_20 rfl rfl ?_
              refine bj_get d_Pa_weigh_21 in_Pa rfl (by decide : 1 < 3) wf_Pa_17 rfl hb.1 rfl ?_
              refine bj_iload_n d_Pa_weigh_24 rfl rfl ?_
              refine bv_aald d_Pa_weigh_25 4 rfl rfl hb.2.1 (by omega) (by omega) ?_
              refine bj_iload_n d_Pa_weigh_26 rfl rfl ?_
              refine bj_aload_n d_Pa_weigh_27 rfl rfl ?_
              refine bj_iload_n d_Pa_weigh_28 rfl rfl ?_
              refine bj_iload_n d_Pa_weigh_29 rfl rfl ?_
              refine bj_cvF sv_Pa_24 d_Pa_weigh_30 (t_Co_direct l D c ad M3 h3 hN (by omega) (by omega)) rfl rfl (by decide) (by decide) (by decide) (Nat.le_of_ble_eq_true rfl) rfl h3.1 rfl rfl ?_
              rw [dir_nI hP hp (by omega) (by omega)]
              refine bv_iast d_Pa_weigh_33 0 rfl (hb.2.2.1 a0 (by omega)) (by omega) (by omega) (fun N1 hN1 hO1 => ?_)
              have hN2 := bv_I.upn hN1
              refine bj_iinc (v := (nI (b0 + 1))) (L' := [some (.ref (ad k)), some (.ref (ad k2)), some (.int (nI a0)), some (.int (nI (b0 + 1)))]) d_Pa_weigh_34 rfl (bj_inc1 _) (by decide) rfl ?_
              refine bj_goto (tgt := 12) d_Pa_weigh_37 (by decide) ?_
              exact ih_in1 (N - (b0 + 1)) (by omega) (b0 + 1) N1 rfl (by omega) ((hb.row (by omega) hN2 (fun b hb9 => by
                have q := hb.2.2.2 a0 b (by omega) hb9
                unfold va_up
                split
                · exact drn_lt hp (by omega) (by omega)
                · exact q) hO1).to (fun i b hi hb9 => by
                unfold we_mid
                by_cases e : i = a0
                · subst e
                  rw [va_up_self]
                  by_cases e2 : b = b0
                  · subst e2
                    rw [va_up_self, if_pos (by omega)]
                  · rw [va_up_ne _ _ e2]
                    by_cases e3 : b < b0
                    · rw [if_pos (by omega), if_pos (by omega)]
                    · rw [if_neg (by omega), if_neg (by omega)]
                · rw [va_up_ne _ _ e]
                  by_cases e2 : i < a0
                  · rw [if_pos (by omega), if_pos (by omega)]
                  · rw [if_neg (by omega), if_neg (by omega)])) (hf3.at (by omega) hO1)
        exact in1 0 M2 (Nat.zero_le _) ha hf
  exact o1 0 M none (Nat.zero_le _) (h.to (fun i b hi hb => (if_neg (by omega)).symm)) pa_fr.rf
end P1
end
section
/-! BeatPaths: nextAt, nextTowards, countSteps, strongestWay (walks by gen/m_pa2.py) -/
section P2

theorem pa_ok.in {c : Nat → ClassId} {ad : Nat → Nat} {M M' : bj_M} {k N : Nat} {f : Nat → Nat → Nat} (h : pa_ok c ad M k N f) (e : ∀ q, k ≤ q → q < k + 2 + N → M' q = M q) : pa_ok c ad M' k N f := ⟨(e k (by omega) (by omega)).trans h.1, h.2.1.in (e _ (by omega) (by omega)), fun a ha => (h.2.2.1 a ha).in (e _ (by omega) (by omega)), h.2.2.2⟩
/-- a step not below s -/
def stp (p : Nat → Nat → Nat) (s : Nat) (x y : Nat) : Bool := decide (s ≤ drn p x y)
/-- the steps to b as told -/
def st_ok (c : Nat → ClassId) (M : bj_M) (k N : Nat) (S : Nat → Nat) : Prop := bv_I (c 0) M (k + 10) N (fun i => nI (S i)) ∧ ∀ i, i < N → S i ≤ 8
theorem st_ok.in {c : Nat → ClassId} {M M' : bj_M} {k N : Nat} {S : Nat → Nat} (h : st_ok c M k N S) (e : M' (k + 10) = M (k + 10)) : st_ok c M' k N S := ⟨h.1.in e, h.2⟩
def q_steps (c : Nat → ClassId) (M : bj_M) (k N : Nat) (p : Nat → Nat → Nat) (b s : Nat) : bj_R → bj_M → Prop := bj_ret (fun r M' => r = none ∧ (∃ S, st_ok c M' k N S ∧ mn_ds (stp p s) N b N S) ∧ ∀ q, q ≠ k + 10 → M' q = M q)
/-- the word of the strongest way -/
def q_way (M : bj_M) (k N : Nat) (p : Nat → Nat → Nat) (a b : Nat) : bj_R → bj_M → Prop := bj_ret (fun r M' => (∀ q, q ≠ k + 10 → M' q = M q) ∧ ((mg_F (drn p) N a b = 0 ∧ r = some (.int (nI 0))) ∨ (mg_F (drn p) N a b ≠ 0 ∧ ∃ S, mn_ds (stp p (mg_F (drn p) N a b)) N b N S ∧ S a < N ∧ r = some (.int (wy_w (wy_nx (stp p (mg_F (drn p) N a b)) N S) (S a) 1 a (nI (a + 1)))))))
variable (l : Launch) (D : va_G) (c : Nat → ClassId) (ad : Nat → Nat) (M : bj_M)
theorem nx_y {p : Nat → Nat → Nat} {S : Nat → Nat} {s w a i : Nat} (h1 : S i = w) (h2 : s ≤ drn p a i) : (decide (S i = w) && stp p s a i) = true := by
  rw [decide_eq_true h1]
  exact decide_eq_true h2
theorem nx_n1 {p : Nat → Nat → Nat} {S : Nat → Nat} {s w a i : Nat} (h1 : S i ≠ w) : (decide (S i = w) && stp p s a i) = false := by
  rw [decide_eq_false h1]
  rfl
theorem nx_n2 {p : Nat → Nat → Nat} {S : Nat → Nat} {s w a i : Nat} (h2 : drn p a i < s) : (decide (S i = w) && stp p s a i) = false := by
  rw [show stp p s a i = false from decide_eq_false (by omega)]
  exact Bool.and_false _
set_option maxRecDepth 100000 in
set_option maxHeartbeats 4000000 in
/-- nextAt -/
theorem t_Pa_nextAt {k N k2 at_ s w : Nat} {vs : Int32} {P : Nat → Nat → Int32} {p f : Nat → Nat → Nat} (h : pa_ok c ad M k N f) (hN : N ≤ 8) (h2 : co_ok c ad M k2 N vs P) (hP : ∀ a b, a < N → b < N → P a b = nI (p a b)) (hp : ∀ a b, a < N → b < N → p a b < 2 ^ 31) {S : Nat → Nat} (hS : st_ok c M k N S) (hat : at_ < N) (hs : s < 2 ^ 31) (hw : w < 2 ^ 31) : bj_T (bw_G l D c) Y_Pa_nextAt 1 (0, 0, 0, 0) ad (bj_fn (oI (ft (fun y => decide (S y = w) && stp p s at_ y) N)) M) [.ref (ad k), .ref (ad k2), .int (nI at_), .int (nI s), .int (nI w)] M := by
  show bj_S _ _ _ _ _ _ 0 0 0 [some (.ref (ad k)), some (.ref (ad k2)), some (.int (nI at_)), some (.int (nI s)), some (.int (nI w)), none] [] M
  refine bj_iconst (v := (nI 0)) d_Pa_nextAt_0 (by decide) ?_
  refine bj_istore (L' := [some (.ref (ad k)), some (.ref (ad k2)), some (.int (nI at_)), some (.int (nI s)), some (.int (nI w)), some (.int (nI 0))]) d_Pa_nextAt_1 (by decide) rfl ?_
  have lp : ∀ (i : Nat), (i ≤ N) → (∀ j, j < i → (fun y => decide (S y = w) && stp p s at_ y) j = false) → bj_S (bw_G l D c) Y_Pa_nextAt 1 (0, 0, 0, 0) ad (bj_fn (oI (ft (fun y => decide (S y = w) && stp p s at_ y) N)) M) 0 0 3 [some (.ref (ad k)), some (.ref (ad k2)), some (.int (nI at_)), some (.int (nI s)), some (.int (nI w)), some (.int (nI i))] [] M := by
    intro i
    induction hd_lp : N - i using Nat.strongRecOn generalizing i with
    | ind d_lp ih_lp =>
      intro hi hq
      refine bj_iload d_Pa_nextAt_3 rfl ?_
      refine bj_aload_n d_Pa_nextAt_5 rfl rfl ?_
      refine bj_get d_Pa_nextAt_6 in_Pa rfl (by decide : 0 < 3) wf_Pa_9 rfl h.1 rfl ?_
      refine bj_icmp_geN (tgt := 44) d_Pa_nextAt_9 (by decide) (by first | omega | exact Nat.lt_of_le_of_lt (hS.2 i (by omega)) (by decide) | exact drn_lt hp hat (by omega)) (by first | omega | exact Nat.lt_of_le_of_lt (hS.2 i (by omega)) (by decide) | exact drn_lt hp hat (by omega)) (fun h9 => ?_) (fun h9 => ?_)
      · refine bj_iconst (v := (-1)) d_Pa_nextAt_44 (by decide) ?_
        exact bj_iret d_Pa_nextAt_45 rfl rfl (Nat.le_refl _) (Nat.le_refl _) ⟨by rw [ft_none.mpr (fun j hj => hq j (by omega))]; rfl, rfl⟩
      · refine bj_aload_n d_Pa_nextAt_12 rfl rfl ?_
        refine bj_get d_Pa_nextAt_13 in_Pa rfl (by decide : 2 < 3) wf_Pa_20 rfl h.1 rfl ?_
        refine bj_iload d_Pa_nextAt_16 rfl ?_
        refine bv_iald d_Pa_nextAt_18 0 rfl hS.1 (by omega) (by first | omega | exact Nat.lt_of_le_of_lt (hS.2 i (by omega)) (by decide) | exact drn_lt hp hat (by omega)) rfl ?_
        refine bj_iload d_Pa_nextAt_19 rfl ?_
        refine bj_icmp_neN (tgt := 38) d_Pa_nextAt_21 (by decide) (by first | omega | exact Nat.lt_of_le_of_lt (hS.2 i (by omega)) (by decide) | exact drn_lt hp hat (by omega)) (by first | omega | exact Nat.lt_of_le_of_lt (hS.2 i (by omega)) (by decide) | exact drn_lt hp hat (by omega)) (fun h21 => ?_) (fun h21 => ?_)
        · have hz := nx_n1 (p := p) (s := s) (a := at_) h21
          refine bj_iinc (v := (nI (i + 1))) (L' := [some (.ref (ad k)), some (.ref (ad k2)), some (.int (nI at_)), some (.int (nI s)), some (.int (nI w)), some (.int (nI (i + 1)))]) d_Pa_nextAt_38 rfl (bj_inc1 _) (by decide) rfl ?_
          refine bj_goto (tgt := 3) d_Pa_nextAt_41 (by decide) ?_
          exact ih_lp (N - (i + 1)) (by omega) (i + 1) rfl (by omega) (fun j hj => by
            rcases Nat.lt_or_ge j i with q | q
            · exact hq j q
            · rw [show j = i by omega]; exact hz)
        · refine bj_aload_n d_Pa_nextAt_24 rfl rfl ?_
          refine bj_iload_n d_Pa_nextAt_25 rfl rfl ?_
          refine bj_iload d_Pa_nextAt_26 rfl ?_
          refine bj_cvF sv_Pa_24 d_Pa_nextAt_28 (t_Co_direct l D c ad M h2 hN (by omega) (by omega)) rfl rfl (by decide) (by decide) (by decide) (Nat.le_of_ble_eq_true rfl) rfl h2.1 rfl rfl ?_
          rw [dir_nI hP hp (by omega) (by omega)]
          refine bj_iload_n d_Pa_nextAt_31 rfl rfl ?_
          refine bj_icmp_ltN (tgt := 38) d_Pa_nextAt_32 (by decide) (by first | omega | exact Nat.lt_of_le_of_lt (hS.2 i (by omega)) (by decide) | exact drn_lt hp hat (by omega)) (by first | omega | exact Nat.lt_of_le_of_lt (hS.2 i (by omega)) (by decide) | exact drn_lt hp hat (by omega)) (fun h32 => ?_) (fun h32 => ?_)
          · have hz := nx_n2 (S := S) (w := w) h32
            refine bj_iinc (v := (nI (i + 1))) (L' := [some (.ref (ad k)), some (.ref (ad k2)), some (.int (nI at_)), some (.int (nI s)), some (.int (nI w)), some (.int (nI (i + 1)))]) d_Pa_nextAt_38 rfl (bj_inc1 _) (by decide) rfl ?_
            refine bj_goto (tgt := 3) d_Pa_nextAt_41 (by decide) ?_
            exact ih_lp (N - (i + 1)) (by omega) (i + 1) rfl (by omega) (fun j hj => by
              rcases Nat.lt_or_ge j i with q | q
              · exact hq j q
              · rw [show j = i by omega]; exact hz)
          · refine bj_iload d_Pa_nextAt_35 rfl ?_
            exact bj_iret d_Pa_nextAt_37 rfl rfl (Nat.le_refl _) (Nat.le_refl _) ⟨by rw [ft_eq.mpr ⟨by omega, nx_y h21 h32, hq⟩]; rfl, rfl⟩
  exact lp 0 (Nat.zero_le _) (fun j hj => absurd hj (Nat.not_lt_zero _))
theorem nt_eq {p : Nat → Nat → Nat} {S : Nat → Nat} {N s a : Nat} (h0 : 0 < S a) : ft (fun y => decide (S y = S a - 1) && stp p s a y) N = ft (fun y => decide (S y + 1 = S a) && stp p s a y) N := ft_to (fun j _ => by
  rw [decide_eq_decide.mpr (show S j = S a - 1 ↔ S j + 1 = S a by omega)])
theorem nt_none {p : Nat → Nat → Nat} {S : Nat → Nat} {N s a : Nat} (h0 : 0 < S a) (h : ft (fun y => decide (S y = S a - 1) && stp p s a y) N = none) : wy_nx (stp p s) N S a = a := by
  unfold wy_nx
  rw [← nt_eq h0, h]
  rfl
theorem nt_some {p : Nat → Nat → Nat} {S : Nat → Nat} {N s a : Nat} (h0 : 0 < S a) (h : ft (fun y => decide (S y = S a - 1) && stp p s a y) N ≠ none) : oI (ft (fun y => decide (S y = S a - 1) && stp p s a y) N) = nI (wy_nx (stp p s) N S a) := by
  unfold wy_nx
  rw [← nt_eq h0]
  cases e : ft (fun y => decide (S y = S a - 1) && stp p s a y) N with
  | none => exact absurd e h
  | some d => rfl
set_option maxRecDepth 100000 in
set_option maxHeartbeats 4000000 in
/-- nextTowards -/
theorem t_Pa_nextTowards {k N k2 at_ s : Nat} {vs : Int32} {P : Nat → Nat → Int32} {p f : Nat → Nat → Nat} (h : pa_ok c ad M k N f) (hN : N ≤ 8) (h2 : co_ok c ad M k2 N vs P) (hP : ∀ a b, a < N → b < N → P a b = nI (p a b)) (hp : ∀ a b, a < N → b < N → p a b < 2 ^ 31) {S : Nat → Nat} (hS : st_ok c M k N S) (hat : at_ < N) (hs : s < 2 ^ 31) (h0 : 0 < S at_) : bj_T (bw_G l D c) Y_Pa_nextTowards 2 (0, 0, 0, 0) ad (bj_fn (nI (wy_nx (stp p s) N S at_)) M) [.ref (ad k), .ref (ad k2), .int (nI at_), .int (nI s)] M := by
  show bj_S _ _ _ _ _ _ 0 0 0 [some (.ref (ad k)), some (.ref (ad k2)), some (.int (nI at_)), some (.int (nI s)), none] [] M
  refine bj_aload_n d_Pa_nextTowards_0 rfl rfl ?_
  refine bj_aload_n d_Pa_nextTowards_1 rfl rfl ?_
  refine bj_iload_n d_Pa_nextTowards_2 rfl rfl ?_
  refine bj_iload_n d_Pa_nextTowards_3 rfl rfl ?_
  refine bj_aload_n d_Pa_nextTowards_4 rfl rfl ?_
  refine bj_get d_Pa_nextTowards_5 in_Pa rfl (by decide : 2 < 3) wf_Pa_20 rfl h.1 rfl ?_
  refine bj_iload_n d_Pa_nextTowards_8 rfl rfl ?_
  refine bv_iald d_Pa_nextTowards_9 0 rfl hS.1 (by omega) (by first | omega | exact Nat.lt_of_le_of_lt (hS.2 at_ hat) (by decide)) rfl ?_
  refine bj_iconst (v := (nI 1)) d_Pa_nextTowards_10 (by decide) ?_
  refine bj_isub (v := (nI ((S at_) - 1))) d_Pa_nextTowards_11 (pk_sub (by omega)) ?_
  refine bj_cvF sv_Pa_60 d_Pa_nextTowards_12 (t_Pa_nextAt l D c ad M h hN h2 hP hp hS hat hs (by have := hS.2 at_ hat; omega)) rfl rfl (by decide) (by decide) (by decide) (Nat.le_of_ble_eq_true rfl) rfl h.1 rfl rfl ?_
  refine bj_istore (L' := [some (.ref (ad k)), some (.ref (ad k2)), some (.int (nI at_)), some (.int (nI s)), some (.int (oI (ft (fun y => decide (S y = S at_ - 1) && stp p s at_ y) N)))]) d_Pa_nextTowards_15 (by decide) rfl ?_
  refine bj_iload d_Pa_nextTowards_17 rfl ?_
  refine bj_iconst (v := (-1)) d_Pa_nextTowards_19 (by decide) ?_
  refine bj_icmp_ne (tgt := 27) d_Pa_nextTowards_20 (by decide) (fun h20 => ?_) (fun h20 => ?_)
  · refine bj_iload d_Pa_nextTowards_27 rfl ?_
    exact bj_iret d_Pa_nextTowards_29 rfl rfl (Nat.le_refl _) (Nat.le_refl _) ⟨by rw [nt_some h0 (fun e => h20 ((ft_m1 (by omega)).mpr e))], rfl⟩
  · refine bj_iload_n d_Pa_nextTowards_23 rfl rfl ?_
    refine bj_goto (tgt := 29) d_Pa_nextTowards_24 (by decide) ?_
    exact bj_iret d_Pa_nextTowards_29 rfl rfl (Nat.le_refl _) (Nat.le_refl _) ⟨by rw [nt_none h0 ((ft_m1 (by omega)).mp h20)], rfl⟩
theorem cs_no {p : Nat → Nat → Nat} {S : Nat → Nat} {N s w a : Nat} (h : ft (fun y => decide (S y = w - 1) && stp p s a y) N = none) : ∀ y, y < N → stp p s a y = true → S y ≠ w - 1 := by
  intro y hy hr e
  have := ft_none.mp h y hy
  rw [hr, decide_eq_true e] at this
  cases this
theorem cs_yes {p : Nat → Nat → Nat} {S : Nat → Nat} {N s w a : Nat} (h : ft (fun y => decide (S y = w - 1) && stp p s a y) N ≠ none) : ∃ y, y < N ∧ stp p s a y = true ∧ S y = w - 1 := by
  cases e : ft (fun y => decide (S y = w - 1) && stp p s a y) N with
  | none => exact absurd e h
  | some d =>
    obtain ⟨g1, g2, -⟩ := ft_eq.mp e
    rw [Bool.and_eq_true] at g2
    exact ⟨d, g1, g2.2, of_decide_eq_true g2.1⟩
set_option maxRecDepth 100000 in
set_option maxHeartbeats 4000000 in
/-- countSteps -/
theorem t_Pa_countSteps {k N k2 b s : Nat} {vs : Int32} {P : Nat → Nat → Int32} {p f : Nat → Nat → Nat} (h : pa_ok c ad M k N f) (hN : N ≤ 8) (h2 : co_ok c ad M k2 N vs P) (hP : ∀ a b, a < N → b < N → P a b = nI (p a b)) (hp : ∀ a b, a < N → b < N → p a b < 2 ^ 31) {g : Nat → Int32} (hg : bv_I (c 0) M (k + 10) N g) (hb : b < N) (hs : s < 2 ^ 31) (hk : k2 + 10 ≤ k) : bj_T (bw_G l D c) Y_Pa_countSteps 2 (0, 0, 0, 0) ad (q_steps c M k N p b s) [.ref (ad k), .ref (ad k2), .int (nI b), .int (nI s)] M := by
  show bj_S _ _ _ _ _ _ 0 0 0 [some (.ref (ad k)), some (.ref (ad k2)), some (.int (nI b)), some (.int (nI s)), none, none] [] M
  refine bj_aload_n d_Pa_countSteps_0 rfl rfl ?_
  refine bj_get d_Pa_countSteps_1 in_Pa rfl (by decide : 2 < 3) wf_Pa_20 rfl h.1 rfl ?_
  refine bj_aload_n d_Pa_countSteps_4 rfl rfl ?_
  refine bj_get d_Pa_countSteps_5 in_Pa rfl (by decide : 0 < 3) wf_Pa_9 rfl h.1 rfl ?_
  refine bj_csR ss_Pa_54 d_Pa_countSteps_8 (t_Ar_fill l D c ad M hg (by omega)) rfl rfl (by decide) (by decide) (by decide) (Nat.le_of_ble_eq_true rfl) rfl (fun v1 N1 hq1 => ?_)
  obtain ⟨rfl, hF1, hO1⟩ := hq1
  show bj_S (bw_G l D c) Y_Pa_countSteps 2 (0, 0, 0, 0) ad (q_steps c M k N p b s) 0 0 11 [some (.ref (ad k)), some (.ref (ad k2)), some (.int (nI b)), some (.int (nI s)), none, none] [] N1
  have h7 : pa_ok c ad N1 k N f := h.in (fun q q1 q2 => hO1 q (by omega))
  refine bj_aload_n d_Pa_countSteps_11 rfl rfl ?_
  refine bj_get d_Pa_countSteps_12 in_Pa rfl (by decide : 2 < 3) wf_Pa_20 rfl h7.1 rfl ?_
  refine bj_iload_n d_Pa_countSteps_15 rfl rfl ?_
  refine bj_iconst (v := (nI 0)) d_Pa_countSteps_16 (by decide) ?_
  refine bv_iast d_Pa_countSteps_17 0 rfl hF1 (by omega) (by omega) (fun N2 hN2 hO2 => ?_)
  refine bj_iconst (v := (nI 1)) d_Pa_countSteps_18 (by decide) ?_
  refine bj_istore (L' := [some (.ref (ad k)), some (.ref (ad k2)), some (.int (nI b)), some (.int (nI s)), some (.int (nI 1)), none]) d_Pa_countSteps_19 (by decide) rfl ?_
  have o1 : ∀ (w : Nat), ∀ (M2 : bj_M), ∀ (S : Nat → Nat), ∀ (z : Option Value), (1 ≤ w) → (w ≤ N) → (st_ok c M2 k N S) → (∀ q, q ≠ k + 10 → M2 q = M q) → (∀ j, j < N → mn_up (stp p s) N b w S j) → bj_S (bw_G l D c) Y_Pa_countSteps 2 (0, 0, 0, 0) ad (q_steps c M k N p b s) 0 0 21 [some (.ref (ad k)), some (.ref (ad k2)), some (.int (nI b)), some (.int (nI s)), some (.int (nI w)), z] [] M2 := by
    intro w M2 S z
    induction hd_o1 : N - w using Nat.strongRecOn generalizing w M2 S z with
    | ind d_o1 ih_o1 =>
      intro hw hw2 h5 ho hu
      have h3 : pa_ok c ad M2 k N f := h.in (fun q q1 q2 => ho q (by omega))
      refine bj_iload d_Pa_countSteps_21 rfl ?_
      refine bj_aload_n d_Pa_countSteps_23 rfl rfl ?_
      refine bj_get d_Pa_countSteps_24 in_Pa rfl (by decide : 0 < 3) wf_Pa_9 rfl h3.1 rfl ?_
      refine bj_icmp_geN (tgt := 93) d_Pa_countSteps_27 (by decide) (by omega) (by omega) (fun h27 => ?_) (fun h27 => ?_)
      · exact bj_vret d_Pa_countSteps_93 rfl (Nat.le_refl _) (Nat.le_refl _) ⟨rfl, ⟨S, h5, mn_up_end hb (fun j hj => (show w = N by omega) ▸ hu j hj)⟩, ho⟩
      · refine bj_iconst (v := (nI 0)) d_Pa_countSteps_30 (by decide) ?_
        refine bj_istore (L' := [some (.ref (ad k)), some (.ref (ad k2)), some (.int (nI b)), some (.int (nI s)), some (.int (nI w)), some (.int (nI 0))]) d_Pa_countSteps_31 (by decide) rfl ?_
        have in1 : ∀ (i : Nat), ∀ (M3 : bj_M), ∀ (S : Nat → Nat), (i ≤ N) → (st_ok c M3 k N S) → (∀ q, q ≠ k + 10 → M3 q = M q) → (∀ j, j < i → mn_up (stp p s) N b (w + 1) S j) → (∀ j, i ≤ j → j < N → mn_up (stp p s) N b w S j) → bj_S (bw_G l D c) Y_Pa_countSteps 2 (0, 0, 0, 0) ad (q_steps c M k N p b s) 0 0 33 [some (.ref (ad k)), some (.ref (ad k2)), some (.int (nI b)), some (.int (nI s)), some (.int (nI w)), some (.int (nI i))] [] M3 := by
          intro i M3 S
          induction hd_in1 : N - i using Nat.strongRecOn generalizing i M3 S with
          | ind d_in1 ih_in1 =>
            intro hi h5 ho hu hv
            have h3 : pa_ok c ad M3 k N f := h.in (fun q q1 q2 => ho q (by omega))
            have h4 : co_ok c ad M3 k2 N vs P := h2.in (fun q q1 q2 => ho q (by omega))
            have ho9 : ∀ y, y < N → mn_up (stp p s) N b w S y ∨ mn_up (stp p s) N b (w + 1) S y := fun y hy => by
              rcases Nat.lt_or_ge y i with q | q
              · exact Or.inr (hu y q)
              · exact Or.inl (hv y q hy)
            refine bj_iload d_Pa_countSteps_33 rfl ?_
            refine bj_aload_n d_Pa_countSteps_35 rfl rfl ?_
            refine bj_get d_Pa_countSteps_36 in_Pa rfl (by decide : 0 < 3) wf_Pa_9 rfl h3.1 rfl ?_
            refine bj_icmp_geN (tgt := 87) d_Pa_countSteps_39 (by decide) (by first | omega | exact Nat.lt_of_le_of_lt (h5.2 i (by omega)) (by decide)) (by first | omega | exact Nat.lt_of_le_of_lt (h5.2 i (by omega)) (by decide)) (fun h39 => ?_) (fun h39 => ?_)
            · refine bj_iinc (v := (nI (w + 1))) (L' := [some (.ref (ad k)), some (.ref (ad k2)), some (.int (nI b)), some (.int (nI s)), some (.int (nI (w + 1))), some (.int (nI i))]) d_Pa_countSteps_87 rfl (bj_inc1 _) (by decide) rfl ?_
              refine bj_goto (tgt := 21) d_Pa_countSteps_90 (by decide) ?_
              exact ih_o1 (N - (w + 1)) (by omega) (w + 1) M3 S _ rfl (by omega) (by omega) h5 ho (fun j hj => hu j (by omega))
            · refine bj_aload_n d_Pa_countSteps_42 rfl rfl ?_
              refine bj_get d_Pa_countSteps_43 in_Pa rfl (by decide : 2 < 3) wf_Pa_20 rfl h3.1 rfl ?_
              refine bj_iload d_Pa_countSteps_46 rfl ?_
              refine bv_iald d_Pa_countSteps_48 0 rfl h5.1 (by omega) (by first | omega | exact Nat.lt_of_le_of_lt (h5.2 i (by omega)) (by decide)) rfl ?_
              refine bj_aload_n d_Pa_countSteps_49 rfl rfl ?_
              refine bj_get d_Pa_countSteps_50 in_Pa rfl (by decide : 0 < 3) wf_Pa_9 rfl h3.1 rfl ?_
              refine bj_icmp_neN (tgt := 81) d_Pa_countSteps_53 (by decide) (by first | omega | exact Nat.lt_of_le_of_lt (h5.2 i (by omega)) (by decide)) (by first | omega | exact Nat.lt_of_le_of_lt (h5.2 i (by omega)) (by decide)) (fun h53 => ?_) (fun h53 => ?_)
              · have hz := mn_up_far (hv i (Nat.le_refl _) h39) h53
                refine bj_iinc (v := (nI (i + 1))) (L' := [some (.ref (ad k)), some (.ref (ad k2)), some (.int (nI b)), some (.int (nI s)), some (.int (nI w)), some (.int (nI (i + 1)))]) d_Pa_countSteps_81 rfl (bj_inc1 _) (by decide) rfl ?_
                refine bj_goto (tgt := 33) d_Pa_countSteps_84 (by decide) ?_
                exact ih_in1 (N - (i + 1)) (by omega) (i + 1) M3 S rfl (by omega) h5 ho (fun j hj => by
                  rcases Nat.lt_or_ge j i with q | q
                  · exact hu j q
                  · rw [show j = i by omega]; exact hz) (fun j hj hj2 => hv j (by omega) hj2)
              · refine bj_aload_n d_Pa_countSteps_56 rfl rfl ?_
                refine bj_aload_n d_Pa_countSteps_57 rfl rfl ?_
                refine bj_iload d_Pa_countSteps_58 rfl ?_
                refine bj_iload_n d_Pa_countSteps_60 rfl rfl ?_
                refine bj_iload d_Pa_countSteps_61 rfl ?_
                refine bj_iconst (v := (nI 1)) d_Pa_countSteps_63 (by decide) ?_
                refine bj_isub (v := (nI (w - 1))) d_Pa_countSteps_64 (pk_sub (by omega)) ?_
                refine bj_cvF sv_Pa_60 d_Pa_countSteps_65 (t_Pa_nextAt l D c ad M3 h3 hN h4 hP hp h5 (by omega) hs (by omega)) rfl rfl (by decide) (by decide) (by decide) (Nat.le_of_ble_eq_true rfl) rfl h3.1 rfl rfl ?_
                refine bj_iconst (v := (-1)) d_Pa_countSteps_68 (by decide) ?_
                refine bj_icmp_eq (tgt := 81) d_Pa_countSteps_69 (by decide) (fun h69 => ?_) (fun h69 => ?_)
                · have hz := mn_up_no hw h27 (hv i (Nat.le_refl _) h39) h53 (fun y hy => ho9 y hy) (cs_no ((ft_m1 (by omega)).mp h69))
                  refine bj_iinc (v := (nI (i + 1))) (L' := [some (.ref (ad k)), some (.ref (ad k2)), some (.int (nI b)), some (.int (nI s)), some (.int (nI w)), some (.int (nI (i + 1)))]) d_Pa_countSteps_81 rfl (bj_inc1 _) (by decide) rfl ?_
                  refine bj_goto (tgt := 33) d_Pa_countSteps_84 (by decide) ?_
                  exact ih_in1 (N - (i + 1)) (by omega) (i + 1) M3 S rfl (by omega) h5 ho (fun j hj => by
                    rcases Nat.lt_or_ge j i with q | q
                    · exact hu j q
                    · rw [show j = i by omega]; exact hz) (fun j hj hj2 => hv j (by omega) hj2)
                · obtain ⟨y, hy, hr, hsy⟩ := cs_yes (fun e => h69 ((ft_m1 (by omega)).mpr e))
                  have hz := mn_up_yes hw h27 (hv i (Nat.le_refl _) h39) h53 hy (ho9 y hy) hr hsy
                  refine bj_aload_n d_Pa_countSteps_72 rfl rfl ?_
                  refine bj_get d_Pa_countSteps_73 in_Pa rfl (by decide : 2 < 3) wf_Pa_20 rfl h3.1 rfl ?_
                  refine bj_iload d_Pa_countSteps_76 rfl ?_
                  refine bj_iload d_Pa_countSteps_78 rfl ?_
                  refine bv_iast d_Pa_countSteps_80 0 rfl h5.1 (by omega) (by first | omega | exact Nat.lt_of_le_of_lt (h5.2 i (by omega)) (by decide)) (fun N1 hN1 hO1 => ?_)
                  refine bj_iinc (v := (nI (i + 1))) (L' := [some (.ref (ad k)), some (.ref (ad k2)), some (.int (nI b)), some (.int (nI s)), some (.int (nI w)), some (.int (nI (i + 1)))]) d_Pa_countSteps_81 rfl (bj_inc1 _) (by decide) rfl ?_
                  refine bj_goto (tgt := 33) d_Pa_countSteps_84 (by decide) ?_
                  exact ih_in1 (N - (i + 1)) (by omega) (i + 1) N1 (va_up S i w) rfl (by omega) ⟨bv_I.upn hN1, fun j hj => by
                    by_cases e : j = i
                    · subst e; rw [va_up_self]; omega
                    · rw [va_up_ne _ _ e]; exact h5.2 j hj⟩ (fun q hq => (hO1 q hq).trans (ho q hq)) (fun j hj => by
                    rcases Nat.lt_or_ge j i with q | q
                    · exact mn_up_ne (hu j q) (by omega)
                    · rw [show j = i by omega]; exact hz) (fun j hj hj2 => mn_up_ne (hv j (by omega) hj2) (by omega))
        exact in1 0 M2 S (Nat.zero_le _) h5 ho (fun j hj => absurd hj (Nat.not_lt_zero _)) (fun j _ hj => hu j hj)
  exact o1 1 N2 (fun j => if j = b then 0 else N) none (Nat.le_refl _) (by omega) ⟨hN2.to (fun j hj => by
    show va_up _ _ _ j = nI (if j = b then 0 else N)
    unfold va_up
    split <;> rfl), fun j hj => by
    show (if j = b then 0 else N) ≤ 8
    split <;> omega⟩ (fun q hq => (hO2 q hq).trans (hO1 q hq)) (mn_up_0 (if_pos rfl) (fun j _ e => if_neg e))
theorem wy_w_s {nx : Nat → Nat} {d i a : Nat} {w : Int32} (h : 0 < d) : wy_w nx d i a w = wy_w nx (d - 1) (i + 1) (nx a) (w ||| (nI (nx a + 1) <<< (nI (4 * i) &&& 31))) := by
  cases d with
  | zero => cases h
  | succ d => rfl
theorem wy_w_0 {nx : Nat → Nat} {d i a : Nat} {w : Int32} (h : d = 0) : wy_w nx d i a w = w := by
  subst h
  rfl
set_option maxRecDepth 100000 in
set_option maxHeartbeats 4000000 in
/-- strongestWay -/
theorem t_Pa_strongestWay {k N k2 a b : Nat} {vs : Int32} {P : Nat → Nat → Int32} {p : Nat → Nat → Nat} (h : pa_ok c ad M k N (mg_F (drn p) N)) (hN : N ≤ 8) (h2 : co_ok c ad M k2 N vs P) (hP : ∀ a b, a < N → b < N → P a b = nI (p a b)) (hp : ∀ a b, a < N → b < N → p a b < 2 ^ 31) {g : Nat → Int32} (hg : bv_I (c 0) M (k + 10) N g) (ha : a < N) (hb : b < N) (hk : k2 + 10 ≤ k) : bj_T (bw_G l D c) Y_Pa_strongestWay 3 (0, 0, 0, 0) ad (q_way M k N p a b) [.ref (ad k), .ref (ad k2), .int (nI a), .int (nI b)] M := by
  show bj_S _ _ _ _ _ _ 0 0 0 [some (.ref (ad k)), some (.ref (ad k2)), some (.int (nI a)), some (.int (nI b)), none, none, none, none] [] M
  refine bj_aload_n d_Pa_strongestWay_0 rfl rfl ?_
  refine bj_get d_Pa_strongestWay_1 in_Pa rfl (by decide : 1 < 3) wf_Pa_17 rfl h.1 rfl ?_
  refine bj_iload_n d_Pa_strongestWay_4 rfl rfl ?_
  refine bv_aald d_Pa_strongestWay_5 4 rfl rfl h.2.1 (by omega) (by first | omega | exact h.2.2.2 a b ha hb) ?_
  refine bj_iload_n d_Pa_strongestWay_6 rfl rfl ?_
  refine bv_iald d_Pa_strongestWay_7 0 rfl (h.2.2.1 a ha) (by omega) (by first | omega | exact h.2.2.2 a b ha hb) rfl ?_
  refine bj_istore (L' := [some (.ref (ad k)), some (.ref (ad k2)), some (.int (nI a)), some (.int (nI b)), some (.int (nI (mg_F (drn p) N a b))), none, none, none]) d_Pa_strongestWay_8 (by decide) rfl ?_
  refine bj_iload d_Pa_strongestWay_10 rfl ?_
  refine bj_if_neN (tgt := 17) d_Pa_strongestWay_12 (by decide) (by first | omega | exact h.2.2.2 a b ha hb) (fun h12 => ?_) (fun h12 => ?_)
  · refine bj_aload_n d_Pa_strongestWay_17 rfl rfl ?_
    refine bj_aload_n d_Pa_strongestWay_18 rfl rfl ?_
    refine bj_iload_n d_Pa_strongestWay_19 rfl rfl ?_
    refine bj_iload d_Pa_strongestWay_20 rfl ?_
    refine bj_cvR sv_Pa_46 d_Pa_strongestWay_22 (t_Pa_countSteps l D c ad M h hN h2 hP hp hg hb (h.2.2.2 a b ha hb) hk) rfl rfl (by decide) (by decide) (by decide) (Nat.le_of_ble_eq_true rfl) rfl h.1 rfl rfl (fun v1 N1 hq1 => ?_)
    obtain ⟨rfl, ⟨S, hT1, hD1⟩, hO1⟩ := hq1
    show bj_S (bw_G l D c) Y_Pa_strongestWay 3 (0, 0, 0, 0) ad (q_way M k N p a b) 0 0 25 [some (.ref (ad k)), some (.ref (ad k2)), some (.int (nI a)), some (.int (nI b)), some (.int (nI (mg_F (drn p) N a b))), none, none, none] [] N1
    have h7 : pa_ok c ad N1 k N (mg_F (drn p) N) := h.in (fun q q1 q2 => hO1 q (by omega))
    have h8 : co_ok c ad N1 k2 N vs P := h2.in (fun q q1 q2 => hO1 q (by omega))
    obtain ⟨k9, hk9⟩ := mn_of_tg (b := b) (mg_F_ac (drn p) N a b ha hb (by omega)) 0 (mn_nr_0.mpr rfl)
    have hSa : S a < N := mn_ds_lt hD1 ha hk9
    refine bj_iload_n d_Pa_strongestWay_25 rfl rfl ?_
    refine bj_iconst (v := (nI 1)) d_Pa_strongestWay_26 (by decide) ?_
    refine bj_iadd (v := (nI (a + 1))) d_Pa_strongestWay_27 (nI_add _ _) ?_
    refine bj_istore (L' := [some (.ref (ad k)), some (.ref (ad k2)), some (.int (nI a)), some (.int (nI b)), some (.int (nI (mg_F (drn p) N a b))), some (.int (nI (a + 1))), none, none]) d_Pa_strongestWay_28 (by decide) rfl ?_
    refine bj_iload_n d_Pa_strongestWay_30 rfl rfl ?_
    refine bj_istore (L' := [some (.ref (ad k)), some (.ref (ad k2)), some (.int (nI a)), some (.int (nI b)), some (.int (nI (mg_F (drn p) N a b))), some (.int (nI (a + 1))), some (.int (nI a)), none]) d_Pa_strongestWay_31 (by decide) rfl ?_
    refine bj_iconst (v := (nI 1)) d_Pa_strongestWay_33 (by decide) ?_
    refine bj_istore (L' := [some (.ref (ad k)), some (.ref (ad k2)), some (.int (nI a)), some (.int (nI b)), some (.int (nI (mg_F (drn p) N a b))), some (.int (nI (a + 1))), some (.int (nI a)), some (.int (nI 1))]) d_Pa_strongestWay_34 (by decide) rfl ?_
    have lp : ∀ (i : Nat), ∀ (at_ : Nat), ∀ (x : Int32), (1 ≤ i) → (i + S at_ ≤ N) → (at_ < N) → (S at_ < N) → (wy_w (wy_nx (stp p (mg_F (drn p) N a b)) N S) (S at_) i at_ x = (wy_w (wy_nx (stp p (mg_F (drn p) N a b)) N S) (S a) 1 a (nI (a + 1)))) → bj_S (bw_G l D c) Y_Pa_strongestWay 3 (0, 0, 0, 0) ad (q_way M k N p a b) 0 0 36 [some (.ref (ad k)), some (.ref (ad k2)), some (.int (nI a)), some (.int (nI b)), some (.int (nI (mg_F (drn p) N a b))), some (.int x), some (.int (nI at_)), some (.int (nI i))] [] N1 := by
      intro i at_ x
      induction hd_lp : N - i using Nat.strongRecOn generalizing i at_ x with
      | ind d_lp ih_lp =>
        intro hi1 hi hat hSt hw
        refine bj_iload d_Pa_strongestWay_36 rfl ?_
        refine bj_aload_n d_Pa_strongestWay_38 rfl rfl ?_
        refine bj_get d_Pa_strongestWay_39 in_Pa rfl (by decide : 0 < 3) wf_Pa_9 rfl h7.1 rfl ?_
        refine bj_icmp_geN (tgt := 82) d_Pa_strongestWay_42 (by decide) (by first | omega | exact h.2.2.2 a b ha hb) (by first | omega | exact h.2.2.2 a b ha hb) (fun h42 => ?_) (fun h42 => ?_)
        · have hz : S at_ = 0 := by omega
          refine bj_iload d_Pa_strongestWay_82 rfl ?_
          exact bj_iret d_Pa_strongestWay_84 rfl rfl (Nat.le_refl _) (Nat.le_refl _) ⟨hO1, Or.inr ⟨h12, S, hD1, hSa, by rw [← hw, wy_w_0 hz]⟩⟩
        · refine bj_iload d_Pa_strongestWay_45 rfl ?_
          refine bj_iload_n d_Pa_strongestWay_47 rfl rfl ?_
          refine bj_icmp_eqN (tgt := 82) d_Pa_strongestWay_48 (by decide) (by first | omega | exact h.2.2.2 a b ha hb) (by first | omega | exact h.2.2.2 a b ha hb) (fun h48 => ?_) (fun h48 => ?_)
          · have hz : S at_ = 0 := by rw [h48]; exact mn_ds_b hD1 hb
            refine bj_iload d_Pa_strongestWay_82 rfl ?_
            exact bj_iret d_Pa_strongestWay_84 rfl rfl (Nat.le_refl _) (Nat.le_refl _) ⟨hO1, Or.inr ⟨h12, S, hD1, hSa, by rw [← hw, wy_w_0 hz]⟩⟩
          · have hpos : 0 < S at_ := Nat.pos_of_ne_zero (fun e => h48 (mn_ds_0 hD1 (Nat.le_refl _) hat e))
            obtain ⟨-, g1, g2, g3⟩ := wy_nx_ok hD1 (Nat.le_refl _) hat hSt h48
            have hw2 : wy_w (wy_nx (stp p (mg_F (drn p) N a b)) N S) (S at_ - 1) (i + 1) (wy_nx (stp p (mg_F (drn p) N a b)) N S at_) (x ||| (nI ((wy_nx (stp p (mg_F (drn p) N a b)) N S at_) + 1) <<< (nI (4 * i) &&& 31))) = (wy_w (wy_nx (stp p (mg_F (drn p) N a b)) N S) (S a) 1 a (nI (a + 1))) := by rw [← hw]; exact (wy_w_s hpos).symm
            refine bj_aload_n d_Pa_strongestWay_51 rfl rfl ?_
            refine bj_aload_n d_Pa_strongestWay_52 rfl rfl ?_
            refine bj_iload d_Pa_strongestWay_53 rfl ?_
            refine bj_iload d_Pa_strongestWay_55 rfl ?_
            refine bj_cvF sv_Pa_50 d_Pa_strongestWay_57 (t_Pa_nextTowards l D c ad N1 h7 hN h8 hP hp hT1 hat (h.2.2.2 a b ha hb) hpos) rfl rfl (by decide) (by decide) (by decide) (Nat.le_of_ble_eq_true rfl) rfl h7.1 rfl rfl ?_
            refine bj_istore (L' := [some (.ref (ad k)), some (.ref (ad k2)), some (.int (nI a)), some (.int (nI b)), some (.int (nI (mg_F (drn p) N a b))), some (.int x), some (.int (nI (wy_nx (stp p (mg_F (drn p) N a b)) N S at_))), some (.int (nI i))]) d_Pa_strongestWay_60 (by decide) rfl ?_
            refine bj_iload d_Pa_strongestWay_62 rfl ?_
            refine bj_iload d_Pa_strongestWay_64 rfl ?_
            refine bj_iconst (v := (nI 1)) d_Pa_strongestWay_66 (by decide) ?_
            refine bj_iadd (v := (nI ((wy_nx (stp p (mg_F (drn p) N a b)) N S at_) + 1))) d_Pa_strongestWay_67 (nI_add _ _) ?_
            refine bj_iconst (v := (nI 4)) d_Pa_strongestWay_68 (by decide) ?_
            refine bj_iload d_Pa_strongestWay_69 rfl ?_
            refine bj_imul (v := (nI (4 * i))) d_Pa_strongestWay_71 (pk_mul _ _) ?_
            refine bj_ishl (v := ((nI ((wy_nx (stp p (mg_F (drn p) N a b)) N S at_) + 1)) <<< ((nI (4 * i)) &&& 31))) d_Pa_strongestWay_72 rfl ?_
            refine bj_ior (v := (x ||| ((nI ((wy_nx (stp p (mg_F (drn p) N a b)) N S at_) + 1)) <<< ((nI (4 * i)) &&& 31)))) d_Pa_strongestWay_73 rfl ?_
            refine bj_istore (L' := [some (.ref (ad k)), some (.ref (ad k2)), some (.int (nI a)), some (.int (nI b)), some (.int (nI (mg_F (drn p) N a b))), some (.int (x ||| ((nI ((wy_nx (stp p (mg_F (drn p) N a b)) N S at_) + 1)) <<< ((nI (4 * i)) &&& 31)))), some (.int (nI (wy_nx (stp p (mg_F (drn p) N a b)) N S at_))), some (.int (nI i))]) d_Pa_strongestWay_74 (by decide) rfl ?_
            refine bj_iinc (v := (nI (i + 1))) (L' := [some (.ref (ad k)), some (.ref (ad k2)), some (.int (nI a)), some (.int (nI b)), some (.int (nI (mg_F (drn p) N a b))), some (.int (x ||| ((nI ((wy_nx (stp p (mg_F (drn p) N a b)) N S at_) + 1)) <<< ((nI (4 * i)) &&& 31)))), some (.int (nI (wy_nx (stp p (mg_F (drn p) N a b)) N S at_))), some (.int (nI (i + 1)))]) d_Pa_strongestWay_76 rfl (bj_inc1 _) (by decide) rfl ?_
            refine bj_goto (tgt := 36) d_Pa_strongestWay_79 (by decide) ?_
            exact ih_lp (N - (i + 1)) (by omega) (i + 1) (wy_nx (stp p (mg_F (drn p) N a b)) N S at_) _ rfl (by omega) (by omega) g1 (by omega) (by rw [show S (wy_nx (stp p (mg_F (drn p) N a b)) N S at_) = S at_ - 1 by omega]; exact hw2)
    exact lp 1 a (nI (a + 1)) (Nat.le_refl _) (by omega) ha hSa rfl
  · refine bj_iconst (v := (nI 0)) d_Pa_strongestWay_15 (by decide) ?_
    exact bj_iret d_Pa_strongestWay_16 rfl rfl (Nat.le_refl _) (Nat.le_refl _) ⟨fun _ _ => rfl, Or.inl ⟨h12, rfl⟩⟩
end P2
end
section
/-! Locks: overtakes, insert, sortPairs (walks by gen/m_lo1.py) -/
section L1

/-- the locks: who is locked over each, to whom each leads, the pairs -/
def lo_ok (c : Nat → ClassId) (ad : Nat → Nat) (M : bj_M) (k N : Nat) (lo co U V : Nat → Int32) (pn : Nat) : Prop := M k = some (.inr (3, [.int (nI N), .ref (ad (k + 1)), .ref (ad (k + 2)), .ref (ad (k + 3)), .ref (ad (k + 4)), .int (nI pn)])) ∧ bv_I (c 0) M (k + 1) N lo ∧ bv_I (c 0) M (k + 2) N co ∧ bv_I (c 0) M (k + 3) (N * N) U ∧ bv_I (c 0) M (k + 4) (N * N) V
def lo_fr (k : Nat) (M M' : bj_M) : Prop := ∀ q, ¬ (k ≤ q ∧ q < k + 5) → M' q = M q
theorem lo_fr.rf {k : Nat} {M : bj_M} : lo_fr k M M := fun _ _ => rfl
theorem lo_fr.tr {k : Nat} {M M' M'' : bj_M} (h : lo_fr k M M') (h' : lo_fr k M' M'') : lo_fr k M M'' := fun q hq => (h' q hq).trans (h q hq)
theorem lo_fr.at {k j : Nat} {M M' M'' : bj_M} (h : lo_fr k M M') (hj : k ≤ j ∧ j < k + 5) (ho : ∀ q, q ≠ j → M'' q = M' q) : lo_fr k M M'' := fun q hq => (ho q (fun e => hq (by rw [e]; exact hj))).trans (h q hq)
section V
variable {c : Nat → ClassId} {ad : Nat → Nat} {M M' : bj_M} {k N pn : Nat} {lo co U V g : Nat → Int32}
theorem lo_ok.in (h : lo_ok c ad M k N lo co U V pn) (e : ∀ q, k ≤ q → q < k + 5 → M' q = M q) : lo_ok c ad M' k N lo co U V pn := ⟨(e k (by omega) (by omega)).trans h.1, h.2.1.in (e _ (by omega) (by omega)), h.2.2.1.in (e _ (by omega) (by omega)), h.2.2.2.1.in (e _ (by omega) (by omega)), h.2.2.2.2.in (e _ (by omega) (by omega))⟩
theorem lo_ok.p1 (h : lo_ok c ad M k N lo co U V pn) (hr : bv_I (c 0) M' (k + 1) N g) (ho : ∀ q, q ≠ k + 1 → M' q = M q) : lo_ok c ad M' k N g co U V pn := ⟨(ho k (by omega)).trans h.1, hr, h.2.2.1.in (ho _ (by omega)), h.2.2.2.1.in (ho _ (by omega)), h.2.2.2.2.in (ho _ (by omega))⟩
theorem lo_ok.p2 (h : lo_ok c ad M k N lo co U V pn) (hr : bv_I (c 0) M' (k + 2) N g) (ho : ∀ q, q ≠ k + 2 → M' q = M q) : lo_ok c ad M' k N lo g U V pn := ⟨(ho k (by omega)).trans h.1, h.2.1.in (ho _ (by omega)), hr, h.2.2.2.1.in (ho _ (by omega)), h.2.2.2.2.in (ho _ (by omega))⟩
theorem lo_ok.p3 (h : lo_ok c ad M k N lo co U V pn) (hr : bv_I (c 0) M' (k + 3) (N * N) g) (ho : ∀ q, q ≠ k + 3 → M' q = M q) : lo_ok c ad M' k N lo co g V pn := ⟨(ho k (by omega)).trans h.1, h.2.1.in (ho _ (by omega)), h.2.2.1.in (ho _ (by omega)), hr, h.2.2.2.2.in (ho _ (by omega))⟩
theorem lo_ok.p4 (h : lo_ok c ad M k N lo co U V pn) (hr : bv_I (c 0) M' (k + 4) (N * N) g) (ho : ∀ q, q ≠ k + 4 → M' q = M q) : lo_ok c ad M' k N lo co U g pn := ⟨(ho k (by omega)).trans h.1, h.2.1.in (ho _ (by omega)), h.2.2.1.in (ho _ (by omega)), h.2.2.2.1.in (ho _ (by omega)), hr⟩
theorem lo_ok.p5 (h : lo_ok c ad M k N lo co U V pn) {pn' : Nat} : lo_ok c ad (va_up M k (some (.inr (3, [.int (nI N), .ref (ad (k + 1)), .ref (ad (k + 2)), .ref (ad (k + 3)), .ref (ad (k + 4)), .int (nI pn')])))) k N lo co U V pn' := ⟨va_up_self _ _ _, h.2.1.in (va_up_ne _ _ (by omega)), h.2.2.1.in (va_up_ne _ _ (by omega)), h.2.2.2.1.in (va_up_ne _ _ (by omega)), h.2.2.2.2.in (va_up_ne _ _ (by omega))⟩
end V
/-- the pairs as they stand -/
def lo_e (U V : Nat → Int32) (e : Nat → Nat) (pn : Nat) : Prop := ∀ i, i < pn → U i = nI (e i / 8) ∧ V i = nI (e i % 8)
/-- in the midst of an insertion -/
def lo_m (U V : Nat → Int32) (e : Nat → Nat) (w pn : Nat) : Prop := (∀ i, i < w → U i = nI (e i / 8) ∧ V i = nI (e i % 8)) ∧ ∀ i, w < i → i ≤ pn → U i = nI (e (i - 1) / 8) ∧ V i = nI (e (i - 1) % 8)
theorem lo_m_sh {U V : Nat → Int32} {e : Nat → Nat} {w pn : Nat} (h : lo_m U V e w pn) (hw : 0 < w) (hp : w ≤ pn) : lo_m (va_up U w (U (w - 1))) (va_up V w (V (w - 1))) e (w - 1) pn := by
  refine ⟨fun i hi => ?_, fun i h1 h2 => ?_⟩
  · rw [va_up_ne _ _ (show i ≠ w by omega), va_up_ne _ _ (show i ≠ w by omega)]
    exact h.1 i (by omega)
  · by_cases e9 : i = w
    · subst e9
      rw [va_up_self, va_up_self]
      exact h.1 (i - 1) (by omega)
    · rw [va_up_ne _ _ e9, va_up_ne _ _ e9]
      exact h.2 i (by omega) h2
theorem lo_m_pt {U V : Nat → Int32} {e : Nat → Nat} {w pn a b : Nat} (h : lo_m U V e w pn) (hw : w ≤ pn) (hb : b < 8) : lo_e (va_up U w (nI a)) (va_up V w (nI b)) (so_in e w (8 * a + b)) (pn + 1) := by
  intro i hi
  rcases Nat.lt_trichotomy i w with q | q | q
  · rw [va_up_ne _ _ (show i ≠ w by omega), va_up_ne _ _ (show i ≠ w by omega), so_in_lt q]
    exact h.1 i q
  · subst q
    rw [va_up_self, va_up_self, so_in_eq rfl, show (8 * a + b) / 8 = a by omega, show (8 * a + b) % 8 = b by omega]
    exact ⟨rfl, rfl⟩
  · rw [va_up_ne _ _ (show i ≠ w by omega), va_up_ne _ _ (show i ≠ w by omega), so_in_gt q]
    exact h.2 i q (by omega)
def q_ins (c : Nat → ClassId) (ad : Nat → Nat) (M : bj_M) (k N : Nat) (lo co : Nat → Int32) (p : Nat → Nat → Nat) (e : Nat → Nat) (pn x : Nat) : bj_R → bj_M → Prop := bj_ret (fun r M' => r = none ∧ (∃ U V w, w ≤ pn ∧ (w = 0 ∨ ¬ so_ov p x (e (w - 1))) ∧ (∀ i, w ≤ i → i < pn → so_ov p x (e i)) ∧ lo_ok c ad M' k N lo co U V (pn + 1) ∧ lo_e U V (so_in e w x) (pn + 1)) ∧ lo_fr k M M')
def q_sort (c : Nat → ClassId) (ad : Nat → Nat) (M : bj_M) (k N : Nat) (lo co : Nat → Int32) (p : Nat → Nat → Nat) (ps : Nat → Nat) : bj_R → bj_M → Prop := bj_ret (fun r M' => r = none ∧ (∃ U V e pn, pn ≤ N * N ∧ so_all p ps N e pn ∧ lo_ok c ad M' k N lo co U V pn ∧ lo_e U V e pn) ∧ lo_fr k M M')
variable (l : Launch) (D : va_G) (c : Nat → ClassId) (ad : Nat → Nat) (M : bj_M)
theorem so_ovp {p : Nat → Nat → Nat} {a b y : Nat} (hb : b < 8) : so_ov p (8 * a + b) y ↔ (drn p (y / 8) (y % 8) < drn p a b ∨ (drn p a b = drn p (y / 8) (y % 8) ∧ p b a < p (y % 8) (y / 8))) := by
  unfold so_ov
  rw [show (8 * a + b) / 8 = a by omega, show (8 * a + b) % 8 = b by omega]
theorem nn_lt {N : Nat} (hN : N ≤ 8) : N * N < 2 ^ 31 := Nat.lt_of_le_of_lt (Nat.mul_le_mul hN hN) (by decide)
theorem nn_le {N : Nat} (hN : N ≤ 8) : N * N ≤ 64 := Nat.mul_le_mul hN hN
set_option maxRecDepth 100000 in
set_option maxHeartbeats 4000000 in
/-- overtakes -/
theorem t_Lo_overtakes {k N k2 pn a b w : Nat} {lo co U V : Nat → Int32} {vs : Int32} {P : Nat → Nat → Int32} {p : Nat → Nat → Nat} (h : lo_ok c ad M k N lo co U V pn) (hN : N ≤ 8) (h2 : co_ok c ad M k2 N vs P) (hP : ∀ a b, a < N → b < N → P a b = nI (p a b)) (hp : ∀ a b, a < N → b < N → p a b < 2 ^ 31) {y : Nat} (ha : a < N) (hb : b < N) (hw : w < N * N) (hU : U w = nI (y / 8)) (hV : V w = nI (y % 8)) (hy1 : y / 8 < N) (hy2 : y % 8 < N) : bj_T (bw_G l D c) Y_Lo_overtakes 1 (0, 0, 0, 0) ad (q_b M (so_ov p (8 * a + b) y)) [.ref (ad k), .ref (ad k2), .int (nI a), .int (nI b), .int (nI w)] M := by
  show bj_S _ _ _ _ _ _ 0 0 0 [some (.ref (ad k)), some (.ref (ad k2)), some (.int (nI a)), some (.int (nI b)), some (.int (nI w)), none, none] [] M
  refine bj_aload_n d_Lo_overtakes_0 rfl rfl ?_
  refine bj_iload_n d_Lo_overtakes_1 rfl rfl ?_
  refine bj_iload_n d_Lo_overtakes_2 rfl rfl ?_
  refine bj_cvF sv_Lo_49 d_Lo_overtakes_3 (t_Co_direct l D c ad M h2 hN (by omega) (by omega)) rfl rfl (by decide) (by decide) (by decide) (Nat.le_of_ble_eq_true rfl) rfl h2.1 rfl rfl ?_
  rw [dir_nI hP hp (by omega) (by omega)]
  refine bj_istore (L' := [some (.ref (ad k)), some (.ref (ad k2)), some (.int (nI a)), some (.int (nI b)), some (.int (nI w)), some (.int (nI (drn p a b))), none]) d_Lo_overtakes_6 (by decide) rfl ?_
  refine bj_aload_n d_Lo_overtakes_8 rfl rfl ?_
  refine bj_aload_n d_Lo_overtakes_9 rfl rfl ?_
  refine bj_get d_Lo_overtakes_10 in_Lo rfl (by decide : 3 < 6) wf_Lo_22 rfl h.1 rfl ?_
  refine bj_iload d_Lo_overtakes_13 rfl ?_
  refine bv_iald (v := (nI (y / 8))) d_Lo_overtakes_15 0 rfl h.2.2.2.1 (by omega) (by first | omega | exact drn_lt hp (by omega) (by omega) | exact hp _ _ (by omega) (by omega) | exact nn_lt hN) hU ?_
  refine bj_aload_n d_Lo_overtakes_16 rfl rfl ?_
  refine bj_get d_Lo_overtakes_17 in_Lo rfl (by decide : 4 < 6) wf_Lo_25 rfl h.1 rfl ?_
  refine bj_iload d_Lo_overtakes_20 rfl ?_
  refine bv_iald (v := (nI (y % 8))) d_Lo_overtakes_22 0 rfl h.2.2.2.2 (by omega) (by first | omega | exact drn_lt hp (by omega) (by omega) | exact hp _ _ (by omega) (by omega) | exact nn_lt hN) hV ?_
  refine bj_cvF sv_Lo_49 d_Lo_overtakes_23 (t_Co_direct l D c ad M h2 hN (by omega) (by omega)) rfl rfl (by decide) (by decide) (by decide) (Nat.le_of_ble_eq_true rfl) rfl h2.1 rfl rfl ?_
  rw [dir_nI hP hp (by omega) (by omega)]
  refine bj_istore (L' := [some (.ref (ad k)), some (.ref (ad k2)), some (.int (nI a)), some (.int (nI b)), some (.int (nI w)), some (.int (nI (drn p a b))), some (.int (nI (drn p (y / 8) (y % 8))))]) d_Lo_overtakes_26 (by decide) rfl ?_
  refine bj_iload d_Lo_overtakes_28 rfl ?_
  refine bj_iload d_Lo_overtakes_30 rfl ?_
  refine bj_icmp_eqN (tgt := 48) d_Lo_overtakes_32 (by decide) (by first | omega | exact drn_lt hp (by omega) (by omega) | exact hp _ _ (by omega) (by omega) | exact nn_lt hN) (by first | omega | exact drn_lt hp (by omega) (by omega) | exact hp _ _ (by omega) (by omega) | exact nn_lt hN) (fun h32 => ?_) (fun h32 => ?_)
  · refine bj_aload_n d_Lo_overtakes_48 rfl rfl ?_
    refine bj_getN d_Lo_overtakes_49 in_Co rfl (by decide : 2 < 3) wf_Lo_63 rfl h2.1 rfl ?_
    refine bj_iload_n d_Lo_overtakes_52 rfl rfl ?_
    refine bv_aald d_Lo_overtakes_53 4 rfl rfl h2.2.1 (by omega) (by first | omega | exact drn_lt hp (by omega) (by omega) | exact hp _ _ (by omega) (by omega) | exact nn_lt hN) ?_
    refine bj_iload_n d_Lo_overtakes_54 rfl rfl ?_
    refine bv_iald (v := (nI (p b a))) d_Lo_overtakes_55 0 rfl (h2.2.2 b hb) (by omega) (by first | omega | exact drn_lt hp (by omega) (by omega) | exact hp _ _ (by omega) (by omega) | exact nn_lt hN) (hP b a hb ha) ?_
    refine bj_aload_n d_Lo_overtakes_56 rfl rfl ?_
    refine bj_getN d_Lo_overtakes_57 in_Co rfl (by decide : 2 < 3) wf_Lo_63 rfl h2.1 rfl ?_
    refine bj_aload_n d_Lo_overtakes_60 rfl rfl ?_
    refine bj_get d_Lo_overtakes_61 in_Lo rfl (by decide : 4 < 6) wf_Lo_25 rfl h.1 rfl ?_
    refine bj_iload d_Lo_overtakes_64 rfl ?_
    refine bv_iald (v := (nI (y % 8))) d_Lo_overtakes_66 0 rfl h.2.2.2.2 (by omega) (by first | omega | exact drn_lt hp (by omega) (by omega) | exact hp _ _ (by omega) (by omega) | exact nn_lt hN) hV ?_
    refine bv_aald d_Lo_overtakes_67 4 rfl rfl h2.2.1 (by omega) (by first | omega | exact drn_lt hp (by omega) (by omega) | exact hp _ _ (by omega) (by omega) | exact nn_lt hN) ?_
    refine bj_aload_n d_Lo_overtakes_68 rfl rfl ?_
    refine bj_get d_Lo_overtakes_69 in_Lo rfl (by decide : 3 < 6) wf_Lo_22 rfl h.1 rfl ?_
    refine bj_iload d_Lo_overtakes_72 rfl ?_
    refine bv_iald (v := (nI (y / 8))) d_Lo_overtakes_74 0 rfl h.2.2.2.1 (by omega) (by first | omega | exact drn_lt hp (by omega) (by omega) | exact hp _ _ (by omega) (by omega) | exact nn_lt hN) hU ?_
    refine bv_iald (v := (nI (p (y % 8) (y / 8)))) d_Lo_overtakes_75 0 rfl (h2.2.2 (y % 8) hy2) (by omega) (by first | omega | exact drn_lt hp (by omega) (by omega) | exact hp _ _ (by omega) (by omega) | exact nn_lt hN) (hP _ _ hy2 hy1) ?_
    refine bj_icmp_geN (tgt := 83) d_Lo_overtakes_76 (by decide) (by first | omega | exact drn_lt hp (by omega) (by omega) | exact hp _ _ (by omega) (by omega) | exact nn_lt hN) (by first | omega | exact drn_lt hp (by omega) (by omega) | exact hp _ _ (by omega) (by omega) | exact nn_lt hN) (fun h76 => ?_) (fun h76 => ?_)
    · refine bj_iconst (v := (nI 0)) d_Lo_overtakes_83 (by decide) ?_
      exact bj_iret d_Lo_overtakes_84 rfl rfl (Nat.le_refl _) (Nat.le_refl _) (qb_f (fun q => by have := (so_ovp (show b < 8 by omega)).mp q; omega))
    · refine bj_iconst (v := (nI 1)) d_Lo_overtakes_79 (by decide) ?_
      refine bj_goto (tgt := 84) d_Lo_overtakes_80 (by decide) ?_
      exact bj_iret d_Lo_overtakes_84 rfl rfl (Nat.le_refl _) (Nat.le_refl _) (qb_t ((so_ovp (show b < 8 by omega)).mpr (by omega)))
  · refine bj_iload d_Lo_overtakes_35 rfl ?_
    refine bj_iload d_Lo_overtakes_37 rfl ?_
    refine bj_icmp_leN (tgt := 46) d_Lo_overtakes_39 (by decide) (by first | omega | exact drn_lt hp (by omega) (by omega) | exact hp _ _ (by omega) (by omega) | exact nn_lt hN) (by first | omega | exact drn_lt hp (by omega) (by omega) | exact hp _ _ (by omega) (by omega) | exact nn_lt hN) (fun h39 => ?_) (fun h39 => ?_)
    · refine bj_iconst (v := (nI 0)) d_Lo_overtakes_46 (by decide) ?_
      exact bj_iret d_Lo_overtakes_47 rfl rfl (Nat.le_refl _) (Nat.le_refl _) (qb_f (fun q => by have := (so_ovp (show b < 8 by omega)).mp q; omega))
    · refine bj_iconst (v := (nI 1)) d_Lo_overtakes_42 (by decide) ?_
      refine bj_goto (tgt := 47) d_Lo_overtakes_43 (by decide) ?_
      exact bj_iret d_Lo_overtakes_47 rfl rfl (Nat.le_refl _) (Nat.le_refl _) (qb_t ((so_ovp (show b < 8 by omega)).mpr (by omega)))
set_option maxRecDepth 100000 in
set_option maxHeartbeats 4000000 in
/-- insert -/
theorem t_Lo_insert {k N k2 pn a b : Nat} {lo co U V : Nat → Int32} {vs : Int32} {P : Nat → Nat → Int32} {p : Nat → Nat → Nat} (h : lo_ok c ad M k N lo co U V pn) (hN : N ≤ 8) (h2 : co_ok c ad M k2 N vs P) (hP : ∀ a b, a < N → b < N → P a b = nI (p a b)) (hp : ∀ a b, a < N → b < N → p a b < 2 ^ 31) {e : Nat → Nat} (he : lo_e U V e pn) (hpn : pn < N * N) (heN : ∀ i, i < pn → e i / 8 < N ∧ e i % 8 < N) (ha : a < N) (hb : b < N) (hk : k2 + 10 ≤ k) : bj_T (bw_G l D c) Y_Lo_insert 2 (0, 0, 0, 0) ad (q_ins c ad M k N lo co p e pn (8 * a + b)) [.ref (ad k), .ref (ad k2), .int (nI a), .int (nI b)] M := by
  show bj_S _ _ _ _ _ _ 0 0 0 [some (.ref (ad k)), some (.ref (ad k2)), some (.int (nI a)), some (.int (nI b)), none] [] M
  have hnn := nn_le hN
  refine bj_aload_n d_Lo_insert_0 rfl rfl ?_
  refine bj_get d_Lo_insert_1 in_Lo rfl (by decide : 5 < 6) wf_Lo_28 rfl h.1 rfl ?_
  refine bj_istore (L' := [some (.ref (ad k)), some (.ref (ad k2)), some (.int (nI a)), some (.int (nI b)), some (.int (nI pn))]) d_Lo_insert_4 (by decide) rfl ?_
  have lp : ∀ (w : Nat), ∀ (M2 : bj_M), ∀ (U2 : Nat → Int32), ∀ (V2 : Nat → Int32), (w ≤ pn) → (lo_ok c ad M2 k N lo co U2 V2 pn) → (lo_m U2 V2 e w pn) → (∀ i, w ≤ i → i < pn → so_ov p (8 * a + b) (e i)) → (lo_fr k M M2) → bj_S (bw_G l D c) Y_Lo_insert 2 (0, 0, 0, 0) ad (q_ins c ad M k N lo co p e pn (8 * a + b)) 0 0 6 [some (.ref (ad k)), some (.ref (ad k2)), some (.int (nI a)), some (.int (nI b)), some (.int (nI w))] [] M2 := by
    intro w M2 U2 V2
    induction hd_lp : w + 1 using Nat.strongRecOn generalizing w M2 U2 V2 with
    | ind d_lp ih_lp =>
      intro hw h3 hm ho hf
      have h4 : co_ok c ad M2 k2 N vs P := h2.in (fun q q1 q2 => hf q (by omega))
      refine bj_iload d_Lo_insert_6 rfl ?_
      refine bj_if_leN (tgt := 63) d_Lo_insert_8 (by decide) (by first | omega | exact nn_lt hN) (fun h8 => ?_) (fun h8 => ?_)
      · have hz : w = 0 ∨ ¬ so_ov p (8 * a + b) (e (w - 1)) := Or.inl (by omega)
        refine bj_aload_n d_Lo_insert_63 rfl rfl ?_
        refine bj_get d_Lo_insert_64 in_Lo rfl (by decide : 3 < 6) wf_Lo_22 rfl h3.1 rfl ?_
        refine bj_iload d_Lo_insert_67 rfl ?_
        refine bj_iload_n d_Lo_insert_69 rfl rfl ?_
        refine bv_iast d_Lo_insert_70 0 rfl h3.2.2.2.1 (by omega) (by first | omega | exact nn_lt hN) (fun N1 hN1 hO1 => ?_)
        have h5 := h3.p3 hN1 hO1
        refine bj_aload_n d_Lo_insert_71 rfl rfl ?_
        refine bj_get d_Lo_insert_72 in_Lo rfl (by decide : 4 < 6) wf_Lo_25 rfl h5.1 rfl ?_
        refine bj_iload d_Lo_insert_75 rfl ?_
        refine bj_iload_n d_Lo_insert_77 rfl rfl ?_
        refine bv_iast d_Lo_insert_78 0 rfl h5.2.2.2.2 (by omega) (by first | omega | exact nn_lt hN) (fun N2 hN2 hO2 => ?_)
        have h6 := h5.p4 hN2 hO2
        refine bj_aload_n d_Lo_insert_79 rfl rfl ?_
        refine bj_dup d_Lo_insert_80 rfl ?_
        refine bj_get d_Lo_insert_81 in_Lo rfl (by decide : 5 < 6) wf_Lo_28 rfl h6.1 rfl ?_
        refine bj_iconst (v := (nI 1)) d_Lo_insert_84 (by decide) ?_
        refine bj_iadd (v := (nI (pn + 1))) d_Lo_insert_85 (nI_add _ _) ?_
        refine bj_put d_Lo_insert_86 in_Lo ok_Lo nm_Lo rfl (by decide : 5 < 6) wf_Lo_28 rfl rfl rfl rfl rfl (Nat.le_of_ble_eq_true rfl) h6.1 ?_
        have h7 := h6.p5 (pn' := pn + 1)
        have hf7 : lo_fr k M (va_up N2 k (some (.inr (3, [.int (nI N), .ref (ad (k + 1)), .ref (ad (k + 2)), .ref (ad (k + 3)), .ref (ad (k + 4)), .int (nI (pn + 1))])))) := ((hf.at (by omega) hO1).at (by omega) hO2).at (j := k) (by omega) (fun q hq => va_up_ne _ _ hq)
        show bj_S _ _ _ _ _ _ 0 0 _ _ [] (va_up N2 k (some (.inr (3, [.int (nI N), .ref (ad (k + 1)), .ref (ad (k + 2)), .ref (ad (k + 3)), .ref (ad (k + 4)), .int (nI (pn + 1))]))))
        generalize va_up N2 k (some (.inr (3, [.int (nI N), .ref (ad (k + 1)), .ref (ad (k + 2)), .ref (ad (k + 3)), .ref (ad (k + 4)), .int (nI (pn + 1))]))) = M7 at h7 hf7 ⊢
        exact bj_vret d_Lo_insert_89 rfl (Nat.le_refl _) (Nat.le_refl _) ⟨rfl, ⟨_, _, w, hw, hz, ho, h7, lo_m_pt hm hw (by omega)⟩, hf7⟩
      · refine bj_aload_n d_Lo_insert_11 rfl rfl ?_
        refine bj_aload_n d_Lo_insert_12 rfl rfl ?_
        refine bj_iload_n d_Lo_insert_13 rfl rfl ?_
        refine bj_iload_n d_Lo_insert_14 rfl rfl ?_
        refine bj_iload d_Lo_insert_15 rfl ?_
        refine bj_iconst (v := (nI 1)) d_Lo_insert_17 (by decide) ?_
        refine bj_isub (v := (nI (w - 1))) d_Lo_insert_18 (pk_sub (by omega)) ?_
        have hx1 := heN (w - 1) (by omega)
        refine bj_cvR sv_Lo_59 d_Lo_insert_19 (t_Lo_overtakes l D c ad M2 h3 hN h4 hP hp ha hb (by omega) (hm.1 (w - 1) (by omega)).1 (hm.1 (w - 1) (by omega)).2 hx1.1 hx1.2) rfl rfl (by decide) (by decide) (by decide) (Nat.le_of_ble_eq_true rfl) rfl h3.1 rfl rfl (fun v1 N1 hq1 => ?_)
        obtain ⟨r9, rfl, hr9, rfl⟩ := hq1
        show bj_S (bw_G l D c) Y_Lo_insert 2 (0, 0, 0, 0) ad (q_ins c ad M k N lo co p e pn (8 * a + b)) 0 0 22 [some (.ref (ad k)), some (.ref (ad k2)), some (.int (nI a)), some (.int (nI b)), some (.int (nI w))] [.int (bt_n r9)] N1
        refine bj_if_eq (tgt := 63) d_Lo_insert_22 (by decide) (fun h22 => ?_) (fun h22 => ?_)
        · have hz : w = 0 ∨ ¬ so_ov p (8 * a + b) (e (w - 1)) := Or.inr (fun q => by
            rw [hr9.mpr q] at h22
            exact absurd h22 (by decide))
          refine bj_aload_n d_Lo_insert_63 rfl rfl ?_
          refine bj_get d_Lo_insert_64 in_Lo rfl (by decide : 3 < 6) wf_Lo_22 rfl h3.1 rfl ?_
          refine bj_iload d_Lo_insert_67 rfl ?_
          refine bj_iload_n d_Lo_insert_69 rfl rfl ?_
          refine bv_iast d_Lo_insert_70 0 rfl h3.2.2.2.1 (by omega) (by first | omega | exact nn_lt hN) (fun N1 hN1 hO1 => ?_)
          have h5 := h3.p3 hN1 hO1
          refine bj_aload_n d_Lo_insert_71 rfl rfl ?_
          refine bj_get d_Lo_insert_72 in_Lo rfl (by decide : 4 < 6) wf_Lo_25 rfl h5.1 rfl ?_
          refine bj_iload d_Lo_insert_75 rfl ?_
          refine bj_iload_n d_Lo_insert_77 rfl rfl ?_
          refine bv_iast d_Lo_insert_78 0 rfl h5.2.2.2.2 (by omega) (by first | omega | exact nn_lt hN) (fun N2 hN2 hO2 => ?_)
          have h6 := h5.p4 hN2 hO2
          refine bj_aload_n d_Lo_insert_79 rfl rfl ?_
          refine bj_dup d_Lo_insert_80 rfl ?_
          refine bj_get d_Lo_insert_81 in_Lo rfl (by decide : 5 < 6) wf_Lo_28 rfl h6.1 rfl ?_
          refine bj_iconst (v := (nI 1)) d_Lo_insert_84 (by decide) ?_
          refine bj_iadd (v := (nI (pn + 1))) d_Lo_insert_85 (nI_add _ _) ?_
          refine bj_put d_Lo_insert_86 in_Lo ok_Lo nm_Lo rfl (by decide : 5 < 6) wf_Lo_28 rfl rfl rfl rfl rfl (Nat.le_of_ble_eq_true rfl) h6.1 ?_
          have h7 := h6.p5 (pn' := pn + 1)
          have hf7 : lo_fr k M (va_up N2 k (some (.inr (3, [.int (nI N), .ref (ad (k + 1)), .ref (ad (k + 2)), .ref (ad (k + 3)), .ref (ad (k + 4)), .int (nI (pn + 1))])))) := ((hf.at (by omega) hO1).at (by omega) hO2).at (j := k) (by omega) (fun q hq => va_up_ne _ _ hq)
          show bj_S _ _ _ _ _ _ 0 0 _ _ [] (va_up N2 k (some (.inr (3, [.int (nI N), .ref (ad (k + 1)), .ref (ad (k + 2)), .ref (ad (k + 3)), .ref (ad (k + 4)), .int (nI (pn + 1))]))))
          generalize va_up N2 k (some (.inr (3, [.int (nI N), .ref (ad (k + 1)), .ref (ad (k + 2)), .ref (ad (k + 3)), .ref (ad (k + 4)), .int (nI (pn + 1))]))) = M7 at h7 hf7 ⊢
          exact bj_vret d_Lo_insert_89 rfl (Nat.le_refl _) (Nat.le_refl _) ⟨rfl, ⟨_, _, w, hw, hz, ho, h7, lo_m_pt hm hw (by omega)⟩, hf7⟩
        · have hz := hr9.mp (bt_nn h22)
          refine bj_aload_n d_Lo_insert_25 rfl rfl ?_
          refine bj_get d_Lo_insert_26 in_Lo rfl (by decide : 3 < 6) wf_Lo_22 rfl h3.1 rfl ?_
          refine bj_iload d_Lo_insert_29 rfl ?_
          refine bj_aload_n d_Lo_insert_31 rfl rfl ?_
          refine bj_get d_Lo_insert_32 in_Lo rfl (by decide : 3 < 6) wf_Lo_22 rfl h3.1 rfl ?_
          refine bj_iload d_Lo_insert_35 rfl ?_
          refine bj_iconst (v := (nI 1)) d_Lo_insert_37 (by decide) ?_
          refine bj_isub (v := (nI (w - 1))) d_Lo_insert_38 (pk_sub (by omega)) ?_
          refine bv_iald d_Lo_insert_39 0 rfl h3.2.2.2.1 (by omega) (by first | omega | exact nn_lt hN) rfl ?_
          refine bv_iast d_Lo_insert_40 0 rfl h3.2.2.2.1 (by omega) (by first | omega | exact nn_lt hN) (fun N1 hN1 hO1 => ?_)
          have h5 := h3.p3 hN1 hO1
          refine bj_aload_n d_Lo_insert_41 rfl rfl ?_
          refine bj_get d_Lo_insert_42 in_Lo rfl (by decide : 4 < 6) wf_Lo_25 rfl h5.1 rfl ?_
          refine bj_iload d_Lo_insert_45 rfl ?_
          refine bj_aload_n d_Lo_insert_47 rfl rfl ?_
          refine bj_get d_Lo_insert_48 in_Lo rfl (by decide : 4 < 6) wf_Lo_25 rfl h5.1 rfl ?_
          refine bj_iload d_Lo_insert_51 rfl ?_
          refine bj_iconst (v := (nI 1)) d_Lo_insert_53 (by decide) ?_
          refine bj_isub (v := (nI (w - 1))) d_Lo_insert_54 (pk_sub (by omega)) ?_
          refine bv_iald d_Lo_insert_55 0 rfl h5.2.2.2.2 (by omega) (by first | omega | exact nn_lt hN) rfl ?_
          refine bv_iast d_Lo_insert_56 0 rfl h5.2.2.2.2 (by omega) (by first | omega | exact nn_lt hN) (fun N2 hN2 hO2 => ?_)
          have h6 := h5.p4 hN2 hO2
          refine bj_iinc (v := (nI (w - 1))) (L' := [some (.ref (ad k)), some (.ref (ad k2)), some (.int (nI a)), some (.int (nI b)), some (.int (nI (w - 1)))]) d_Lo_insert_57 rfl (bj_dec1 (by omega)) (by decide) rfl ?_
          refine bj_goto (tgt := 6) d_Lo_insert_60 (by decide) ?_
          exact ih_lp (w - 1 + 1) (by omega) (w - 1) N2 _ _ rfl (by omega) h6 (lo_m_sh hm (by omega) hw) (fun i hi hi2 => by
            rcases Nat.lt_or_ge i w with q | q
            · rw [show i = w - 1 by omega]; exact hz
            · exact ho i q hi2) ((hf.at (by omega) hO1).at (by omega) hO2)
  exact lp pn M U V (Nat.le_refl _) h ⟨he, fun i h1 h2 => by omega⟩ (fun i h1 h2 => by omega) lo_fr.rf
theorem so_to_in {p : Nat → Nat → Nat} {ps dw e : Nat → Nat} {N i0 j0 pn : Nat} (hN : N ≤ 8) (hp : pm_ok N dw ps) (h : so_to p ps dw N i0 j0 e pn) : ∀ t, t < pn → e t / 8 < N ∧ e t % 8 < N := by
  intro t ht
  obtain ⟨i, j, g1, g2, -, g4, g5⟩ := (h.2.2 (e t)).mp ⟨t, ht, rfl⟩
  have a1 := hp.1 i g1
  have a2 := hp.1 j g2
  rw [g5]
  omega
theorem so_to_pn {p : Nat → Nat → Nat} {ps dw e : Nat → Nat} {N i0 j0 pn : Nat} (h : so_to p ps dw N i0 j0 e pn) (hi : i0 < N) (hj : j0 < N) : pn < N * N := by
  have h1 := h.2.1
  have h2 : (i0 + 1) * N ≤ N * N := Nat.mul_le_mul_right _ hi
  rw [Nat.add_mul] at h2
  omega
theorem so_to_le {p : Nat → Nat → Nat} {ps dw e : Nat → Nat} {N pn : Nat} (h : so_to p ps dw N N 0 e pn) : pn ≤ N * N := h.2.1
set_option maxRecDepth 100000 in
set_option maxHeartbeats 4000000 in
/-- sortPairs -/
theorem t_Lo_sortPairs {k N k2 pn kd : Nat} {lo co U V : Nat → Int32} {vs : Int32} {P : Nat → Nat → Int32} {p : Nat → Nat → Nat} (h : lo_ok c ad M k N lo co U V pn) (hN : N ≤ 8) (h2 : co_ok c ad M k2 N vs P) (hP : ∀ a b, a < N → b < N → P a b = nI (p a b)) (hp : ∀ a b, a < N → b < N → p a b < 2 ^ 31) {dw ps : Nat → Nat} (hd : bv_I (c 0) M kd N (fun i => nI (dw i))) (hpm : pm_ok N dw ps) (hk : k2 + 10 ≤ k) (hkd : kd < k) : bj_T (bw_G l D c) Y_Lo_sortPairs 3 (0, 0, 0, 0) ad (q_sort c ad M k N lo co p ps) [.ref (ad k), .ref (ad k2), .ref (ad kd)] M := by
  show bj_S _ _ _ _ _ _ 0 0 0 [some (.ref (ad k)), some (.ref (ad k2)), some (.ref (ad kd)), none, none] [] M
  refine bj_aload_n d_Lo_sortPairs_0 rfl rfl ?_
  refine bj_iconst (v := (nI 0)) d_Lo_sortPairs_1 (by decide) ?_
  refine bj_put d_Lo_sortPairs_2 in_Lo ok_Lo nm_Lo rfl (by decide : 5 < 6) wf_Lo_28 rfl rfl rfl rfl rfl (Nat.le_of_ble_eq_true rfl) h.1 ?_
  have h7 := h.p5 (pn' := 0)
  have hf7 : lo_fr k M (va_up M k (some (.inr (3, [.int (nI N), .ref (ad (k + 1)), .ref (ad (k + 2)), .ref (ad (k + 3)), .ref (ad (k + 4)), .int (nI 0)])))) := lo_fr.rf.at (j := k) (by omega) (fun q hq => va_up_ne _ _ hq)
  show bj_S _ _ _ _ _ _ 0 0 _ _ [] (va_up M k (some (.inr (3, [.int (nI N), .ref (ad (k + 1)), .ref (ad (k + 2)), .ref (ad (k + 3)), .ref (ad (k + 4)), .int (nI 0)]))))
  generalize va_up M k (some (.inr (3, [.int (nI N), .ref (ad (k + 1)), .ref (ad (k + 2)), .ref (ad (k + 3)), .ref (ad (k + 4)), .int (nI 0)]))) = M7 at h7 hf7 ⊢
  refine bj_iconst (v := (nI 0)) d_Lo_sortPairs_5 (by decide) ?_
  refine bj_istore_n (L' := [some (.ref (ad k)), some (.ref (ad k2)), some (.ref (ad kd)), some (.int (nI 0)), none]) d_Lo_sortPairs_6 rfl (by decide) rfl ?_
  have o1 : ∀ (i : Nat), ∀ (M2 : bj_M), ∀ (U2 : Nat → Int32), ∀ (V2 : Nat → Int32), ∀ (e : Nat → Nat), ∀ (pn2 : Nat), ∀ (z : Option Value), (i ≤ N) → (lo_ok c ad M2 k N lo co U2 V2 pn2) → (lo_e U2 V2 e pn2) → (so_to p ps dw N i 0 e pn2) → (lo_fr k M M2) → bj_S (bw_G l D c) Y_Lo_sortPairs 3 (0, 0, 0, 0) ad (q_sort c ad M k N lo co p ps) 0 0 7 [some (.ref (ad k)), some (.ref (ad k2)), some (.ref (ad kd)), some (.int (nI i)), z] [] M2 := by
    intro i M2 U2 V2 e pn2 z
    induction hd_o1 : N - i using Nat.strongRecOn generalizing i M2 U2 V2 e pn2 z with
    | ind d_o1 ih_o1 =>
      intro hi h3 he hs hf
      refine bj_iload_n d_Lo_sortPairs_7 rfl rfl ?_
      refine bj_aload_n d_Lo_sortPairs_8 rfl rfl ?_
      refine bj_get d_Lo_sortPairs_9 in_Lo rfl (by decide : 0 < 6) wf_Lo_9 rfl h3.1 rfl ?_
      refine bj_icmp_geN (tgt := 65) d_Lo_sortPairs_12 (by decide) (by first | omega | exact drn_lt hp (by omega) (by omega)) (by first | omega | exact drn_lt hp (by omega) (by omega)) (fun h12 => ?_) (fun h12 => ?_)
      · exact bj_vret d_Lo_sortPairs_65 rfl (Nat.le_refl _) (Nat.le_refl _) ⟨rfl, ⟨U2, V2, e, pn2, so_to_le ((show i = N by omega) ▸ hs), so_to_end hN hpm ((show i = N by omega) ▸ hs), h3, he⟩, hf⟩
      · have hi9 := h12
        refine bj_iconst (v := (nI 0)) d_Lo_sortPairs_15 (by decide) ?_
        refine bj_istore (L' := [some (.ref (ad k)), some (.ref (ad k2)), some (.ref (ad kd)), some (.int (nI i)), some (.int (nI 0))]) d_Lo_sortPairs_16 (by decide) rfl ?_
        have in1 : ∀ (j : Nat), ∀ (M2 : bj_M), ∀ (U2 : Nat → Int32), ∀ (V2 : Nat → Int32), ∀ (e : Nat → Nat), ∀ (pn2 : Nat), (j ≤ N) → (lo_ok c ad M2 k N lo co U2 V2 pn2) → (lo_e U2 V2 e pn2) → (so_to p ps dw N i j e pn2) → (lo_fr k M M2) → bj_S (bw_G l D c) Y_Lo_sortPairs 3 (0, 0, 0, 0) ad (q_sort c ad M k N lo co p ps) 0 0 18 [some (.ref (ad k)), some (.ref (ad k2)), some (.ref (ad kd)), some (.int (nI i)), some (.int (nI j))] [] M2 := by
          intro j M2 U2 V2 e pn2
          induction hd_in1 : N - j using Nat.strongRecOn generalizing j M2 U2 V2 e pn2 with
          | ind d_in1 ih_in1 =>
            intro hj h3 he hs hf
            have h4 : co_ok c ad M2 k2 N vs P := h2.in (fun q q1 q2 => hf q (by omega))
            have h5 : bv_I (c 0) M2 kd N (fun i => nI (dw i)) := hd.in (hf kd (by omega))
            refine bj_iload d_Lo_sortPairs_18 rfl ?_
            refine bj_aload_n d_Lo_sortPairs_20 rfl rfl ?_
            refine bj_get d_Lo_sortPairs_21 in_Lo rfl (by decide : 0 < 6) wf_Lo_9 rfl h3.1 rfl ?_
            refine bj_icmp_geN (tgt := 59) d_Lo_sortPairs_24 (by decide) (by first | omega | exact drn_lt hp (by omega) (by omega)) (by first | omega | exact drn_lt hp (by omega) (by omega)) (fun h24 => ?_) (fun h24 => ?_)
            · refine bj_iinc (v := (nI (i + 1))) (L' := [some (.ref (ad k)), some (.ref (ad k2)), some (.ref (ad kd)), some (.int (nI (i + 1))), some (.int (nI j))]) d_Lo_sortPairs_59 rfl (bj_inc1 _) (by decide) rfl ?_
              refine bj_goto (tgt := 7) d_Lo_sortPairs_62 (by decide) ?_
              exact ih_o1 (N - (i + 1)) (by omega) (i + 1) M2 U2 V2 e pn2 _ rfl (by omega) h3 he (so_to_row ((show j = N by omega) ▸ hs)) hf
            · have ha := hpm.1 i hi9
              have hb := hpm.1 j h24
              refine bj_aload_n d_Lo_sortPairs_27 rfl rfl ?_
              refine bj_aload_n d_Lo_sortPairs_28 rfl rfl ?_
              refine bj_iload_n d_Lo_sortPairs_29 rfl rfl ?_
              refine bv_iald d_Lo_sortPairs_30 0 rfl h5 (by omega) (by first | omega | exact drn_lt hp (by omega) (by omega)) rfl ?_
              refine bj_aload_n d_Lo_sortPairs_31 rfl rfl ?_
              refine bj_iload d_Lo_sortPairs_32 rfl ?_
              refine bv_iald d_Lo_sortPairs_34 0 rfl h5 (by omega) (by first | omega | exact drn_lt hp (by omega) (by omega)) rfl ?_
              refine bj_cvF sv_Lo_49 d_Lo_sortPairs_35 (t_Co_direct l D c ad M2 h4 hN (by omega) (by omega)) rfl rfl (by decide) (by decide) (by decide) (Nat.le_of_ble_eq_true rfl) rfl h4.1 rfl rfl ?_
              rw [dir_nI hP hp (by omega) (by omega)]
              refine bj_if_leN (tgt := 53) d_Lo_sortPairs_38 (by decide) (by first | omega | exact drn_lt hp (by omega) (by omega)) (fun h38 => ?_) (fun h38 => ?_)
              · refine bj_iinc (v := (nI (j + 1))) (L' := [some (.ref (ad k)), some (.ref (ad k2)), some (.ref (ad kd)), some (.int (nI i)), some (.int (nI (j + 1)))]) d_Lo_sortPairs_53 rfl (bj_inc1 _) (by decide) rfl ?_
                refine bj_goto (tgt := 18) d_Lo_sortPairs_56 (by decide) ?_
                exact ih_in1 (N - (j + 1)) (by omega) (j + 1) M2 U2 V2 e pn2 rfl (by omega) h3 he (so_to_no hs (by omega)) hf
              · refine bj_aload_n d_Lo_sortPairs_41 rfl rfl ?_
                refine bj_aload_n d_Lo_sortPairs_42 rfl rfl ?_
                refine bj_aload_n d_Lo_sortPairs_43 rfl rfl ?_
                refine bj_iload_n d_Lo_sortPairs_44 rfl rfl ?_
                refine bv_iald d_Lo_sortPairs_45 0 rfl h5 (by omega) (by first | omega | exact drn_lt hp (by omega) (by omega)) rfl ?_
                refine bj_aload_n d_Lo_sortPairs_46 rfl rfl ?_
                refine bj_iload d_Lo_sortPairs_47 rfl ?_
                refine bv_iald d_Lo_sortPairs_49 0 rfl h5 (by omega) (by first | omega | exact drn_lt hp (by omega) (by omega)) rfl ?_
                have hx9 := so_to_in hN hpm hs
                have hpn := so_to_pn hs hi9 h24
                refine bj_cvR sv_Lo_55 d_Lo_sortPairs_50 (t_Lo_insert l D c ad M2 h3 hN h4 hP hp he hpn hx9 ha.1 hb.1 hk) rfl rfl (by decide) (by decide) (by decide) (Nat.le_of_ble_eq_true rfl) rfl h3.1 rfl rfl (fun v1 N1 hq1 => ?_)
                obtain ⟨rfl, ⟨U5, V5, w, hw, g1, g2, h8, he8⟩, hf8⟩ := hq1
                show bj_S (bw_G l D c) Y_Lo_sortPairs 3 (0, 0, 0, 0) ad (q_sort c ad M k N lo co p ps) 0 0 53 [some (.ref (ad k)), some (.ref (ad k2)), some (.ref (ad kd)), some (.int (nI i)), some (.int (nI j))] [] N1
                refine bj_iinc (v := (nI (j + 1))) (L' := [some (.ref (ad k)), some (.ref (ad k2)), some (.ref (ad kd)), some (.int (nI i)), some (.int (nI (j + 1)))]) d_Lo_sortPairs_53 rfl (bj_inc1 _) (by decide) rfl ?_
                refine bj_goto (tgt := 18) d_Lo_sortPairs_56 (by decide) ?_
                exact ih_in1 (N - (j + 1)) (by omega) (j + 1) N1 U5 V5 _ _ rfl (by omega) h8 he8 (so_to_yes hN hpm hs hi9 h24 h38 hw g1 g2) (hf.tr hf8)
        have hi9 := h12
        exact in1 0 M2 U2 V2 e pn2 (Nat.zero_le _) h3 he hs hf
  exact o1 0 M7 U V (fun _ => 0) 0 none (Nat.zero_le _) h7 (fun i hi => absurd hi (Nat.not_lt_zero _)) so_to_0 hf7
end L1
end
section
/-! Locks: lock, lockPairs, firstFree, lineUp (walks by gen/m_lo2.py) -/
section L2

def lk_co (co : Nat → Int32) (a b x : Nat) : Int32 := if x = a ∨ bt (co x) a = true then co x ||| (co b ||| ((nI 1) <<< ((nI b) &&& 31))) else co x
def lk_lo (lo : Nat → Int32) (a b : Nat) : Nat → Int32 := va_up lo b (lo b ||| ((nI 1) <<< ((nI a) &&& 31)))
def lk_md (co : Nat → Int32) (a b i x : Nat) : Int32 := if x < i then lk_co co a b x else co x
theorem lk_md_s {co : Nat → Int32} {a b i x : Nat} : va_up (lk_md co a b i) i (lk_co co a b i) x = lk_md co a b (i + 1) x := by
  unfold lk_md
  by_cases e : x = i
  · subst e; rw [va_up_self, if_pos (by omega)]
  · rw [va_up_ne _ _ e]
    by_cases e2 : x < i
    · rw [if_pos e2, if_pos (by omega)]
    · rw [if_neg e2, if_neg (by omega)]
theorem lk_md_n {co : Nat → Int32} {a b i x : Nat} (h : lk_co co a b i = co i) : lk_md co a b i x = lk_md co a b (i + 1) x := by
  unfold lk_md
  by_cases e : x = i
  · subst e; rw [if_neg (by omega), if_pos (by omega), h]
  · by_cases e2 : x < i
    · rw [if_pos e2, if_pos (by omega)]
    · rw [if_neg e2, if_neg (by omega)]
theorem lk_md_at {co : Nat → Int32} {a b i : Nat} : lk_md co a b i i = co i := if_neg (Nat.lt_irrefl _)
theorem lk_bit_co {co : Nat → Int32} {ld : Nat → Nat → Bool} {N a b : Nat} (hN : N ≤ 8) (ha : a < N) (hb : b < N) (h : ∀ x, x < N → ∀ y, y < 32 → bt (co x) y = ld x y) : ∀ x, x < N → ∀ y, y < 32 → bt (lk_co co a b x) y = ml_ld ld a b x y := by
  intro x hx y hy
  unfold lk_co ml_ld
  rw [h x hx a (by omega)]
  by_cases e : x = a ∨ ld x a = true
  · rw [if_pos e, b_or, b_or, bt_one' (by omega) hy, h x hx y hy, h b hb y hy]
    have e2 : (x == a || ld x a) = true := by
      rw [Bool.or_eq_true, beq_iff_eq]; exact e
    rw [e2, Bool.true_and, Bool.or_comm (ld b y) _]
    rfl
  · rw [if_neg e, h x hx y hy]
    have e2 : (x == a || ld x a) = false := by
      rw [Bool.eq_false_iff]; intro q
      rw [Bool.or_eq_true, beq_iff_eq] at q; exact e q
    rw [e2, Bool.false_and, Bool.or_false]
theorem lk_bit_lo {lo : Nat → Int32} {lk : Nat → Nat → Bool} {N a b : Nat} (hN : N ≤ 8) (ha : a < N) (h : ∀ x, x < N → ∀ y, y < 32 → bt (lo x) y = lk y x) (hb : b < N) : ∀ x, x < N → ∀ y, y < 32 → bt (lk_lo lo a b x) y = ml_lk lk a b y x := by
  intro x hx y hy
  unfold lk_lo ml_lk
  by_cases e : x = b
  · subst e
    rw [va_up_self, b_or, bt_one' (by omega) hy, h x hx y hy, beq_self_eq_true, Bool.and_true]
    rfl
  · rw [va_up_ne _ _ e, h x hx y hy, beq_eq_false_iff_ne.mpr e, Bool.and_false, Bool.or_false]
def q_lock (c : Nat → ClassId) (ad : Nat → Nat) (M : bj_M) (k N : Nat) (lo co U V : Nat → Int32) (pn a b : Nat) : bj_R → bj_M → Prop := bj_ret (fun r M' => r = none ∧ lo_ok c ad M' k N (lk_lo lo a b) (lk_co co a b) U V pn ∧ lo_fr k M M')
/-- what is locked over each -/
def lk_is (N : Nat) (lo : Nat → Int32) (lk : Nat → Nat → Bool) : Prop := ∀ x, x < N → ∀ y, y < 32 → bt (lo x) y = lk y x
def so_lk (e : Nat → Nat) (pn : Nat) : Nat → Nat → Bool := (ml_run (fun i => e i / 8) (fun i => e i % 8) pn).1
def so_ld (e : Nat → Nat) (pn : Nat) : Nat → Nat → Bool := (ml_run (fun i => e i / 8) (fun i => e i % 8) pn).2
def q_pairs (c : Nat → ClassId) (ad : Nat → Nat) (M : bj_M) (k N : Nat) (p : Nat → Nat → Nat) (ps : Nat → Nat) : bj_R → bj_M → Prop := bj_ret (fun r M' => r = none ∧ (∃ lo co U V e pn, pn ≤ N * N ∧ so_all p ps N e pn ∧ lo_ok c ad M' k N lo co U V pn ∧ lk_is N lo (so_lk e pn)) ∧ lo_fr k M M')
theorem so_skip {e : Nat → Nat} {i : Nat} (h : so_ld e i (e i % 8) (e i / 8) = true) : so_lk e (i + 1) = so_lk e i ∧ so_ld e (i + 1) = so_ld e i := by
  unfold so_lk so_ld at *
  rw [ml_run, if_pos h]
  exact ⟨rfl, rfl⟩
theorem so_take {e : Nat → Nat} {i : Nat} (h : so_ld e i (e i % 8) (e i / 8) = false) : so_lk e (i + 1) = ml_lk (so_lk e i) (e i / 8) (e i % 8) ∧ so_ld e (i + 1) = ml_ld (so_ld e i) (e i / 8) (e i % 8) := by
  unfold so_lk so_ld at *
  rw [ml_run, if_neg (by rw [h]; decide)]
  exact ⟨rfl, rfl⟩
theorem ff_bits : ∀ N, N < 9 → ∀ y, y < 32 → bt (((nI 1) <<< ((nI N) &&& 31)) - nI 1) y = decide (y < N) := by decide +kernel
theorem ff_out {x : Int32} {a y : Nat} (ha : a < 32) (hy : y < 32) : bt (x &&& (((nI 1) <<< ((nI a) &&& 31)) ^^^ (-1))) y = (bt x y && !(y == a)) := by
  rw [b_and, b_xor, b_m1 y hy, bt_one' ha hy, Bool.xor_true]
  rfl
def ff_q (lo : Nat → Int32) (dw : Nat → Nat) (x : Int32) (i : Nat) : Bool := bt x (dw i) && decide (lo (dw i) &&& x = 0)
theorem ff_same {lo : Nat → Int32} {lk : Nat → Nat → Bool} {dw : Nat → Nat} {N j : Nat} {x : Int32} (hN : N ≤ 8) (hd : ∀ i, i < N → dw i < N) (hl : lk_is N lo lk) (hx : ∀ y, y < 32 → bt x y = ln_left lk dw N j y) : ft (ff_q lo dw x) N = ft (ln_q lk dw N (ln_left lk dw N j)) N := ft_to (fun i hi => by
  have hdi := hd i hi
  unfold ff_q ln_q
  rw [hx _ (by omega)]
  congr 1
  refine decide_eq_decide.mpr ⟨fun h b hb hL => ?_, fun h => ?_⟩
  · have h1 : bt (lo (dw i) &&& x) b = false := by rw [h]; exact b_0 _
    rw [b_and, hl _ hdi b (by omega), hx b (by omega), hL, Bool.and_true] at h1
    exact h1
  · refine b_ext (fun y hy => ?_)
    rw [b_0, b_and, hl _ hdi y hy, hx y hy]
    cases e : ln_left lk dw N j y with
    | false => exact Bool.and_false _
    | true =>
      rw [h y (ln_left_in j y e) e]
      rfl)
variable (l : Launch) (D : va_G) (c : Nat → ClassId) (ad : Nat → Nat) (M : bj_M)
set_option maxRecDepth 100000 in
set_option maxHeartbeats 4000000 in
/-- lock -/
theorem t_Lo_lock {k N pn a b : Nat} {lo co U V : Nat → Int32} (h : lo_ok c ad M k N lo co U V pn) (hN : N ≤ 8) (ha : a < N) (hb : b < N) : bj_T (bw_G l D c) Y_Lo_lock 1 (0, 0, 0, 0) ad (q_lock c ad M k N lo co U V pn a b) [.ref (ad k), .int (nI a), .int (nI b)] M := by
  show bj_S _ _ _ _ _ _ 0 0 0 [some (.ref (ad k)), some (.int (nI a)), some (.int (nI b)), none, none] [] M
  refine bj_aload_n d_Lo_lock_0 rfl rfl ?_
  refine bj_get d_Lo_lock_1 in_Lo rfl (by decide : 1 < 6) wf_Lo_15 rfl h.1 rfl ?_
  refine bj_iload_n d_Lo_lock_4 rfl rfl ?_
  refine bj_dup2 d_Lo_lock_5 rfl rfl ?_
  refine bv_iald d_Lo_lock_6 0 rfl h.2.1 (by omega) (by omega) rfl ?_
  refine bj_iconst (v := (nI 1)) d_Lo_lock_7 (by decide) ?_
  refine bj_iload_n d_Lo_lock_8 rfl rfl ?_
  refine bj_ishl (v := ((nI 1) <<< ((nI a) &&& 31))) d_Lo_lock_9 rfl ?_
  refine bj_ior (v := ((lo b) ||| ((nI 1) <<< ((nI a) &&& 31)))) d_Lo_lock_10 rfl ?_
  refine bv_iast d_Lo_lock_11 0 rfl h.2.1 (by omega) (by omega) (fun N1 hN1 hO1 => ?_)
  have h3 := h.p1 hN1 hO1
  refine bj_aload_n d_Lo_lock_12 rfl rfl ?_
  refine bj_get d_Lo_lock_13 in_Lo rfl (by decide : 2 < 6) wf_Lo_19 rfl h3.1 rfl ?_
  refine bj_iload_n d_Lo_lock_16 rfl rfl ?_
  refine bv_iald d_Lo_lock_17 0 rfl h3.2.2.1 (by omega) (by omega) rfl ?_
  refine bj_iconst (v := (nI 1)) d_Lo_lock_18 (by decide) ?_
  refine bj_iload_n d_Lo_lock_19 rfl rfl ?_
  refine bj_ishl (v := ((nI 1) <<< ((nI b) &&& 31))) d_Lo_lock_20 rfl ?_
  refine bj_ior (v := ((co b) ||| ((nI 1) <<< ((nI b) &&& 31)))) d_Lo_lock_21 rfl ?_
  refine bj_istore_n (L' := [some (.ref (ad k)), some (.int (nI a)), some (.int (nI b)), some (.int ((co b) ||| ((nI 1) <<< ((nI b) &&& 31)))), none]) d_Lo_lock_22 rfl (by decide) rfl ?_
  refine bj_iconst (v := (nI 0)) d_Lo_lock_23 (by decide) ?_
  refine bj_istore (L' := [some (.ref (ad k)), some (.int (nI a)), some (.int (nI b)), some (.int ((co b) ||| ((nI 1) <<< ((nI b) &&& 31)))), some (.int (nI 0))]) d_Lo_lock_24 (by decide) rfl ?_
  have lp : ∀ (i : Nat), ∀ (M2 : bj_M), (i ≤ N) → (lo_ok c ad M2 k N (lk_lo lo a b) (lk_md co a b i) U V pn) → (lo_fr k M M2) → bj_S (bw_G l D c) Y_Lo_lock 1 (0, 0, 0, 0) ad (q_lock c ad M k N lo co U V pn a b) 0 0 26 [some (.ref (ad k)), some (.int (nI a)), some (.int (nI b)), some (.int (co b ||| ((nI 1) <<< ((nI b) &&& 31)))), some (.int (nI i))] [] M2 := by
    intro i M2
    induction hd_lp : N - i using Nat.strongRecOn generalizing i M2 with
    | ind d_lp ih_lp =>
      intro hi h4 hf
      refine bj_iload d_Lo_lock_26 rfl ?_
      refine bj_aload_n d_Lo_lock_28 rfl rfl ?_
      refine bj_get d_Lo_lock_29 in_Lo rfl (by decide : 0 < 6) wf_Lo_9 rfl h4.1 rfl ?_
      refine bj_icmp_geN (tgt := 72) d_Lo_lock_32 (by decide) (by omega) (by omega) (fun h32 => ?_) (fun h32 => ?_)
      · exact bj_vret d_Lo_lock_72 rfl (Nat.le_refl _) (Nat.le_refl _) ⟨rfl, ⟨h4.1, h4.2.1, h4.2.2.1.to (fun x hx => if_pos (by omega)), h4.2.2.2⟩, hf⟩
      · refine bj_iload d_Lo_lock_35 rfl ?_
        refine bj_iload_n d_Lo_lock_37 rfl rfl ?_
        refine bj_icmp_eqN (tgt := 55) d_Lo_lock_38 (by decide) (by omega) (by omega) (fun h38 => ?_) (fun h38 => ?_)
        · have hz : i = a ∨ bt (co i) a = true := Or.inl h38
          refine bj_aload_n d_Lo_lock_55 rfl rfl ?_
          refine bj_get d_Lo_lock_56 in_Lo rfl (by decide : 2 < 6) wf_Lo_19 rfl h4.1 rfl ?_
          refine bj_iload d_Lo_lock_59 rfl ?_
          refine bj_dup2 d_Lo_lock_61 rfl rfl ?_
          refine bv_iald d_Lo_lock_62 0 rfl h4.2.2.1 (by omega) (by omega) rfl ?_
          refine bj_iload_n d_Lo_lock_63 rfl rfl ?_
          refine bj_ior (v := (lk_co co a b i)) d_Lo_lock_64 (by rw [lk_md_at]; exact (if_pos hz).symm) ?_
          refine bv_iast d_Lo_lock_65 0 rfl h4.2.2.1 (by omega) (by omega) (fun N1 hN1 hO1 => ?_)
          refine bj_iinc (v := (nI (i + 1))) (L' := [some (.ref (ad k)), some (.int (nI a)), some (.int (nI b)), some (.int (co b ||| ((nI 1) <<< ((nI b) &&& 31)))), some (.int (nI (i + 1)))]) d_Lo_lock_66 rfl (bj_inc1 _) (by decide) rfl ?_
          refine bj_goto (tgt := 26) d_Lo_lock_69 (by decide) ?_
          exact ih_lp (N - (i + 1)) (by omega) (i + 1) N1 rfl (by omega) (h4.p2 (hN1.to (fun x _ => lk_md_s)) hO1) (hf.at (by omega) hO1)
        · refine bj_aload_n d_Lo_lock_41 rfl rfl ?_
          refine bj_get d_Lo_lock_42 in_Lo rfl (by decide : 2 < 6) wf_Lo_19 rfl h4.1 rfl ?_
          refine bj_iload d_Lo_lock_45 rfl ?_
          refine bv_iald d_Lo_lock_47 0 rfl h4.2.2.1 (by omega) (by omega) rfl ?_
          refine bj_iload_n d_Lo_lock_48 rfl rfl ?_
          refine bj_cnF sn_Lo_41 d_Lo_lock_49 (t_Of_has l D c ad _ (by omega)) rfl rfl (by decide) (by decide) (by decide) (Nat.le_of_ble_eq_true rfl) rfl ?_
          refine bj_if_eq (tgt := 66) d_Lo_lock_52 (by decide) (fun h52 => ?_) (fun h52 => ?_)
          · rw [lk_md_at] at h52
            have hz : ¬ (i = a ∨ bt (co i) a = true) := fun q => by
              rcases q with q | q
              · exact h38 q
              · rw [q] at h52; exact absurd h52 (by decide)
            refine bj_iinc (v := (nI (i + 1))) (L' := [some (.ref (ad k)), some (.int (nI a)), some (.int (nI b)), some (.int (co b ||| ((nI 1) <<< ((nI b) &&& 31)))), some (.int (nI (i + 1)))]) d_Lo_lock_66 rfl (bj_inc1 _) (by decide) rfl ?_
            refine bj_goto (tgt := 26) d_Lo_lock_69 (by decide) ?_
            exact ih_lp (N - (i + 1)) (by omega) (i + 1) M2 rfl (by omega) ⟨h4.1, h4.2.1, h4.2.2.1.to (fun x _ => lk_md_n (if_neg hz)), h4.2.2.2⟩ hf
          · rw [lk_md_at] at h52
            have hz : i = a ∨ bt (co i) a = true := Or.inr (bt_nn h52)
            refine bj_aload_n d_Lo_lock_55 rfl rfl ?_
            refine bj_get d_Lo_lock_56 in_Lo rfl (by decide : 2 < 6) wf_Lo_19 rfl h4.1 rfl ?_
            refine bj_iload d_Lo_lock_59 rfl ?_
            refine bj_dup2 d_Lo_lock_61 rfl rfl ?_
            refine bv_iald d_Lo_lock_62 0 rfl h4.2.2.1 (by omega) (by omega) rfl ?_
            refine bj_iload_n d_Lo_lock_63 rfl rfl ?_
            refine bj_ior (v := (lk_co co a b i)) d_Lo_lock_64 (by rw [lk_md_at]; exact (if_pos hz).symm) ?_
            refine bv_iast d_Lo_lock_65 0 rfl h4.2.2.1 (by omega) (by omega) (fun N1 hN1 hO1 => ?_)
            refine bj_iinc (v := (nI (i + 1))) (L' := [some (.ref (ad k)), some (.int (nI a)), some (.int (nI b)), some (.int (co b ||| ((nI 1) <<< ((nI b) &&& 31)))), some (.int (nI (i + 1)))]) d_Lo_lock_66 rfl (bj_inc1 _) (by decide) rfl ?_
            refine bj_goto (tgt := 26) d_Lo_lock_69 (by decide) ?_
            exact ih_lp (N - (i + 1)) (by omega) (i + 1) N1 rfl (by omega) (h4.p2 (hN1.to (fun x _ => lk_md_s)) hO1) (hf.at (by omega) hO1)
  exact lp 0 N1 (Nat.zero_le _) ⟨h3.1, h3.2.1, h3.2.2.1.to (fun x _ => (if_neg (Nat.not_lt_zero _)).symm), h3.2.2.2⟩ (lo_fr.rf.at (by omega) hO1)
set_option maxRecDepth 100000 in
set_option maxHeartbeats 4000000 in
/-- lockPairs -/
theorem t_Lo_lockPairs {k N k2 kd pn : Nat} {lo co U V : Nat → Int32} {vs : Int32} {P : Nat → Nat → Int32} {p : Nat → Nat → Nat} (h : lo_ok c ad M k N lo co U V pn) (hN : N ≤ 8) (h2 : co_ok c ad M k2 N vs P) (hP : ∀ a b, a < N → b < N → P a b = nI (p a b)) (hp : ∀ a b, a < N → b < N → p a b < 2 ^ 31) {dw ps : Nat → Nat} (hd : bv_I (c 0) M kd N (fun i => nI (dw i))) (hpm : pm_ok N dw ps) (hk : k2 + 10 ≤ k) (hkd : kd < k) : bj_T (bw_G l D c) Y_Lo_lockPairs 4 (0, 0, 0, 0) ad (q_pairs c ad M k N p ps) [.ref (ad k), .ref (ad k2), .ref (ad kd)] M := by
  show bj_S _ _ _ _ _ _ 0 0 0 [some (.ref (ad k)), some (.ref (ad k2)), some (.ref (ad kd)), none] [] M
  have hnn := nn_le hN
  refine bj_aload_n d_Lo_lockPairs_0 rfl rfl ?_
  refine bj_get d_Lo_lockPairs_1 in_Lo rfl (by decide : 1 < 6) wf_Lo_15 rfl h.1 rfl ?_
  refine bj_iconst (v := (nI 0)) d_Lo_lockPairs_4 (by decide) ?_
  refine bj_csR ss_Lo_31 d_Lo_lockPairs_5 (t_Ar_fill l D c ad M h.2.1 (by omega)) rfl rfl (by decide) (by decide) (by decide) (Nat.le_of_ble_eq_true rfl) rfl (fun v1 N1 hq1 => ?_)
  obtain ⟨rfl, hF1, hO1⟩ := hq1
  show bj_S (bw_G l D c) Y_Lo_lockPairs 4 (0, 0, 0, 0) ad (q_pairs c ad M k N p ps) 0 0 8 [some (.ref (ad k)), some (.ref (ad k2)), some (.ref (ad kd)), none] [] N1
  have h3 := h.p1 hF1 hO1
  refine bj_aload_n d_Lo_lockPairs_8 rfl rfl ?_
  refine bj_get d_Lo_lockPairs_9 in_Lo rfl (by decide : 2 < 6) wf_Lo_19 rfl h3.1 rfl ?_
  refine bj_iconst (v := (nI 0)) d_Lo_lockPairs_12 (by decide) ?_
  refine bj_csR ss_Lo_31 d_Lo_lockPairs_13 (t_Ar_fill l D c ad N1 h3.2.2.1 (by omega)) rfl rfl (by decide) (by decide) (by decide) (Nat.le_of_ble_eq_true rfl) rfl (fun v2 N2 hq2 => ?_)
  obtain ⟨rfl, hF2, hO2⟩ := hq2
  show bj_S (bw_G l D c) Y_Lo_lockPairs 4 (0, 0, 0, 0) ad (q_pairs c ad M k N p ps) 0 0 16 [some (.ref (ad k)), some (.ref (ad k2)), some (.ref (ad kd)), none] [] N2
  have h4 := h3.p2 hF2 hO2
  have hf4 : lo_fr k M N2 := (lo_fr.rf.at (by omega) hO1).at (by omega) hO2
  refine bj_aload_n d_Lo_lockPairs_16 rfl rfl ?_
  refine bj_aload_n d_Lo_lockPairs_17 rfl rfl ?_
  refine bj_aload_n d_Lo_lockPairs_18 rfl rfl ?_
  refine bj_cvR sv_Lo_37 d_Lo_lockPairs_19 (t_Lo_sortPairs l D c ad N2 h4 hN (h2.in (fun q q1 q2 => hf4 q (by omega))) hP hp (hd.in (hf4 kd (by omega))) hpm hk hkd) rfl rfl (by decide) (by decide) (by decide) (Nat.le_of_ble_eq_true rfl) rfl h4.1 rfl rfl (fun v3 N3 hq3 => ?_)
  obtain ⟨rfl, ⟨U5, V5, e, pn5, hpn5, hs5, h5, he5⟩, hf5⟩ := hq3
  show bj_S (bw_G l D c) Y_Lo_lockPairs 4 (0, 0, 0, 0) ad (q_pairs c ad M k N p ps) 0 0 22 [some (.ref (ad k)), some (.ref (ad k2)), some (.ref (ad kd)), none] [] N3
  refine bj_iconst (v := (nI 0)) d_Lo_lockPairs_22 (by decide) ?_
  refine bj_istore_n (L' := [some (.ref (ad k)), some (.ref (ad k2)), some (.ref (ad kd)), some (.int (nI 0))]) d_Lo_lockPairs_23 rfl (by decide) rfl ?_
  have lp : ∀ (i : Nat), ∀ (M6 : bj_M), ∀ (lo6 : Nat → Int32), ∀ (co6 : Nat → Int32), (i ≤ pn5) → (lo_ok c ad M6 k N lo6 co6 U5 V5 pn5) → (lk_is N lo6 (so_lk e i)) → (∀ x, x < N → ∀ y, y < 32 → bt (co6 x) y = so_ld e i x y) → (lo_fr k M M6) → bj_S (bw_G l D c) Y_Lo_lockPairs 4 (0, 0, 0, 0) ad (q_pairs c ad M k N p ps) 0 0 24 [some (.ref (ad k)), some (.ref (ad k2)), some (.ref (ad kd)), some (.int (nI i))] [] M6 := by
    intro i M6 lo6 co6
    induction hd_lp : pn5 - i using Nat.strongRecOn generalizing i M6 lo6 co6 with
    | ind d_lp ih_lp =>
      intro hi h6 hl hc hf
      refine bj_iload_n d_Lo_lockPairs_24 rfl rfl ?_
      refine bj_aload_n d_Lo_lockPairs_25 rfl rfl ?_
      refine bj_get d_Lo_lockPairs_26 in_Lo rfl (by decide : 5 < 6) wf_Lo_28 rfl h6.1 rfl ?_
      refine bj_icmp_geN (tgt := 77) d_Lo_lockPairs_29 (by decide) (by omega) (by omega) (fun h29 => ?_) (fun h29 => ?_)
      · exact bj_vret d_Lo_lockPairs_77 rfl (Nat.le_refl _) (Nat.le_refl _) ⟨rfl, ⟨lo6, co6, U5, V5, e, pn5, hpn5, hs5, h6, (show i = pn5 by omega) ▸ hl⟩, hf⟩
      · have hx := hs5.2.1 i h29
        refine bj_aload_n d_Lo_lockPairs_32 rfl rfl ?_
        refine bj_get d_Lo_lockPairs_33 in_Lo rfl (by decide : 2 < 6) wf_Lo_19 rfl h6.1 rfl ?_
        refine bj_aload_n d_Lo_lockPairs_36 rfl rfl ?_
        refine bj_get d_Lo_lockPairs_37 in_Lo rfl (by decide : 4 < 6) wf_Lo_25 rfl h6.1 rfl ?_
        refine bj_iload_n d_Lo_lockPairs_40 rfl rfl ?_
        refine bv_iald (v := (nI (e i % 8))) d_Lo_lockPairs_41 0 rfl h6.2.2.2.2 (by omega) (by omega) (he5 i h29).2 ?_
        refine bv_iald d_Lo_lockPairs_42 0 rfl h6.2.2.1 (by omega) (by omega) rfl ?_
        refine bj_aload_n d_Lo_lockPairs_43 rfl rfl ?_
        refine bj_get d_Lo_lockPairs_44 in_Lo rfl (by decide : 3 < 6) wf_Lo_22 rfl h6.1 rfl ?_
        refine bj_iload_n d_Lo_lockPairs_47 rfl rfl ?_
        refine bv_iald (v := (nI (e i / 8))) d_Lo_lockPairs_48 0 rfl h6.2.2.2.1 (by omega) (by omega) (he5 i h29).1 ?_
        refine bj_cnF sn_Lo_41 d_Lo_lockPairs_49 (t_Of_has l D c ad _ (by omega)) rfl rfl (by decide) (by decide) (by decide) (Nat.le_of_ble_eq_true rfl) rfl ?_
        refine bj_if_ne (tgt := 71) d_Lo_lockPairs_52 (by decide) (fun h52 => ?_) (fun h52 => ?_)
        · have hz := bt_nn h52
          rw [hc _ hx.2.1 _ (by omega)] at hz
          obtain ⟨hz1, hz2⟩ := so_skip hz
          refine bj_iinc (v := (nI (i + 1))) (L' := [some (.ref (ad k)), some (.ref (ad k2)), some (.ref (ad kd)), some (.int (nI (i + 1)))]) d_Lo_lockPairs_71 rfl (bj_inc1 _) (by decide) rfl ?_
          refine bj_goto (tgt := 24) d_Lo_lockPairs_74 (by decide) ?_
          exact ih_lp (pn5 - (i + 1)) (by omega) (i + 1) M6 lo6 co6 rfl (by omega) h6 (by rw [hz1]; exact hl) (by rw [hz2]; exact hc) hf
        · have hz := bt_n0.mp h52
          rw [hc _ hx.2.1 _ (by omega)] at hz
          obtain ⟨hz1, hz2⟩ := so_take hz
          refine bj_aload_n d_Lo_lockPairs_55 rfl rfl ?_
          refine bj_aload_n d_Lo_lockPairs_56 rfl rfl ?_
          refine bj_get d_Lo_lockPairs_57 in_Lo rfl (by decide : 3 < 6) wf_Lo_22 rfl h6.1 rfl ?_
          refine bj_iload_n d_Lo_lockPairs_60 rfl rfl ?_
          refine bv_iald (v := (nI (e i / 8))) d_Lo_lockPairs_61 0 rfl h6.2.2.2.1 (by omega) (by omega) (he5 i h29).1 ?_
          refine bj_aload_n d_Lo_lockPairs_62 rfl rfl ?_
          refine bj_get d_Lo_lockPairs_63 in_Lo rfl (by decide : 4 < 6) wf_Lo_25 rfl h6.1 rfl ?_
          refine bj_iload_n d_Lo_lockPairs_66 rfl rfl ?_
          refine bv_iald (v := (nI (e i % 8))) d_Lo_lockPairs_67 0 rfl h6.2.2.2.2 (by omega) (by omega) (he5 i h29).2 ?_
          refine bj_cvR sv_Lo_45 d_Lo_lockPairs_68 (t_Lo_lock l D c ad M6 h6 hN hx.1 hx.2.1) rfl rfl (by decide) (by decide) (by decide) (Nat.le_of_ble_eq_true rfl) rfl h6.1 rfl rfl (fun v1 N1 hq1 => ?_)
          obtain ⟨rfl, h7, hf7⟩ := hq1
          show bj_S (bw_G l D c) Y_Lo_lockPairs 4 (0, 0, 0, 0) ad (q_pairs c ad M k N p ps) 0 0 71 [some (.ref (ad k)), some (.ref (ad k2)), some (.ref (ad kd)), some (.int (nI i))] [] N1
          refine bj_iinc (v := (nI (i + 1))) (L' := [some (.ref (ad k)), some (.ref (ad k2)), some (.ref (ad kd)), some (.int (nI (i + 1)))]) d_Lo_lockPairs_71 rfl (bj_inc1 _) (by decide) rfl ?_
          refine bj_goto (tgt := 24) d_Lo_lockPairs_74 (by decide) ?_
          exact ih_lp (pn5 - (i + 1)) (by omega) (i + 1) N1 _ _ rfl (by omega) h7 (by rw [hz1]; exact lk_bit_lo hN hx.1 hl hx.2.1) (by rw [hz2]; exact lk_bit_co hN hx.1 hx.2.1 hc) (hf.tr hf7)
  exact lp 0 N3 _ _ (Nat.zero_le _) h5 (fun x _ y _ => b_0 y) (fun x _ y _ => b_0 y) (hf4.tr hf5)
theorem ff_y {lo : Nat → Int32} {dw : Nat → Nat} {x : Int32} {i : Nat} (h1 : bt x (dw i) = true) (h2 : lo (dw i) &&& x = 0) : ff_q lo dw x i = true := by
  unfold ff_q
  rw [h1, decide_eq_true h2]
  rfl
theorem ff_n1 {lo : Nat → Int32} {dw : Nat → Nat} {x : Int32} {i : Nat} (h1 : bt x (dw i) = false) : ff_q lo dw x i = false := by
  unfold ff_q
  rw [h1]
  rfl
theorem ff_n2 {lo : Nat → Int32} {dw : Nat → Nat} {x : Int32} {i : Nat} (h2 : ¬ (lo (dw i) &&& x) = 0) : ff_q lo dw x i = false := by
  unfold ff_q
  rw [decide_eq_false h2]
  exact Bool.and_false _
set_option maxRecDepth 100000 in
set_option maxHeartbeats 4000000 in
/-- firstFree -/
theorem t_Lo_firstFree {k N pn kd : Nat} {lo co U V : Nat → Int32} (h : lo_ok c ad M k N lo co U V pn) (hN : N ≤ 8) {dw : Nat → Nat} {x : Int32} (hd : bv_I (c 0) M kd N (fun i => nI (dw i))) (hdw : ∀ i, i < N → dw i < N) : bj_T (bw_G l D c) Y_Lo_firstFree 1 (0, 0, 0, 0) ad (bj_fn (oI ((ft (ff_q lo dw x) N).map dw)) M) [.ref (ad k), .ref (ad kd), .int x] M := by
  show bj_S _ _ _ _ _ _ 0 0 0 [some (.ref (ad k)), some (.ref (ad kd)), some (.int x), none] [] M
  refine bj_iconst (v := (nI 0)) d_Lo_firstFree_0 (by decide) ?_
  refine bj_istore_n (L' := [some (.ref (ad k)), some (.ref (ad kd)), some (.int x), some (.int (nI 0))]) d_Lo_firstFree_1 rfl (by decide) rfl ?_
  have lp : ∀ (i : Nat), (i ≤ N) → (∀ j, j < i → ff_q lo dw x j = false) → bj_S (bw_G l D c) Y_Lo_firstFree 1 (0, 0, 0, 0) ad (bj_fn (oI ((ft (ff_q lo dw x) N).map dw)) M) 0 0 2 [some (.ref (ad k)), some (.ref (ad kd)), some (.int x), some (.int (nI i))] [] M := by
    intro i
    induction hd_lp : N - i using Nat.strongRecOn generalizing i with
    | ind d_lp ih_lp =>
      intro hi hq
      refine bj_iload_n d_Lo_firstFree_2 rfl rfl ?_
      refine bj_aload_n d_Lo_firstFree_3 rfl rfl ?_
      refine bj_get d_Lo_firstFree_4 in_Lo rfl (by decide : 0 < 6) wf_Lo_9 rfl h.1 rfl ?_
      refine bj_icmp_geN (tgt := 43) d_Lo_firstFree_7 (by decide) (by omega) (by omega) (fun h7 => ?_) (fun h7 => ?_)
      · refine bj_iconst (v := (-1)) d_Lo_firstFree_43 (by decide) ?_
        exact bj_iret d_Lo_firstFree_44 rfl rfl (Nat.le_refl _) (Nat.le_refl _) ⟨by rw [ft_none.mpr (fun j hj => hq j (by omega))]; rfl, rfl⟩
      · have hdi := hdw i h7
        refine bj_iload_n d_Lo_firstFree_10 rfl rfl ?_
        refine bj_aload_n d_Lo_firstFree_11 rfl rfl ?_
        refine bj_iload_n d_Lo_firstFree_12 rfl rfl ?_
        refine bv_iald d_Lo_firstFree_13 0 rfl hd (by omega) (by omega) rfl ?_
        refine bj_cnF sn_Lo_41 d_Lo_firstFree_14 (t_Of_has l D c ad _ (by omega)) rfl rfl (by decide) (by decide) (by decide) (Nat.le_of_ble_eq_true rfl) rfl ?_
        refine bj_if_eq (tgt := 37) d_Lo_firstFree_17 (by decide) (fun h17 => ?_) (fun h17 => ?_)
        · have hz := ff_n1 (lo := lo) (bt_n0.mp h17)
          refine bj_iinc (v := (nI (i + 1))) (L' := [some (.ref (ad k)), some (.ref (ad kd)), some (.int x), some (.int (nI (i + 1)))]) d_Lo_firstFree_37 rfl (bj_inc1 _) (by decide) rfl ?_
          refine bj_goto (tgt := 2) d_Lo_firstFree_40 (by decide) ?_
          exact ih_lp (N - (i + 1)) (by omega) (i + 1) rfl (by omega) (fun j hj => by
            rcases Nat.lt_or_ge j i with q | q
            · exact hq j q
            · rw [show j = i by omega]; exact hz)
        · refine bj_aload_n d_Lo_firstFree_20 rfl rfl ?_
          refine bj_get d_Lo_firstFree_21 in_Lo rfl (by decide : 1 < 6) wf_Lo_15 rfl h.1 rfl ?_
          refine bj_aload_n d_Lo_firstFree_24 rfl rfl ?_
          refine bj_iload_n d_Lo_firstFree_25 rfl rfl ?_
          refine bv_iald d_Lo_firstFree_26 0 rfl hd (by omega) (by omega) rfl ?_
          refine bv_iald d_Lo_firstFree_27 0 rfl h.2.1 (by omega) (by omega) rfl ?_
          refine bj_iload_n d_Lo_firstFree_28 rfl rfl ?_
          refine bj_iand (v := ((lo (dw i)) &&& x)) d_Lo_firstFree_29 rfl ?_
          refine bj_if_ne (tgt := 37) d_Lo_firstFree_30 (by decide) (fun h30 => ?_) (fun h30 => ?_)
          · have hz := ff_n2 h30
            refine bj_iinc (v := (nI (i + 1))) (L' := [some (.ref (ad k)), some (.ref (ad kd)), some (.int x), some (.int (nI (i + 1)))]) d_Lo_firstFree_37 rfl (bj_inc1 _) (by decide) rfl ?_
            refine bj_goto (tgt := 2) d_Lo_firstFree_40 (by decide) ?_
            exact ih_lp (N - (i + 1)) (by omega) (i + 1) rfl (by omega) (fun j hj => by
              rcases Nat.lt_or_ge j i with q | q
              · exact hq j q
              · rw [show j = i by omega]; exact hz)
          · refine bj_aload_n d_Lo_firstFree_33 rfl rfl ?_
            refine bj_iload_n d_Lo_firstFree_34 rfl rfl ?_
            refine bv_iald d_Lo_firstFree_35 0 rfl hd (by omega) (by omega) rfl ?_
            exact bj_iret d_Lo_firstFree_36 rfl rfl (Nat.le_refl _) (Nat.le_refl _) ⟨by rw [ft_eq.mpr ⟨h7, ff_y (bt_nn h17) h30, hq⟩]; rfl, rfl⟩
  exact lp 0 (Nat.zero_le _) (fun j hj => absurd hj (Nat.not_lt_zero _))
set_option maxRecDepth 100000 in
set_option maxHeartbeats 4000000 in
/-- lineUp -/
theorem t_Lo_lineUp {k N pn kd i : Nat} {lo co U V : Nat → Int32} (h : lo_ok c ad M k N lo co U V pn) (hN : N ≤ 8) {dw : Nat → Nat} {lk : Nat → Nat → Bool} (hd : bv_I (c 0) M kd N (fun i => nI (dw i))) (hdw : ∀ i, i < N → dw i < N) (hl : lk_is N lo lk) (hi : i < N) (hfr : ∀ j, j < N → ∃ i, i < N ∧ ft (ln_q lk dw N (ln_left lk dw N j)) N = some i ∧ ln_at lk dw N j = dw i) : bj_T (bw_G l D c) Y_Lo_lineUp 2 (0, 0, 0, 0) ad (bj_fn (nI (ln_at lk dw N i)) M) [.ref (ad k), .ref (ad kd), .int (nI i)] M := by
  show bj_S _ _ _ _ _ _ 0 0 0 [some (.ref (ad k)), some (.ref (ad kd)), some (.int (nI i)), none, none, none] [] M
  refine bj_iconst (v := (nI 1)) d_Lo_lineUp_0 (by decide) ?_
  refine bj_aload_n d_Lo_lineUp_1 rfl rfl ?_
  refine bj_get d_Lo_lineUp_2 in_Lo rfl (by decide : 0 < 6) wf_Lo_9 rfl h.1 rfl ?_
  refine bj_ishl (v := ((nI 1) <<< ((nI N) &&& 31))) d_Lo_lineUp_5 rfl ?_
  refine bj_iconst (v := (nI 1)) d_Lo_lineUp_6 (by decide) ?_
  refine bj_isub (v := (((nI 1) <<< ((nI N) &&& 31)) - nI 1)) d_Lo_lineUp_7 rfl ?_
  refine bj_istore_n (L' := [some (.ref (ad k)), some (.ref (ad kd)), some (.int (nI i)), some (.int (((nI 1) <<< ((nI N) &&& 31)) - nI 1)), none, none]) d_Lo_lineUp_8 rfl (by decide) rfl ?_
  refine bj_iconst (v := (-1)) d_Lo_lineUp_9 (by decide) ?_
  refine bj_istore (L' := [some (.ref (ad k)), some (.ref (ad kd)), some (.int (nI i)), some (.int (((nI 1) <<< ((nI N) &&& 31)) - nI 1)), some (.int (-1)), none]) d_Lo_lineUp_10 (by decide) rfl ?_
  refine bj_iconst (v := (nI 0)) d_Lo_lineUp_12 (by decide) ?_
  refine bj_istore (L' := [some (.ref (ad k)), some (.ref (ad kd)), some (.int (nI i)), some (.int (((nI 1) <<< ((nI N) &&& 31)) - nI 1)), some (.int (-1)), some (.int (nI 0))]) d_Lo_lineUp_13 (by decide) rfl ?_
  have lp : ∀ (j : Nat), ∀ (x : Int32), ∀ (y : Int32), (j ≤ i + 1) → (∀ z, z < 32 → bt x z = ln_left lk dw N j z) → (0 < j → y = nI (ln_at lk dw N (j - 1))) → bj_S (bw_G l D c) Y_Lo_lineUp 2 (0, 0, 0, 0) ad (bj_fn (nI (ln_at lk dw N i)) M) 0 0 15 [some (.ref (ad k)), some (.ref (ad kd)), some (.int (nI i)), some (.int x), some (.int y), some (.int (nI j))] [] M := by
    intro j x y
    induction hd_lp : i + 1 - j using Nat.strongRecOn generalizing j x y with
    | ind d_lp ih_lp =>
      intro hj hx hy
      refine bj_iload d_Lo_lineUp_15 rfl ?_
      refine bj_iload_n d_Lo_lineUp_17 rfl rfl ?_
      refine bj_icmp_gtN (tgt := 44) d_Lo_lineUp_18 (by decide) (by omega) (by omega) (fun h18 => ?_) (fun h18 => ?_)
      · refine bj_iload d_Lo_lineUp_44 rfl ?_
        exact bj_iret d_Lo_lineUp_46 rfl rfl (Nat.le_refl _) (Nat.le_refl _) ⟨by rw [hy (by omega), show j - 1 = i by omega], rfl⟩
      · refine bj_aload_n d_Lo_lineUp_21 rfl rfl ?_
        refine bj_aload_n d_Lo_lineUp_22 rfl rfl ?_
        refine bj_iload_n d_Lo_lineUp_23 rfl rfl ?_
        obtain ⟨i9, hi9, hft, hat⟩ := hfr j (by omega)
        refine bj_cvF sv_Lo_67 d_Lo_lineUp_24 (t_Lo_firstFree l D c ad M h hN hd hdw) rfl rfl (by decide) (by decide) (by decide) (Nat.le_of_ble_eq_true rfl) rfl h.1 rfl rfl ?_
        rw [ff_same hN hdw hl hx, hft]
        show bj_S (bw_G l D c) Y_Lo_lineUp 2 (0, 0, 0, 0) ad (bj_fn (nI (ln_at lk dw N i)) M) 0 0 27 [some (.ref (ad k)), some (.ref (ad kd)), some (.int (nI i)), some (.int x), some (.int y), some (.int (nI j))] [.int (nI (dw i9))] M
        rw [← hat]
        have hlt : ln_at lk dw N j < N := by rw [hat]; exact hdw i9 hi9
        refine bj_istore (L' := [some (.ref (ad k)), some (.ref (ad kd)), some (.int (nI i)), some (.int x), some (.int (nI (ln_at lk dw N j))), some (.int (nI j))]) d_Lo_lineUp_27 (by decide) rfl ?_
        refine bj_iload_n d_Lo_lineUp_29 rfl rfl ?_
        refine bj_iconst (v := (nI 1)) d_Lo_lineUp_30 (by decide) ?_
        refine bj_iload d_Lo_lineUp_31 rfl ?_
        refine bj_ishl (v := ((nI 1) <<< ((nI (ln_at lk dw N j)) &&& 31))) d_Lo_lineUp_33 rfl ?_
        refine bj_iconst (v := (-1)) d_Lo_lineUp_34 (by decide) ?_
        refine bj_ixor (v := (((nI 1) <<< ((nI (ln_at lk dw N j)) &&& 31)) ^^^ (-1))) d_Lo_lineUp_35 rfl ?_
        refine bj_iand (v := (x &&& (((nI 1) <<< ((nI (ln_at lk dw N j)) &&& 31)) ^^^ (-1)))) d_Lo_lineUp_36 rfl ?_
        refine bj_istore_n (L' := [some (.ref (ad k)), some (.ref (ad kd)), some (.int (nI i)), some (.int (x &&& (((nI 1) <<< ((nI (ln_at lk dw N j)) &&& 31)) ^^^ (-1)))), some (.int (nI (ln_at lk dw N j))), some (.int (nI j))]) d_Lo_lineUp_37 rfl (by decide) rfl ?_
        refine bj_iinc (v := (nI (j + 1))) (L' := [some (.ref (ad k)), some (.ref (ad kd)), some (.int (nI i)), some (.int (x &&& (((nI 1) <<< ((nI (ln_at lk dw N j)) &&& 31)) ^^^ (-1)))), some (.int (nI (ln_at lk dw N j))), some (.int (nI (j + 1)))]) d_Lo_lineUp_38 rfl (bj_inc1 _) (by decide) rfl ?_
        refine bj_goto (tgt := 15) d_Lo_lineUp_41 (by decide) ?_
        exact ih_lp (i + 1 - (j + 1)) (by omega) (j + 1) _ _ rfl (by omega) (fun z hz => by rw [ff_out (by omega) hz, hx z hz]; rfl) (fun _ => rfl)
  exact lp 0 _ _ (Nat.zero_le _) (fun z hz => ff_bits N (by omega) z hz) (fun q => absurd q (Nat.lt_irrefl _))
end L2
end
section
/-! the exceptions that the office throws -/
section EX
def xA : String := "java/lang/IllegalArgumentException"
def xS : String := "java/lang/IllegalStateException"
def xI : String := "java/lang/IndexOutOfBoundsException"
abbrev xN : List String := ["java/lang/RuntimeException", "java/lang/Exception"]
theorem wo_Of_68 : ∀ w ∈ Bundle.ownAtoms "BeatPathOffice" 68 "java/lang/IllegalArgumentException" xN, w ∈ bw_TB := by decide +kernel
theorem wo_Of_78 : ∀ w ∈ Bundle.ownAtoms "BeatPathOffice" 78 "java/lang/IllegalStateException" xN, w ∈ bw_TB := by decide +kernel
theorem wo_Of_85 : ∀ w ∈ Bundle.ownAtoms "BeatPathOffice" 85 "java/lang/IndexOutOfBoundsException" xN, w ∈ bw_TB := by decide +kernel
end EX
end
section
/-! BeatPathOffice: what is needed, small helpers; Batch.put (walks by gen/m_of1.py) -/
section O1

abbrev of_F (ad : Nat → Nat) (N op : Nat) (se : Bool) : List Value := [.int (nI N), .ref (ad 1), .ref (ad 2), .int (nI op), .int (bt_n se), .ref (ad 39), .ref (ad 49), .ref (ad 59), .ref (ad 70)]
/-- a post: returned where φ, thrown (an exception of class E) where not; nothing written -/
def q_need (E : String) (φ : Prop) (M : bj_M) : bj_R → bj_M → Prop := fun r M' => match r with
  | .inl v => v = none ∧ M = M' ∧ φ
  | .inr X => X = E ∧ M = M' ∧ ¬ φ
def q_found (x : Int32) (M : bj_M) : bj_R → bj_M → Prop := fun r M' => match r with
  | .inl v => v = some (.int x) ∧ M = M' ∧ x ≠ -1
  | .inr X => X = xI ∧ M = M' ∧ x = -1
/-- below N -/
def ic (N : Nat) (x : Int32) : Bool := decide (¬ x < 0 ∧ ¬ nI N ≤ x)
theorem ic_t {N : Nat} {x : Int32} (hN : N < 2 ^ 31) (h : ic N x = true) : ∃ a, a < N ∧ x = nI a := by
  have h1 := of_decide_eq_true h
  rcases pk_ix x hN with h2 | h2 | h2
  · exact absurd h2 h1.1
  · exact absurd h2 h1.2
  · exact h2
theorem ic_n {N a : Nat} (hN : N < 2 ^ 31) (ha : a < N) : ic N (nI a) = true := decide_eq_true ⟨nI_pos (by omega), fun h => by
  have := (nI_leI hN (by omega)).mp h
  omega⟩
/-- a ranking's word -/
def rkg (N : Nat) (w : Int32) : Prop := ∀ c, c < 8 → nb w c ≤ (if c < N then 8 else 0)
/-- the i-th of a set -/
def mem_q (x i : Int32) (c : Nat) : Bool := bt x c && decide (nI (mn_cnt (fun j => bt x j) c) = i)
def q_put (c : Nat → ClassId) (ad : Nat → Nat) (M : bj_M) (k kr kt : Nat) (sg : Int32) (sz : Nat) (rk tm : Nat → Int32) (w v : Int32) : bj_R → bj_M → Prop := bj_ret (fun r M' => r = some (.int (nI sz)) ∧ ba_ok c ad M' k kr kt sg (sz + 1) (va_up rk sz w) (va_up tm sz v) ∧ ∀ q, q ≠ k → q ≠ kr → q ≠ kt → M' q = M q)
theorem mem_y {x i : Int32} {c : Nat} (h1 : bt x c = true) (h2 : nI (mn_cnt (fun j => bt x j) c) = i) : mem_q x i c = true := by
  unfold mem_q
  rw [h1, decide_eq_true h2]
  rfl
theorem mem_n1 {x i : Int32} {c : Nat} (h1 : bt x c = false) : mem_q x i c = false := by
  unfold mem_q
  rw [h1]
  rfl
theorem mem_n2 {x i : Int32} {c : Nat} (h2 : ¬ nI (mn_cnt (fun j => bt x j) c) = i) : mem_q x i c = false := by
  unfold mem_q
  rw [decide_eq_false h2]
  exact Bool.and_false _
theorem mn_cnt_t {q : Nat → Bool} {n : Nat} (h : q n = true) : mn_cnt q n + 1 = mn_cnt q (n + 1) := by rw [mn_cnt, if_pos h]
theorem mn_cnt_f {q : Nat → Bool} {n : Nat} (h : q n = false) : mn_cnt q n = mn_cnt q (n + 1) := by rw [mn_cnt, if_neg (by rw [h]; decide)]; rfl
variable (l : Launch) (D : va_G) (c : Nat → ClassId) (ad : Nat → Nat) (M : bj_M)
set_option maxRecDepth 100000 in
set_option maxHeartbeats 4000000 in
/-- isCandidate -/
theorem t_Of_isCandidate {N op : Nat} {se : Bool} (hO : M 0 = some (.inr (4, of_F ad N op se))) (hN : N ≤ 8) {x : Int32} : bj_T (bw_G l D c) Y_Of_isCandidate 0 (0, 0, 0, 0) ad (bj_fn (bt_n (ic N x)) M) [.ref (ad 0), .int x] M := by
  show bj_S _ _ _ _ _ _ 0 0 0 [some (.ref (ad 0)), some (.int x)] [] M
  refine bj_iload_n d_Of_isCandidate_0 rfl rfl ?_
  refine bj_if_lt (tgt := 16) d_Of_isCandidate_1 (by decide) (fun h1 => ?_) (fun h1 => ?_)
  · refine bj_iconst (v := (nI 0)) d_Of_isCandidate_16 (by decide) ?_
    exact bj_iret d_Of_isCandidate_17 rfl rfl (Nat.le_refl _) (Nat.le_refl _) ⟨bt_f (decide_eq_false (fun q => by first | exact q.1 h1 | exact q.2 h9)), rfl⟩
  · refine bj_iload_n d_Of_isCandidate_4 rfl rfl ?_
    refine bj_aload_n d_Of_isCandidate_5 rfl rfl ?_
    refine bj_get d_Of_isCandidate_6 in_Of rfl (by decide : 0 < 9) wf_Of_9 rfl hO rfl ?_
    refine bj_icmp_ge (tgt := 16) d_Of_isCandidate_9 (by decide) (fun h9 => ?_) (fun h9 => ?_)
    · refine bj_iconst (v := (nI 0)) d_Of_isCandidate_16 (by decide) ?_
      exact bj_iret d_Of_isCandidate_17 rfl rfl (Nat.le_refl _) (Nat.le_refl _) ⟨bt_f (decide_eq_false (fun q => by first | exact q.1 h1 | exact q.2 h9)), rfl⟩
    · refine bj_iconst (v := (nI 1)) d_Of_isCandidate_12 (by decide) ?_
      refine bj_goto (tgt := 17) d_Of_isCandidate_13 (by decide) ?_
      exact bj_iret d_Of_isCandidate_17 rfl rfl (Nat.le_refl _) (Nat.le_refl _) ⟨bt_t (decide_eq_true ⟨h1, h9⟩), rfl⟩
set_option maxRecDepth 100000 in
set_option maxHeartbeats 4000000 in
/-- needCandidate -/
theorem t_Of_needCandidate (htr : l.stackTraces = false) {N op : Nat} {se : Bool} (hO : M 0 = some (.inr (4, of_F ad N op se))) (hN : N ≤ 8) {x : Int32} : bj_T (bw_G l D c) Y_Of_needCandidate 6 (0, 0, 1, 6) ad (q_need xA (ic N x = true) M) [.ref (ad 0), .int x] M := by
  show bj_S _ _ _ _ _ _ 0 0 0 [some (.ref (ad 0)), some (.int x)] [] M
  refine bj_aload_n d_Of_needCandidate_0 rfl rfl ?_
  refine bj_iload_n d_Of_needCandidate_1 rfl rfl ?_
  refine bj_cvF sv_Of_60 d_Of_needCandidate_2 (t_Of_isCandidate l D c ad M hO hN) rfl rfl (by decide) (by decide) (by decide) (Nat.le_of_ble_eq_true rfl) rfl hO rfl rfl ?_
  refine bj_if_ne (tgt := 18) d_Of_needCandidate_5 (by decide) (fun h5 => ?_) (fun h5 => ?_)
  · exact bj_vret d_Of_needCandidate_18 rfl (Nat.le_refl _) (Nat.le_refl _) ⟨rfl, rfl, bt_nn h5⟩
  · exact bj_throw (names := xN) d_Of_needCandidate_8 d_Of_needCandidate_11 d_Of_needCandidate_12 d_Of_needCandidate_14 d_Of_needCandidate_17 htr (by decide) (by decide) (by decide) (by decide) wc_Of_64 wi_IllegalArgumentException wt_Of_200 wo_Of_68 (fun x hx => nomatch hx) (by decide) (by decide) (Nat.le_of_ble_eq_true rfl) ⟨rfl, rfl, fun q => by rw [bt_n0.mp h5] at q; cases q⟩
set_option maxRecDepth 100000 in
set_option maxHeartbeats 4000000 in
/-- needPair -/
theorem t_Of_needPair (htr : l.stackTraces = false) {N op : Nat} {se : Bool} (hO : M 0 = some (.inr (4, of_F ad N op se))) (hN : N ≤ 8) {x y : Int32} : bj_T (bw_G l D c) Y_Of_needPair 7 (0, 0, 1, 6) ad (q_need xA (ic N x = true ∧ ic N y = true ∧ x ≠ y) M) [.ref (ad 0), .int x, .int y] M := by
  show bj_S _ _ _ _ _ _ 0 0 0 [some (.ref (ad 0)), some (.int x), some (.int y)] [] M
  refine bj_aload_n d_Of_needPair_0 rfl rfl ?_
  refine bj_iload_n d_Of_needPair_1 rfl rfl ?_
  refine bj_cv sv_Of_57 d_Of_needPair_2 (t_Of_needCandidate l D c ad M htr hO hN) rfl rfl (by decide) (by decide) (by decide) (Nat.le_of_ble_eq_true rfl) rfl hO rfl rfl (fun v1 N1 hq1 => ?_) (fun v1 N1 hq1 => ?_)
  rotate_left
  · obtain ⟨rfl, rfl, h1⟩ := hq1
    exact bj_out (fun x hx => nomatch hx) (by decide) (by decide) ⟨rfl, rfl, fun q => h1 q.1⟩
  obtain ⟨rfl, rfl, h1⟩ := hq1
  show bj_S (bw_G l D c) Y_Of_needPair 7 (0, 0, 1, 6) ad (q_need xA (ic N x = true ∧ ic N y = true ∧ x ≠ y) M) 0 0 5 [some (.ref (ad 0)), some (.int x), some (.int y)] [] M
  refine bj_aload_n d_Of_needPair_5 rfl rfl ?_
  refine bj_iload_n d_Of_needPair_6 rfl rfl ?_
  refine bj_cv sv_Of_57 d_Of_needPair_7 (t_Of_needCandidate l D c ad M htr hO hN) rfl rfl (by decide) (by decide) (by decide) (Nat.le_of_ble_eq_true rfl) rfl hO rfl rfl (fun v2 N2 hq2 => ?_) (fun v2 N2 hq2 => ?_)
  rotate_left
  · obtain ⟨rfl, rfl, h2⟩ := hq2
    exact bj_out (fun x hx => nomatch hx) (by decide) (by decide) ⟨rfl, rfl, fun q => h2 q.2.1⟩
  obtain ⟨rfl, rfl, h2⟩ := hq2
  show bj_S (bw_G l D c) Y_Of_needPair 7 (0, 0, 1, 6) ad (q_need xA (ic N x = true ∧ ic N y = true ∧ x ≠ y) M) 0 0 10 [some (.ref (ad 0)), some (.int x), some (.int y)] [] M
  refine bj_iload_n d_Of_needPair_10 rfl rfl ?_
  refine bj_iload_n d_Of_needPair_11 rfl rfl ?_
  refine bj_icmp_ne (tgt := 25) d_Of_needPair_12 (by decide) (fun h12 => ?_) (fun h12 => ?_)
  · exact bj_vret d_Of_needPair_25 rfl (Nat.le_refl _) (Nat.le_refl _) ⟨rfl, rfl, h1, h2, h12⟩
  · exact bj_throw (names := xN) d_Of_needPair_15 d_Of_needPair_18 d_Of_needPair_19 d_Of_needPair_21 d_Of_needPair_24 htr (by decide) (by decide) (by decide) (by decide) wc_Of_64 wi_IllegalArgumentException wt_Of_202 wo_Of_68 (fun x hx => nomatch hx) (by decide) (by decide) (Nat.le_of_ble_eq_true rfl) ⟨rfl, rfl, fun q => q.2.2 h12⟩
set_option maxRecDepth 100000 in
set_option maxHeartbeats 4000000 in
/-- needBatch -/
theorem t_Of_needBatch (htr : l.stackTraces = false) {N op : Nat} {se : Bool} (hO : M 0 = some (.inr (4, of_F ad N op se))) (hN : N ≤ 8) {x : Int32} : bj_T (bw_G l D c) Y_Of_needBatch 6 (0, 0, 1, 6) ad (q_need xA (ic op x = true) M) [.ref (ad 0), .int x] M := by
  show bj_S _ _ _ _ _ _ 0 0 0 [some (.ref (ad 0)), some (.int x)] [] M
  refine bj_iload_n d_Of_needBatch_0 rfl rfl ?_
  refine bj_if_lt (tgt := 12) d_Of_needBatch_1 (by decide) (fun h1 => ?_) (fun h1 => ?_)
  · exact bj_throw (names := xN) d_Of_needBatch_12 d_Of_needBatch_15 d_Of_needBatch_16 d_Of_needBatch_18 d_Of_needBatch_21 htr (by decide) (by decide) (by decide) (by decide) wc_Of_64 wi_IllegalArgumentException wt_Of_204 wo_Of_68 (fun x hx => nomatch hx) (by decide) (by decide) (Nat.le_of_ble_eq_true rfl) ⟨rfl, rfl, fun q => by have q := of_decide_eq_true q; first | exact q.1 h1 | exact q.2 (Int32.not_lt.mp h9)⟩
  · refine bj_iload_n d_Of_needBatch_4 rfl rfl ?_
    refine bj_aload_n d_Of_needBatch_5 rfl rfl ?_
    refine bj_get d_Of_needBatch_6 in_Of rfl (by decide : 3 < 9) wf_Of_24 rfl hO rfl ?_
    refine bj_icmp_lt (tgt := 22) d_Of_needBatch_9 (by decide) (fun h9 => ?_) (fun h9 => ?_)
    · exact bj_vret d_Of_needBatch_22 rfl (Nat.le_refl _) (Nat.le_refl _) ⟨rfl, rfl, decide_eq_true ⟨h1, Int32.not_le.mpr h9⟩⟩
    · exact bj_throw (names := xN) d_Of_needBatch_12 d_Of_needBatch_15 d_Of_needBatch_16 d_Of_needBatch_18 d_Of_needBatch_21 htr (by decide) (by decide) (by decide) (by decide) wc_Of_64 wi_IllegalArgumentException wt_Of_204 wo_Of_68 (fun x hx => nomatch hx) (by decide) (by decide) (Nat.le_of_ble_eq_true rfl) ⟨rfl, rfl, fun q => by have q := of_decide_eq_true q; first | exact q.1 h1 | exact q.2 (Int32.not_lt.mp h9)⟩
set_option maxRecDepth 100000 in
set_option maxHeartbeats 4000000 in
/-- isRanking -/
theorem t_Of_isRanking {N op : Nat} {se : Bool} (hO : M 0 = some (.inr (4, of_F ad N op se))) (hN : N ≤ 8) {w : Int32} : bj_T (bw_G l D c) Y_Of_isRanking 1 (0, 0, 0, 0) ad (q_b M (rkg N w)) [.ref (ad 0), .int w] M := by
  show bj_S _ _ _ _ _ _ 0 0 0 [some (.ref (ad 0)), some (.int w), none] [] M
  refine bj_iconst (v := (nI 0)) d_Of_isRanking_0 (by decide) ?_
  refine bj_istore_n (L' := [some (.ref (ad 0)), some (.int w), some (.int (nI 0))]) d_Of_isRanking_1 rfl (by decide) rfl ?_
  have lp : ∀ (i : Nat), (i ≤ 8) → (∀ j, j < i → nb w j ≤ (if j < N then 8 else 0)) → bj_S (bw_G l D c) Y_Of_isRanking 1 (0, 0, 0, 0) ad (q_b M (rkg N w)) 0 0 2 [some (.ref (ad 0)), some (.int w), some (.int (nI i))] [] M := by
    intro i
    induction hd_lp : 8 - i using Nat.strongRecOn generalizing i with
    | ind d_lp ih_lp =>
      intro hi hq
      refine bj_iload_n d_Of_isRanking_2 rfl rfl ?_
      refine bj_bipush (v := (nI 8)) d_Of_isRanking_3 (by decide) ?_
      refine bj_icmp_geN (tgt := 38) d_Of_isRanking_5 (by decide) (by first | omega | exact Nat.lt_trans (nb_lt w i) (by decide)) (by first | omega | exact Nat.lt_trans (nb_lt w i) (by decide)) (fun h5 => ?_) (fun h5 => ?_)
      · refine bj_iconst (v := (nI 1)) d_Of_isRanking_38 (by decide) ?_
        exact bj_iret d_Of_isRanking_39 rfl rfl (Nat.le_refl _) (Nat.le_refl _) (qb_t (fun j hj => hq j (by omega)))
      · refine bj_iload_n d_Of_isRanking_8 rfl rfl ?_
        refine bj_iload_n d_Of_isRanking_9 rfl rfl ?_
        refine bj_csF ss_Of_215 d_Of_isRanking_10 (t_Of_nibble l D c ad M (by omega)) rfl rfl (by decide) (by decide) (by decide) (Nat.le_of_ble_eq_true rfl) rfl ?_
        refine bj_iload_n d_Of_isRanking_13 rfl rfl ?_
        refine bj_aload_n d_Of_isRanking_14 rfl rfl ?_
        refine bj_get d_Of_isRanking_15 in_Of rfl (by decide : 0 < 9) wf_Of_9 rfl hO rfl ?_
        refine bj_icmp_geN (tgt := 26) d_Of_isRanking_18 (by decide) (by first | omega | exact Nat.lt_trans (nb_lt w i) (by decide)) (by first | omega | exact Nat.lt_trans (nb_lt w i) (by decide)) (fun h18 => ?_) (fun h18 => ?_)
        · have he : (if i < N then 8 else 0) = 0 := if_neg (by omega)
          refine bj_iconst (v := (nI 0)) d_Of_isRanking_26 (by decide) ?_
          refine bj_icmp_leN (tgt := 32) d_Of_isRanking_27 (by decide) (by first | omega | exact Nat.lt_trans (nb_lt w i) (by decide)) (by first | omega | exact Nat.lt_trans (nb_lt w i) (by decide)) (fun h27 => ?_) (fun h27 => ?_)
          · have hz : nb w i ≤ (if i < N then 8 else 0) := by rw [he]; exact h27
            refine bj_iinc (v := (nI (i + 1))) (L' := [some (.ref (ad 0)), some (.int w), some (.int (nI (i + 1)))]) d_Of_isRanking_32 rfl (bj_inc1 _) (by decide) rfl ?_
            refine bj_goto (tgt := 2) d_Of_isRanking_35 (by decide) ?_
            exact ih_lp (8 - (i + 1)) (by omega) (i + 1) rfl (by omega) (fun j hj => by
              rcases Nat.lt_or_ge j i with q | q
              · exact hq j q
              · rw [show j = i by omega]; exact hz)
          · have hz : ¬ nb w i ≤ (if i < N then 8 else 0) := by rw [he]; omega
            refine bj_iconst (v := (nI 0)) d_Of_isRanking_30 (by decide) ?_
            exact bj_iret d_Of_isRanking_31 rfl rfl (Nat.le_refl _) (Nat.le_refl _) (qb_f (fun q => hz (q i h5)))
        · have he : (if i < N then 8 else 0) = 8 := if_pos h18
          refine bj_bipush (v := (nI 8)) d_Of_isRanking_21 (by decide) ?_
          refine bj_goto (tgt := 27) d_Of_isRanking_23 (by decide) ?_
          refine bj_icmp_leN (tgt := 32) d_Of_isRanking_27 (by decide) (by first | omega | exact Nat.lt_trans (nb_lt w i) (by decide)) (by first | omega | exact Nat.lt_trans (nb_lt w i) (by decide)) (fun h27 => ?_) (fun h27 => ?_)
          · have hz : nb w i ≤ (if i < N then 8 else 0) := by rw [he]; exact h27
            refine bj_iinc (v := (nI (i + 1))) (L' := [some (.ref (ad 0)), some (.int w), some (.int (nI (i + 1)))]) d_Of_isRanking_32 rfl (bj_inc1 _) (by decide) rfl ?_
            refine bj_goto (tgt := 2) d_Of_isRanking_35 (by decide) ?_
            exact ih_lp (8 - (i + 1)) (by omega) (i + 1) rfl (by omega) (fun j hj => by
              rcases Nat.lt_or_ge j i with q | q
              · exact hq j q
              · rw [show j = i by omega]; exact hz)
          · have hz : ¬ nb w i ≤ (if i < N then 8 else 0) := by rw [he]; omega
            refine bj_iconst (v := (nI 0)) d_Of_isRanking_30 (by decide) ?_
            exact bj_iret d_Of_isRanking_31 rfl rfl (Nat.le_refl _) (Nat.le_refl _) (qb_f (fun q => hz (q i h5)))
  exact lp 0 (Nat.zero_le _) (fun j hj => absurd hj (Nat.not_lt_zero _))
set_option maxRecDepth 100000 in
set_option maxHeartbeats 4000000 in
/-- needRanking -/
theorem t_Of_needRanking (htr : l.stackTraces = false) {N op : Nat} {se : Bool} (hO : M 0 = some (.inr (4, of_F ad N op se))) (hN : N ≤ 8) {w : Int32} : bj_T (bw_G l D c) Y_Of_needRanking 6 (0, 0, 1, 6) ad (q_need xA (rkg N w) M) [.ref (ad 0), .int w] M := by
  show bj_S _ _ _ _ _ _ 0 0 0 [some (.ref (ad 0)), some (.int w)] [] M
  refine bj_aload_n d_Of_needRanking_0 rfl rfl ?_
  refine bj_iload_n d_Of_needRanking_1 rfl rfl ?_
  refine bj_cvR sv_Of_206 d_Of_needRanking_2 (t_Of_isRanking l D c ad M hO hN) rfl rfl (by decide) (by decide) (by decide) (Nat.le_of_ble_eq_true rfl) rfl hO rfl rfl (fun v1 N1 hq1 => ?_)
  obtain ⟨r9, rfl, hr9, hM9⟩ := hq1
  show bj_S (bw_G l D c) Y_Of_needRanking 6 (0, 0, 1, 6) ad (q_need xA (rkg N w) M) 0 0 5 [some (.ref (ad 0)), some (.int w)] [.int (bt_n r9)] N1
  subst hM9
  refine bj_if_ne (tgt := 18) d_Of_needRanking_5 (by decide) (fun h5 => ?_) (fun h5 => ?_)
  · exact bj_vret d_Of_needRanking_18 rfl (Nat.le_refl _) (Nat.le_refl _) ⟨rfl, rfl, hr9.mp (bt_nn h5)⟩
  · exact bj_throw (names := xN) d_Of_needRanking_8 d_Of_needRanking_11 d_Of_needRanking_12 d_Of_needRanking_14 d_Of_needRanking_17 htr (by decide) (by decide) (by decide) (by decide) wc_Of_64 wi_IllegalArgumentException wt_Of_209 wo_Of_68 (fun x hx => nomatch hx) (by decide) (by decide) (Nat.le_of_ble_eq_true rfl) ⟨rfl, rfl, fun q => by rw [hr9.mpr q] at h5; exact absurd h5 (by decide)⟩
set_option maxRecDepth 100000 in
set_option maxHeartbeats 4000000 in
/-- needUnsealed -/
theorem t_Of_needUnsealed (htr : l.stackTraces = false) {N op : Nat} {se : Bool} (hO : M 0 = some (.inr (4, of_F ad N op se))) (hN : N ≤ 8)  : bj_T (bw_G l D c) Y_Of_needUnsealed 6 (0, 0, 1, 6) ad (q_need xS (se = false) M) [.ref (ad 0)] M := by
  show bj_S _ _ _ _ _ _ 0 0 0 [some (.ref (ad 0))] [] M
  refine bj_aload_n d_Of_needUnsealed_0 rfl rfl ?_
  refine bj_get d_Of_needUnsealed_1 in_Of rfl (by decide : 4 < 9) wf_Of_27 rfl hO rfl ?_
  refine bj_if_eq (tgt := 17) d_Of_needUnsealed_4 (by decide) (fun h4 => ?_) (fun h4 => ?_)
  · exact bj_vret d_Of_needUnsealed_17 rfl (Nat.le_refl _) (Nat.le_refl _) ⟨rfl, rfl, bt_n0.mp h4⟩
  · exact bj_throw (names := xN) d_Of_needUnsealed_7 d_Of_needUnsealed_10 d_Of_needUnsealed_11 d_Of_needUnsealed_13 d_Of_needUnsealed_16 htr (by decide) (by decide) (by decide) (by decide) wc_Of_74 wi_IllegalStateException wt_Of_211 wo_Of_78 (fun x hx => nomatch hx) (by decide) (by decide) (Nat.le_of_ble_eq_true rfl) ⟨rfl, rfl, fun q => by rw [q] at h4; exact h4 rfl⟩
set_option maxRecDepth 100000 in
set_option maxHeartbeats 4000000 in
/-- needFound -/
theorem t_Of_needFound (htr : l.stackTraces = false) {x : Int32} : bj_T (bw_G l D c) Y_Of_needFound 6 (0, 0, 1, 6) ad (q_found x M) [.int x] M := by
  show bj_S _ _ _ _ _ _ 0 0 0 [some (.int x)] [] M
  refine bj_iload_n d_Of_needFound_0 rfl rfl ?_
  refine bj_iconst (v := (-1)) d_Of_needFound_1 (by decide) ?_
  refine bj_icmp_ne (tgt := 15) d_Of_needFound_2 (by decide) (fun h2 => ?_) (fun h2 => ?_)
  · refine bj_iload_n d_Of_needFound_15 rfl rfl ?_
    exact bj_iret d_Of_needFound_16 rfl rfl (Nat.le_refl _) (Nat.le_refl _) ⟨rfl, rfl, h2⟩
  · exact bj_throw (names := xN) d_Of_needFound_5 d_Of_needFound_8 d_Of_needFound_9 d_Of_needFound_11 d_Of_needFound_14 htr (by decide) (by decide) (by decide) (by decide) wc_Of_83 wi_IndexOutOfBoundsException wt_Of_213 wo_Of_85 (fun x hx => nomatch hx) (by decide) (by decide) (Nat.le_of_ble_eq_true rfl) ⟨rfl, rfl, h2⟩
set_option maxRecDepth 100000 in
set_option maxHeartbeats 4000000 in
/-- stageBefore -/
theorem t_Of_stageBefore {x : Int32} : bj_T (bw_G l D c) Y_Of_stageBefore 0 (0, 0, 0, 0) ad (bj_fn (if x = 0 then nI 0 else if x = nI 1 then nI 1 else nI 2) M) [.int x] M := by
  show bj_S _ _ _ _ _ _ 0 0 0 [some (.int x)] [] M
  refine bj_iload_n d_Of_stageBefore_0 rfl rfl ?_
  refine bj_if_ne (tgt := 6) d_Of_stageBefore_1 (by decide) (fun h1 => ?_) (fun h1 => ?_)
  · refine bj_iload_n d_Of_stageBefore_6 rfl rfl ?_
    refine bj_iconst (v := (nI 1)) d_Of_stageBefore_7 (by decide) ?_
    refine bj_icmp_ne (tgt := 15) d_Of_stageBefore_8 (by decide) (fun h8 => ?_) (fun h8 => ?_)
    · refine bj_iconst (v := (nI 2)) d_Of_stageBefore_15 (by decide) ?_
      exact bj_iret d_Of_stageBefore_16 rfl rfl (Nat.le_refl _) (Nat.le_refl _) ⟨by rw [if_neg h1, if_neg h8], rfl⟩
    · refine bj_iconst (v := (nI 1)) d_Of_stageBefore_11 (by decide) ?_
      refine bj_goto (tgt := 16) d_Of_stageBefore_12 (by decide) ?_
      exact bj_iret d_Of_stageBefore_16 rfl rfl (Nat.le_refl _) (Nat.le_refl _) ⟨by rw [if_neg h1, if_pos h8], rfl⟩
  · refine bj_iconst (v := (nI 0)) d_Of_stageBefore_4 (by decide) ?_
    exact bj_iret d_Of_stageBefore_5 rfl rfl (Nat.le_refl _) (Nat.le_refl _) ⟨by rw [if_pos h1], rfl⟩
set_option maxRecDepth 100000 in
set_option maxHeartbeats 4000000 in
/-- member -/
theorem t_Of_member {x i : Int32} : bj_T (bw_G l D c) Y_Of_member 1 (0, 0, 0, 0) ad (bj_fn (oI (ft (mem_q x i) 8)) M) [.int x, .int i] M := by
  show bj_S _ _ _ _ _ _ 0 0 0 [some (.int x), some (.int i), none, none] [] M
  refine bj_iconst (v := (nI 0)) d_Of_member_0 (by decide) ?_
  refine bj_istore_n (L' := [some (.int x), some (.int i), some (.int (nI 0)), none]) d_Of_member_1 rfl (by decide) rfl ?_
  refine bj_iconst (v := (nI 0)) d_Of_member_2 (by decide) ?_
  refine bj_istore_n (L' := [some (.int x), some (.int i), some (.int (nI 0)), some (.int (nI 0))]) d_Of_member_3 rfl (by decide) rfl ?_
  have lp : ∀ (j : Nat), (j ≤ 8) → (∀ z, z < j → mem_q x i z = false) → bj_S (bw_G l D c) Y_Of_member 1 (0, 0, 0, 0) ad (bj_fn (oI (ft (mem_q x i) 8)) M) 0 0 4 [some (.int x), some (.int i), some (.int (nI (mn_cnt (fun j => bt x j) j))), some (.int (nI j))] [] M := by
    intro j
    induction hd_lp : 8 - j using Nat.strongRecOn generalizing j with
    | ind d_lp ih_lp =>
      intro hj hq
      refine bj_iload_n d_Of_member_4 rfl rfl ?_
      refine bj_bipush (v := (nI 8)) d_Of_member_5 (by decide) ?_
      refine bj_icmp_geN (tgt := 34) d_Of_member_7 (by decide) (by omega) (by omega) (fun h7 => ?_) (fun h7 => ?_)
      · refine bj_iconst (v := (-1)) d_Of_member_34 (by decide) ?_
        exact bj_iret d_Of_member_35 rfl rfl (Nat.le_refl _) (Nat.le_refl _) ⟨by rw [ft_none.mpr (fun z hz => hq z (by omega))]; rfl, rfl⟩
      · refine bj_iload_n d_Of_member_10 rfl rfl ?_
        refine bj_iload_n d_Of_member_11 rfl rfl ?_
        refine bj_csF ss_Of_163 d_Of_member_12 (t_Of_has l D c ad M (by omega)) rfl rfl (by decide) (by decide) (by decide) (Nat.le_of_ble_eq_true rfl) rfl ?_
        refine bj_if_eq (tgt := 28) d_Of_member_15 (by decide) (fun h15 => ?_) (fun h15 => ?_)
        · have hz := mem_n1 (i := i) (bt_n0.mp h15)
          refine bj_iinc (v := (nI (j + 1))) (L' := [some (.int x), some (.int i), some (.int (nI (mn_cnt (fun j => bt x j) j))), some (.int (nI (j + 1)))]) d_Of_member_28 rfl (bj_inc1 _) (by decide) rfl ?_
          refine bj_goto (tgt := 4) d_Of_member_31 (by decide) ?_
          rw [mn_cnt_f (bt_n0.mp h15)]
          exact ih_lp (8 - (j + 1)) (by omega) (j + 1) rfl (by omega) (fun z hz2 => by
            rcases Nat.lt_or_ge z j with q | q
            · exact hq z q
            · rw [show z = j by omega]; exact hz)
        · refine bj_iload_n d_Of_member_18 rfl rfl ?_
          refine bj_iload_n d_Of_member_19 rfl rfl ?_
          refine bj_icmp_ne (tgt := 25) d_Of_member_20 (by decide) (fun h20 => ?_) (fun h20 => ?_)
          · have hz := mem_n2 h20
            refine bj_iinc (v := (nI (mn_cnt (fun j => bt x j) (j + 1)))) (L' := [some (.int x), some (.int i), some (.int (nI (mn_cnt (fun j => bt x j) (j + 1)))), some (.int (nI j))]) d_Of_member_25 rfl (by rw [← mn_cnt_t (bt_nn h15)]; exact bj_inc1 _) (by decide) rfl ?_
            refine bj_iinc (v := (nI (j + 1))) (L' := [some (.int x), some (.int i), some (.int (nI (mn_cnt (fun j => bt x j) (j + 1)))), some (.int (nI (j + 1)))]) d_Of_member_28 rfl (bj_inc1 _) (by decide) rfl ?_
            refine bj_goto (tgt := 4) d_Of_member_31 (by decide) ?_
            exact ih_lp (8 - (j + 1)) (by omega) (j + 1) rfl (by omega) (fun z hz2 => by
              rcases Nat.lt_or_ge z j with q | q
              · exact hq z q
              · rw [show z = j by omega]; exact hz)
          · refine bj_iload_n d_Of_member_23 rfl rfl ?_
            exact bj_iret d_Of_member_24 rfl rfl (Nat.le_refl _) (Nat.le_refl _) ⟨by rw [ft_eq.mpr ⟨h7, mem_y (bt_nn h15) h20, hq⟩]; rfl, rfl⟩
  exact lp 0 (Nat.zero_le _) (fun j hj => absurd hj (Nat.not_lt_zero _))
set_option maxRecDepth 100000 in
set_option maxHeartbeats 4000000 in
/-- Batch.put -/
theorem t_Ba_put {k kr kt sz : Nat} {sg w v : Int32} {rk tm : Nat → Int32} (h : ba_ok c ad M k kr kt sg sz rk tm) (hsz : sz < 6) (h1 : k ≠ kr) (h2 : k ≠ kt) (h3 : kr ≠ kt) : bj_T (bw_G l D c) Y_Ba_put 0 (0, 0, 0, 0) ad (q_put c ad M k kr kt sg sz rk tm w v) [.ref (ad k), .int w, .int v] M := by
  show bj_S _ _ _ _ _ _ 0 0 0 [some (.ref (ad k)), some (.int w), some (.int v)] [] M
  refine bj_aload_n d_Ba_put_0 rfl rfl ?_
  refine bj_get d_Ba_put_1 in_Ba rfl (by decide : 2 < 4) wf_Ba_18 rfl h.1 rfl ?_
  refine bj_aload_n d_Ba_put_4 rfl rfl ?_
  refine bj_get d_Ba_put_5 in_Ba rfl (by decide : 1 < 4) wf_Ba_15 rfl h.1 rfl ?_
  refine bj_iload_n d_Ba_put_8 rfl rfl ?_
  refine bv_iast d_Ba_put_9 0 rfl h.2.1 (by omega) (by omega) (fun N1 hN1 hO1 => ?_)
  have g1 : ba_ok c ad N1 k kr kt sg sz (va_up rk sz w) tm := ⟨(hO1 k h1).trans h.1, hN1, h.2.2.in (hO1 kt (Ne.symm h3))⟩
  refine bj_aload_n d_Ba_put_10 rfl rfl ?_
  refine bj_get d_Ba_put_11 in_Ba rfl (by decide : 3 < 4) wf_Ba_22 rfl g1.1 rfl ?_
  refine bj_aload_n d_Ba_put_14 rfl rfl ?_
  refine bj_get d_Ba_put_15 in_Ba rfl (by decide : 1 < 4) wf_Ba_15 rfl g1.1 rfl ?_
  refine bj_iload_n d_Ba_put_18 rfl rfl ?_
  refine bv_iast d_Ba_put_19 0 rfl g1.2.2 (by omega) (by omega) (fun N2 hN2 hO2 => ?_)
  have g2 : ba_ok c ad N2 k kr kt sg sz (va_up rk sz w) (va_up tm sz v) := ⟨(hO2 k h2).trans g1.1, g1.2.1.in (hO2 kr h3), hN2⟩
  refine bj_aload_n d_Ba_put_20 rfl rfl ?_
  refine bj_dup d_Ba_put_21 rfl ?_
  refine bj_get d_Ba_put_22 in_Ba rfl (by decide : 1 < 4) wf_Ba_15 rfl g2.1 rfl ?_
  refine bj_iconst (v := (nI 1)) d_Ba_put_25 (by decide) ?_
  refine bj_iadd (v := (nI (sz + 1))) d_Ba_put_26 (nI_add _ _) ?_
  refine bj_put d_Ba_put_27 in_Ba ok_Ba nm_Ba rfl (by decide : 1 < 4) wf_Ba_15 rfl rfl rfl rfl rfl (Nat.le_of_ble_eq_true rfl) g2.1 ?_
  have g3 : ba_ok c ad (va_up N2 k (some (.inr (0, [.int sg, .int (nI (sz + 1)), .ref (ad kr), .ref (ad kt)])))) k kr kt sg (sz + 1) (va_up rk sz w) (va_up tm sz v) := ⟨va_up_self _ _ _, g2.2.1.in (va_up_ne _ _ (Ne.symm h1)), g2.2.2.in (va_up_ne _ _ (Ne.symm h2))⟩
  have hf : ∀ q, q ≠ k → q ≠ kr → q ≠ kt → (va_up N2 k (some (.inr (0, [.int sg, .int (nI (sz + 1)), .ref (ad kr), .ref (ad kt)])))) q = M q := fun q q1 q2 q3 => (va_up_ne _ _ q1).trans ((hO2 q q3).trans (hO1 q q2))
  show bj_S _ _ _ _ _ _ 0 0 _ _ [] (va_up N2 k (some (.inr (0, [.int sg, .int (nI (sz + 1)), .ref (ad kr), .ref (ad kt)]))))
  generalize va_up N2 k (some (.inr (0, [.int sg, .int (nI (sz + 1)), .ref (ad kr), .ref (ad kt)]))) = M7 at g3 hf ⊢
  refine bj_aload_n d_Ba_put_30 rfl rfl ?_
  refine bj_get d_Ba_put_31 in_Ba rfl (by decide : 1 < 4) wf_Ba_15 rfl g3.1 rfl ?_
  refine bj_iconst (v := (nI 1)) d_Ba_put_34 (by decide) ?_
  refine bj_isub (v := (nI sz)) d_Ba_put_35 (pk_sub (by omega)) ?_
  exact bj_iret d_Ba_put_36 rfl rfl (Nat.le_refl _) (Nat.le_refl _) ⟨rfl, g3, hf⟩
end O1
end
section
/-! BeatPathOffice: the whole of it; moveInDrawnOrder, winnerSet, inOrder (walks by gen/m_of2.py) -/
section O2

/-- the office but for what is only used within a call -/
def of_ok (c : Nat → ClassId) (ad : Nat → Nat) (M : bj_M) (N op : Nat) (se : Bool) (dw sg sz : Nat → Nat) (rk : Nat → Nat → Int32) (tm : Nat → Nat → Nat) : Prop :=
  M 0 = some (.inr (4, of_F ad N op se)) ∧ bv_I (c 0) M 1 N (fun i => nI (dw i)) ∧ bv_R (c 3) M 2 12 (fun b => ad (3 + b)) ∧ (∀ b, b < 12 → ba_ok c ad M (3 + b) (15 + b) (27 + b) (nI (sg b)) (sz b) (rk b) (fun i => nI (tm b i))) ∧ co_ok c ad M 39 N (nI (vsum sg sz tm)) (fun a b => nI (psum sg sz rk tm 12 a b))
/-- what is only used within a call -/
def sc_ok (c : Nat → ClassId) (ad : Nat → Nat) (M : bj_M) (N : Nat) : Prop := (∃ vs P, co_ok c ad M 49 N vs P) ∧ (∃ f, pa_ok c ad M 59 N f) ∧ (∃ g, bv_I (c 0) M 69 N g) ∧ ∃ lo co U V pn, lo_ok c ad M 70 N lo co U V pn
def of_iv (N op : Nat) (dw sg sz : Nat → Nat) (tm : Nat → Nat → Nat) : Prop := 1 ≤ N ∧ N ≤ 8 ∧ op ≤ 12 ∧ (∃ ps, pm_ok N dw ps) ∧ (∀ b, b < 12 → sg b ≤ 2 ∧ sz b ≤ 6 ∧ ∀ i, i < sz b → tm b i ≤ 10000) ∧ ∀ b, op ≤ b → b < 12 → sg b = 0 ∧ sz b = 0
def of_all (c : Nat → ClassId) (ad : Nat → Nat) (M : bj_M) (N op : Nat) (se : Bool) (dw sg sz : Nat → Nat) (rk : Nat → Nat → Int32) (tm : Nat → Nat → Nat) : Prop := of_iv N op dw sg sz tm ∧ of_ok c ad M N op se dw sg sz rk tm ∧ sc_ok c ad M N
/-- nothing outside the office is written -/
def of_fr (M M' : bj_M) : Prop := ∀ q, 76 ≤ q → M' q = M q
theorem of_fr.rf {M : bj_M} : of_fr M M := fun _ _ => rfl
theorem of_fr.tr {M M' M'' : bj_M} (h : of_fr M M') (h' : of_fr M' M'') : of_fr M M'' := fun q hq => (h' q hq).trans (h q hq)
section V
variable {c : Nat → ClassId} {ad : Nat → Nat} {M M' : bj_M} {N op : Nat} {se : Bool} {dw sg sz : Nat → Nat} {rk : Nat → Nat → Int32} {tm : Nat → Nat → Nat}
theorem of_ok.in (h : of_ok c ad M N op se dw sg sz rk tm) (hN : N ≤ 8) (e : ∀ q, q < 49 → M' q = M q) : of_ok c ad M' N op se dw sg sz rk tm := ⟨(e 0 (by omega)).trans h.1, h.2.1.in (e 1 (by omega)), h.2.2.1.in (e 2 (by omega)), fun b hb => (h.2.2.2.1 b hb).in (e _ (by omega)) (e _ (by omega)) (e _ (by omega)), h.2.2.2.2.in (fun q q1 q2 => e q (by omega))⟩
theorem sc_ok.in (h : sc_ok c ad M N) (hN : N ≤ 8) (e : ∀ q, 49 ≤ q → q < 76 → M' q = M q) : sc_ok c ad M' N := by
  obtain ⟨⟨vs, P, h1⟩, ⟨f, h2⟩, ⟨g, h3⟩, lo, co, U, V, pn, h4⟩ := h
  exact ⟨⟨vs, P, h1.in (fun q q1 q2 => e q (by omega) (by omega))⟩, ⟨f, h2.in (fun q q1 q2 => e q (by omega) (by omega))⟩, ⟨g, h3.in (e 69 (by omega) (by omega))⟩, lo, co, U, V, pn, h4.in (fun q q1 q2 => e q (by omega) (by omega))⟩
theorem sc_ok.trial {vs : Int32} {P : Nat → Nat → Int32} (h : sc_ok c ad M N) (hN : N ≤ 8) (h1 : co_ok c ad M' 49 N vs P) (hf : co_fr 49 N M M') : sc_ok c ad M' N := by
  obtain ⟨-, ⟨f, h2⟩, ⟨g, h3⟩, lo, co, U, V, pn, h4⟩ := h
  exact ⟨⟨vs, P, h1⟩, ⟨f, h2.in (fun q q1 q2 => hf q (by omega))⟩, ⟨g, h3.in (hf 69 (by omega))⟩, lo, co, U, V, pn, h4.in (fun q q1 q2 => hf q (by omega))⟩
theorem sc_ok.paths {f : Nat → Nat → Nat} (h : sc_ok c ad M N) (hN : N ≤ 8) (h1 : pa_ok c ad M' 59 N f) (hf : pa_fr 59 N M M') : sc_ok c ad M' N := by
  obtain ⟨⟨vs, P, h0⟩, -, ⟨g, h3⟩, lo, co, U, V, pn, h4⟩ := h
  exact ⟨⟨vs, P, h0.in (fun q q1 q2 => hf q (by omega))⟩, ⟨f, h1⟩, ⟨g, h3.in (hf 69 (by omega))⟩, lo, co, U, V, pn, h4.in (fun q q1 q2 => hf q (by omega))⟩
theorem sc_ok.locks {lo co U V : Nat → Int32} {pn : Nat} (h : sc_ok c ad M N) (hN : N ≤ 8) (h1 : lo_ok c ad M' 70 N lo co U V pn) (hf : lo_fr 70 M M') : sc_ok c ad M' N := by
  obtain ⟨⟨vs, P, h0⟩, ⟨f, h2⟩, ⟨g, h3⟩, -⟩ := h
  exact ⟨⟨vs, P, h0.in (fun q q1 q2 => hf q (by omega))⟩, ⟨f, h2.in (fun q q1 q2 => hf q (by omega))⟩, ⟨g, h3.in (hf 69 (by omega))⟩, lo, co, U, V, pn, h1⟩
end V
def q_move (c : Nat → ClassId) (M : bj_M) (N : Nat) (dw : Nat → Nat) (fr pl : Nat) : bj_R → bj_M → Prop := bj_ret (fun r M' => r = none ∧ bv_I (c 0) M' 1 N (fun i => nI (tdw dw fr pl i)) ∧ ∀ q, q ≠ 1 → M' q = M q)
/-- who wins -/
def winb (p : Nat → Nat → Nat) (N : Nat) : Int32 := bm (ubn (mg_F (drn p) N) N) N
def q_wins (c : Nat → ClassId) (ad : Nat → Nat) (M : bj_M) (N : Nat) (p : Nat → Nat → Nat) : bj_R → bj_M → Prop := bj_ret (fun r M' => r = some (.int (winb p N)) ∧ pa_ok c ad M' 59 N (mg_F (drn p) N) ∧ pa_fr 59 N M M')
/-- what the order is told from: the pairs, sorted -/
def ord_is (p : Nat → Nat → Nat) (N : Nat) (dw : Nat → Nat) (lk : Nat → Nat → Bool) : Prop := ∃ ps e pn, pm_ok N dw ps ∧ so_all p ps N e pn ∧ lk = so_lk e pn
def q_order (c : Nat → ClassId) (ad : Nat → Nat) (M : bj_M) (N : Nat) (dw : Nat → Nat) (p : Nat → Nat → Nat) (x : Int32) : bj_R → bj_M → Prop := bj_ret (fun r M' => ((ic N x = false ∧ r = some (.int (-1))) ∨ ∃ lk a, a < N ∧ x = nI a ∧ ord_is p N dw lk ∧ ln_at lk dw N a < N ∧ r = some (.int (nI (ln_at lk dw N a)))) ∧ (∃ lo co U V pn, lo_ok c ad M' 70 N lo co U V pn) ∧ lo_fr 70 M M')
theorem so_ne {p : Nat → Nat → Nat} {ps : Nat → Nat} {N pn : Nat} {e : Nat → Nat} (h : so_all p ps N e pn) : ∀ i, i < pn → e i / 8 ≠ e i % 8 := fun i hi q => by
  have h1 := (h.2.1 i hi).2.2
  rw [q] at h1
  unfold drn at h1
  rw [if_neg (Nat.lt_irrefl _)] at h1
  exact absurd h1 (Nat.lt_irrefl _)
theorem so_free {p : Nat → Nat → Nat} {ps dw : Nat → Nat} {N pn : Nat} {e : Nat → Nat} (hp : pm_ok N dw ps) (h : so_all p ps N e pn) : ∀ j, j < N → ∃ i, i < N ∧ ft (ln_q (so_lk e pn) dw N (ln_left (so_lk e pn) dw N j)) N = some i ∧ ln_at (so_lk e pn) dw N j = dw i := fun j hj => by
  obtain ⟨g1, g2⟩ := ml_run_ok (u := fun i => e i / 8) (v := fun i => e i % 8) pn (so_ne h)
  obtain ⟨i, q1, q2, q3, -⟩ := ln_free (lk := so_lk e pn) hp g1 g2 hj
  exact ⟨i, q1, q2, q3⟩
variable (l : Launch) (D : va_G) (c : Nat → ClassId) (ad : Nat → Nat) (M : bj_M)
set_option maxRecDepth 100000 in
set_option maxHeartbeats 4000000 in
/-- moveInDrawnOrder -/
theorem t_Of_moveInDrawnOrder {N op : Nat} {se : Bool} (hO : M 0 = some (.inr (4, of_F ad N op se))) (hN : N ≤ 8) {dw ps : Nat → Nat} {a pl : Nat} (hd : bv_I (c 0) M 1 N (fun i => nI (dw i))) (hpm : pm_ok N dw ps) (ha : a < N) (hpl : pl < N) : bj_T (bw_G l D c) Y_Of_moveInDrawnOrder 0 (0, 0, 0, 0) ad (q_move c M N dw (ps a) pl) [.ref (ad 0), .int (nI a), .int (nI pl)] M := by
  show bj_S _ _ _ _ _ _ 0 0 0 [some (.ref (ad 0)), some (.int (nI a)), some (.int (nI pl)), none, none] [] M
  have hps := hpm.2 a ha
  refine bj_iconst (v := (nI 0)) d_Of_moveInDrawnOrder_0 (by decide) ?_
  refine bj_istore_n (L' := [some (.ref (ad 0)), some (.int (nI a)), some (.int (nI pl)), some (.int (nI 0)), none]) d_Of_moveInDrawnOrder_1 rfl (by decide) rfl ?_
  refine bj_iconst (v := (nI 0)) d_Of_moveInDrawnOrder_2 (by decide) ?_
  refine bj_istore (L' := [some (.ref (ad 0)), some (.int (nI a)), some (.int (nI pl)), some (.int (nI 0)), some (.int (nI 0))]) d_Of_moveInDrawnOrder_3 (by decide) rfl ?_
  have l1 : ∀ (p : Nat), ∀ (fr : Nat), (p ≤ N) → (fr = (if ps a < p then ps a else 0)) → bj_S (bw_G l D c) Y_Of_moveInDrawnOrder 0 (0, 0, 0, 0) ad (q_move c M N dw (ps a) pl) 0 0 5 [some (.ref (ad 0)), some (.int (nI a)), some (.int (nI pl)), some (.int (nI fr)), some (.int (nI p))] [] M := by
    intro p fr
    induction hd_l1 : N - p using Nat.strongRecOn generalizing p fr with
    | ind d_l1 ih_l1 =>
      intro hp9 hfr
      refine bj_iload d_Of_moveInDrawnOrder_5 rfl ?_
      refine bj_aload_n d_Of_moveInDrawnOrder_7 rfl rfl ?_
      refine bj_get d_Of_moveInDrawnOrder_8 in_Of rfl (by decide : 0 < 9) wf_Of_9 rfl hO rfl ?_
      refine bj_icmp_geN (tgt := 34) d_Of_moveInDrawnOrder_11 (by decide) (by first | omega | exact Nat.lt_trans (hpm.1 p (by omega)).1 (by omega)) (by first | omega | exact Nat.lt_trans (hpm.1 p (by omega)).1 (by omega)) (fun h11 => ?_) (fun h11 => ?_)
      · have hfr2 : fr = ps a := by rw [hfr]; exact if_pos (by omega)
        subst hfr2
        refine bj_iload_n d_Of_moveInDrawnOrder_34 rfl rfl ?_
        refine bj_istore (L' := [some (.ref (ad 0)), some (.int (nI a)), some (.int (nI pl)), some (.int (nI (ps a))), some (.int (nI (ps a)))]) d_Of_moveInDrawnOrder_35 (by decide) rfl ?_
        have l2 : ∀ (i : Nat), ∀ (M3 : bj_M), (ps a ≤ i) → (i ≤ pl ∨ i = ps a) → (bv_I (c 0) M3 1 N (fun x => nI (mv1 dw (ps a) i x))) → (∀ q, q ≠ 1 → M3 q = M q) → bj_S (bw_G l D c) Y_Of_moveInDrawnOrder 0 (0, 0, 0, 0) ad (q_move c M N dw (ps a) pl) 0 0 37 [some (.ref (ad 0)), some (.int (nI a)), some (.int (nI pl)), some (.int (nI (ps a))), some (.int (nI i))] [] M3 := by
          intro i M3
          induction hd_l2 : N - i using Nat.strongRecOn generalizing i M3 with
          | ind d_l2 ih_l2 =>
            intro hi hi2 h3 ho3
            have hO3 := (ho3 0 (by decide)).trans hO
            refine bj_iload d_Of_moveInDrawnOrder_37 rfl ?_
            refine bj_iload_n d_Of_moveInDrawnOrder_39 rfl rfl ?_
            refine bj_icmp_geN (tgt := 65) d_Of_moveInDrawnOrder_40 (by decide) (by first | omega | exact Nat.lt_trans (hpm.1 p (by omega)).1 (by omega)) (by first | omega | exact Nat.lt_trans (hpm.1 p (by omega)).1 (by omega)) (fun h40 => ?_) (fun h40 => ?_)
            · refine bj_iload_n d_Of_moveInDrawnOrder_65 rfl rfl ?_
              refine bj_istore (L' := [some (.ref (ad 0)), some (.int (nI a)), some (.int (nI pl)), some (.int (nI (ps a))), some (.int (nI (ps a)))]) d_Of_moveInDrawnOrder_66 (by decide) rfl ?_
              have l3 : ∀ (i : Nat), ∀ (M4 : bj_M), (i ≤ ps a) → (pl ≤ i ∨ i = ps a) → (bv_I (c 0) M4 1 N (fun x => nI (mv2 dw (ps a) pl i x))) → (∀ q, q ≠ 1 → M4 q = M q) → bj_S (bw_G l D c) Y_Of_moveInDrawnOrder 0 (0, 0, 0, 0) ad (q_move c M N dw (ps a) pl) 0 0 68 [some (.ref (ad 0)), some (.int (nI a)), some (.int (nI pl)), some (.int (nI (ps a))), some (.int (nI i))] [] M4 := by
                intro i M4
                induction hd_l3 : i + 1 using Nat.strongRecOn generalizing i M4 with
                | ind d_l3 ih_l3 =>
                  intro hi hi2 h4 ho4
                  have hO4 := (ho4 0 (by decide)).trans hO
                  refine bj_iload d_Of_moveInDrawnOrder_68 rfl ?_
                  refine bj_iload_n d_Of_moveInDrawnOrder_70 rfl rfl ?_
                  refine bj_icmp_leN (tgt := 96) d_Of_moveInDrawnOrder_71 (by decide) (by first | omega | exact Nat.lt_trans (hpm.1 p (by omega)).1 (by omega)) (by first | omega | exact Nat.lt_trans (hpm.1 p (by omega)).1 (by omega)) (fun h71 => ?_) (fun h71 => ?_)
                  · refine bj_aload_n d_Of_moveInDrawnOrder_96 rfl rfl ?_
                    refine bj_get d_Of_moveInDrawnOrder_97 in_Of rfl (by decide : 1 < 9) wf_Of_13 rfl hO4 rfl ?_
                    refine bj_iload_n d_Of_moveInDrawnOrder_100 rfl rfl ?_
                    refine bj_iload_n d_Of_moveInDrawnOrder_101 rfl rfl ?_
                    refine bv_iast d_Of_moveInDrawnOrder_102 0 rfl h4 (by omega) (by first | omega | exact Nat.lt_trans (hpm.1 p (by omega)).1 (by omega)) (fun N1 hN1 hO1 => ?_)
                    exact bj_vret d_Of_moveInDrawnOrder_103 rfl (Nat.le_refl _) (Nat.le_refl _) ⟨rfl, (bv_I.upn hN1).to (fun x hx => by rw [← mv2_e (i := i) (by omega), hps.2]), fun q hq => (hO1 q hq).trans (ho4 q hq)⟩
                  · refine bj_aload_n d_Of_moveInDrawnOrder_74 rfl rfl ?_
                    refine bj_get d_Of_moveInDrawnOrder_75 in_Of rfl (by decide : 1 < 9) wf_Of_13 rfl hO4 rfl ?_
                    refine bj_iload d_Of_moveInDrawnOrder_78 rfl ?_
                    refine bj_aload_n d_Of_moveInDrawnOrder_80 rfl rfl ?_
                    refine bj_get d_Of_moveInDrawnOrder_81 in_Of rfl (by decide : 1 < 9) wf_Of_13 rfl hO4 rfl ?_
                    refine bj_iload d_Of_moveInDrawnOrder_84 rfl ?_
                    refine bj_iconst (v := (nI 1)) d_Of_moveInDrawnOrder_86 (by decide) ?_
                    refine bj_isub (v := (nI (i - 1))) d_Of_moveInDrawnOrder_87 (pk_sub (by omega)) ?_
                    refine bv_iald (v := (nI (dw (i - 1)))) d_Of_moveInDrawnOrder_88 0 rfl h4 (by omega) (by first | omega | exact Nat.lt_trans (hpm.1 p (by omega)).1 (by omega)) (by show nI _ = nI _; rw [mv2_r hi (by omega)]) ?_
                    refine bv_iast d_Of_moveInDrawnOrder_89 0 rfl h4 (by omega) (by first | omega | exact Nat.lt_trans (hpm.1 p (by omega)).1 (by omega)) (fun N1 hN1 hO1 => ?_)
                    refine bj_iinc (v := (nI (i - 1))) (L' := [some (.ref (ad 0)), some (.int (nI a)), some (.int (nI pl)), some (.int (nI (ps a))), some (.int (nI (i - 1)))]) d_Of_moveInDrawnOrder_90 rfl (bj_dec1 (by omega)) (by decide) rfl ?_
                    refine bj_goto (tgt := 68) d_Of_moveInDrawnOrder_93 (by decide) ?_
                    exact ih_l3 (i - 1 + 1) (by omega) (i - 1) N1 rfl (by omega) (by omega) ((bv_I.upn hN1).to (fun x hx => by rw [mv2_s hi (by omega)])) (fun q hq => (hO1 q hq).trans (ho4 q hq))
              exact l3 (ps a) M3 (Nat.le_refl _) (Or.inr rfl) (h3.to (fun x hx => by rw [mv1_e (pl := pl) (by omega)])) ho3
            · refine bj_aload_n d_Of_moveInDrawnOrder_43 rfl rfl ?_
              refine bj_get d_Of_moveInDrawnOrder_44 in_Of rfl (by decide : 1 < 9) wf_Of_13 rfl hO3 rfl ?_
              refine bj_iload d_Of_moveInDrawnOrder_47 rfl ?_
              refine bj_aload_n d_Of_moveInDrawnOrder_49 rfl rfl ?_
              refine bj_get d_Of_moveInDrawnOrder_50 in_Of rfl (by decide : 1 < 9) wf_Of_13 rfl hO3 rfl ?_
              refine bj_iload d_Of_moveInDrawnOrder_53 rfl ?_
              refine bj_iconst (v := (nI 1)) d_Of_moveInDrawnOrder_55 (by decide) ?_
              refine bj_iadd (v := (nI (i + 1))) d_Of_moveInDrawnOrder_56 (nI_add _ _) ?_
              refine bv_iald (v := (nI (dw (i + 1)))) d_Of_moveInDrawnOrder_57 0 rfl h3 (by omega) (by first | omega | exact Nat.lt_trans (hpm.1 p (by omega)).1 (by omega)) (by show nI _ = nI _; rw [mv1_r]) ?_
              refine bv_iast d_Of_moveInDrawnOrder_58 0 rfl h3 (by omega) (by first | omega | exact Nat.lt_trans (hpm.1 p (by omega)).1 (by omega)) (fun N1 hN1 hO1 => ?_)
              refine bj_iinc (v := (nI (i + 1))) (L' := [some (.ref (ad 0)), some (.int (nI a)), some (.int (nI pl)), some (.int (nI (ps a))), some (.int (nI (i + 1)))]) d_Of_moveInDrawnOrder_59 rfl (bj_inc1 _) (by decide) rfl ?_
              refine bj_goto (tgt := 37) d_Of_moveInDrawnOrder_62 (by decide) ?_
              exact ih_l2 (N - (i + 1)) (by omega) (i + 1) N1 rfl (by omega) (by omega) ((bv_I.upn hN1).to (fun x hx => by rw [mv1_s hi])) (fun q hq => (hO1 q hq).trans (ho3 q hq))
        exact l2 (ps a) M (Nat.le_refl _) (Or.inr rfl) (hd.to (fun x hx => by unfold mv1; rw [if_neg (by omega)])) (fun _ _ => rfl)
      · refine bj_aload_n d_Of_moveInDrawnOrder_14 rfl rfl ?_
        refine bj_get d_Of_moveInDrawnOrder_15 in_Of rfl (by decide : 1 < 9) wf_Of_13 rfl hO rfl ?_
        refine bj_iload d_Of_moveInDrawnOrder_18 rfl ?_
        refine bv_iald d_Of_moveInDrawnOrder_20 0 rfl hd (by omega) (by first | omega | exact Nat.lt_trans (hpm.1 p (by omega)).1 (by omega)) rfl ?_
        refine bj_iload_n d_Of_moveInDrawnOrder_21 rfl rfl ?_
        refine bj_icmp_neN (tgt := 28) d_Of_moveInDrawnOrder_22 (by decide) (by first | omega | exact Nat.lt_trans (hpm.1 p (by omega)).1 (by omega)) (by first | omega | exact Nat.lt_trans (hpm.1 p (by omega)).1 (by omega)) (fun h22 => ?_) (fun h22 => ?_)
        · have hz : ps a ≠ p := fun e => h22 (by rw [← e]; exact hps.2)
          refine bj_iinc (v := (nI (p + 1))) (L' := [some (.ref (ad 0)), some (.int (nI a)), some (.int (nI pl)), some (.int (nI fr)), some (.int (nI (p + 1)))]) d_Of_moveInDrawnOrder_28 rfl (bj_inc1 _) (by decide) rfl ?_
          refine bj_goto (tgt := 5) d_Of_moveInDrawnOrder_31 (by decide) ?_
          exact ih_l1 (N - (p + 1)) (by omega) (p + 1) fr rfl (by omega) (by 
            rw [hfr]
            by_cases e : ps a < p
            · rw [if_pos e, if_pos (by omega)]
            · rw [if_neg e, if_neg (by omega)])
        · have hz : ps a = p := by rw [← h22]; exact (hpm.1 p h11).2
          refine bj_iload d_Of_moveInDrawnOrder_25 rfl ?_
          refine bj_istore_n (L' := [some (.ref (ad 0)), some (.int (nI a)), some (.int (nI pl)), some (.int (nI p)), some (.int (nI p))]) d_Of_moveInDrawnOrder_27 rfl (by decide) rfl ?_
          refine bj_iinc (v := (nI (p + 1))) (L' := [some (.ref (ad 0)), some (.int (nI a)), some (.int (nI pl)), some (.int (nI p)), some (.int (nI (p + 1)))]) d_Of_moveInDrawnOrder_28 rfl (bj_inc1 _) (by decide) rfl ?_
          refine bj_goto (tgt := 5) d_Of_moveInDrawnOrder_31 (by decide) ?_
          exact ih_l1 (N - (p + 1)) (by omega) (p + 1) p rfl (by omega) (by rw [if_pos (by omega)]; omega)
  exact l1 0 0 (Nat.zero_le _) (if_neg (Nat.not_lt_zero _)).symm
set_option maxRecDepth 100000 in
set_option maxHeartbeats 4000000 in
/-- winnerSet -/
theorem t_Of_winnerSet {N op : Nat} {se : Bool} (hO : M 0 = some (.inr (4, of_F ad N op se))) (hN : N ≤ 8) {k2 : Nat} {vs : Int32} {P : Nat → Nat → Int32} {p : Nat → Nat → Nat} (h2 : co_ok c ad M k2 N vs P) (hP : ∀ a b, a < N → b < N → P a b = nI (p a b)) (hp : ∀ a b, a < N → b < N → p a b < 2 ^ 31) (hk : k2 + 10 ≤ 59) {f : Nat → Nat → Nat} (hA : pa_ok c ad M 59 N f) : bj_T (bw_G l D c) Y_Of_winnerSet 3 (0, 0, 0, 0) ad (q_wins c ad M N p) [.ref (ad 0), .ref (ad k2)] M := by
  show bj_S _ _ _ _ _ _ 0 0 0 [some (.ref (ad 0)), some (.ref (ad k2))] [] M
  refine bj_aload_n d_Of_winnerSet_0 rfl rfl ?_
  refine bj_get d_Of_winnerSet_1 in_Of rfl (by decide : 7 < 9) wf_Of_46 rfl hO rfl ?_
  refine bj_aload_n d_Of_winnerSet_4 rfl rfl ?_
  refine bj_cvR sv_Of_145 d_Of_winnerSet_5 (t_Pa_weigh l D c ad M hA hN h2 hP hp hk) rfl rfl (by decide) (by decide) (by decide) (Nat.le_of_ble_eq_true rfl) rfl hA.1 rfl rfl (fun v1 N1 hq1 => ?_)
  obtain ⟨rfl, hA1, hf1⟩ := hq1
  show bj_S (bw_G l D c) Y_Of_winnerSet 3 (0, 0, 0, 0) ad (q_wins c ad M N p) 0 0 8 [some (.ref (ad 0)), some (.ref (ad k2))] [] N1
  have hO2 := (hf1 0 (by omega)).trans hO
  refine bj_aload_n d_Of_winnerSet_8 rfl rfl ?_
  refine bj_get d_Of_winnerSet_9 in_Of rfl (by decide : 7 < 9) wf_Of_46 rfl hO2 rfl ?_
  refine bj_cvF sv_Of_218 d_Of_winnerSet_12 (t_Pa_unbeaten l D c ad N1 hA1 hN) rfl rfl (by decide) (by decide) (by decide) (Nat.le_of_ble_eq_true rfl) rfl hA1.1 rfl rfl ?_
  exact bj_iret d_Of_winnerSet_15 rfl rfl (Nat.le_refl _) (Nat.le_refl _) ⟨rfl, hA1, hf1⟩
set_option maxRecDepth 100000 in
set_option maxHeartbeats 4000000 in
/-- inOrder -/
theorem t_Of_inOrder {N op : Nat} {se : Bool} (hO : M 0 = some (.inr (4, of_F ad N op se))) (hN : N ≤ 8) {k2 : Nat} {vs : Int32} {P : Nat → Nat → Int32} {p : Nat → Nat → Nat} (h2 : co_ok c ad M k2 N vs P) (hP : ∀ a b, a < N → b < N → P a b = nI (p a b)) (hp : ∀ a b, a < N → b < N → p a b < 2 ^ 31) (hk : k2 + 10 ≤ 59) {dw ps : Nat → Nat} {x : Int32} {lo co U V : Nat → Int32} {pn : Nat} (hd : bv_I (c 0) M 1 N (fun i => nI (dw i))) (hpm : pm_ok N dw ps) (hL : lo_ok c ad M 70 N lo co U V pn) : bj_T (bw_G l D c) Y_Of_inOrder 5 (0, 0, 0, 0) ad (q_order c ad M N dw p x) [.ref (ad 0), .ref (ad k2), .int x] M := by
  show bj_S _ _ _ _ _ _ 0 0 0 [some (.ref (ad 0)), some (.ref (ad k2)), some (.int x)] [] M
  refine bj_aload_n d_Of_inOrder_0 rfl rfl ?_
  refine bj_iload_n d_Of_inOrder_1 rfl rfl ?_
  refine bj_cvF sv_Of_60 d_Of_inOrder_2 (t_Of_isCandidate l D c ad M hO hN) rfl rfl (by decide) (by decide) (by decide) (Nat.le_of_ble_eq_true rfl) rfl hO rfl rfl ?_
  refine bj_if_ne (tgt := 10) d_Of_inOrder_5 (by decide) (fun h5 => ?_) (fun h5 => ?_)
  · obtain ⟨a, ha, hx⟩ := ic_t (by omega) (bt_nn h5)
    refine bj_aload_n d_Of_inOrder_10 rfl rfl ?_
    refine bj_get d_Of_inOrder_11 in_Of rfl (by decide : 8 < 9) wf_Of_53 rfl hO rfl ?_
    refine bj_aload_n d_Of_inOrder_14 rfl rfl ?_
    refine bj_aload_n d_Of_inOrder_15 rfl rfl ?_
    refine bj_get d_Of_inOrder_16 in_Of rfl (by decide : 1 < 9) wf_Of_13 rfl hO rfl ?_
    refine bj_cvR sv_Of_180 d_Of_inOrder_19 (t_Lo_lockPairs l D c ad M hL hN h2 hP hp hd hpm (by omega) (by omega)) rfl rfl (by decide) (by decide) (by decide) (Nat.le_of_ble_eq_true rfl) rfl hL.1 rfl rfl (fun v1 N1 hq1 => ?_)
    obtain ⟨rfl, ⟨lo1, co1, U1, V1, e, pn1, hpn1, hs1, hL1, hK1⟩, hf1⟩ := hq1
    show bj_S (bw_G l D c) Y_Of_inOrder 5 (0, 0, 0, 0) ad (q_order c ad M N dw p x) 0 0 22 [some (.ref (ad 0)), some (.ref (ad k2)), some (.int x)] [] N1
    have hO2 := (hf1 0 (by omega)).trans hO
    have hd2 : bv_I (c 0) N1 1 N (fun i => nI (dw i)) := hd.in (hf1 1 (by omega))
    refine bj_aload_n d_Of_inOrder_22 rfl rfl ?_
    refine bj_get d_Of_inOrder_23 in_Of rfl (by decide : 8 < 9) wf_Of_53 rfl hO2 rfl ?_
    refine bj_aload_n d_Of_inOrder_26 rfl rfl ?_
    refine bj_get d_Of_inOrder_27 in_Of rfl (by decide : 1 < 9) wf_Of_13 rfl hO2 rfl ?_
    refine bj_iload_n d_Of_inOrder_30 rfl rfl ?_
    have hfr := so_free hpm hs1
    subst hx
    refine bj_cvF sv_Of_221 d_Of_inOrder_31 (t_Lo_lineUp l D c ad N1 hL1 hN hd2 (fun i hi => (hpm.1 i hi).1) hK1 ha hfr) rfl rfl (by decide) (by decide) (by decide) (Nat.le_of_ble_eq_true rfl) rfl hL1.1 rfl rfl ?_
    exact bj_iret d_Of_inOrder_34 rfl rfl (Nat.le_refl _) (Nat.le_refl _) ⟨Or.inr ⟨_, a, ha, rfl, ⟨ps, e, pn1, hpm, hs1, rfl⟩, (by obtain ⟨i, q1, -, q3⟩ := hfr a ha; rw [q3]; exact (hpm.1 i q1).1), rfl⟩, ⟨_, _, _, _, _, hL1⟩, hf1⟩
  · refine bj_iconst (v := (-1)) d_Of_inOrder_8 (by decide) ?_
    exact bj_iret d_Of_inOrder_9 rfl rfl (Nat.le_refl _) (Nat.le_refl _) ⟨Or.inl ⟨bt_n0.mp h5, rfl⟩, ⟨_, _, _, _, _, hL⟩, lo_fr.rf⟩
end O2
end
section
/-! the office's state after each change -/
section O3
section V
variable {c : Nat → ClassId} {ad : Nat → Nat} {M M' : bj_M} {N op : Nat} {se : Bool} {dw sg sz : Nat → Nat} {rk : Nat → Nat → Int32} {tm : Nat → Nat → Nat}
theorem of_all.in (h : of_all c ad M N op se dw sg sz rk tm) (e : ∀ q, q < 49 → M' q = M q) (hs : sc_ok c ad M' N) : of_all c ad M' N op se dw sg sz rk tm := ⟨h.1, h.2.1.in h.1.2.1 e, hs⟩
theorem of_all.draw {fr pl : Nat} (h : of_all c ad M N op se dw sg sz rk tm) (hf : fr < N) (hp : pl < N) (hd : bv_I (c 0) M' 1 N (fun i => nI (tdw dw fr pl i))) (e : ∀ q, q ≠ 1 → M' q = M q) : of_all c ad M' N op se (tdw dw fr pl) sg sz rk tm := by
  obtain ⟨⟨h1, hN, h3, ⟨ps, h4⟩, h5⟩, ⟨g1, g2, g3, g4, g5⟩, hs⟩ := h
  exact ⟨⟨h1, hN, h3, ⟨_, tdw_pm h4 hf hp⟩, h5⟩, ⟨(e 0 (by omega)).trans g1, hd, g3.in (e 2 (by omega)), fun b hb => (g4 b hb).in (e _ (by omega)) (e _ (by omega)) (e _ (by omega)), g5.in (fun q q1 q2 => e q (by omega))⟩, hs.in hN (fun q q1 q2 => e q (by omega))⟩
theorem of_all.head {op' : Nat} {se' : Bool} (h : of_all c ad M N op se dw sg sz rk tm) (ho : op ≤ op') (ho2 : op' ≤ 12) (hd : M' 0 = some (.inr (4, of_F ad N op' se'))) (e : ∀ q, q ≠ 0 → M' q = M q) : of_all c ad M' N op' se' dw sg sz rk tm := by
  obtain ⟨⟨h1, hN, h3, h4, h5, h6⟩, ⟨g1, g2, g3, g4, g5⟩, hs⟩ := h
  exact ⟨⟨h1, hN, ho2, h4, h5, fun b hb hb2 => h6 b (by omega) hb2⟩, ⟨hd, g2.in (e 1 (by omega)), g3.in (e 2 (by omega)), fun b hb => (g4 b hb).in (e _ (by omega)) (e _ (by omega)) (e _ (by omega)), g5.in (fun q q1 q2 => e q (by omega))⟩, hs.in hN (fun q q1 q2 => e q (by omega))⟩
theorem psum_to {sg' sz' : Nat → Nat} {rk' : Nat → Nat → Int32} {tm' : Nat → Nat → Nat} {but a b : Nat} (h : ∀ j, j < 12 → (sg j = 1 ↔ sg' j = 1) ∧ (sg j = 1 → sz j = sz' j ∧ rk j = rk' j ∧ tm j = tm' j)) : psum sg sz rk tm but a b = psum sg' sz' rk' tm' but a b := sm_to 12 (fun j hj => by
  obtain ⟨h1, h2⟩ := h j hj
  by_cases e : sg j = 1
  · obtain ⟨e1, e2, e3⟩ := h2 e
    rw [e1, e2, e3, e, h1.mp e]
  · rw [if_neg (fun q => e q.1), if_neg (fun q => e (h1.mpr q.1))])
theorem vsum_to {sg' sz' : Nat → Nat} {tm' : Nat → Nat → Nat} (h : ∀ j, j < 12 → (sg j = 1 ↔ sg' j = 1) ∧ (sg j = 1 → sz j = sz' j ∧ tm j = tm' j)) : vsum sg sz tm = vsum sg' sz' tm' := sm_to 12 (fun j hj => by
  obtain ⟨h1, h2⟩ := h j hj
  by_cases e : sg j = 1
  · obtain ⟨e1, e2⟩ := h2 e
    rw [e1, e2, e, h1.mp e]
  · rw [if_neg e, if_neg (fun q => e (h1.mpr q))])
theorem co_ok.of {k : Nat} {vs vs' : Int32} {P P' : Nat → Nat → Int32} (h : co_ok c ad M k N vs P) (hv : vs = vs') (e : ∀ a b, a < N → b < N → P a b = P' a b) : co_ok c ad M k N vs' P' := by
  subst hv
  exact h.to e
/-- one batch is another -/
theorem of_bat {b : Nat} {s' z' : Nat} {r' : Nat → Int32} {t' : Nat → Nat} (hB : ∀ b, b < 12 → ba_ok c ad M (3 + b) (15 + b) (27 + b) (nI (sg b)) (sz b) (rk b) (fun i => nI (tm b i))) (hb : b < 12) (h : ba_ok c ad M' (3 + b) (15 + b) (27 + b) (nI s') z' r' (fun i => nI (t' i))) (e : ∀ q, q < 39 → q ≠ 3 + b → q ≠ 15 + b → q ≠ 27 + b → M' q = M q) :
    ∀ j, j < 12 → ba_ok c ad M' (3 + j) (15 + j) (27 + j) (nI (va_up sg b s' j)) (va_up sz b z' j) (va_up rk b r' j) (fun i => nI (va_up tm b t' j i)) := by
  intro j hj
  by_cases q : j = b
  · subst q
    rw [va_up_self, va_up_self, va_up_self, va_up_self]
    exact h
  · rw [va_up_ne _ _ q, va_up_ne _ _ q, va_up_ne _ _ q, va_up_ne _ _ q]
    exact (hB j hj).in (e _ (by omega) (by omega) (by omega) (by omega)) (e _ (by omega) (by omega) (by omega) (by omega)) (e _ (by omega) (by omega) (by omega) (by omega))
theorem va_up_id {α : Type} {f : Nat → α} {j : Nat} : va_up f j (f j) = f := funext (fun i => by
  by_cases e : i = j
  · subst e; exact va_up_self _ _ _
  · exact va_up_ne _ _ e)
theorem of_all.ballot {b t : Nat} {w : Int32} (h : of_all c ad M N op se dw sg sz rk tm) (hb : b < op) (hs : sg b = 0) (hz : sz b < 6) (ht : t ≤ 10000) (hn : ba_ok c ad M' (3 + b) (15 + b) (27 + b) (nI (sg b)) (sz b + 1) (va_up (rk b) (sz b) w) (va_up (fun i => nI (tm b i)) (sz b) (nI t))) (e : ∀ q, q ≠ 3 + b → q ≠ 15 + b → q ≠ 27 + b → M' q = M q) :
    of_all c ad M' N op se dw sg (va_up sz b (sz b + 1)) (va_up rk b (va_up (rk b) (sz b) w)) (va_up tm b (va_up (tm b) (sz b) t)) := by
  obtain ⟨⟨h1, hN, h3, h4, h5, h6⟩, ⟨g1, g2, g3, g4, g5⟩, hsc⟩ := h
  have hn' : ba_ok c ad M' (3 + b) (15 + b) (27 + b) (nI (sg b)) (sz b + 1) (va_up (rk b) (sz b) w) (fun i => nI (va_up (tm b) (sz b) t i)) := ⟨hn.1, hn.2.1, bv_I.upn hn.2.2⟩
  have hq := of_bat g4 (by omega) hn' (fun q _ q1 q2 q3 => e q q1 q2 q3)
  rw [va_up_id] at hq
  have key : ∀ j, j < 12 → sg j = 1 → j ≠ b := fun j _ q r => by rw [r, hs] at q; cases q
  refine ⟨⟨h1, hN, h3, h4, fun j hj => ?_, fun j hj hj2 => ?_⟩, ⟨(e 0 (by omega) (by omega) (by omega)).trans g1, g2.in (e 1 (by omega) (by omega) (by omega)), g3.in (e 2 (by omega) (by omega) (by omega)), hq, (g5.in (fun q q1 q2 => e q (by omega) (by omega) (by omega))).of ?_ (fun x y hx hy => ?_)⟩, hsc.in hN (fun q q1 q2 => e q (by omega) (by omega) (by omega))⟩
  · by_cases q : j = b
    · subst q
      rw [va_up_self, va_up_self]
      refine ⟨(h5 j hj).1, by omega, fun i hi => ?_⟩
      by_cases r : i = sz j
      · rw [r, va_up_self]; exact ht
      · rw [va_up_ne _ _ r]; exact (h5 j hj).2.2 i (by omega)
    · rw [va_up_ne _ _ q, va_up_ne _ _ q]; exact h5 j hj
  · rw [va_up_ne _ _ (show j ≠ b by omega)]; exact h6 j hj hj2
  · rw [vsum_to (fun j hj => ⟨Iff.rfl, fun q => ⟨(va_up_ne _ _ (key j hj q)).symm, (va_up_ne _ _ (key j hj q)).symm⟩⟩)]
  · rw [psum_to (fun j hj => ⟨Iff.rfl, fun q => ⟨(va_up_ne _ _ (key j hj q)).symm, (va_up_ne _ _ (key j hj q)).symm, (va_up_ne _ _ (key j hj q)).symm⟩⟩)]
/-- a stage turned: what the sums become -/
theorem psum_in {b s' a x : Nat} (hb : b < 12) (h0 : sg b ≠ 1) (h1 : s' = 1) : psum sg sz rk tm 12 a x + bsum (sz b) (rk b) (tm b) a x = psum (va_up sg b s') sz rk tm 12 a x := by
  have h := sm_up (f := fun j => if sg j = 1 ∧ j ≠ 12 then bsum (sz j) (rk j) (tm j) a x else 0) (g := fun j => if va_up sg b s' j = 1 ∧ j ≠ 12 then bsum (sz j) (rk j) (tm j) a x else 0) 12 hb (fun i hi hi2 => by rw [va_up_ne _ _ hi2])
  rw [va_up_self, if_pos (show s' = 1 ∧ b ≠ 12 by omega), if_neg (show ¬ (sg b = 1 ∧ b ≠ 12) from fun q => h0 q.1)] at h
  exact h
theorem psum_out {b s' a x : Nat} (hb : b < 12) (h0 : sg b = 1) (h1 : s' ≠ 1) : psum (va_up sg b s') sz rk tm 12 a x + bsum (sz b) (rk b) (tm b) a x = psum sg sz rk tm 12 a x := by
  have h := sm_up (f := fun j => if sg j = 1 ∧ j ≠ 12 then bsum (sz j) (rk j) (tm j) a x else 0) (g := fun j => if va_up sg b s' j = 1 ∧ j ≠ 12 then bsum (sz j) (rk j) (tm j) a x else 0) 12 hb (fun i hi hi2 => by rw [va_up_ne _ _ hi2])
  rw [va_up_self, if_neg (show ¬ (s' = 1 ∧ b ≠ 12) from fun q => h1 q.1), if_pos (show sg b = 1 ∧ b ≠ 12 by omega)] at h
  exact h.symm
theorem vsum_in {b s' : Nat} (hb : b < 12) (h0 : sg b ≠ 1) (h1 : s' = 1) : vsum sg sz tm + sm (tm b) (sz b) = vsum (va_up sg b s') sz tm := by
  have h := sm_up (f := fun j => if sg j = 1 then sm (tm j) (sz j) else 0) (g := fun j => if va_up sg b s' j = 1 then sm (tm j) (sz j) else 0) 12 hb (fun i hi hi2 => by rw [va_up_ne _ _ hi2])
  rw [va_up_self, if_pos h1, if_neg h0] at h
  exact h
theorem vsum_out {b s' : Nat} (hb : b < 12) (h0 : sg b = 1) (h1 : s' ≠ 1) : vsum (va_up sg b s') sz tm + sm (tm b) (sz b) = vsum sg sz tm := by
  have h := sm_up (f := fun j => if sg j = 1 then sm (tm j) (sz j) else 0) (g := fun j => if va_up sg b s' j = 1 then sm (tm j) (sz j) else 0) 12 hb (fun i hi hi2 => by rw [va_up_ne _ _ hi2])
  rw [va_up_self, if_neg h1, if_pos h0] at h
  exact h.symm
/-- without a batch -/
theorem psum_but {b a x : Nat} (hb : b < 12) (h0 : sg b = 1) : psum sg sz rk tm b a x + bsum (sz b) (rk b) (tm b) a x = psum sg sz rk tm 12 a x := by
  have h := sm_up (f := fun j => if sg j = 1 ∧ j ≠ 12 then bsum (sz j) (rk j) (tm j) a x else 0) (g := fun j => if sg j = 1 ∧ j ≠ b then bsum (sz j) (rk j) (tm j) a x else 0) 12 hb (fun i hi hi2 => by
    by_cases q : sg i = 1
    · rw [if_pos (by omega), if_pos (by omega)]
    · rw [if_neg (fun r => q r.1), if_neg (fun r => q r.1)])
  rw [if_neg (show ¬ (sg b = 1 ∧ b ≠ b) from fun q => q.2 rfl), if_pos (show sg b = 1 ∧ b ≠ 12 by omega)] at h
  exact h.symm
theorem psum_same {b a x : Nat} (h0 : sg b ≠ 1) : psum sg sz rk tm b a x = psum sg sz rk tm 12 a x := sm_to 12 (fun j hj => by
  by_cases q : sg j = 1
  · rw [if_pos (show sg j = 1 ∧ j ≠ b from ⟨q, fun e => h0 (e ▸ q)⟩), if_pos (by omega)]
  · rw [if_neg (fun r => q r.1), if_neg (fun r => q r.1)])
theorem of_all.turn {b s' : Nat} {vs : Int32} {P : Nat → Nat → Int32} (h : of_all c ad M N op se dw sg sz rk tm) (hb : b < op) (hs : s' ≤ 2) (hn : ba_ok c ad M' (3 + b) (15 + b) (27 + b) (nI s') (sz b) (rk b) (fun i => nI (tm b i))) (hc : co_ok c ad M' 39 N vs P) (hv : vs = nI (vsum (va_up sg b s') sz tm)) (hP : ∀ a x, a < N → x < N → P a x = nI (psum (va_up sg b s') sz rk tm 12 a x)) (e : ∀ q, q ≠ 3 + b → ¬ (39 ≤ q ∧ q < 41 + N) → M' q = M q) :
    of_all c ad M' N op se dw (va_up sg b s') sz rk tm := by
  obtain ⟨⟨h1, hN, h3, h4, h5, h6⟩, ⟨g1, g2, g3, g4, g5⟩, hsc⟩ := h
  have hq := of_bat g4 (show b < 12 by omega) hn (fun q q0 q1 _ _ => e q q1 (by omega))
  rw [va_up_id, va_up_id, va_up_id] at hq
  refine ⟨⟨h1, hN, h3, h4, fun j hj => ?_, fun j hj hj2 => ?_⟩, ⟨(e 0 (by omega) (by omega)).trans g1, g2.in (e 1 (by omega) (by omega)), g3.in (e 2 (by omega) (by omega)), hq, hc.of hv hP⟩, hsc.in hN (fun q q1 q2 => e q (by omega) (by omega))⟩
  · refine ⟨?_, (h5 j hj).2⟩
    by_cases q : j = b
    · subst q
      rw [va_up_self]; exact hs
    · rw [va_up_ne _ _ q]; exact (h5 j hj).1
  · rw [va_up_ne _ _ (show j ≠ b by omega)]; exact h6 j hj hj2
theorem bsum_up {s i a x : Nat} {r : Nat → Int32} {t : Nat → Nat} {w : Int32} (hi : i < s) : bsum s (va_up r i w) t a x + (if bef (r i) a x = true then t i else 0) = bsum s r t a x + (if bef w a x = true then t i else 0) := by
  have h := sm_up (f := fun j => if bef (va_up r i w j) a x = true then t j else 0) (g := fun j => if bef (r j) a x = true then t j else 0) s hi (fun j hj hj2 => by rw [va_up_ne _ _ hj2])
  rw [va_up_self] at h
  exact h
theorem psum_rk {b i a x : Nat} {w : Int32} (hb : b < 12) (h0 : sg b = 1) (hi : i < sz b) : psum sg sz (va_up rk b (va_up (rk b) i w)) tm 12 a x + (if bef (rk b i) a x = true then tm b i else 0) = psum sg sz rk tm 12 a x + (if bef w a x = true then tm b i else 0) := by
  have h := sm_up (f := fun j => if sg j = 1 ∧ j ≠ 12 then bsum (sz j) (rk j) (tm j) a x else 0) (g := fun j => if sg j = 1 ∧ j ≠ 12 then bsum (sz j) (va_up rk b (va_up (rk b) i w) j) (tm j) a x else 0) 12 hb (fun j hj hj2 => by rw [va_up_ne _ _ hj2])
  rw [va_up_self, if_pos (show sg b = 1 ∧ b ≠ 12 by omega), if_pos (show sg b = 1 ∧ b ≠ 12 by omega)] at h
  have h2 := bsum_up (s := sz b) (i := i) (a := a) (x := x) (r := rk b) (t := tm b) (w := w) hi
  have h3 : psum sg sz rk tm 12 a x + bsum (sz b) (va_up (rk b) i w) (tm b) a x = psum sg sz (va_up rk b (va_up (rk b) i w)) tm 12 a x + bsum (sz b) (rk b) (tm b) a x := h
  omega
theorem psum_rk_no {b i a x : Nat} {w : Int32} (h0 : sg b ≠ 1) : psum sg sz (va_up rk b (va_up (rk b) i w)) tm 12 a x = psum sg sz rk tm 12 a x := psum_to (fun j hj => ⟨Iff.rfl, fun q => ⟨rfl, va_up_ne _ _ (fun e => h0 (e ▸ q)), rfl⟩⟩)
theorem nI_swap {x y o n : Nat} {p q : Prop} [Decidable p] [Decidable q] {t : Nat} (h : y + (if p then t else 0) = x + (if q then t else 0)) : nI x + (if p then - nI t else 0) + (if q then nI t else 0) = nI y := by
  have e1 : (if p then - nI t else 0) = - nI (if p then t else 0) := by
    split
    · rfl
    · rw [nI_0]; rfl
  have e2 : (if q then nI t else 0) = nI (if q then t else 0) := by
    split
    · rfl
    · rw [nI_0]
  rw [e1, e2, Int32.add_assoc, Int32.add_comm (- _) _, ← Int32.add_assoc, nI_add, ← h, ← nI_add, ← Int32.sub_eq_add_neg, Int32.add_sub_cancel]
theorem of_all.corr {b i : Nat} {w : Int32} {vs : Int32} {P : Nat → Nat → Int32} (h : of_all c ad M N op se dw sg sz rk tm) (hb : b < op) (hn : ba_ok c ad M' (3 + b) (15 + b) (27 + b) (nI (sg b)) (sz b) (va_up (rk b) i w) (fun i => nI (tm b i))) (hc : co_ok c ad M' 39 N vs P) (hv : vs = nI (vsum sg sz tm)) (hP : ∀ a x, a < N → x < N → P a x = nI (psum sg sz (va_up rk b (va_up (rk b) i w)) tm 12 a x)) (e : ∀ q, q ≠ 15 + b → ¬ (39 ≤ q ∧ q < 41 + N) → M' q = M q) :
    of_all c ad M' N op se dw sg sz (va_up rk b (va_up (rk b) i w)) tm := by
  obtain ⟨⟨h1, hN, h3, h4, h5, h6⟩, ⟨g1, g2, g3, g4, g5⟩, hsc⟩ := h
  have hq := of_bat g4 (show b < 12 by omega) hn (fun q q0 _ q2 _ => e q q2 (by omega))
  rw [va_up_id, va_up_id, va_up_id] at hq
  exact ⟨⟨h1, hN, h3, h4, h5, h6⟩, ⟨(e 0 (by omega) (by omega)).trans g1, g2.in (e 1 (by omega) (by omega)), g3.in (e 2 (by omega) (by omega)), hq, hc.of hv hP⟩, hsc.in hN (fun q q1 q2 => e q (by omega) (by omega))⟩
theorem of_all.pl (h : of_all c ad M N op se dw sg sz rk tm) (but a b : Nat) : psum sg sz rk tm but a b < 2 ^ 31 := Nat.lt_of_le_of_lt (psum_le (fun j hj => (h.1.2.2.2.2.1 j hj).2)) (by decide)
end V
/-! what a call answers: a code (0: none thrown) and a value -/
def Rv (n : Nat) (a : Int32) : Nat → Option Value → Prop := fun k v => k = n ∧ v = if n = 0 then some (.int a) else none
def Ru (n : Nat) : Nat → Option Value → Prop := fun k v => k = n ∧ v = none
def xc (L : List String) (n : Nat) : String := L.getD (n - 1) ""
def q_pub (L : List String) (R : Nat → Option Value → Prop) (Gd Bd : bj_M → Prop) : bj_R → bj_M → Prop := fun r M' => match r with
  | .inl v => R 0 v ∧ Gd M'
  | .inr X => ∃ n, n ≠ 0 ∧ X = xc L n ∧ R n none ∧ Bd M'
theorem Rv_0 {n : Nat} {a : Int32} (h : n = 0) : Rv n a 0 (some (.int a)) := ⟨h.symm, by rw [if_pos h]⟩
theorem Rv_n {n k : Nat} {a : Int32} (h : n = k) (hk : k ≠ 0) : Rv n a k none := ⟨h.symm, by rw [if_neg (by omega)]⟩
/-- the office stays as it is -/
def of_st (c : Nat → ClassId) (ad : Nat → Nat) (M : bj_M) (N op : Nat) (se : Bool) (dw sg sz : Nat → Nat) (rk : Nat → Nat → Int32) (tm : Nat → Nat → Nat) : bj_M → Prop := fun M' => of_all c ad M' N op se dw sg sz rk tm ∧ of_fr M M'
end O3
end
section
/-! BeatPathOffice: the public methods, first (walks by gen/m_of4.py) -/
section O4

def tieC (N op : Nat) (se : Bool) (x y : Int32) : Nat := if ic N x = true ∧ ic N y = true then (if se = true ∨ 0 < op then 2 else 0) else 1
/-- the drawn order after tie -/
def tieD (N : Nat) (dw : Nat → Nat) (x y : Int32) : Nat → Nat := tdw dw (plc dw N x.toNatClampNeg) y.toNatClampNeg
theorem tieD_n {N a b : Nat} {dw : Nat → Nat} (ha : a < 2 ^ 31) (hb : b < 2 ^ 31) : tieD N dw (nI a) (nI b) = tdw dw (plc dw N a) b := by
  unfold tieD
  rw [nI_clamp ha, nI_clamp hb]
theorem bt_nnot {b : Bool} (h : b ≠ true) : b = false := by cases b <;> simp_all
/-- a code where the first thing fails -/
def icC (b : Bool) : Nat := if b = true then 0 else 1
theorem icC_t {b : Bool} (h : b = true) : icC b = 0 := if_pos h
theorem icC_f {b : Bool} (h : ¬ b = true) : icC b = 1 := if_neg h
theorem clp {a : Nat} (f : Nat → Int32) (h : a < 2 ^ 31) : f (nI a).toNatClampNeg = f a := by rw [nI_clamp h]
/-- two different candidates -/
def prC (N : Nat) (x y : Int32) : Nat := if ic N x = true ∧ ic N y = true ∧ x ≠ y then 0 else 1
theorem prC_t {N : Nat} {x y : Int32} (h : ic N x = true ∧ ic N y = true ∧ x ≠ y) : prC N x y = 0 := if_pos h
theorem prC_f {N : Nat} {x y : Int32} (h : ¬ (ic N x = true ∧ ic N y = true ∧ x ≠ y)) : prC N x y = 1 := if_neg h
/-- a value of two candidates -/
def at2 (f : Nat → Nat → Int32) (x y : Int32) : Int32 := f x.toNatClampNeg y.toNatClampNeg
theorem at2_n {f : Nat → Nat → Int32} {a b : Nat} (ha : a < 2 ^ 31) (hb : b < 2 ^ 31) : at2 f (nI a) (nI b) = f a b := by
  unfold at2
  rw [nI_clamp ha, nI_clamp hb]
theorem Rv_at {n : Nat} {f : Nat → Nat → Int32} {a b : Nat} {v : Int32} (h : n = 0) (ha : a < 2 ^ 31) (hb : b < 2 ^ 31) (e : f a b = v) : Rv n (at2 f (nI a) (nI b)) 0 (some (.int v)) := by
  subst e
  rw [at2_n ha hb]
  exact Rv_0 h
def at1 (f : Nat → Int32) (x : Int32) : Int32 := f x.toNatClampNeg
theorem at1_n {f : Nat → Int32} {a : Nat} (ha : a < 2 ^ 31) : at1 f (nI a) = f a := by
  unfold at1
  rw [nI_clamp ha]
theorem Rv_at1 {n : Nat} {f : Nat → Int32} {a : Nat} {v : Int32} (h : n = 0) (ha : a < 2 ^ 31) (e : f a = v) : Rv n (at1 f (nI a)) 0 (some (.int v)) := by
  subst e
  rw [at1_n ha]
  exact Rv_0 h
theorem of_all.ps {c : Nat → ClassId} {ad : Nat → Nat} {M M' : bj_M} {N op : Nat} {se : Bool} {dw sg sz : Nat → Nat} {rk : Nat → Nat → Int32} {tm : Nat → Nat → Nat} {f : Nat → Nat → Nat} (h : of_all c ad M N op se dw sg sz rk tm) (h1 : pa_ok c ad M' 59 N f) (hf : pa_fr 59 N M M') : of_st c ad M N op se dw sg sz rk tm M' := ⟨h.in (fun q hq => hf q (by have := h.1.2.1; omega)) (h.2.2.paths h.1.2.1 h1 hf), fun q hq => hf q (by have := h.1.2.1; omega)⟩
variable (l : Launch) (D : va_G) (c : Nat → ClassId) (ad : Nat → Nat) (M : bj_M)
set_option maxRecDepth 100000 in
set_option maxHeartbeats 4000000 in
/-- tie -/
theorem t_Of_tie (htr : l.stackTraces = false) {N op : Nat} {se : Bool} {dw sg sz : Nat → Nat} {rk : Nat → Nat → Int32} {tm : Nat → Nat → Nat} (hA : of_all c ad M N op se dw sg sz rk tm) {x1 x2 : Int32} : bj_T (bw_G l D c) Y_Of_tie 8 (0, 0, 1, 6) ad (q_pub [xA, xS] (Ru (tieC N op se x1 x2)) (of_st c ad M N op se (tieD N dw x1 x2) sg sz rk tm) (of_st c ad M N op se dw sg sz rk tm)) [.ref (ad 0), .int x1, .int x2] M := by
  show bj_S _ _ _ _ _ _ 0 0 0 [some (.ref (ad 0)), some (.int x1), some (.int x2)] [] M
  obtain ⟨⟨hN1, hN, hop, ⟨ps, hpm⟩, hbt, hun⟩, ⟨hO, hd, hB, hb, hC⟩, hsc⟩ := id hA
  have hP : ∀ a b, a < N → b < N → (fun a b => nI (psum sg sz rk tm 12 a b)) a b = nI (psum sg sz rk tm 12 a b) := fun _ _ _ _ => rfl
  have hp : ∀ a b, a < N → b < N → psum sg sz rk tm 12 a b < 2 ^ 31 := fun a b _ _ => hA.pl 12 a b
  refine bj_aload_n d_Of_tie_0 rfl rfl ?_
  refine bj_iload_n d_Of_tie_1 rfl rfl ?_
  refine bj_cv sv_Of_57 d_Of_tie_2 (t_Of_needCandidate l D c ad M htr hO hN) rfl rfl (by decide) (by decide) (by decide) (Nat.le_of_ble_eq_true rfl) rfl hO rfl rfl (fun v1 N1 hq1 => ?_) (fun v1 N1 hq1 => ?_)
  rotate_left
  · obtain ⟨rfl, rfl, h1⟩ := hq1
    exact bj_out (fun x hx => nomatch hx) (by decide) (by decide) ⟨1, by decide, rfl, ⟨(if_neg (fun q => h1 q.1)).symm, rfl⟩, ⟨hA, of_fr.rf⟩⟩
  obtain ⟨rfl, rfl, h1⟩ := hq1
  show bj_S (bw_G l D c) Y_Of_tie 8 (0, 0, 1, 6) ad (q_pub [xA, xS] (Ru (tieC N op se x1 x2)) (of_st c ad M N op se (tieD N dw x1 x2) sg sz rk tm) (of_st c ad M N op se dw sg sz rk tm)) 0 0 5 [some (.ref (ad 0)), some (.int x1), some (.int x2)] [] M
  refine bj_aload_n d_Of_tie_5 rfl rfl ?_
  refine bj_iload_n d_Of_tie_6 rfl rfl ?_
  refine bj_cvF sv_Of_60 d_Of_tie_7 (t_Of_isCandidate l D c ad M hO hN) rfl rfl (by decide) (by decide) (by decide) (Nat.le_of_ble_eq_true rfl) rfl hO rfl rfl ?_
  refine bj_if_ne (tgt := 23) d_Of_tie_10 (by decide) (fun h10 => ?_) (fun h10 => ?_)
  · have h2 := bt_nn h10
    refine bj_aload_n d_Of_tie_23 rfl rfl ?_
    refine bj_cv sv_Of_71 d_Of_tie_24 (t_Of_needUnsealed l D c ad M htr hO hN) rfl rfl (by decide) (by decide) (by decide) (Nat.le_of_ble_eq_true rfl) rfl hO rfl rfl (fun v2 N2 hq2 => ?_) (fun v2 N2 hq2 => ?_)
    rotate_left
    · obtain ⟨rfl, rfl, h3⟩ := hq2
      exact bj_out (fun x hx => nomatch hx) (by decide) (by decide) ⟨2, by decide, rfl, ⟨((if_pos ⟨h1, h2⟩).trans (if_pos (Or.inl (by cases se with
        | true => rfl
        | false => exact absurd rfl h3)))).symm, rfl⟩, ⟨hA, of_fr.rf⟩⟩
    obtain ⟨rfl, rfl, h3⟩ := hq2
    show bj_S (bw_G l D c) Y_Of_tie 8 (0, 0, 1, 6) ad (q_pub [xA, xS] (Ru (tieC N op se x1 x2)) (of_st c ad M N op se (tieD N dw x1 x2) sg sz rk tm) (of_st c ad M N op se dw sg sz rk tm)) 0 0 27 [some (.ref (ad 0)), some (.int x1), some (.int x2)] [] M
    refine bj_aload_n d_Of_tie_27 rfl rfl ?_
    refine bj_get d_Of_tie_28 in_Of rfl (by decide : 3 < 9) wf_Of_24 rfl hO rfl ?_
    refine bj_if_leN (tgt := 44) d_Of_tie_31 (by decide) (by omega) (fun h31 => ?_) (fun h31 => ?_)
    · refine bj_aload_n d_Of_tie_44 rfl rfl ?_
      refine bj_iload_n d_Of_tie_45 rfl rfl ?_
      refine bj_iload_n d_Of_tie_46 rfl rfl ?_
      obtain ⟨a, ha, rfl⟩ := ic_t (by omega) h1
      obtain ⟨b, hb9, rfl⟩ := ic_t (by omega) h2
      have hz : tieC N op se (nI a) (nI b) = 0 := by unfold tieC; rw [if_pos ⟨h1, h2⟩, if_neg (by rw [h3]; simp; omega)]
      refine bj_cvR sv_Of_79 d_Of_tie_47 (t_Of_moveInDrawnOrder l D c ad M hO hN hd hpm ha hb9) rfl rfl (by decide) (by decide) (by decide) (Nat.le_of_ble_eq_true rfl) rfl hO rfl rfl (fun v3 N3 hq3 => ?_)
      obtain ⟨rfl, hD2, hE2⟩ := hq3
      show bj_S (bw_G l D c) Y_Of_tie 8 (0, 0, 1, 6) ad (q_pub [xA, xS] (Ru (tieC N op se (nI a) (nI b))) (of_st c ad M N op se (tieD N dw (nI a) (nI b)) sg sz rk tm) (of_st c ad M N op se dw sg sz rk tm)) 0 0 50 [some (.ref (ad 0)), some (.int (nI a)), some (.int (nI b))] [] N3
      have hnew : of_all c ad N3 N op se (tieD N dw (nI a) (nI b)) sg sz rk tm := by
        rw [tieD_n (by omega) (by omega), plc_eq hpm ha]
        exact hA.draw (hpm.2 a ha).1 hb9 hD2 hE2
      exact bj_vret d_Of_tie_50 rfl (Nat.le_refl _) (Nat.le_refl _) ⟨⟨hz.symm, rfl⟩, hnew, fun q hq => hE2 q (by omega)⟩
    · exact bj_throw (names := xN) d_Of_tie_34 d_Of_tie_37 d_Of_tie_38 d_Of_tie_40 d_Of_tie_43 htr (by decide) (by decide) (by decide) (by decide) wc_Of_74 wi_IllegalStateException wt_Of_76 wo_Of_78 (fun x hx => nomatch hx) (by decide) (by decide) (Nat.le_of_ble_eq_true rfl) ⟨2, by decide, rfl, ⟨((if_pos ⟨h1, h2⟩).trans (if_pos (Or.inr h31))).symm, rfl⟩, ⟨hA, of_fr.rf⟩⟩
  · exact bj_throw (names := xN) d_Of_tie_13 d_Of_tie_16 d_Of_tie_17 d_Of_tie_19 d_Of_tie_22 htr (by decide) (by decide) (by decide) (by decide) wc_Of_64 wi_IllegalArgumentException wt_Of_66 wo_Of_68 (fun x hx => nomatch hx) (by decide) (by decide) (Nat.le_of_ble_eq_true rfl) ⟨1, by decide, rfl, ⟨(if_neg (fun q => by rw [bt_n0.mp h10] at q; cases q.2)).symm, rfl⟩, ⟨hA, of_fr.rf⟩⟩
set_option maxRecDepth 100000 in
set_option maxHeartbeats 4000000 in
/-- drawn -/
theorem t_Of_drawn (htr : l.stackTraces = false) {N op : Nat} {se : Bool} {dw sg sz : Nat → Nat} {rk : Nat → Nat → Int32} {tm : Nat → Nat → Nat} (hA : of_all c ad M N op se dw sg sz rk tm) {x1 : Int32} : bj_T (bw_G l D c) Y_Of_drawn 8 (0, 0, 1, 6) ad (q_pub [xI] (Rv (icC (ic N x1)) (at1 (fun i => nI (dw i)) x1)) (of_st c ad M N op se dw sg sz rk tm) (of_st c ad M N op se dw sg sz rk tm)) [.ref (ad 0), .int x1] M := by
  show bj_S _ _ _ _ _ _ 0 0 0 [some (.ref (ad 0)), some (.int x1)] [] M
  obtain ⟨⟨hN1, hN, hop, ⟨ps, hpm⟩, hbt, hun⟩, ⟨hO, hd, hB, hb, hC⟩, hsc⟩ := id hA
  have hP : ∀ a b, a < N → b < N → (fun a b => nI (psum sg sz rk tm 12 a b)) a b = nI (psum sg sz rk tm 12 a b) := fun _ _ _ _ => rfl
  have hp : ∀ a b, a < N → b < N → psum sg sz rk tm 12 a b < 2 ^ 31 := fun a b _ _ => hA.pl 12 a b
  refine bj_aload_n d_Of_drawn_0 rfl rfl ?_
  refine bj_iload_n d_Of_drawn_1 rfl rfl ?_
  refine bj_cvF sv_Of_60 d_Of_drawn_2 (t_Of_isCandidate l D c ad M hO hN) rfl rfl (by decide) (by decide) (by decide) (Nat.le_of_ble_eq_true rfl) rfl hO rfl rfl ?_
  refine bj_if_ne (tgt := 18) d_Of_drawn_5 (by decide) (fun h5 => ?_) (fun h5 => ?_)
  · have h1 := bt_nn h5
    obtain ⟨a, ha, rfl⟩ := ic_t (by omega) h1
    refine bj_aload_n d_Of_drawn_18 rfl rfl ?_
    refine bj_get d_Of_drawn_19 in_Of rfl (by decide : 1 < 9) wf_Of_13 rfl hO rfl ?_
    refine bj_iload_n d_Of_drawn_22 rfl rfl ?_
    refine bv_iald d_Of_drawn_23 0 rfl hd (by omega) (by omega) rfl ?_
    exact bj_iret d_Of_drawn_24 rfl rfl (Nat.le_refl _) (Nat.le_refl _) ⟨Rv_at1 (icC_t h1) (by omega) rfl, ⟨hA, of_fr.rf⟩⟩
  · exact bj_throw (names := xN) d_Of_drawn_8 d_Of_drawn_11 d_Of_drawn_12 d_Of_drawn_14 d_Of_drawn_17 htr (by decide) (by decide) (by decide) (by decide) wc_Of_83 wi_IndexOutOfBoundsException wt_Of_66 wo_Of_85 (fun x hx => nomatch hx) (by decide) (by decide) (Nat.le_of_ble_eq_true rfl) ⟨1, by decide, rfl, Rv_n (icC_f (fun q => by rw [bt_n0.mp h5] at q; cases q)) (by decide), ⟨hA, of_fr.rf⟩⟩
set_option maxRecDepth 100000 in
set_option maxHeartbeats 4000000 in
/-- open -/
theorem t_Of_open (htr : l.stackTraces = false) {N op : Nat} {se : Bool} {dw sg sz : Nat → Nat} {rk : Nat → Nat → Int32} {tm : Nat → Nat → Nat} (hA : of_all c ad M N op se dw sg sz rk tm)  : bj_T (bw_G l D c) Y_Of_open 8 (0, 0, 1, 6) ad (q_pub [xS] (Rv (if se = true ∨ op = 12 then 1 else 0) (nI op)) (of_st c ad M N (op + 1) se dw sg sz rk tm) (of_st c ad M N op se dw sg sz rk tm)) [.ref (ad 0)] M := by
  show bj_S _ _ _ _ _ _ 0 0 0 [some (.ref (ad 0))] [] M
  obtain ⟨⟨hN1, hN, hop, ⟨ps, hpm⟩, hbt, hun⟩, ⟨hO, hd, hB, hb, hC⟩, hsc⟩ := id hA
  have hP : ∀ a b, a < N → b < N → (fun a b => nI (psum sg sz rk tm 12 a b)) a b = nI (psum sg sz rk tm 12 a b) := fun _ _ _ _ => rfl
  have hp : ∀ a b, a < N → b < N → psum sg sz rk tm 12 a b < 2 ^ 31 := fun a b _ _ => hA.pl 12 a b
  refine bj_aload_n d_Of_open_0 rfl rfl ?_
  refine bj_cv sv_Of_71 d_Of_open_1 (t_Of_needUnsealed l D c ad M htr hO hN) rfl rfl (by decide) (by decide) (by decide) (Nat.le_of_ble_eq_true rfl) rfl hO rfl rfl (fun v1 N1 hq1 => ?_) (fun v1 N1 hq1 => ?_)
  rotate_left
  · obtain ⟨rfl, rfl, h3⟩ := hq1
    exact bj_out (fun x hx => nomatch hx) (by decide) (by decide) ⟨1, by decide, rfl, Rv_n (if_pos (Or.inl (by cases se with
      | true => rfl
      | false => exact absurd rfl h3))) (by decide), ⟨hA, of_fr.rf⟩⟩
  obtain ⟨rfl, rfl, h3⟩ := hq1
  show bj_S (bw_G l D c) Y_Of_open 8 (0, 0, 1, 6) ad (q_pub [xS] (Rv (if se = true ∨ op = 12 then 1 else 0) (nI op)) (of_st c ad M N (op + 1) se dw sg sz rk tm) (of_st c ad M N op se dw sg sz rk tm)) 0 0 4 [some (.ref (ad 0))] [] M
  refine bj_aload_n d_Of_open_4 rfl rfl ?_
  refine bj_get d_Of_open_5 in_Of rfl (by decide : 3 < 9) wf_Of_24 rfl hO rfl ?_
  refine bj_bipush (v := (nI 12)) d_Of_open_8 (by decide) ?_
  refine bj_icmp_ltN (tgt := 23) d_Of_open_10 (by decide) (by omega) (by omega) (fun h10 => ?_) (fun h10 => ?_)
  · refine bj_aload_n d_Of_open_23 rfl rfl ?_
    refine bj_dup d_Of_open_24 rfl ?_
    refine bj_get d_Of_open_25 in_Of rfl (by decide : 3 < 9) wf_Of_24 rfl hO rfl ?_
    refine bj_iconst (v := (nI 1)) d_Of_open_28 (by decide) ?_
    refine bj_iadd (v := (nI (op + 1))) d_Of_open_29 (nI_add _ _) ?_
    refine bj_put d_Of_open_30 in_Of ok_Of nm_Of rfl (by decide : 3 < 9) wf_Of_24 rfl rfl rfl rfl rfl (Nat.le_of_ble_eq_true rfl) hO ?_
    have hnew : of_all c ad (va_up M 0 (some (.inr (4, of_F ad N (op + 1) se)))) N (op + 1) se dw sg sz rk tm := hA.head (by omega) (by omega) (va_up_self _ _ _) (fun q hq => va_up_ne _ _ hq)
    have hf : of_fr M (va_up M 0 (some (.inr (4, of_F ad N (op + 1) se)))) := fun q hq => va_up_ne _ _ (by omega)
    show bj_S _ _ _ _ _ _ 0 0 _ _ [] (va_up M 0 (some (.inr (4, of_F ad N (op + 1) se))))
    generalize va_up M 0 (some (.inr (4, of_F ad N (op + 1) se))) = M7 at hnew hf ⊢
    have hO7 := hnew.2.1.1
    refine bj_aload_n d_Of_open_33 rfl rfl ?_
    refine bj_get d_Of_open_34 in_Of rfl (by decide : 3 < 9) wf_Of_24 rfl hO7 rfl ?_
    refine bj_iconst (v := (nI 1)) d_Of_open_37 (by decide) ?_
    refine bj_isub (v := (nI op)) d_Of_open_38 (pk_sub (by omega)) ?_
    exact bj_iret d_Of_open_39 rfl rfl (Nat.le_refl _) (Nat.le_refl _) ⟨Rv_0 (if_neg (by rw [h3]; simp; omega)), hnew, hf⟩
  · exact bj_throw (names := xN) d_Of_open_13 d_Of_open_16 d_Of_open_17 d_Of_open_19 d_Of_open_22 htr (by decide) (by decide) (by decide) (by decide) wc_Of_74 wi_IllegalStateException wt_Of_86 wo_Of_78 (fun x hx => nomatch hx) (by decide) (by decide) (Nat.le_of_ble_eq_true rfl) ⟨1, by decide, rfl, Rv_n (if_pos (Or.inr (by omega))) (by decide), ⟨hA, of_fr.rf⟩⟩
set_option maxRecDepth 100000 in
set_option maxHeartbeats 4000000 in
/-- state -/
theorem t_Of_state (htr : l.stackTraces = false) {N op : Nat} {se : Bool} {dw sg sz : Nat → Nat} {rk : Nat → Nat → Int32} {tm : Nat → Nat → Nat} (hA : of_all c ad M N op se dw sg sz rk tm) {x1 : Int32} : bj_T (bw_G l D c) Y_Of_state 8 (0, 0, 1, 6) ad (q_pub [xA] (Rv (icC (ic op x1)) (at1 (fun i => nI (sg i)) x1)) (of_st c ad M N op se dw sg sz rk tm) (of_st c ad M N op se dw sg sz rk tm)) [.ref (ad 0), .int x1] M := by
  show bj_S _ _ _ _ _ _ 0 0 0 [some (.ref (ad 0)), some (.int x1)] [] M
  obtain ⟨⟨hN1, hN, hop, ⟨ps, hpm⟩, hbt, hun⟩, ⟨hO, hd, hB, hb, hC⟩, hsc⟩ := id hA
  have hP : ∀ a b, a < N → b < N → (fun a b => nI (psum sg sz rk tm 12 a b)) a b = nI (psum sg sz rk tm 12 a b) := fun _ _ _ _ => rfl
  have hp : ∀ a b, a < N → b < N → psum sg sz rk tm 12 a b < 2 ^ 31 := fun a b _ _ => hA.pl 12 a b
  refine bj_aload_n d_Of_state_0 rfl rfl ?_
  refine bj_iload_n d_Of_state_1 rfl rfl ?_
  refine bj_cv sv_Of_88 d_Of_state_2 (t_Of_needBatch l D c ad M htr hO hN) rfl rfl (by decide) (by decide) (by decide) (Nat.le_of_ble_eq_true rfl) rfl hO rfl rfl (fun v1 N1 hq1 => ?_) (fun v1 N1 hq1 => ?_)
  rotate_left
  · obtain ⟨rfl, rfl, h1⟩ := hq1
    exact bj_out (fun x hx => nomatch hx) (by decide) (by decide) ⟨1, by decide, rfl, Rv_n (icC_f h1) (by decide), ⟨hA, of_fr.rf⟩⟩
  obtain ⟨rfl, rfl, h1⟩ := hq1
  show bj_S (bw_G l D c) Y_Of_state 8 (0, 0, 1, 6) ad (q_pub [xA] (Rv (icC (ic op x1)) (at1 (fun i => nI (sg i)) x1)) (of_st c ad M N op se dw sg sz rk tm) (of_st c ad M N op se dw sg sz rk tm)) 0 0 5 [some (.ref (ad 0)), some (.int x1)] [] M
  obtain ⟨a, ha, rfl⟩ := ic_t (by omega) h1
  refine bj_aload_n d_Of_state_5 rfl rfl ?_
  refine bj_get d_Of_state_6 in_Of rfl (by decide : 2 < 9) wf_Of_19 rfl hO rfl ?_
  refine bj_iload_n d_Of_state_9 rfl rfl ?_
  refine bv_aald d_Of_state_10 3 rfl rfl hB (by omega) (by omega) ?_
  refine bj_getN d_Of_state_11 in_Ba rfl (by decide : 0 < 4) wf_Of_96 rfl (hb a (by omega)).1 rfl ?_
  exact bj_iret d_Of_state_14 rfl rfl (Nat.le_refl _) (Nat.le_refl _) ⟨Rv_at1 (icC_t h1) (by omega) rfl, ⟨hA, of_fr.rf⟩⟩
set_option maxRecDepth 100000 in
set_option maxHeartbeats 4000000 in
/-- voters -/
theorem t_Of_voters (htr : l.stackTraces = false) {N op : Nat} {se : Bool} {dw sg sz : Nat → Nat} {rk : Nat → Nat → Int32} {tm : Nat → Nat → Nat} (hA : of_all c ad M N op se dw sg sz rk tm)  : bj_T (bw_G l D c) Y_Of_voters 8 (0, 0, 1, 6) ad (q_pub [] (Rv 0 (nI (vsum sg sz tm))) (of_st c ad M N op se dw sg sz rk tm) (of_st c ad M N op se dw sg sz rk tm)) [.ref (ad 0)] M := by
  show bj_S _ _ _ _ _ _ 0 0 0 [some (.ref (ad 0))] [] M
  obtain ⟨⟨hN1, hN, hop, ⟨ps, hpm⟩, hbt, hun⟩, ⟨hO, hd, hB, hb, hC⟩, hsc⟩ := id hA
  have hP : ∀ a b, a < N → b < N → (fun a b => nI (psum sg sz rk tm 12 a b)) a b = nI (psum sg sz rk tm 12 a b) := fun _ _ _ _ => rfl
  have hp : ∀ a b, a < N → b < N → psum sg sz rk tm 12 a b < 2 ^ 31 := fun a b _ _ => hA.pl 12 a b
  refine bj_aload_n d_Of_voters_0 rfl rfl ?_
  refine bj_get d_Of_voters_1 in_Of rfl (by decide : 5 < 9) wf_Of_36 rfl hO rfl ?_
  refine bj_getN d_Of_voters_4 in_Co rfl (by decide : 1 < 3) wf_Of_135 rfl hC.1 rfl ?_
  exact bj_iret d_Of_voters_7 rfl rfl (Nat.le_refl _) (Nat.le_refl _) ⟨Rv_0 rfl, ⟨hA, of_fr.rf⟩⟩
set_option maxRecDepth 100000 in
set_option maxHeartbeats 4000000 in
/-- prefer -/
theorem t_Of_prefer (htr : l.stackTraces = false) {N op : Nat} {se : Bool} {dw sg sz : Nat → Nat} {rk : Nat → Nat → Int32} {tm : Nat → Nat → Nat} (hA : of_all c ad M N op se dw sg sz rk tm) {x1 x2 : Int32} : bj_T (bw_G l D c) Y_Of_prefer 8 (0, 0, 1, 6) ad (q_pub [xA] (Rv (prC N x1 x2) (at2 (fun a b => nI (psum sg sz rk tm 12 a b)) x1 x2)) (of_st c ad M N op se dw sg sz rk tm) (of_st c ad M N op se dw sg sz rk tm)) [.ref (ad 0), .int x1, .int x2] M := by
  show bj_S _ _ _ _ _ _ 0 0 0 [some (.ref (ad 0)), some (.int x1), some (.int x2)] [] M
  obtain ⟨⟨hN1, hN, hop, ⟨ps, hpm⟩, hbt, hun⟩, ⟨hO, hd, hB, hb, hC⟩, hsc⟩ := id hA
  have hP : ∀ a b, a < N → b < N → (fun a b => nI (psum sg sz rk tm 12 a b)) a b = nI (psum sg sz rk tm 12 a b) := fun _ _ _ _ => rfl
  have hp : ∀ a b, a < N → b < N → psum sg sz rk tm 12 a b < 2 ^ 31 := fun a b _ _ => hA.pl 12 a b
  refine bj_aload_n d_Of_prefer_0 rfl rfl ?_
  refine bj_iload_n d_Of_prefer_1 rfl rfl ?_
  refine bj_iload_n d_Of_prefer_2 rfl rfl ?_
  refine bj_cv sv_Of_138 d_Of_prefer_3 (t_Of_needPair l D c ad M htr hO hN) rfl rfl (by decide) (by decide) (by decide) (Nat.le_of_ble_eq_true rfl) rfl hO rfl rfl (fun v1 N1 hq1 => ?_) (fun v1 N1 hq1 => ?_)
  rotate_left
  · obtain ⟨rfl, rfl, h1⟩ := hq1
    exact bj_out (fun x hx => nomatch hx) (by decide) (by decide) ⟨1, by decide, rfl, Rv_n (prC_f h1) (by decide), ⟨hA, of_fr.rf⟩⟩
  obtain ⟨rfl, rfl, h1⟩ := hq1
  show bj_S (bw_G l D c) Y_Of_prefer 8 (0, 0, 1, 6) ad (q_pub [xA] (Rv (prC N x1 x2) (at2 (fun a b => nI (psum sg sz rk tm 12 a b)) x1 x2)) (of_st c ad M N op se dw sg sz rk tm) (of_st c ad M N op se dw sg sz rk tm)) 0 0 6 [some (.ref (ad 0)), some (.int x1), some (.int x2)] [] M
  obtain ⟨a, ha, rfl⟩ := ic_t (by omega) h1.1
  obtain ⟨b, hb9, rfl⟩ := ic_t (by omega) h1.2.1
  have hz := prC_t h1
  have hab : a ≠ b := fun q => h1.2.2 (by rw [q])
  refine bj_aload_n d_Of_prefer_6 rfl rfl ?_
  refine bj_get d_Of_prefer_7 in_Of rfl (by decide : 5 < 9) wf_Of_36 rfl hO rfl ?_
  refine bj_getN d_Of_prefer_10 in_Co rfl (by decide : 2 < 3) wf_Of_141 rfl hC.1 rfl ?_
  refine bj_iload_n d_Of_prefer_13 rfl rfl ?_
  refine bv_aald d_Of_prefer_14 4 rfl rfl hC.2.1 (by omega) (by omega) ?_
  refine bj_iload_n d_Of_prefer_15 rfl rfl ?_
  refine bv_iald d_Of_prefer_16 0 rfl (hC.2.2 a ha) (by omega) (by omega) rfl ?_
  exact bj_iret d_Of_prefer_17 rfl rfl (Nat.le_refl _) (Nat.le_refl _) ⟨Rv_at hz (by omega) (by omega) rfl, ⟨hA, of_fr.rf⟩⟩
set_option maxRecDepth 100000 in
set_option maxHeartbeats 4000000 in
/-- strength -/
theorem t_Of_strength (htr : l.stackTraces = false) {N op : Nat} {se : Bool} {dw sg sz : Nat → Nat} {rk : Nat → Nat → Int32} {tm : Nat → Nat → Nat} (hA : of_all c ad M N op se dw sg sz rk tm) {x1 x2 : Int32} : bj_T (bw_G l D c) Y_Of_strength 8 (0, 0, 1, 6) ad (q_pub [xA] (Rv (prC N x1 x2) (at2 (fun a b => nI (mg_F (drn (psum sg sz rk tm 12)) N a b)) x1 x2)) (of_st c ad M N op se dw sg sz rk tm) (of_st c ad M N op se dw sg sz rk tm)) [.ref (ad 0), .int x1, .int x2] M := by
  show bj_S _ _ _ _ _ _ 0 0 0 [some (.ref (ad 0)), some (.int x1), some (.int x2)] [] M
  obtain ⟨⟨hN1, hN, hop, ⟨ps, hpm⟩, hbt, hun⟩, ⟨hO, hd, hB, hb, hC⟩, hsc⟩ := id hA
  have hP : ∀ a b, a < N → b < N → (fun a b => nI (psum sg sz rk tm 12 a b)) a b = nI (psum sg sz rk tm 12 a b) := fun _ _ _ _ => rfl
  have hp : ∀ a b, a < N → b < N → psum sg sz rk tm 12 a b < 2 ^ 31 := fun a b _ _ => hA.pl 12 a b
  obtain ⟨f0, hA0⟩ := hsc.2.1
  refine bj_aload_n d_Of_strength_0 rfl rfl ?_
  refine bj_iload_n d_Of_strength_1 rfl rfl ?_
  refine bj_iload_n d_Of_strength_2 rfl rfl ?_
  refine bj_cv sv_Of_138 d_Of_strength_3 (t_Of_needPair l D c ad M htr hO hN) rfl rfl (by decide) (by decide) (by decide) (Nat.le_of_ble_eq_true rfl) rfl hO rfl rfl (fun v1 N1 hq1 => ?_) (fun v1 N1 hq1 => ?_)
  rotate_left
  · obtain ⟨rfl, rfl, h1⟩ := hq1
    exact bj_out (fun x hx => nomatch hx) (by decide) (by decide) ⟨1, by decide, rfl, Rv_n (prC_f h1) (by decide), ⟨hA, of_fr.rf⟩⟩
  obtain ⟨rfl, rfl, h1⟩ := hq1
  show bj_S (bw_G l D c) Y_Of_strength 8 (0, 0, 1, 6) ad (q_pub [xA] (Rv (prC N x1 x2) (at2 (fun a b => nI (mg_F (drn (psum sg sz rk tm 12)) N a b)) x1 x2)) (of_st c ad M N op se dw sg sz rk tm) (of_st c ad M N op se dw sg sz rk tm)) 0 0 6 [some (.ref (ad 0)), some (.int x1), some (.int x2)] [] M
  obtain ⟨a, ha, rfl⟩ := ic_t (by omega) h1.1
  obtain ⟨b, hb9, rfl⟩ := ic_t (by omega) h1.2.1
  have hz := prC_t h1
  have hab : a ≠ b := fun q => h1.2.2 (by rw [q])
  refine bj_aload_n d_Of_strength_6 rfl rfl ?_
  refine bj_get d_Of_strength_7 in_Of rfl (by decide : 7 < 9) wf_Of_46 rfl hO rfl ?_
  refine bj_aload_n d_Of_strength_10 rfl rfl ?_
  refine bj_get d_Of_strength_11 in_Of rfl (by decide : 5 < 9) wf_Of_36 rfl hO rfl ?_
  refine bj_cvR sv_Of_145 d_Of_strength_14 (t_Pa_weigh l D c ad M hA0 hN hC hP hp (by omega)) rfl rfl (by decide) (by decide) (by decide) (Nat.le_of_ble_eq_true rfl) rfl hA0.1 rfl rfl (fun v2 N2 hq2 => ?_)
  obtain ⟨rfl, hA2, hf2⟩ := hq2
  show bj_S (bw_G l D c) Y_Of_strength 8 (0, 0, 1, 6) ad (q_pub [xA] (Rv (prC N (nI a) (nI b)) (at2 (fun a b => nI (mg_F (drn (psum sg sz rk tm 12)) N a b)) (nI a) (nI b))) (of_st c ad M N op se dw sg sz rk tm) (of_st c ad M N op se dw sg sz rk tm)) 0 0 17 [some (.ref (ad 0)), some (.int (nI a)), some (.int (nI b))] [] N2
  have hO2 := (hf2 0 (by omega)).trans hO
  have hst := hA.ps hA2 hf2
  have hC2 := hst.1.2.1.2.2.2.2
  refine bj_aload_n d_Of_strength_17 rfl rfl ?_
  refine bj_get d_Of_strength_18 in_Of rfl (by decide : 7 < 9) wf_Of_46 rfl hO2 rfl ?_
  refine bj_getN d_Of_strength_21 in_Pa rfl (by decide : 1 < 3) wf_Of_149 rfl hA2.1 rfl ?_
  refine bj_iload_n d_Of_strength_24 rfl rfl ?_
  refine bv_aald d_Of_strength_25 4 rfl rfl hA2.2.1 (by omega) (by omega) ?_
  refine bj_iload_n d_Of_strength_26 rfl rfl ?_
  refine bv_iald d_Of_strength_27 0 rfl (hA2.2.2.1 a ha) (by omega) (by omega) rfl ?_
  exact bj_iret d_Of_strength_28 rfl rfl (Nat.le_refl _) (Nat.le_refl _) ⟨Rv_at hz (by omega) (by omega) rfl, hst⟩
end O4
end
