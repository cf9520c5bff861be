/-! names, words, sites: written by gen/names.py out of the task's papers -/
def T_Ba : u_T := fun k => match k with
  | 0 => ("BeatPathOffice$Batch", "stage", "I", false)
  | 1 => ("BeatPathOffice$Batch", "size", "I", false)
  | 2 => ("BeatPathOffice$Batch", "rankings", "[I", true)
  | _ => ("BeatPathOffice$Batch", "times", "[I", true)
def ty_Ba : Nat → FieldType := fun k => match k with
  | 0 => .int
  | 1 => .int
  | 2 => .array .int
  | _ => .array .int
theorem nm_Ba : ∀ a, a < 4 → ∀ b, b < 4 → a ≠ b → (T_Ba a).2.1 ≠ (T_Ba b).2.1 := by decide +kernel
theorem ok_Ba : ∀ k, k < 4 → parseFieldDescriptor (T_Ba k).2.2.1 = some (ty_Ba k) := by decide +kernel
def T_Pa : u_T := fun k => match k with
  | 0 => ("BeatPathOffice$BeatPaths", "n", "I", true)
  | 1 => ("BeatPathOffice$BeatPaths", "strongest", "[[I", true)
  | _ => ("BeatPathOffice$BeatPaths", "steps", "[I", true)
def ty_Pa : Nat → FieldType := fun k => match k with
  | 0 => .int
  | 1 => .array (.array .int)
  | _ => .array .int
theorem nm_Pa : ∀ a, a < 3 → ∀ b, b < 3 → a ≠ b → (T_Pa a).2.1 ≠ (T_Pa b).2.1 := by decide +kernel
theorem ok_Pa : ∀ k, k < 3 → parseFieldDescriptor (T_Pa k).2.2.1 = some (ty_Pa k) := by decide +kernel
def T_Co : u_T := fun k => match k with
  | 0 => ("BeatPathOffice$Count", "n", "I", true)
  | 1 => ("BeatPathOffice$Count", "voterSum", "I", false)
  | _ => ("BeatPathOffice$Count", "preferring", "[[I", true)
def ty_Co : Nat → FieldType := fun k => match k with
  | 0 => .int
  | 1 => .int
  | _ => .array (.array .int)
theorem nm_Co : ∀ a, a < 3 → ∀ b, b < 3 → a ≠ b → (T_Co a).2.1 ≠ (T_Co b).2.1 := by decide +kernel
theorem ok_Co : ∀ k, k < 3 → parseFieldDescriptor (T_Co k).2.2.1 = some (ty_Co k) := by decide +kernel
def T_Lo : u_T := fun k => match k with
  | 0 => ("BeatPathOffice$Locks", "n", "I", true)
  | 1 => ("BeatPathOffice$Locks", "lockedOver", "[I", true)
  | 2 => ("BeatPathOffice$Locks", "comesTo", "[I", true)
  | 3 => ("BeatPathOffice$Locks", "upper", "[I", true)
  | 4 => ("BeatPathOffice$Locks", "lower", "[I", true)
  | _ => ("BeatPathOffice$Locks", "pairs", "I", false)
def ty_Lo : Nat → FieldType := fun k => match k with
  | 0 => .int
  | 1 => .array .int
  | 2 => .array .int
  | 3 => .array .int
  | 4 => .array .int
  | _ => .int
theorem nm_Lo : ∀ a, a < 6 → ∀ b, b < 6 → a ≠ b → (T_Lo a).2.1 ≠ (T_Lo b).2.1 := by decide +kernel
theorem ok_Lo : ∀ k, k < 6 → parseFieldDescriptor (T_Lo k).2.2.1 = some (ty_Lo k) := by decide +kernel
def T_Of : u_T := fun k => match k with
  | 0 => ("BeatPathOffice", "candidates", "I", true)
  | 1 => ("BeatPathOffice", "drawnOrder", "[I", true)
  | 2 => ("BeatPathOffice", "batches", "[LBeatPathOffice$Batch;", true)
  | 3 => ("BeatPathOffice", "opened", "I", false)
  | 4 => ("BeatPathOffice", "sealed", "Z", false)
  | 5 => ("BeatPathOffice", "count", "LBeatPathOffice$Count;", true)
  | 6 => ("BeatPathOffice", "trial", "LBeatPathOffice$Count;", true)
  | 7 => ("BeatPathOffice", "paths", "LBeatPathOffice$BeatPaths;", true)
  | _ => ("BeatPathOffice", "locks", "LBeatPathOffice$Locks;", true)
def ty_Of : Nat → FieldType := fun k => match k with
  | 0 => .int
  | 1 => .array .int
  | 2 => .array (.object "BeatPathOffice$Batch")
  | 3 => .int
  | 4 => .boolean
  | 5 => .object "BeatPathOffice$Count"
  | 6 => .object "BeatPathOffice$Count"
  | 7 => .object "BeatPathOffice$BeatPaths"
  | _ => .object "BeatPathOffice$Locks"
theorem nm_Of : ∀ a, a < 9 → ∀ b, b < 9 → a ≠ b → (T_Of a).2.1 ≠ (T_Of b).2.1 := by decide +kernel
theorem ok_Of : ∀ k, k < 9 → parseFieldDescriptor (T_Of k).2.2.1 = some (ty_Of k) := by decide +kernel
def T_Mo : u_T := fun k => match k with
  | 0 => ("BeatPathOfficeModel", "many", "I", true)
  | 1 => ("BeatPathOfficeModel", "code", "I", false)
  | 2 => ("BeatPathOfficeModel", "sealed", "Z", false)
  | 3 => ("BeatPathOfficeModel", "drawn", "[I", true)
  | 4 => ("BeatPathOfficeModel", "batches", "I", false)
  | 5 => ("BeatPathOfficeModel", "state", "[I", true)
  | 6 => ("BeatPathOfficeModel", "sizes", "[I", true)
  | 7 => ("BeatPathOfficeModel", "ranking", "[I", true)
  | 8 => ("BeatPathOfficeModel", "times", "[I", true)
  | 9 => ("BeatPathOfficeModel", "prefer", "[I", true)
  | 10 => ("BeatPathOfficeModel", "direct", "[I", true)
  | 11 => ("BeatPathOfficeModel", "strength", "[I", true)
  | 12 => ("BeatPathOfficeModel", "locked", "[Z", true)
  | 13 => ("BeatPathOfficeModel", "leads", "[Z", true)
  | 14 => ("BeatPathOfficeModel", "far", "[I", true)
  | 15 => ("BeatPathOfficeModel", "listed", "I", false)
  | _ => ("BeatPathOfficeModel", "list", "[I", true)
def ty_Mo : Nat → FieldType := fun k => match k with
  | 0 => .int
  | 1 => .int
  | 2 => .boolean
  | 3 => .array .int
  | 4 => .int
  | 5 => .array .int
  | 6 => .array .int
  | 7 => .array .int
  | 8 => .array .int
  | 9 => .array .int
  | 10 => .array .int
  | 11 => .array .int
  | 12 => .array .boolean
  | 13 => .array .boolean
  | 14 => .array .int
  | 15 => .int
  | _ => .array .int
theorem nm_Mo : ∀ a, a < 17 → ∀ b, b < 17 → a ≠ b → (T_Mo a).2.1 ≠ (T_Mo b).2.1 := by decide +kernel
theorem ok_Mo : ∀ k, k < 17 → parseFieldDescriptor (T_Mo k).2.2.1 = some (ty_Mo k) := by decide +kernel
abbrev bw_cl : List vw_C := [("BeatPathOffice$Batch", T_Ba, 4), ("BeatPathOffice$BeatPaths", T_Pa, 3), ("BeatPathOffice$Count", T_Co, 3), ("BeatPathOffice$Locks", T_Lo, 6), ("BeatPathOffice", T_Of, 9), ("BeatPathOfficeModel", T_Mo, 17)]
def bw_ext : List Cond := [.isRef (.static "java/lang/Throwable" "UNASSIGNED_STACK" "[Ljava/lang/StackTraceElement;"), .isRef (.static "java/lang/Throwable" "SUPPRESSED_SENTINEL" "Ljava/util/List;"), .not (.castable "java/lang/IllegalStateException" "java/lang/IllegalArgumentException"), .not (.castable "java/lang/IndexOutOfBoundsException" "java/lang/IllegalArgumentException"), .not (.castable "java/lang/IllegalArgumentException" "java/lang/IllegalStateException"), .not (.castable "java/lang/IndexOutOfBoundsException" "java/lang/IllegalStateException"), .not (.castable "java/lang/IllegalArgumentException" "java/lang/IndexOutOfBoundsException"), .not (.castable "java/lang/IllegalStateException" "java/lang/IndexOutOfBoundsException")]
def bw_TB : List Cond := lw_tbl ++ bw_ext
theorem bw_t {w : Cond} {i : Nat} (h : tables_1[i]? = some w) : w ∈ bw_TB := List.mem_append_left _ (List.mem_append_right _ (List.mem_of_getElem? h))
theorem bw_p {w : Cond} {i : Nat} (h : (k2_sels lw_privs)[i]? = some w) : w ∈ bw_TB := List.mem_append_left _ (List.mem_append_left _ (List.mem_of_getElem? h))
theorem bw_e {w : Cond} {i : Nat} (h : bw_ext[i]? = some w) : w ∈ bw_TB := List.mem_append_right _ (List.mem_of_getElem? h)
abbrev Y_Of_init : bj_Y := ("BeatPathOffice", ⟨"BeatPathOffice", "<init>", "(I)V"⟩, prog_1_method_1_code, 3, none, [])
abbrev Y_Ba_init : bj_Y := ("BeatPathOffice$Batch", ⟨"BeatPathOffice$Batch", "<init>", "()V"⟩, prog_2_method_1_code, 1, none, [])
abbrev Y_Co_init : bj_Y := ("BeatPathOffice$Count", ⟨"BeatPathOffice$Count", "<init>", "(I)V"⟩, prog_4_method_1_code, 2, none, [])
abbrev Y_Pa_init : bj_Y := ("BeatPathOffice$BeatPaths", ⟨"BeatPathOffice$BeatPaths", "<init>", "(I)V"⟩, prog_3_method_1_code, 2, none, [])
abbrev Y_Lo_init : bj_Y := ("BeatPathOffice$Locks", ⟨"BeatPathOffice$Locks", "<init>", "(I)V"⟩, prog_5_method_1_code, 2, none, [])
abbrev Y_Of_voters : bj_Y := ("BeatPathOffice", ⟨"BeatPathOffice", "voters", "()I"⟩, prog_1_method_9_code, 1, (some .int), [])
abbrev Y_Of_seal : bj_Y := ("BeatPathOffice", ⟨"BeatPathOffice", "seal", "()Z"⟩, prog_1_method_20_code, 2, (some .boolean), [])
abbrev Y_La_cell : bj_Y := ("BeatPathOfficeLaw", ⟨"BeatPathOfficeLaw", "cell", "([II)I"⟩, method_2_code, 2, (some .int), [])
abbrev Y_La_tie : bj_Y := ("BeatPathOfficeLaw", ⟨"BeatPathOfficeLaw", "tie", "(LBeatPathOffice;II)I"⟩, method_3_code, 4, (some .int), [(0, 6, 9, 13), (0, 6, 12, 15)])
abbrev Y_Of_tie : bj_Y := ("BeatPathOffice", ⟨"BeatPathOffice", "tie", "(II)V"⟩, prog_1_method_2_code, 3, none, [])
abbrev Y_Of_needCandidate : bj_Y := ("BeatPathOffice", ⟨"BeatPathOffice", "needCandidate", "(I)V"⟩, prog_1_method_22_code, 2, none, [])
abbrev Y_Of_isCandidate : bj_Y := ("BeatPathOffice", ⟨"BeatPathOffice", "isCandidate", "(I)Z"⟩, prog_1_method_21_code, 2, (some .boolean), [])
abbrev Y_Of_needUnsealed : bj_Y := ("BeatPathOffice", ⟨"BeatPathOffice", "needUnsealed", "()V"⟩, prog_1_method_26_code, 1, none, [])
abbrev Y_Of_moveInDrawnOrder : bj_Y := ("BeatPathOffice", ⟨"BeatPathOffice", "moveInDrawnOrder", "(II)V"⟩, prog_1_method_30_code, 5, none, [])
abbrev Y_La_drawn : bj_Y := ("BeatPathOfficeLaw", ⟨"BeatPathOfficeLaw", "drawn", "(LBeatPathOffice;I[J)I"⟩, method_4_code, 4, (some .int), [(0, 9, 12, 21)])
abbrev Y_Of_drawn : bj_Y := ("BeatPathOffice", ⟨"BeatPathOffice", "drawn", "(I)I"⟩, prog_1_method_3_code, 2, (some .int), [])
abbrev Y_La_open : bj_Y := ("BeatPathOfficeLaw", ⟨"BeatPathOfficeLaw", "open", "(LBeatPathOffice;[J)I"⟩, method_5_code, 3, (some .int), [(0, 8, 11, 15)])
abbrev Y_Of_open : bj_Y := ("BeatPathOffice", ⟨"BeatPathOffice", "open", "()I"⟩, prog_1_method_4_code, 1, (some .int), [])
abbrev Y_La_ballot : bj_Y := ("BeatPathOfficeLaw", ⟨"BeatPathOfficeLaw", "ballot", "(LBeatPathOffice;III[J)I"⟩, method_6_code, 6, (some .int), [(0, 12, 15, 13), (0, 12, 19, 15)])
abbrev Y_Of_ballot : bj_Y := ("BeatPathOffice", ⟨"BeatPathOffice", "ballot", "(III)I"⟩, prog_1_method_5_code, 5, (some .int), [])
abbrev Y_Of_needBatch : bj_Y := ("BeatPathOffice", ⟨"BeatPathOffice", "needBatch", "(I)V"⟩, prog_1_method_24_code, 2, none, [])
abbrev Y_Of_needRanking : bj_Y := ("BeatPathOffice", ⟨"BeatPathOffice", "needRanking", "(I)V"⟩, prog_1_method_25_code, 2, none, [])
abbrev Y_Of_isRanking : bj_Y := ("BeatPathOffice", ⟨"BeatPathOffice", "isRanking", "(I)Z"⟩, prog_1_method_28_code, 3, (some .boolean), [])
abbrev Y_Of_nibble : bj_Y := ("BeatPathOffice", ⟨"BeatPathOffice", "nibble", "(II)I"⟩, prog_1_method_35_code, 2, (some .int), [])
abbrev Y_Ba_put : bj_Y := ("BeatPathOffice$Batch", ⟨"BeatPathOffice$Batch", "put", "(II)I"⟩, prog_2_method_2_code, 3, (some .int), [])
abbrev Y_La_turn : bj_Y := ("BeatPathOfficeLaw", ⟨"BeatPathOfficeLaw", "turn", "(LBeatPathOffice;II)I"⟩, method_7_code, 4, (some .int), [(0, 6, 9, 13), (0, 6, 12, 15)])
abbrev Y_Of_turn : bj_Y := ("BeatPathOffice", ⟨"BeatPathOffice", "turn", "(II)V"⟩, prog_1_method_6_code, 4, none, [])
abbrev Y_Of_stageBefore : bj_Y := ("BeatPathOffice", ⟨"BeatPathOffice", "stageBefore", "(I)I"⟩, prog_1_method_29_code, 1, (some .int), [])
abbrev Y_Co_takeOut : bj_Y := ("BeatPathOffice$Count", ⟨"BeatPathOffice$Count", "takeOut", "(LBeatPathOffice$Batch;)V"⟩, prog_4_method_4_code, 3, none, [])
abbrev Y_Co_add : bj_Y := ("BeatPathOffice$Count", ⟨"BeatPathOffice$Count", "add", "(II)V"⟩, prog_4_method_5_code, 5, none, [])
abbrev Y_Co_comesBefore : bj_Y := ("BeatPathOffice$Count", ⟨"BeatPathOffice$Count", "comesBefore", "(III)Z"⟩, prog_4_method_6_code, 5, (some .boolean), [])
abbrev Y_Co_putIn : bj_Y := ("BeatPathOffice$Count", ⟨"BeatPathOffice$Count", "putIn", "(LBeatPathOffice$Batch;)V"⟩, prog_4_method_3_code, 3, none, [])
abbrev Y_La_correct : bj_Y := ("BeatPathOfficeLaw", ⟨"BeatPathOfficeLaw", "correct", "(LBeatPathOffice;III[J)I"⟩, method_8_code, 6, (some .int), [(0, 12, 15, 13), (0, 12, 19, 21), (0, 12, 23, 15)])
abbrev Y_Of_correct : bj_Y := ("BeatPathOffice", ⟨"BeatPathOffice", "correct", "(III)I"⟩, prog_1_method_7_code, 6, (some .int), [])
abbrev Y_La_state : bj_Y := ("BeatPathOfficeLaw", ⟨"BeatPathOfficeLaw", "state", "(LBeatPathOffice;I[J)I"⟩, method_9_code, 4, (some .int), [(0, 9, 12, 13)])
abbrev Y_Of_state : bj_Y := ("BeatPathOffice", ⟨"BeatPathOffice", "state", "(I)I"⟩, prog_1_method_8_code, 2, (some .int), [])
abbrev Y_La_prefer : bj_Y := ("BeatPathOfficeLaw", ⟨"BeatPathOfficeLaw", "prefer", "(LBeatPathOffice;II[J)I"⟩, method_10_code, 5, (some .int), [(0, 10, 13, 13)])
abbrev Y_Of_prefer : bj_Y := ("BeatPathOffice", ⟨"BeatPathOffice", "prefer", "(II)I"⟩, prog_1_method_10_code, 3, (some .int), [])
abbrev Y_Of_needPair : bj_Y := ("BeatPathOffice", ⟨"BeatPathOffice", "needPair", "(II)V"⟩, prog_1_method_23_code, 3, none, [])
abbrev Y_La_strength : bj_Y := ("BeatPathOfficeLaw", ⟨"BeatPathOfficeLaw", "strength", "(LBeatPathOffice;II[J)I"⟩, method_11_code, 5, (some .int), [(0, 10, 13, 13)])
abbrev Y_Of_strength : bj_Y := ("BeatPathOffice", ⟨"BeatPathOffice", "strength", "(II)I"⟩, prog_1_method_11_code, 3, (some .int), [])
abbrev Y_Pa_weigh : bj_Y := ("BeatPathOffice$BeatPaths", ⟨"BeatPathOffice$BeatPaths", "weigh", "(LBeatPathOffice$Count;)V"⟩, prog_3_method_2_code, 4, none, [])
abbrev Y_Co_direct : bj_Y := ("BeatPathOffice$Count", ⟨"BeatPathOffice$Count", "direct", "(II)I"⟩, prog_4_method_7_code, 3, (some .int), [])
abbrev Y_Pa_widen : bj_Y := ("BeatPathOffice$BeatPaths", ⟨"BeatPathOffice$BeatPaths", "widen", "(II)V"⟩, prog_3_method_3_code, 5, none, [])
abbrev Y_La_way : bj_Y := ("BeatPathOfficeLaw", ⟨"BeatPathOfficeLaw", "way", "(LBeatPathOffice;II[J)I"⟩, method_12_code, 5, (some .int), [(0, 10, 13, 13)])
abbrev Y_Of_way : bj_Y := ("BeatPathOffice", ⟨"BeatPathOffice", "way", "(II)I"⟩, prog_1_method_12_code, 3, (some .int), [])
abbrev Y_Pa_strongestWay : bj_Y := ("BeatPathOffice$BeatPaths", ⟨"BeatPathOffice$BeatPaths", "strongestWay", "(LBeatPathOffice$Count;II)I"⟩, prog_3_method_7_code, 8, (some .int), [])
abbrev Y_Pa_countSteps : bj_Y := ("BeatPathOffice$BeatPaths", ⟨"BeatPathOffice$BeatPaths", "countSteps", "(LBeatPathOffice$Count;II)V"⟩, prog_3_method_8_code, 6, none, [])
abbrev Y_Ar_fill : bj_Y := ("java/util/Arrays", ⟨"java/util/Arrays", "fill", "([II)V"⟩, prog_18_method_103_code, 4, none, [])
abbrev Y_Pa_nextAt : bj_Y := ("BeatPathOffice$BeatPaths", ⟨"BeatPathOffice$BeatPaths", "nextAt", "(LBeatPathOffice$Count;III)I"⟩, prog_3_method_10_code, 6, (some .int), [])
abbrev Y_Pa_nextTowards : bj_Y := ("BeatPathOffice$BeatPaths", ⟨"BeatPathOffice$BeatPaths", "nextTowards", "(LBeatPathOffice$Count;II)I"⟩, prog_3_method_9_code, 5, (some .int), [])
abbrev Y_La_cut : bj_Y := ("BeatPathOfficeLaw", ⟨"BeatPathOfficeLaw", "cut", "(LBeatPathOffice;II[J)I"⟩, method_13_code, 5, (some .int), [(0, 10, 13, 13)])
abbrev Y_Of_cut : bj_Y := ("BeatPathOffice", ⟨"BeatPathOffice", "cut", "(II)I"⟩, prog_1_method_13_code, 3, (some .int), [])
abbrev Y_Pa_reachedAbove : bj_Y := ("BeatPathOffice$BeatPaths", ⟨"BeatPathOffice$BeatPaths", "reachedAbove", "(II)I"⟩, prog_3_method_4_code, 5, (some .int), [])
abbrev Y_La_proves : bj_Y := ("BeatPathOfficeLaw", ⟨"BeatPathOfficeLaw", "proves", "(LBeatPathOffice;IIIII[J)I"⟩, method_14_code, 8, (some .int), [(0, 23, 26, 13)])
abbrev Y_Of_proves : bj_Y := ("BeatPathOffice", ⟨"BeatPathOffice", "proves", "(IIIII)Z"⟩, prog_1_method_14_code, 7, (some .boolean), [])
abbrev Y_Co_isWay : bj_Y := ("BeatPathOffice$Count", ⟨"BeatPathOffice$Count", "isWay", "(IIII)Z"⟩, prog_4_method_8_code, 9, (some .boolean), [])
abbrev Y_Of_has : bj_Y := ("BeatPathOffice", ⟨"BeatPathOffice", "has", "(II)Z"⟩, prog_1_method_34_code, 2, (some .boolean), [])
abbrev Y_Co_isHeldIn : bj_Y := ("BeatPathOffice$Count", ⟨"BeatPathOffice$Count", "isHeldIn", "(II)Z"⟩, prog_4_method_9_code, 5, (some .boolean), [])
abbrev Y_La_winner : bj_Y := ("BeatPathOfficeLaw", ⟨"BeatPathOfficeLaw", "winner", "(LBeatPathOffice;I[J)I"⟩, method_15_code, 4, (some .int), [(0, 9, 12, 21)])
abbrev Y_Of_winner : bj_Y := ("BeatPathOffice", ⟨"BeatPathOffice", "winner", "(I)I"⟩, prog_1_method_15_code, 2, (some .int), [])
abbrev Y_Of_winnerSet : bj_Y := ("BeatPathOffice", ⟨"BeatPathOffice", "winnerSet", "(LBeatPathOffice$Count;)I"⟩, prog_1_method_31_code, 2, (some .int), [])
abbrev Y_Pa_unbeaten : bj_Y := ("BeatPathOffice$BeatPaths", ⟨"BeatPathOffice$BeatPaths", "unbeaten", "()I"⟩, prog_3_method_5_code, 3, (some .int), [])
abbrev Y_Pa_isUnbeaten : bj_Y := ("BeatPathOffice$BeatPaths", ⟨"BeatPathOffice$BeatPaths", "isUnbeaten", "(I)Z"⟩, prog_3_method_6_code, 3, (some .boolean), [])
abbrev Y_Of_member : bj_Y := ("BeatPathOffice", ⟨"BeatPathOffice", "member", "(II)I"⟩, prog_1_method_33_code, 4, (some .int), [])
abbrev Y_Of_needFound : bj_Y := ("BeatPathOffice", ⟨"BeatPathOffice", "needFound", "(I)I"⟩, prog_1_method_27_code, 1, (some .int), [])
abbrev Y_La_locked : bj_Y := ("BeatPathOfficeLaw", ⟨"BeatPathOfficeLaw", "locked", "(LBeatPathOffice;II[J)I"⟩, method_16_code, 5, (some .int), [(0, 17, 20, 13)])
abbrev Y_Of_locked : bj_Y := ("BeatPathOffice", ⟨"BeatPathOffice", "locked", "(II)Z"⟩, prog_1_method_16_code, 3, (some .boolean), [])
abbrev Y_Lo_lockPairs : bj_Y := ("BeatPathOffice$Locks", ⟨"BeatPathOffice$Locks", "lockPairs", "(LBeatPathOffice$Count;[I)V"⟩, prog_5_method_2_code, 4, none, [])
abbrev Y_Lo_sortPairs : bj_Y := ("BeatPathOffice$Locks", ⟨"BeatPathOffice$Locks", "sortPairs", "(LBeatPathOffice$Count;[I)V"⟩, prog_5_method_3_code, 5, none, [])
abbrev Y_Lo_insert : bj_Y := ("BeatPathOffice$Locks", ⟨"BeatPathOffice$Locks", "insert", "(LBeatPathOffice$Count;II)V"⟩, prog_5_method_4_code, 5, none, [])
abbrev Y_Lo_overtakes : bj_Y := ("BeatPathOffice$Locks", ⟨"BeatPathOffice$Locks", "overtakes", "(LBeatPathOffice$Count;III)Z"⟩, prog_5_method_5_code, 7, (some .boolean), [])
abbrev Y_Lo_lock : bj_Y := ("BeatPathOffice$Locks", ⟨"BeatPathOffice$Locks", "lock", "(II)V"⟩, prog_5_method_6_code, 5, none, [])
abbrev Y_La_order : bj_Y := ("BeatPathOfficeLaw", ⟨"BeatPathOfficeLaw", "order", "(LBeatPathOffice;I[J)I"⟩, method_17_code, 4, (some .int), [(0, 9, 12, 21)])
abbrev Y_Of_order : bj_Y := ("BeatPathOffice", ⟨"BeatPathOffice", "order", "(I)I"⟩, prog_1_method_17_code, 2, (some .int), [])
abbrev Y_Of_inOrder : bj_Y := ("BeatPathOffice", ⟨"BeatPathOffice", "inOrder", "(LBeatPathOffice$Count;I)I"⟩, prog_1_method_32_code, 3, (some .int), [])
abbrev Y_Lo_lineUp : bj_Y := ("BeatPathOffice$Locks", ⟨"BeatPathOffice$Locks", "lineUp", "([II)I"⟩, prog_5_method_7_code, 6, (some .int), [])
abbrev Y_Lo_firstFree : bj_Y := ("BeatPathOffice$Locks", ⟨"BeatPathOffice$Locks", "firstFree", "([II)I"⟩, prog_5_method_8_code, 4, (some .int), [])
abbrev Y_La_top : bj_Y := ("BeatPathOfficeLaw", ⟨"BeatPathOfficeLaw", "top", "(LBeatPathOffice;I[J)I"⟩, method_18_code, 4, (some .int), [(0, 9, 12, 21)])
abbrev Y_Of_top : bj_Y := ("BeatPathOffice", ⟨"BeatPathOffice", "top", "(I)I"⟩, prog_1_method_18_code, 2, (some .int), [])
abbrev Y_Co_topSet : bj_Y := ("BeatPathOffice$Count", ⟨"BeatPathOffice$Count", "topSet", "()I"⟩, prog_4_method_10_code, 4, (some .int), [])
abbrev Y_Co_beatingSetAround : bj_Y := ("BeatPathOffice$Count", ⟨"BeatPathOffice$Count", "beatingSetAround", "(I)I"⟩, prog_4_method_11_code, 5, (some .int), [])
abbrev Y_Co_notBeatenBy : bj_Y := ("BeatPathOffice$Count", ⟨"BeatPathOffice$Count", "notBeatenBy", "(I)I"⟩, prog_4_method_12_code, 4, (some .int), [])
abbrev Y_In_bitCount : bj_Y := ("java/lang/Integer", ⟨"java/lang/Integer", "bitCount", "(I)I"⟩, prog_12_method_49_code, 1, (some .int), [])
abbrev Y_La_without : bj_Y := ("BeatPathOfficeLaw", ⟨"BeatPathOfficeLaw", "without", "(LBeatPathOffice;III[J)I"⟩, method_19_code, 6, (some .int), [(0, 12, 15, 13), (0, 12, 19, 21)])
abbrev Y_Of_without : bj_Y := ("BeatPathOffice", ⟨"BeatPathOffice", "without", "(III)I"⟩, prog_1_method_19_code, 4, (some .int), [])
abbrev Y_Co_copy : bj_Y := ("BeatPathOffice$Count", ⟨"BeatPathOffice$Count", "copy", "(LBeatPathOffice$Count;)V"⟩, prog_4_method_2_code, 3, none, [])
abbrev Y_Mo_init : bj_Y := ("BeatPathOfficeModel", ⟨"BeatPathOfficeModel", "<init>", "(I)V"⟩, prog_7_method_1_code, 3, none, [])
abbrev Y_Mo_thrown : bj_Y := ("BeatPathOfficeModel", ⟨"BeatPathOfficeModel", "thrown", "()I"⟩, prog_7_method_2_code, 1, (some .int), [])
abbrev Y_Mo_tie : bj_Y := ("BeatPathOfficeModel", ⟨"BeatPathOfficeModel", "tie", "(II)V"⟩, prog_7_method_5_code, 5, none, [])
abbrev Y_Mo_isCandidate : bj_Y := ("BeatPathOfficeModel", ⟨"BeatPathOfficeModel", "isCandidate", "(I)Z"⟩, prog_7_method_3_code, 2, (some .boolean), [])
abbrev Y_Mo_placeOf : bj_Y := ("BeatPathOfficeModel", ⟨"BeatPathOfficeModel", "placeOf", "(I)I"⟩, prog_7_method_6_code, 3, (some .int), [])
abbrev Y_Mo_drawn : bj_Y := ("BeatPathOfficeModel", ⟨"BeatPathOfficeModel", "drawn", "(I)I"⟩, prog_7_method_7_code, 2, (some .int), [])
abbrev Y_Mo_open : bj_Y := ("BeatPathOfficeModel", ⟨"BeatPathOfficeModel", "open", "()I"⟩, prog_7_method_8_code, 1, (some .int), [])
abbrev Y_Mo_ballot : bj_Y := ("BeatPathOfficeModel", ⟨"BeatPathOfficeModel", "ballot", "(III)I"⟩, prog_7_method_11_code, 4, (some .int), [])
abbrev Y_Mo_isBatch : bj_Y := ("BeatPathOfficeModel", ⟨"BeatPathOfficeModel", "isBatch", "(I)Z"⟩, prog_7_method_4_code, 2, (some .boolean), [])
abbrev Y_Mo_isRanking : bj_Y := ("BeatPathOfficeModel", ⟨"BeatPathOfficeModel", "isRanking", "(I)Z"⟩, prog_7_method_10_code, 4, (some .boolean), [])
abbrev Y_Mo_place : bj_Y := ("BeatPathOfficeModel", ⟨"BeatPathOfficeModel", "place", "(II)I"⟩, prog_7_method_9_code, 2, (some .int), [])
abbrev Y_Mo_turn : bj_Y := ("BeatPathOfficeModel", ⟨"BeatPathOfficeModel", "turn", "(II)V"⟩, prog_7_method_12_code, 3, none, [])
abbrev Y_Mo_correct : bj_Y := ("BeatPathOfficeModel", ⟨"BeatPathOfficeModel", "correct", "(III)I"⟩, prog_7_method_13_code, 5, (some .int), [])
abbrev Y_Mo_state : bj_Y := ("BeatPathOfficeModel", ⟨"BeatPathOfficeModel", "state", "(I)I"⟩, prog_7_method_14_code, 2, (some .int), [])
abbrev Y_Mo_voters : bj_Y := ("BeatPathOfficeModel", ⟨"BeatPathOfficeModel", "voters", "()I"⟩, prog_7_method_15_code, 4, (some .int), [])
abbrev Y_Mo_prefer : bj_Y := ("BeatPathOfficeModel", ⟨"BeatPathOfficeModel", "prefer", "(II)I"⟩, prog_7_method_21_code, 3, (some .int), [])
abbrev Y_Mo_lacks : bj_Y := ("BeatPathOfficeModel", ⟨"BeatPathOfficeModel", "lacks", "(II)Z"⟩, prog_7_method_20_code, 3, (some .boolean), [])
abbrev Y_Mo_count : bj_Y := ("BeatPathOfficeModel", ⟨"BeatPathOfficeModel", "count", "(I)V"⟩, prog_7_method_16_code, 4, none, [])
abbrev Y_Mo_add : bj_Y := ("BeatPathOfficeModel", ⟨"BeatPathOfficeModel", "add", "(II)V"⟩, prog_7_method_17_code, 8, none, [])
abbrev Y_Mo_strengthen : bj_Y := ("BeatPathOfficeModel", ⟨"BeatPathOfficeModel", "strengthen", "()V"⟩, prog_7_method_19_code, 7, none, [])
abbrev Y_Mo_lesser : bj_Y := ("BeatPathOfficeModel", ⟨"BeatPathOfficeModel", "lesser", "(II)I"⟩, prog_7_method_18_code, 2, (some .int), [])
abbrev Y_Mo_strength : bj_Y := ("BeatPathOfficeModel", ⟨"BeatPathOfficeModel", "strength", "(II)I"⟩, prog_7_method_22_code, 3, (some .int), [])
abbrev Y_Mo_way : bj_Y := ("BeatPathOfficeModel", ⟨"BeatPathOfficeModel", "way", "(II)I"⟩, prog_7_method_23_code, 9, (some .int), [])
abbrev Y_Mo_cut : bj_Y := ("BeatPathOfficeModel", ⟨"BeatPathOfficeModel", "cut", "(II)I"⟩, prog_7_method_24_code, 7, (some .int), [])
abbrev Y_Mo_proves : bj_Y := ("BeatPathOfficeModel", ⟨"BeatPathOfficeModel", "proves", "(IIIII)Z"⟩, prog_7_method_26_code, 9, (some .boolean), [])
abbrev Y_Mo_isWay : bj_Y := ("BeatPathOfficeModel", ⟨"BeatPathOfficeModel", "isWay", "(IIII)Z"⟩, prog_7_method_25_code, 10, (some .boolean), [])
abbrev Y_Mo_winner : bj_Y := ("BeatPathOfficeModel", ⟨"BeatPathOfficeModel", "winner", "(I)I"⟩, prog_7_method_35_code, 2, (some .int), [])
abbrev Y_Mo_tell : bj_Y := ("BeatPathOfficeModel", ⟨"BeatPathOfficeModel", "tell", "(IIII)I"⟩, prog_7_method_34_code, 5, (some .int), [])
abbrev Y_Mo_winners : bj_Y := ("BeatPathOfficeModel", ⟨"BeatPathOfficeModel", "winners", "()V"⟩, prog_7_method_27_code, 4, none, [])
abbrev Y_Mo_orderAll : bj_Y := ("BeatPathOfficeModel", ⟨"BeatPathOfficeModel", "orderAll", "()V"⟩, prog_7_method_31_code, 7, none, [])
abbrev Y_Mo_lockAll : bj_Y := ("BeatPathOfficeModel", ⟨"BeatPathOfficeModel", "lockAll", "()V"⟩, prog_7_method_30_code, 6, none, [])
abbrev Y_Mo_isBefore : bj_Y := ("BeatPathOfficeModel", ⟨"BeatPathOfficeModel", "isBefore", "(II)Z"⟩, prog_7_method_28_code, 5, (some .boolean), [])
abbrev Y_Mo_lock : bj_Y := ("BeatPathOfficeModel", ⟨"BeatPathOfficeModel", "lock", "(I)V"⟩, prog_7_method_29_code, 7, none, [])
abbrev Y_Mo_topAll : bj_Y := ("BeatPathOfficeModel", ⟨"BeatPathOfficeModel", "topAll", "()V"⟩, prog_7_method_32_code, 6, none, [])
abbrev Y_Mo_sizeOf : bj_Y := ("BeatPathOfficeModel", ⟨"BeatPathOfficeModel", "sizeOf", "(I)I"⟩, prog_7_method_33_code, 3, (some .int), [])
abbrev Y_Mo_locked : bj_Y := ("BeatPathOfficeModel", ⟨"BeatPathOfficeModel", "locked", "(II)Z"⟩, prog_7_method_36_code, 3, (some .boolean), [])
abbrev Y_Mo_order : bj_Y := ("BeatPathOfficeModel", ⟨"BeatPathOfficeModel", "order", "(I)I"⟩, prog_7_method_37_code, 2, (some .int), [])
abbrev Y_Mo_top : bj_Y := ("BeatPathOfficeModel", ⟨"BeatPathOfficeModel", "top", "(I)I"⟩, prog_7_method_38_code, 2, (some .int), [])
abbrev Y_Mo_without : bj_Y := ("BeatPathOfficeModel", ⟨"BeatPathOfficeModel", "without", "(III)I"⟩, prog_7_method_39_code, 4, (some .int), [])
abbrev Y_Mo_seal : bj_Y := ("BeatPathOfficeModel", ⟨"BeatPathOfficeModel", "seal", "()Z"⟩, prog_7_method_40_code, 2, (some .boolean), [])
abbrev Y_La_law : bj_Y := ("BeatPathOfficeLaw", ⟨"BeatPathOfficeLaw", "law", "([I)Z"⟩, code, 7, (some .boolean), [])
/-! the fields of each class stand in the tables -/
theorem in_Ba : ∀ w ∈ u_ws "BeatPathOffice$Batch" T_Ba 4, w ∈ bw_TB := by
  intro w hw
  have h : u_ws "BeatPathOffice$Batch" T_Ba 4 = [43, 45, 47, 49].filterMap (fun i => tables_1[i]?) := by decide +kernel
  rw [h] at hw
  obtain ⟨i, -, hi⟩ := List.mem_filterMap.mp hw
  exact bw_t hi
theorem in_Pa : ∀ w ∈ u_ws "BeatPathOffice$BeatPaths" T_Pa 3, w ∈ bw_TB := by
  intro w hw
  have h : u_ws "BeatPathOffice$BeatPaths" T_Pa 3 = [85, 87, 89].filterMap (fun i => tables_1[i]?) := by decide +kernel
  rw [h] at hw
  obtain ⟨i, -, hi⟩ := List.mem_filterMap.mp hw
  exact bw_t hi
theorem in_Co : ∀ w ∈ u_ws "BeatPathOffice$Count" T_Co 3, w ∈ bw_TB := by
  intro w hw
  have h : u_ws "BeatPathOffice$Count" T_Co 3 = [67, 69, 71].filterMap (fun i => tables_1[i]?) := by decide +kernel
  rw [h] at hw
  obtain ⟨i, -, hi⟩ := List.mem_filterMap.mp hw
  exact bw_t hi
theorem in_Lo : ∀ w ∈ u_ws "BeatPathOffice$Locks" T_Lo 6, w ∈ bw_TB := by
  intro w hw
  have h : u_ws "BeatPathOffice$Locks" T_Lo 6 = [105, 107, 109, 111, 113, 115].filterMap (fun i => tables_1[i]?) := by decide +kernel
  rw [h] at hw
  obtain ⟨i, -, hi⟩ := List.mem_filterMap.mp hw
  exact bw_t hi
theorem in_Of : ∀ w ∈ u_ws "BeatPathOffice" T_Of 9, w ∈ bw_TB := by
  intro w hw
  have h : u_ws "BeatPathOffice" T_Of 9 = [127, 129, 131, 133, 135, 137, 139, 141, 143].filterMap (fun i => tables_1[i]?) := by decide +kernel
  rw [h] at hw
  obtain ⟨i, -, hi⟩ := List.mem_filterMap.mp hw
  exact bw_t hi
theorem in_Mo : ∀ w ∈ u_ws "BeatPathOfficeModel" T_Mo 17, w ∈ bw_TB := by
  intro w hw
  have h : u_ws "BeatPathOfficeModel" T_Mo 17 = [606, 608, 610, 612, 614, 616, 618, 620, 622, 624, 626, 628, 630, 632, 634, 636, 638].filterMap (fun i => tables_1[i]?) := by decide +kernel
  rw [h] at hw
  obtain ⟨i, -, hi⟩ := List.mem_filterMap.mp hw
  exact bw_t hi
/-! links of fields -/
theorem wf_Ba_9 : (Jvm.Cond.fieldLink "BeatPathOffice$Batch" (9 : Nat) "BeatPathOffice$Batch" "stage" "I") ∈ bw_TB := bw_t (i := 32) (by decide +kernel)
theorem wf_Of_96 : (Jvm.Cond.fieldLinkNest "BeatPathOffice" (96 : Nat) "BeatPathOffice$Batch" "stage" "I" "BeatPathOffice") ∈ bw_TB := bw_t (i := 33) (by decide +kernel)
theorem wf_Ba_15 : (Jvm.Cond.fieldLink "BeatPathOffice$Batch" (15 : Nat) "BeatPathOffice$Batch" "size" "I") ∈ bw_TB := bw_t (i := 34) (by decide +kernel)
theorem wf_Co_29 : (Jvm.Cond.fieldLinkNest "BeatPathOffice$Count" (29 : Nat) "BeatPathOffice$Batch" "size" "I" "BeatPathOffice") ∈ bw_TB := bw_t (i := 35) (by decide +kernel)
theorem wf_Of_99 : (Jvm.Cond.fieldLinkNest "BeatPathOffice" (99 : Nat) "BeatPathOffice$Batch" "size" "I" "BeatPathOffice") ∈ bw_TB := bw_t (i := 36) (by decide +kernel)
theorem wf_Ba_18 : (Jvm.Cond.fieldLink "BeatPathOffice$Batch" (18 : Nat) "BeatPathOffice$Batch" "rankings" "[I") ∈ bw_TB := bw_t (i := 37) (by decide +kernel)
theorem wf_Co_34 : (Jvm.Cond.fieldLinkNest "BeatPathOffice$Count" (34 : Nat) "BeatPathOffice$Batch" "rankings" "[I" "BeatPathOffice") ∈ bw_TB := bw_t (i := 38) (by decide +kernel)
theorem wf_Of_127 : (Jvm.Cond.fieldLinkNest "BeatPathOffice" (127 : Nat) "BeatPathOffice$Batch" "rankings" "[I" "BeatPathOffice") ∈ bw_TB := bw_t (i := 39) (by decide +kernel)
theorem wf_Ba_22 : (Jvm.Cond.fieldLink "BeatPathOffice$Batch" (22 : Nat) "BeatPathOffice$Batch" "times" "[I") ∈ bw_TB := bw_t (i := 40) (by decide +kernel)
theorem wf_Co_38 : (Jvm.Cond.fieldLinkNest "BeatPathOffice$Count" (38 : Nat) "BeatPathOffice$Batch" "times" "[I" "BeatPathOffice") ∈ bw_TB := bw_t (i := 41) (by decide +kernel)
theorem wf_Of_130 : (Jvm.Cond.fieldLinkNest "BeatPathOffice" (130 : Nat) "BeatPathOffice$Batch" "times" "[I" "BeatPathOffice") ∈ bw_TB := bw_t (i := 42) (by decide +kernel)
theorem wf_Co_9 : (Jvm.Cond.fieldLink "BeatPathOffice$Count" (9 : Nat) "BeatPathOffice$Count" "n" "I") ∈ bw_TB := bw_t (i := 61) (by decide +kernel)
theorem wf_Co_15 : (Jvm.Cond.fieldLink "BeatPathOffice$Count" (15 : Nat) "BeatPathOffice$Count" "voterSum" "I") ∈ bw_TB := bw_t (i := 62) (by decide +kernel)
theorem wf_Of_135 : (Jvm.Cond.fieldLinkNest "BeatPathOffice" (135 : Nat) "BeatPathOffice$Count" "voterSum" "I" "BeatPathOffice") ∈ bw_TB := bw_t (i := 63) (by decide +kernel)
theorem wf_Co_20 : (Jvm.Cond.fieldLink "BeatPathOffice$Count" (20 : Nat) "BeatPathOffice$Count" "preferring" "[[I") ∈ bw_TB := bw_t (i := 64) (by decide +kernel)
theorem wf_Lo_63 : (Jvm.Cond.fieldLinkNest "BeatPathOffice$Locks" (63 : Nat) "BeatPathOffice$Count" "preferring" "[[I" "BeatPathOffice") ∈ bw_TB := bw_t (i := 65) (by decide +kernel)
theorem wf_Of_141 : (Jvm.Cond.fieldLinkNest "BeatPathOffice" (141 : Nat) "BeatPathOffice$Count" "preferring" "[[I" "BeatPathOffice") ∈ bw_TB := bw_t (i := 66) (by decide +kernel)
theorem wf_Pa_9 : (Jvm.Cond.fieldLink "BeatPathOffice$BeatPaths" (9 : Nat) "BeatPathOffice$BeatPaths" "n" "I") ∈ bw_TB := bw_t (i := 81) (by decide +kernel)
theorem wf_Pa_17 : (Jvm.Cond.fieldLink "BeatPathOffice$BeatPaths" (17 : Nat) "BeatPathOffice$BeatPaths" "strongest" "[[I") ∈ bw_TB := bw_t (i := 82) (by decide +kernel)
theorem wf_Of_149 : (Jvm.Cond.fieldLinkNest "BeatPathOffice" (149 : Nat) "BeatPathOffice$BeatPaths" "strongest" "[[I" "BeatPathOffice") ∈ bw_TB := bw_t (i := 83) (by decide +kernel)
theorem wf_Pa_20 : (Jvm.Cond.fieldLink "BeatPathOffice$BeatPaths" (20 : Nat) "BeatPathOffice$BeatPaths" "steps" "[I") ∈ bw_TB := bw_t (i := 84) (by decide +kernel)
theorem wf_Lo_9 : (Jvm.Cond.fieldLink "BeatPathOffice$Locks" (9 : Nat) "BeatPathOffice$Locks" "n" "I") ∈ bw_TB := bw_t (i := 98) (by decide +kernel)
theorem wf_Lo_15 : (Jvm.Cond.fieldLink "BeatPathOffice$Locks" (15 : Nat) "BeatPathOffice$Locks" "lockedOver" "[I") ∈ bw_TB := bw_t (i := 99) (by decide +kernel)
theorem wf_Of_184 : (Jvm.Cond.fieldLinkNest "BeatPathOffice" (184 : Nat) "BeatPathOffice$Locks" "lockedOver" "[I" "BeatPathOffice") ∈ bw_TB := bw_t (i := 100) (by decide +kernel)
theorem wf_Lo_19 : (Jvm.Cond.fieldLink "BeatPathOffice$Locks" (19 : Nat) "BeatPathOffice$Locks" "comesTo" "[I") ∈ bw_TB := bw_t (i := 101) (by decide +kernel)
theorem wf_Lo_22 : (Jvm.Cond.fieldLink "BeatPathOffice$Locks" (22 : Nat) "BeatPathOffice$Locks" "upper" "[I") ∈ bw_TB := bw_t (i := 102) (by decide +kernel)
theorem wf_Lo_25 : (Jvm.Cond.fieldLink "BeatPathOffice$Locks" (25 : Nat) "BeatPathOffice$Locks" "lower" "[I") ∈ bw_TB := bw_t (i := 103) (by decide +kernel)
theorem wf_Lo_28 : (Jvm.Cond.fieldLink "BeatPathOffice$Locks" (28 : Nat) "BeatPathOffice$Locks" "pairs" "I") ∈ bw_TB := bw_t (i := 104) (by decide +kernel)
theorem wf_Of_9 : (Jvm.Cond.fieldLink "BeatPathOffice" (9 : Nat) "BeatPathOffice" "candidates" "I") ∈ bw_TB := bw_t (i := 118) (by decide +kernel)
theorem wf_Of_13 : (Jvm.Cond.fieldLink "BeatPathOffice" (13 : Nat) "BeatPathOffice" "drawnOrder" "[I") ∈ bw_TB := bw_t (i := 119) (by decide +kernel)
theorem wf_Of_19 : (Jvm.Cond.fieldLink "BeatPathOffice" (19 : Nat) "BeatPathOffice" "batches" "[LBeatPathOffice$Batch;") ∈ bw_TB := bw_t (i := 120) (by decide +kernel)
theorem wf_Of_24 : (Jvm.Cond.fieldLink "BeatPathOffice" (24 : Nat) "BeatPathOffice" "opened" "I") ∈ bw_TB := bw_t (i := 121) (by decide +kernel)
theorem wf_Of_27 : (Jvm.Cond.fieldLink "BeatPathOffice" (27 : Nat) "BeatPathOffice" "sealed" "Z") ∈ bw_TB := bw_t (i := 122) (by decide +kernel)
theorem wf_Of_36 : (Jvm.Cond.fieldLink "BeatPathOffice" (36 : Nat) "BeatPathOffice" "count" "LBeatPathOffice$Count;") ∈ bw_TB := bw_t (i := 123) (by decide +kernel)
theorem wf_Of_40 : (Jvm.Cond.fieldLink "BeatPathOffice" (40 : Nat) "BeatPathOffice" "trial" "LBeatPathOffice$Count;") ∈ bw_TB := bw_t (i := 124) (by decide +kernel)
theorem wf_Of_46 : (Jvm.Cond.fieldLink "BeatPathOffice" (46 : Nat) "BeatPathOffice" "paths" "LBeatPathOffice$BeatPaths;") ∈ bw_TB := bw_t (i := 125) (by decide +kernel)
theorem wf_Of_53 : (Jvm.Cond.fieldLink "BeatPathOffice" (53 : Nat) "BeatPathOffice" "locks" "LBeatPathOffice$Locks;") ∈ bw_TB := bw_t (i := 126) (by decide +kernel)
theorem wf_Mo_47 : (Jvm.Cond.fieldLink "BeatPathOfficeModel" (47 : Nat) "BeatPathOfficeModel" "many" "I") ∈ bw_TB := bw_t (i := 589) (by decide +kernel)
theorem wf_Mo_51 : (Jvm.Cond.fieldLink "BeatPathOfficeModel" (51 : Nat) "BeatPathOfficeModel" "code" "I") ∈ bw_TB := bw_t (i := 590) (by decide +kernel)
theorem wf_Mo_61 : (Jvm.Cond.fieldLink "BeatPathOfficeModel" (61 : Nat) "BeatPathOfficeModel" "sealed" "Z") ∈ bw_TB := bw_t (i := 591) (by decide +kernel)
theorem wf_Mo_7 : (Jvm.Cond.fieldLink "BeatPathOfficeModel" (7 : Nat) "BeatPathOfficeModel" "drawn" "[I") ∈ bw_TB := bw_t (i := 592) (by decide +kernel)
theorem wf_Mo_54 : (Jvm.Cond.fieldLink "BeatPathOfficeModel" (54 : Nat) "BeatPathOfficeModel" "batches" "I") ∈ bw_TB := bw_t (i := 593) (by decide +kernel)
theorem wf_Mo_13 : (Jvm.Cond.fieldLink "BeatPathOfficeModel" (13 : Nat) "BeatPathOfficeModel" "state" "[I") ∈ bw_TB := bw_t (i := 594) (by decide +kernel)
theorem wf_Mo_16 : (Jvm.Cond.fieldLink "BeatPathOfficeModel" (16 : Nat) "BeatPathOfficeModel" "sizes" "[I") ∈ bw_TB := bw_t (i := 595) (by decide +kernel)
theorem wf_Mo_19 : (Jvm.Cond.fieldLink "BeatPathOfficeModel" (19 : Nat) "BeatPathOfficeModel" "ranking" "[I") ∈ bw_TB := bw_t (i := 596) (by decide +kernel)
theorem wf_Mo_22 : (Jvm.Cond.fieldLink "BeatPathOfficeModel" (22 : Nat) "BeatPathOfficeModel" "times" "[I") ∈ bw_TB := bw_t (i := 597) (by decide +kernel)
theorem wf_Mo_25 : (Jvm.Cond.fieldLink "BeatPathOfficeModel" (25 : Nat) "BeatPathOfficeModel" "prefer" "[I") ∈ bw_TB := bw_t (i := 598) (by decide +kernel)
theorem wf_Mo_28 : (Jvm.Cond.fieldLink "BeatPathOfficeModel" (28 : Nat) "BeatPathOfficeModel" "direct" "[I") ∈ bw_TB := bw_t (i := 599) (by decide +kernel)
theorem wf_Mo_31 : (Jvm.Cond.fieldLink "BeatPathOfficeModel" (31 : Nat) "BeatPathOfficeModel" "strength" "[I") ∈ bw_TB := bw_t (i := 600) (by decide +kernel)
theorem wf_Mo_34 : (Jvm.Cond.fieldLink "BeatPathOfficeModel" (34 : Nat) "BeatPathOfficeModel" "locked" "[Z") ∈ bw_TB := bw_t (i := 601) (by decide +kernel)
theorem wf_Mo_38 : (Jvm.Cond.fieldLink "BeatPathOfficeModel" (38 : Nat) "BeatPathOfficeModel" "leads" "[Z") ∈ bw_TB := bw_t (i := 602) (by decide +kernel)
theorem wf_Mo_41 : (Jvm.Cond.fieldLink "BeatPathOfficeModel" (41 : Nat) "BeatPathOfficeModel" "far" "[I") ∈ bw_TB := bw_t (i := 603) (by decide +kernel)
theorem wf_Mo_101 : (Jvm.Cond.fieldLink "BeatPathOfficeModel" (101 : Nat) "BeatPathOfficeModel" "listed" "I") ∈ bw_TB := bw_t (i := 604) (by decide +kernel)
theorem wf_Mo_44 : (Jvm.Cond.fieldLink "BeatPathOfficeModel" (44 : Nat) "BeatPathOfficeModel" "list" "[I") ∈ bw_TB := bw_t (i := 605) (by decide +kernel)
/-! other words -/
theorem wi_La : (Jvm.Cond.initialized "BeatPathOfficeLaw") ∈ bw_TB := bw_t (i := 0) (by decide +kernel)
theorem wi_Of : (Jvm.Cond.initialized "BeatPathOffice") ∈ bw_TB := bw_t (i := 1) (by decide +kernel)
theorem wi_Ba : (Jvm.Cond.initialized "BeatPathOffice$Batch") ∈ bw_TB := bw_t (i := 2) (by decide +kernel)
theorem wi_Co : (Jvm.Cond.initialized "BeatPathOffice$Count") ∈ bw_TB := bw_t (i := 3) (by decide +kernel)
theorem wi_Pa : (Jvm.Cond.initialized "BeatPathOffice$BeatPaths") ∈ bw_TB := bw_t (i := 4) (by decide +kernel)
theorem wi_Lo : (Jvm.Cond.initialized "BeatPathOffice$Locks") ∈ bw_TB := bw_t (i := 5) (by decide +kernel)
theorem wi_Mo : (Jvm.Cond.initialized "BeatPathOfficeModel") ∈ bw_TB := bw_t (i := 6) (by decide +kernel)
theorem wi_Throwable : (Jvm.Cond.initialized "java/lang/Throwable") ∈ bw_TB := bw_t (i := 7) (by decide +kernel)
theorem wi_Exception : (Jvm.Cond.initialized "java/lang/Exception") ∈ bw_TB := bw_t (i := 8) (by decide +kernel)
theorem wi_RuntimeException : (Jvm.Cond.initialized "java/lang/RuntimeException") ∈ bw_TB := bw_t (i := 9) (by decide +kernel)
theorem wi_IllegalArgumentException : (Jvm.Cond.initialized "java/lang/IllegalArgumentException") ∈ bw_TB := bw_t (i := 10) (by decide +kernel)
theorem wi_IllegalStateException : (Jvm.Cond.initialized "java/lang/IllegalStateException") ∈ bw_TB := bw_t (i := 11) (by decide +kernel)
theorem wi_IndexOutOfBoundsException : (Jvm.Cond.initialized "java/lang/IndexOutOfBoundsException") ∈ bw_TB := bw_t (i := 12) (by decide +kernel)
theorem wi_Math : (Jvm.Cond.initialized "java/lang/Math") ∈ bw_TB := bw_t (i := 13) (by decide +kernel)
theorem wi_Ar : (Jvm.Cond.initialized "java/util/Arrays") ∈ bw_TB := bw_t (i := 14) (by decide +kernel)
theorem wi_In : (Jvm.Cond.initialized "java/lang/Integer") ∈ bw_TB := bw_t (i := 15) (by decide +kernel)
theorem wi_System : (Jvm.Cond.initialized "java/lang/System") ∈ bw_TB := bw_t (i := 16) (by decide +kernel)
theorem wc_La_8 : (Jvm.Cond.classLink "BeatPathOfficeLaw" (8 : Nat) "BeatPathOffice") ∈ bw_TB := bw_t (i := 17) (by decide +kernel)
theorem wn_Of : (Jvm.Cond.instantiable "BeatPathOffice" (9 : Nat)) ∈ bw_TB := bw_t (i := 18) (by decide +kernel)
theorem wc_Of_17 : (Jvm.Cond.classLink "BeatPathOffice" (17 : Nat) "BeatPathOffice$Batch") ∈ bw_TB := bw_t (i := 25) (by decide +kernel)
theorem wz_26 : (Jvm.Cond.arrayOver (Jvm.ClassFile.FieldType.object "BeatPathOffice$Batch")) ∈ bw_TB := bw_t (i := 26) (by decide +kernel) -- arrayOver
theorem wn_Ba : (Jvm.Cond.instantiable "BeatPathOffice$Batch" (4 : Nat)) ∈ bw_TB := bw_t (i := 27) (by decide +kernel)
theorem wz_52 : (Jvm.Cond.arrayClass Jvm.ClassFile.FieldType.int) ∈ bw_TB := bw_t (i := 52) (by decide +kernel) -- arrayClass
theorem wc_Of_31 : (Jvm.Cond.classLink "BeatPathOffice" (31 : Nat) "BeatPathOffice$Count") ∈ bw_TB := bw_t (i := 53) (by decide +kernel)
theorem wn_Co : (Jvm.Cond.instantiable "BeatPathOffice$Count" (3 : Nat)) ∈ bw_TB := bw_t (i := 54) (by decide +kernel)
theorem wc_Co_18 : (Jvm.Cond.classLink "BeatPathOffice$Count" (18 : Nat) "[[I") ∈ bw_TB := bw_t (i := 59) (by decide +kernel)
theorem wz_60 : (Jvm.Cond.arrayOver (Jvm.ClassFile.FieldType.array Jvm.ClassFile.FieldType.int)) ∈ bw_TB := bw_t (i := 60) (by decide +kernel) -- arrayOver
theorem wc_Of_43 : (Jvm.Cond.classLink "BeatPathOffice" (43 : Nat) "BeatPathOffice$BeatPaths") ∈ bw_TB := bw_t (i := 74) (by decide +kernel)
theorem wn_Pa : (Jvm.Cond.instantiable "BeatPathOffice$BeatPaths" (3 : Nat)) ∈ bw_TB := bw_t (i := 75) (by decide +kernel)
theorem wc_Pa_15 : (Jvm.Cond.classLink "BeatPathOffice$BeatPaths" (15 : Nat) "[[I") ∈ bw_TB := bw_t (i := 80) (by decide +kernel)
theorem wc_Of_50 : (Jvm.Cond.classLink "BeatPathOffice" (50 : Nat) "BeatPathOffice$Locks") ∈ bw_TB := bw_t (i := 92) (by decide +kernel)
theorem wn_Lo : (Jvm.Cond.instantiable "BeatPathOffice$Locks" (6 : Nat)) ∈ bw_TB := bw_t (i := 93) (by decide +kernel)
theorem wc_La_13 : (Jvm.Cond.classLink "BeatPathOfficeLaw" (13 : Nat) "java/lang/IllegalArgumentException") ∈ bw_TB := bw_t (i := 160) (by decide +kernel)
theorem wc_La_15 : (Jvm.Cond.classLink "BeatPathOfficeLaw" (15 : Nat) "java/lang/IllegalStateException") ∈ bw_TB := bw_t (i := 161) (by decide +kernel)
theorem wc_Of_64 : (Jvm.Cond.classLink "BeatPathOffice" (64 : Nat) "java/lang/IllegalArgumentException") ∈ bw_TB := bw_t (i := 174) (by decide +kernel)
theorem wn_IllegalArgumentException : (Jvm.Cond.instantiable "java/lang/IllegalArgumentException" (6 : Nat)) ∈ bw_TB := bw_t (i := 175) (by decide +kernel)
theorem wz_176 : (Jvm.Cond.castable "java/lang/IllegalArgumentException" "java/lang/IllegalArgumentException") ∈ bw_TB := bw_t (i := 176) (by decide +kernel) -- castable
theorem wn_Throwable : (Jvm.Cond.instantiable "java/lang/Throwable" (6 : Nat)) ∈ bw_TB := bw_t (i := 213) (by decide +kernel)
theorem wz_214 : (Jvm.Cond.native ({ cls := "java/lang/Throwable", name := "fillInStackTrace", desc := "(I)Ljava/lang/Throwable;" } : Jvm.MethodName)) ∈ bw_TB := bw_t (i := 214) (by decide +kernel) -- native
theorem wt_Of_200 : (Jvm.Cond.stringRef "BeatPathOffice" (200 : Nat) "no such candidate") ∈ bw_TB := bw_t (i := 215) (by decide +kernel)
theorem wz_241 : (Jvm.Cond.arrayClass Jvm.ClassFile.FieldType.byte) ∈ bw_TB := bw_t (i := 241) (by decide +kernel) -- arrayClass
theorem wt_Of_66 : (Jvm.Cond.stringRef "BeatPathOffice" (66 : Nat) "no such place") ∈ bw_TB := bw_t (i := 242) (by decide +kernel)
theorem wc_Of_74 : (Jvm.Cond.classLink "BeatPathOffice" (74 : Nat) "java/lang/IllegalStateException") ∈ bw_TB := bw_t (i := 247) (by decide +kernel)
theorem wn_IllegalStateException : (Jvm.Cond.instantiable "java/lang/IllegalStateException" (6 : Nat)) ∈ bw_TB := bw_t (i := 248) (by decide +kernel)
theorem wz_249 : (Jvm.Cond.castable "java/lang/IllegalStateException" "java/lang/IllegalStateException") ∈ bw_TB := bw_t (i := 249) (by decide +kernel) -- castable
theorem wt_Of_211 : (Jvm.Cond.stringRef "BeatPathOffice" (211 : Nat) "the count is sealed") ∈ bw_TB := bw_t (i := 256) (by decide +kernel)
theorem wt_Of_76 : (Jvm.Cond.stringRef "BeatPathOffice" (76 : Nat) "a batch was opened") ∈ bw_TB := bw_t (i := 263) (by decide +kernel)
theorem wc_La_21 : (Jvm.Cond.classLink "BeatPathOfficeLaw" (21 : Nat) "java/lang/IndexOutOfBoundsException") ∈ bw_TB := bw_t (i := 271) (by decide +kernel)
theorem wc_Of_83 : (Jvm.Cond.classLink "BeatPathOffice" (83 : Nat) "java/lang/IndexOutOfBoundsException") ∈ bw_TB := bw_t (i := 276) (by decide +kernel)
theorem wn_IndexOutOfBoundsException : (Jvm.Cond.instantiable "java/lang/IndexOutOfBoundsException" (6 : Nat)) ∈ bw_TB := bw_t (i := 277) (by decide +kernel)
theorem wz_278 : (Jvm.Cond.castable "java/lang/IndexOutOfBoundsException" "java/lang/IndexOutOfBoundsException") ∈ bw_TB := bw_t (i := 278) (by decide +kernel) -- castable
theorem wt_Of_86 : (Jvm.Cond.stringRef "BeatPathOffice" (86 : Nat) "no more batches") ∈ bw_TB := bw_t (i := 298) (by decide +kernel)
theorem wt_Of_204 : (Jvm.Cond.stringRef "BeatPathOffice" (204 : Nat) "no such batch") ∈ bw_TB := bw_t (i := 310) (by decide +kernel)
theorem wt_Of_209 : (Jvm.Cond.stringRef "BeatPathOffice" (209 : Nat) "no ranking") ∈ bw_TB := bw_t (i := 322) (by decide +kernel)
theorem wt_Of_94 : (Jvm.Cond.stringRef "BeatPathOffice" (94 : Nat) "times") ∈ bw_TB := bw_t (i := 323) (by decide +kernel)
theorem wt_Of_102 : (Jvm.Cond.stringRef "BeatPathOffice" (102 : Nat) "the batch takes no ballot") ∈ bw_TB := bw_t (i := 324) (by decide +kernel)
theorem wt_Of_108 : (Jvm.Cond.stringRef "BeatPathOffice" (108 : Nat) "no such turn") ∈ bw_TB := bw_t (i := 336) (by decide +kernel)
theorem wt_Of_114 : (Jvm.Cond.stringRef "BeatPathOffice" (114 : Nat) "the batch can't be turned so") ∈ bw_TB := bw_t (i := 340) (by decide +kernel)
theorem wt_Of_123 : (Jvm.Cond.stringRef "BeatPathOffice" (123 : Nat) "no such ballot") ∈ bw_TB := bw_t (i := 364) (by decide +kernel)
theorem wt_Of_125 : (Jvm.Cond.stringRef "BeatPathOffice" (125 : Nat) "the batch is open") ∈ bw_TB := bw_t (i := 365) (by decide +kernel)
theorem wt_Of_202 : (Jvm.Cond.stringRef "BeatPathOffice" (202 : Nat) "the same candidate twice") ∈ bw_TB := bw_t (i := 385) (by decide +kernel)
theorem wt_Of_213 : (Jvm.Cond.stringRef "BeatPathOffice" (213 : Nat) "there is none") ∈ bw_TB := bw_t (i := 493) (by decide +kernel)
theorem wk_In_265 : (Jvm.Cond.constant "java/lang/Integer" (265 : Nat) (1431655765 : Int32)) ∈ bw_TB := bw_t (i := 565) (by decide +kernel)
theorem wk_In_266 : (Jvm.Cond.constant "java/lang/Integer" (266 : Nat) (858993459 : Int32)) ∈ bw_TB := bw_t (i := 566) (by decide +kernel)
theorem wk_In_267 : (Jvm.Cond.constant "java/lang/Integer" (267 : Nat) (252645135 : Int32)) ∈ bw_TB := bw_t (i := 567) (by decide +kernel)
theorem wt_Of_195 : (Jvm.Cond.stringRef "BeatPathOffice" (195 : Nat) "no such question") ∈ bw_TB := bw_t (i := 575) (by decide +kernel)
theorem wz_582 : (Jvm.Cond.native ({ cls := "java/lang/System", name := "arraycopy", desc := "(Ljava/lang/Object;ILjava/lang/Object;II)V" } : Jvm.MethodName)) ∈ bw_TB := bw_t (i := 582) (by decide +kernel) -- native
theorem wc_La_82 : (Jvm.Cond.classLink "BeatPathOfficeLaw" (82 : Nat) "BeatPathOfficeModel") ∈ bw_TB := bw_t (i := 583) (by decide +kernel)
theorem wn_Mo : (Jvm.Cond.instantiable "BeatPathOfficeModel" (17 : Nat)) ∈ bw_TB := bw_t (i := 584) (by decide +kernel)
theorem wz_641 : (Jvm.Cond.arrayClass Jvm.ClassFile.FieldType.boolean) ∈ bw_TB := bw_t (i := 641) (by decide +kernel) -- arrayClass
theorem wz_795 : (Jvm.Cond.arrayClass Jvm.ClassFile.FieldType.long) ∈ bw_TB := bw_t (i := 795) (by decide +kernel) -- arrayClass
/-! shapes of callees, sites of calls -/
theorem sh_Of_init : bj_sh bw_TB Y_Of_init 1 := ⟨Or.inl ⟨rfl, bw_t (i := 21) (by decide +kernel)⟩, by decide +kernel, rfl, by decide +kernel, by decide +kernel, by decide⟩
theorem sh_Ba_init : bj_sh bw_TB Y_Ba_init 0 := ⟨Or.inl ⟨rfl, bw_t (i := 30) (by decide +kernel)⟩, by decide +kernel, rfl, by decide +kernel, by decide +kernel, by decide⟩
theorem sh_Co_init : bj_sh bw_TB Y_Co_init 1 := ⟨Or.inl ⟨rfl, bw_t (i := 57) (by decide +kernel)⟩, by decide +kernel, rfl, by decide +kernel, by decide +kernel, by decide⟩
theorem sh_Pa_init : bj_sh bw_TB Y_Pa_init 1 := ⟨Or.inl ⟨rfl, bw_t (i := 78) (by decide +kernel)⟩, by decide +kernel, rfl, by decide +kernel, by decide +kernel, by decide⟩
theorem sh_Lo_init : bj_sh bw_TB Y_Lo_init 1 := ⟨Or.inl ⟨rfl, bw_t (i := 96) (by decide +kernel)⟩, by decide +kernel, rfl, by decide +kernel, by decide +kernel, by decide⟩
theorem sh_Of_voters : bj_sh bw_TB Y_Of_voters 0 := ⟨Or.inl ⟨rfl, bw_t (i := 149) (by decide +kernel)⟩, by decide +kernel, rfl, by decide +kernel, by decide +kernel, by decide⟩
theorem sh_Of_seal : bj_sh bw_TB Y_Of_seal 0 := ⟨Or.inl ⟨rfl, bw_t (i := 153) (by decide +kernel)⟩, by decide +kernel, rfl, by decide +kernel, by decide +kernel, by decide⟩
theorem sh_La_cell : bj_sh bw_TB Y_La_cell 2 := ⟨Or.inl ⟨rfl, bw_t (i := 156) (by decide +kernel)⟩, by decide +kernel, rfl, by decide +kernel, by decide +kernel, by decide⟩
theorem sh_La_tie : bj_sh bw_TB Y_La_tie 3 := ⟨Or.inr (bw_t (i := 159) (by decide +kernel)), by decide +kernel, rfl, by decide +kernel, by decide +kernel, by decide⟩
theorem sh_Of_tie : bj_sh bw_TB Y_Of_tie 2 := ⟨Or.inl ⟨rfl, bw_t (i := 165) (by decide +kernel)⟩, by decide +kernel, rfl, by decide +kernel, by decide +kernel, by decide⟩
theorem sh_Of_needCandidate : bj_sh bw_TB Y_Of_needCandidate 1 := ⟨Or.inl ⟨rfl, bw_t (i := 169) (by decide +kernel)⟩, by decide +kernel, rfl, by decide +kernel, by decide +kernel, by decide⟩
theorem sh_Of_isCandidate : bj_sh bw_TB Y_Of_isCandidate 1 := ⟨Or.inl ⟨rfl, bw_t (i := 173) (by decide +kernel)⟩, by decide +kernel, rfl, by decide +kernel, by decide +kernel, by decide⟩
theorem sh_Of_needUnsealed : bj_sh bw_TB Y_Of_needUnsealed 0 := ⟨Or.inl ⟨rfl, bw_t (i := 246) (by decide +kernel)⟩, by decide +kernel, rfl, by decide +kernel, by decide +kernel, by decide⟩
theorem sh_Of_moveInDrawnOrder : bj_sh bw_TB Y_Of_moveInDrawnOrder 2 := ⟨Or.inl ⟨rfl, bw_t (i := 267) (by decide +kernel)⟩, by decide +kernel, rfl, by decide +kernel, by decide +kernel, by decide⟩
theorem sh_La_drawn : bj_sh bw_TB Y_La_drawn 3 := ⟨Or.inr (bw_t (i := 270) (by decide +kernel)), by decide +kernel, rfl, by decide +kernel, by decide +kernel, by decide⟩
theorem sh_Of_drawn : bj_sh bw_TB Y_Of_drawn 1 := ⟨Or.inl ⟨rfl, bw_t (i := 275) (by decide +kernel)⟩, by decide +kernel, rfl, by decide +kernel, by decide +kernel, by decide⟩
theorem sh_La_open : bj_sh bw_TB Y_La_open 2 := ⟨Or.inr (bw_t (i := 293) (by decide +kernel)), by decide +kernel, rfl, by decide +kernel, by decide +kernel, by decide⟩
theorem sh_Of_open : bj_sh bw_TB Y_Of_open 0 := ⟨Or.inl ⟨rfl, bw_t (i := 297) (by decide +kernel)⟩, by decide +kernel, rfl, by decide +kernel, by decide +kernel, by decide⟩
theorem sh_La_ballot : bj_sh bw_TB Y_La_ballot 5 := ⟨Or.inr (bw_t (i := 301) (by decide +kernel)), by decide +kernel, rfl, by decide +kernel, by decide +kernel, by decide⟩
theorem sh_Of_ballot : bj_sh bw_TB Y_Of_ballot 3 := ⟨Or.inl ⟨rfl, bw_t (i := 305) (by decide +kernel)⟩, by decide +kernel, rfl, by decide +kernel, by decide +kernel, by decide⟩
theorem sh_Of_needBatch : bj_sh bw_TB Y_Of_needBatch 1 := ⟨Or.inl ⟨rfl, bw_t (i := 309) (by decide +kernel)⟩, by decide +kernel, rfl, by decide +kernel, by decide +kernel, by decide⟩
theorem sh_Of_needRanking : bj_sh bw_TB Y_Of_needRanking 1 := ⟨Or.inl ⟨rfl, bw_t (i := 314) (by decide +kernel)⟩, by decide +kernel, rfl, by decide +kernel, by decide +kernel, by decide⟩
theorem sh_Of_isRanking : bj_sh bw_TB Y_Of_isRanking 1 := ⟨Or.inl ⟨rfl, bw_t (i := 318) (by decide +kernel)⟩, by decide +kernel, rfl, by decide +kernel, by decide +kernel, by decide⟩
theorem sh_Of_nibble : bj_sh bw_TB Y_Of_nibble 2 := ⟨Or.inl ⟨rfl, bw_t (i := 321) (by decide +kernel)⟩, by decide +kernel, rfl, by decide +kernel, by decide +kernel, by decide⟩
theorem sh_Ba_put : bj_sh bw_TB Y_Ba_put 2 := ⟨Or.inl ⟨rfl, bw_t (i := 328) (by decide +kernel)⟩, by decide +kernel, rfl, by decide +kernel, by decide +kernel, by decide⟩
theorem sh_La_turn : bj_sh bw_TB Y_La_turn 3 := ⟨Or.inr (bw_t (i := 331) (by decide +kernel)), by decide +kernel, rfl, by decide +kernel, by decide +kernel, by decide⟩
theorem sh_Of_turn : bj_sh bw_TB Y_Of_turn 2 := ⟨Or.inl ⟨rfl, bw_t (i := 335) (by decide +kernel)⟩, by decide +kernel, rfl, by decide +kernel, by decide +kernel, by decide⟩
theorem sh_Of_stageBefore : bj_sh bw_TB Y_Of_stageBefore 1 := ⟨Or.inl ⟨rfl, bw_t (i := 339) (by decide +kernel)⟩, by decide +kernel, rfl, by decide +kernel, by decide +kernel, by decide⟩
theorem sh_Co_takeOut : bj_sh bw_TB Y_Co_takeOut 1 := ⟨Or.inl ⟨rfl, bw_t (i := 344) (by decide +kernel)⟩, by decide +kernel, rfl, by decide +kernel, by decide +kernel, by decide⟩
theorem sh_Co_add : bj_sh bw_TB Y_Co_add 2 := ⟨Or.inl ⟨rfl, bw_t (i := 348) (by decide +kernel)⟩, by decide +kernel, rfl, by decide +kernel, by decide +kernel, by decide⟩
theorem sh_Co_comesBefore : bj_sh bw_TB Y_Co_comesBefore 3 := ⟨Or.inl ⟨rfl, bw_t (i := 351) (by decide +kernel)⟩, by decide +kernel, rfl, by decide +kernel, by decide +kernel, by decide⟩
theorem sh_Co_putIn : bj_sh bw_TB Y_Co_putIn 1 := ⟨Or.inl ⟨rfl, bw_t (i := 356) (by decide +kernel)⟩, by decide +kernel, rfl, by decide +kernel, by decide +kernel, by decide⟩
theorem sh_La_correct : bj_sh bw_TB Y_La_correct 5 := ⟨Or.inr (bw_t (i := 359) (by decide +kernel)), by decide +kernel, rfl, by decide +kernel, by decide +kernel, by decide⟩
theorem sh_Of_correct : bj_sh bw_TB Y_Of_correct 3 := ⟨Or.inl ⟨rfl, bw_t (i := 363) (by decide +kernel)⟩, by decide +kernel, rfl, by decide +kernel, by decide +kernel, by decide⟩
theorem sh_La_state : bj_sh bw_TB Y_La_state 3 := ⟨Or.inr (bw_t (i := 369) (by decide +kernel)), by decide +kernel, rfl, by decide +kernel, by decide +kernel, by decide⟩
theorem sh_Of_state : bj_sh bw_TB Y_Of_state 1 := ⟨Or.inl ⟨rfl, bw_t (i := 373) (by decide +kernel)⟩, by decide +kernel, rfl, by decide +kernel, by decide +kernel, by decide⟩
theorem sh_La_prefer : bj_sh bw_TB Y_La_prefer 4 := ⟨Or.inr (bw_t (i := 376) (by decide +kernel)), by decide +kernel, rfl, by decide +kernel, by decide +kernel, by decide⟩
theorem sh_Of_prefer : bj_sh bw_TB Y_Of_prefer 2 := ⟨Or.inl ⟨rfl, bw_t (i := 380) (by decide +kernel)⟩, by decide +kernel, rfl, by decide +kernel, by decide +kernel, by decide⟩
theorem sh_Of_needPair : bj_sh bw_TB Y_Of_needPair 2 := ⟨Or.inl ⟨rfl, bw_t (i := 384) (by decide +kernel)⟩, by decide +kernel, rfl, by decide +kernel, by decide +kernel, by decide⟩
theorem sh_La_strength : bj_sh bw_TB Y_La_strength 4 := ⟨Or.inr (bw_t (i := 388) (by decide +kernel)), by decide +kernel, rfl, by decide +kernel, by decide +kernel, by decide⟩
theorem sh_Of_strength : bj_sh bw_TB Y_Of_strength 2 := ⟨Or.inl ⟨rfl, bw_t (i := 392) (by decide +kernel)⟩, by decide +kernel, rfl, by decide +kernel, by decide +kernel, by decide⟩
theorem sh_Pa_weigh : bj_sh bw_TB Y_Pa_weigh 1 := ⟨Or.inl ⟨rfl, bw_t (i := 396) (by decide +kernel)⟩, by decide +kernel, rfl, by decide +kernel, by decide +kernel, by decide⟩
theorem sh_Co_direct : bj_sh bw_TB Y_Co_direct 2 := ⟨Or.inl ⟨rfl, bw_t (i := 400) (by decide +kernel)⟩, by decide +kernel, rfl, by decide +kernel, by decide +kernel, by decide⟩
theorem sh_Pa_widen : bj_sh bw_TB Y_Pa_widen 2 := ⟨Or.inl ⟨rfl, bw_t (i := 404) (by decide +kernel)⟩, by decide +kernel, rfl, by decide +kernel, by decide +kernel, by decide⟩
theorem sh_La_way : bj_sh bw_TB Y_La_way 4 := ⟨Or.inr (bw_t (i := 413) (by decide +kernel)), by decide +kernel, rfl, by decide +kernel, by decide +kernel, by decide⟩
theorem sh_Of_way : bj_sh bw_TB Y_Of_way 2 := ⟨Or.inl ⟨rfl, bw_t (i := 417) (by decide +kernel)⟩, by decide +kernel, rfl, by decide +kernel, by decide +kernel, by decide⟩
theorem sh_Pa_strongestWay : bj_sh bw_TB Y_Pa_strongestWay 3 := ⟨Or.inl ⟨rfl, bw_t (i := 421) (by decide +kernel)⟩, by decide +kernel, rfl, by decide +kernel, by decide +kernel, by decide⟩
theorem sh_Pa_countSteps : bj_sh bw_TB Y_Pa_countSteps 3 := ⟨Or.inl ⟨rfl, bw_t (i := 425) (by decide +kernel)⟩, by decide +kernel, rfl, by decide +kernel, by decide +kernel, by decide⟩
theorem sh_Ar_fill : bj_sh bw_TB Y_Ar_fill 2 := ⟨Or.inl ⟨rfl, bw_t (i := 428) (by decide +kernel)⟩, by decide +kernel, rfl, by decide +kernel, by decide +kernel, by decide⟩
theorem sh_Pa_nextAt : bj_sh bw_TB Y_Pa_nextAt 4 := ⟨Or.inl ⟨rfl, bw_t (i := 432) (by decide +kernel)⟩, by decide +kernel, rfl, by decide +kernel, by decide +kernel, by decide⟩
theorem sh_Pa_nextTowards : bj_sh bw_TB Y_Pa_nextTowards 3 := ⟨Or.inl ⟨rfl, bw_t (i := 436) (by decide +kernel)⟩, by decide +kernel, rfl, by decide +kernel, by decide +kernel, by decide⟩
theorem sh_La_cut : bj_sh bw_TB Y_La_cut 4 := ⟨Or.inr (bw_t (i := 439) (by decide +kernel)), by decide +kernel, rfl, by decide +kernel, by decide +kernel, by decide⟩
theorem sh_Of_cut : bj_sh bw_TB Y_Of_cut 2 := ⟨Or.inl ⟨rfl, bw_t (i := 443) (by decide +kernel)⟩, by decide +kernel, rfl, by decide +kernel, by decide +kernel, by decide⟩
theorem sh_Pa_reachedAbove : bj_sh bw_TB Y_Pa_reachedAbove 2 := ⟨Or.inl ⟨rfl, bw_t (i := 447) (by decide +kernel)⟩, by decide +kernel, rfl, by decide +kernel, by decide +kernel, by decide⟩
theorem sh_La_proves : bj_sh bw_TB Y_La_proves 7 := ⟨Or.inr (bw_t (i := 450) (by decide +kernel)), by decide +kernel, rfl, by decide +kernel, by decide +kernel, by decide⟩
theorem sh_Of_proves : bj_sh bw_TB Y_Of_proves 5 := ⟨Or.inl ⟨rfl, bw_t (i := 454) (by decide +kernel)⟩, by decide +kernel, rfl, by decide +kernel, by decide +kernel, by decide⟩
theorem sh_Co_isWay : bj_sh bw_TB Y_Co_isWay 4 := ⟨Or.inl ⟨rfl, bw_t (i := 458) (by decide +kernel)⟩, by decide +kernel, rfl, by decide +kernel, by decide +kernel, by decide⟩
theorem sh_Of_has : bj_sh bw_TB Y_Of_has 2 := ⟨Or.inl ⟨rfl, bw_t (i := 462) (by decide +kernel)⟩, by decide +kernel, rfl, by decide +kernel, by decide +kernel, by decide⟩
theorem sh_Co_isHeldIn : bj_sh bw_TB Y_Co_isHeldIn 2 := ⟨Or.inl ⟨rfl, bw_t (i := 466) (by decide +kernel)⟩, by decide +kernel, rfl, by decide +kernel, by decide +kernel, by decide⟩
theorem sh_La_winner : bj_sh bw_TB Y_La_winner 3 := ⟨Or.inr (bw_t (i := 470) (by decide +kernel)), by decide +kernel, rfl, by decide +kernel, by decide +kernel, by decide⟩
theorem sh_Of_winner : bj_sh bw_TB Y_Of_winner 1 := ⟨Or.inl ⟨rfl, bw_t (i := 474) (by decide +kernel)⟩, by decide +kernel, rfl, by decide +kernel, by decide +kernel, by decide⟩
theorem sh_Of_winnerSet : bj_sh bw_TB Y_Of_winnerSet 1 := ⟨Or.inl ⟨rfl, bw_t (i := 478) (by decide +kernel)⟩, by decide +kernel, rfl, by decide +kernel, by decide +kernel, by decide⟩
theorem sh_Pa_unbeaten : bj_sh bw_TB Y_Pa_unbeaten 0 := ⟨Or.inl ⟨rfl, bw_t (i := 482) (by decide +kernel)⟩, by decide +kernel, rfl, by decide +kernel, by decide +kernel, by decide⟩
theorem sh_Pa_isUnbeaten : bj_sh bw_TB Y_Pa_isUnbeaten 1 := ⟨Or.inl ⟨rfl, bw_t (i := 486) (by decide +kernel)⟩, by decide +kernel, rfl, by decide +kernel, by decide +kernel, by decide⟩
theorem sh_Of_member : bj_sh bw_TB Y_Of_member 2 := ⟨Or.inl ⟨rfl, bw_t (i := 489) (by decide +kernel)⟩, by decide +kernel, rfl, by decide +kernel, by decide +kernel, by decide⟩
theorem sh_Of_needFound : bj_sh bw_TB Y_Of_needFound 1 := ⟨Or.inl ⟨rfl, bw_t (i := 492) (by decide +kernel)⟩, by decide +kernel, rfl, by decide +kernel, by decide +kernel, by decide⟩
theorem sh_La_locked : bj_sh bw_TB Y_La_locked 4 := ⟨Or.inr (bw_t (i := 496) (by decide +kernel)), by decide +kernel, rfl, by decide +kernel, by decide +kernel, by decide⟩
theorem sh_Of_locked : bj_sh bw_TB Y_Of_locked 2 := ⟨Or.inl ⟨rfl, bw_t (i := 500) (by decide +kernel)⟩, by decide +kernel, rfl, by decide +kernel, by decide +kernel, by decide⟩
theorem sh_Lo_lockPairs : bj_sh bw_TB Y_Lo_lockPairs 2 := ⟨Or.inl ⟨rfl, bw_t (i := 504) (by decide +kernel)⟩, by decide +kernel, rfl, by decide +kernel, by decide +kernel, by decide⟩
theorem sh_Lo_sortPairs : bj_sh bw_TB Y_Lo_sortPairs 2 := ⟨Or.inl ⟨rfl, bw_t (i := 509) (by decide +kernel)⟩, by decide +kernel, rfl, by decide +kernel, by decide +kernel, by decide⟩
theorem sh_Lo_insert : bj_sh bw_TB Y_Lo_insert 3 := ⟨Or.inl ⟨rfl, bw_t (i := 514) (by decide +kernel)⟩, by decide +kernel, rfl, by decide +kernel, by decide +kernel, by decide⟩
theorem sh_Lo_overtakes : bj_sh bw_TB Y_Lo_overtakes 4 := ⟨Or.inl ⟨rfl, bw_t (i := 518) (by decide +kernel)⟩, by decide +kernel, rfl, by decide +kernel, by decide +kernel, by decide⟩
theorem sh_Lo_lock : bj_sh bw_TB Y_Lo_lock 2 := ⟨Or.inl ⟨rfl, bw_t (i := 523) (by decide +kernel)⟩, by decide +kernel, rfl, by decide +kernel, by decide +kernel, by decide⟩
theorem sh_La_order : bj_sh bw_TB Y_La_order 3 := ⟨Or.inr (bw_t (i := 526) (by decide +kernel)), by decide +kernel, rfl, by decide +kernel, by decide +kernel, by decide⟩
theorem sh_Of_order : bj_sh bw_TB Y_Of_order 1 := ⟨Or.inl ⟨rfl, bw_t (i := 530) (by decide +kernel)⟩, by decide +kernel, rfl, by decide +kernel, by decide +kernel, by decide⟩
theorem sh_Of_inOrder : bj_sh bw_TB Y_Of_inOrder 2 := ⟨Or.inl ⟨rfl, bw_t (i := 534) (by decide +kernel)⟩, by decide +kernel, rfl, by decide +kernel, by decide +kernel, by decide⟩
theorem sh_Lo_lineUp : bj_sh bw_TB Y_Lo_lineUp 2 := ⟨Or.inl ⟨rfl, bw_t (i := 538) (by decide +kernel)⟩, by decide +kernel, rfl, by decide +kernel, by decide +kernel, by decide⟩
theorem sh_Lo_firstFree : bj_sh bw_TB Y_Lo_firstFree 2 := ⟨Or.inl ⟨rfl, bw_t (i := 542) (by decide +kernel)⟩, by decide +kernel, rfl, by decide +kernel, by decide +kernel, by decide⟩
theorem sh_La_top : bj_sh bw_TB Y_La_top 3 := ⟨Or.inr (bw_t (i := 545) (by decide +kernel)), by decide +kernel, rfl, by decide +kernel, by decide +kernel, by decide⟩
theorem sh_Of_top : bj_sh bw_TB Y_Of_top 1 := ⟨Or.inl ⟨rfl, bw_t (i := 549) (by decide +kernel)⟩, by decide +kernel, rfl, by decide +kernel, by decide +kernel, by decide⟩
theorem sh_Co_topSet : bj_sh bw_TB Y_Co_topSet 0 := ⟨Or.inl ⟨rfl, bw_t (i := 553) (by decide +kernel)⟩, by decide +kernel, rfl, by decide +kernel, by decide +kernel, by decide⟩
theorem sh_Co_beatingSetAround : bj_sh bw_TB Y_Co_beatingSetAround 1 := ⟨Or.inl ⟨rfl, bw_t (i := 557) (by decide +kernel)⟩, by decide +kernel, rfl, by decide +kernel, by decide +kernel, by decide⟩
theorem sh_Co_notBeatenBy : bj_sh bw_TB Y_Co_notBeatenBy 1 := ⟨Or.inl ⟨rfl, bw_t (i := 561) (by decide +kernel)⟩, by decide +kernel, rfl, by decide +kernel, by decide +kernel, by decide⟩
theorem sh_In_bitCount : bj_sh bw_TB Y_In_bitCount 1 := ⟨Or.inl ⟨rfl, bw_t (i := 564) (by decide +kernel)⟩, by decide +kernel, rfl, by decide +kernel, by decide +kernel, by decide⟩
theorem sh_La_without : bj_sh bw_TB Y_La_without 5 := ⟨Or.inr (bw_t (i := 570) (by decide +kernel)), by decide +kernel, rfl, by decide +kernel, by decide +kernel, by decide⟩
theorem sh_Of_without : bj_sh bw_TB Y_Of_without 3 := ⟨Or.inl ⟨rfl, bw_t (i := 574) (by decide +kernel)⟩, by decide +kernel, rfl, by decide +kernel, by decide +kernel, by decide⟩
theorem sh_Co_copy : bj_sh bw_TB Y_Co_copy 1 := ⟨Or.inl ⟨rfl, bw_t (i := 579) (by decide +kernel)⟩, by decide +kernel, rfl, by decide +kernel, by decide +kernel, by decide⟩
theorem sh_Mo_init : bj_sh bw_TB Y_Mo_init 1 := ⟨Or.inl ⟨rfl, bw_t (i := 587) (by decide +kernel)⟩, by decide +kernel, rfl, by decide +kernel, by decide +kernel, by decide⟩
theorem sh_Mo_thrown : bj_sh bw_TB Y_Mo_thrown 0 := ⟨Or.inl ⟨rfl, bw_t (i := 645) (by decide +kernel)⟩, by decide +kernel, rfl, by decide +kernel, by decide +kernel, by decide⟩
theorem sh_Mo_tie : bj_sh bw_TB Y_Mo_tie 2 := ⟨Or.inl ⟨rfl, bw_t (i := 649) (by decide +kernel)⟩, by decide +kernel, rfl, by decide +kernel, by decide +kernel, by decide⟩
theorem sh_Mo_isCandidate : bj_sh bw_TB Y_Mo_isCandidate 1 := ⟨Or.inl ⟨rfl, bw_t (i := 653) (by decide +kernel)⟩, by decide +kernel, rfl, by decide +kernel, by decide +kernel, by decide⟩
theorem sh_Mo_placeOf : bj_sh bw_TB Y_Mo_placeOf 1 := ⟨Or.inl ⟨rfl, bw_t (i := 657) (by decide +kernel)⟩, by decide +kernel, rfl, by decide +kernel, by decide +kernel, by decide⟩
theorem sh_Mo_drawn : bj_sh bw_TB Y_Mo_drawn 1 := ⟨Or.inl ⟨rfl, bw_t (i := 661) (by decide +kernel)⟩, by decide +kernel, rfl, by decide +kernel, by decide +kernel, by decide⟩
theorem sh_Mo_open : bj_sh bw_TB Y_Mo_open 0 := ⟨Or.inl ⟨rfl, bw_t (i := 665) (by decide +kernel)⟩, by decide +kernel, rfl, by decide +kernel, by decide +kernel, by decide⟩
theorem sh_Mo_ballot : bj_sh bw_TB Y_Mo_ballot 3 := ⟨Or.inl ⟨rfl, bw_t (i := 669) (by decide +kernel)⟩, by decide +kernel, rfl, by decide +kernel, by decide +kernel, by decide⟩
theorem sh_Mo_isBatch : bj_sh bw_TB Y_Mo_isBatch 1 := ⟨Or.inl ⟨rfl, bw_t (i := 673) (by decide +kernel)⟩, by decide +kernel, rfl, by decide +kernel, by decide +kernel, by decide⟩
theorem sh_Mo_isRanking : bj_sh bw_TB Y_Mo_isRanking 1 := ⟨Or.inl ⟨rfl, bw_t (i := 677) (by decide +kernel)⟩, by decide +kernel, rfl, by decide +kernel, by decide +kernel, by decide⟩
theorem sh_Mo_place : bj_sh bw_TB Y_Mo_place 2 := ⟨Or.inl ⟨rfl, bw_t (i := 680) (by decide +kernel)⟩, by decide +kernel, rfl, by decide +kernel, by decide +kernel, by decide⟩
theorem sh_Mo_turn : bj_sh bw_TB Y_Mo_turn 2 := ⟨Or.inl ⟨rfl, bw_t (i := 684) (by decide +kernel)⟩, by decide +kernel, rfl, by decide +kernel, by decide +kernel, by decide⟩
theorem sh_Mo_correct : bj_sh bw_TB Y_Mo_correct 3 := ⟨Or.inl ⟨rfl, bw_t (i := 688) (by decide +kernel)⟩, by decide +kernel, rfl, by decide +kernel, by decide +kernel, by decide⟩
theorem sh_Mo_state : bj_sh bw_TB Y_Mo_state 1 := ⟨Or.inl ⟨rfl, bw_t (i := 692) (by decide +kernel)⟩, by decide +kernel, rfl, by decide +kernel, by decide +kernel, by decide⟩
theorem sh_Mo_voters : bj_sh bw_TB Y_Mo_voters 0 := ⟨Or.inl ⟨rfl, bw_t (i := 696) (by decide +kernel)⟩, by decide +kernel, rfl, by decide +kernel, by decide +kernel, by decide⟩
theorem sh_Mo_prefer : bj_sh bw_TB Y_Mo_prefer 2 := ⟨Or.inl ⟨rfl, bw_t (i := 700) (by decide +kernel)⟩, by decide +kernel, rfl, by decide +kernel, by decide +kernel, by decide⟩
theorem sh_Mo_lacks : bj_sh bw_TB Y_Mo_lacks 2 := ⟨Or.inl ⟨rfl, bw_t (i := 704) (by decide +kernel)⟩, by decide +kernel, rfl, by decide +kernel, by decide +kernel, by decide⟩
theorem sh_Mo_count : bj_sh bw_TB Y_Mo_count 1 := ⟨Or.inl ⟨rfl, bw_t (i := 708) (by decide +kernel)⟩, by decide +kernel, rfl, by decide +kernel, by decide +kernel, by decide⟩
theorem sh_Mo_add : bj_sh bw_TB Y_Mo_add 2 := ⟨Or.inl ⟨rfl, bw_t (i := 712) (by decide +kernel)⟩, by decide +kernel, rfl, by decide +kernel, by decide +kernel, by decide⟩
theorem sh_Mo_strengthen : bj_sh bw_TB Y_Mo_strengthen 0 := ⟨Or.inl ⟨rfl, bw_t (i := 716) (by decide +kernel)⟩, by decide +kernel, rfl, by decide +kernel, by decide +kernel, by decide⟩
theorem sh_Mo_lesser : bj_sh bw_TB Y_Mo_lesser 2 := ⟨Or.inl ⟨rfl, bw_t (i := 719) (by decide +kernel)⟩, by decide +kernel, rfl, by decide +kernel, by decide +kernel, by decide⟩
theorem sh_Mo_strength : bj_sh bw_TB Y_Mo_strength 2 := ⟨Or.inl ⟨rfl, bw_t (i := 723) (by decide +kernel)⟩, by decide +kernel, rfl, by decide +kernel, by decide +kernel, by decide⟩
theorem sh_Mo_way : bj_sh bw_TB Y_Mo_way 2 := ⟨Or.inl ⟨rfl, bw_t (i := 727) (by decide +kernel)⟩, by decide +kernel, rfl, by decide +kernel, by decide +kernel, by decide⟩
theorem sh_Mo_cut : bj_sh bw_TB Y_Mo_cut 2 := ⟨Or.inl ⟨rfl, bw_t (i := 731) (by decide +kernel)⟩, by decide +kernel, rfl, by decide +kernel, by decide +kernel, by decide⟩
theorem sh_Mo_proves : bj_sh bw_TB Y_Mo_proves 5 := ⟨Or.inl ⟨rfl, bw_t (i := 735) (by decide +kernel)⟩, by decide +kernel, rfl, by decide +kernel, by decide +kernel, by decide⟩
theorem sh_Mo_isWay : bj_sh bw_TB Y_Mo_isWay 4 := ⟨Or.inl ⟨rfl, bw_t (i := 739) (by decide +kernel)⟩, by decide +kernel, rfl, by decide +kernel, by decide +kernel, by decide⟩
theorem sh_Mo_winner : bj_sh bw_TB Y_Mo_winner 1 := ⟨Or.inl ⟨rfl, bw_t (i := 743) (by decide +kernel)⟩, by decide +kernel, rfl, by decide +kernel, by decide +kernel, by decide⟩
theorem sh_Mo_tell : bj_sh bw_TB Y_Mo_tell 4 := ⟨Or.inl ⟨rfl, bw_t (i := 747) (by decide +kernel)⟩, by decide +kernel, rfl, by decide +kernel, by decide +kernel, by decide⟩
theorem sh_Mo_winners : bj_sh bw_TB Y_Mo_winners 0 := ⟨Or.inl ⟨rfl, bw_t (i := 751) (by decide +kernel)⟩, by decide +kernel, rfl, by decide +kernel, by decide +kernel, by decide⟩
theorem sh_Mo_orderAll : bj_sh bw_TB Y_Mo_orderAll 0 := ⟨Or.inl ⟨rfl, bw_t (i := 755) (by decide +kernel)⟩, by decide +kernel, rfl, by decide +kernel, by decide +kernel, by decide⟩
theorem sh_Mo_lockAll : bj_sh bw_TB Y_Mo_lockAll 0 := ⟨Or.inl ⟨rfl, bw_t (i := 759) (by decide +kernel)⟩, by decide +kernel, rfl, by decide +kernel, by decide +kernel, by decide⟩
theorem sh_Mo_isBefore : bj_sh bw_TB Y_Mo_isBefore 2 := ⟨Or.inl ⟨rfl, bw_t (i := 763) (by decide +kernel)⟩, by decide +kernel, rfl, by decide +kernel, by decide +kernel, by decide⟩
theorem sh_Mo_lock : bj_sh bw_TB Y_Mo_lock 1 := ⟨Or.inl ⟨rfl, bw_t (i := 767) (by decide +kernel)⟩, by decide +kernel, rfl, by decide +kernel, by decide +kernel, by decide⟩
theorem sh_Mo_topAll : bj_sh bw_TB Y_Mo_topAll 0 := ⟨Or.inl ⟨rfl, bw_t (i := 771) (by decide +kernel)⟩, by decide +kernel, rfl, by decide +kernel, by decide +kernel, by decide⟩
theorem sh_Mo_sizeOf : bj_sh bw_TB Y_Mo_sizeOf 1 := ⟨Or.inl ⟨rfl, bw_t (i := 774) (by decide +kernel)⟩, by decide +kernel, rfl, by decide +kernel, by decide +kernel, by decide⟩
theorem sh_Mo_locked : bj_sh bw_TB Y_Mo_locked 2 := ⟨Or.inl ⟨rfl, bw_t (i := 778) (by decide +kernel)⟩, by decide +kernel, rfl, by decide +kernel, by decide +kernel, by decide⟩
theorem sh_Mo_order : bj_sh bw_TB Y_Mo_order 1 := ⟨Or.inl ⟨rfl, bw_t (i := 782) (by decide +kernel)⟩, by decide +kernel, rfl, by decide +kernel, by decide +kernel, by decide⟩
theorem sh_Mo_top : bj_sh bw_TB Y_Mo_top 1 := ⟨Or.inl ⟨rfl, bw_t (i := 786) (by decide +kernel)⟩, by decide +kernel, rfl, by decide +kernel, by decide +kernel, by decide⟩
theorem sh_Mo_without : bj_sh bw_TB Y_Mo_without 3 := ⟨Or.inl ⟨rfl, bw_t (i := 790) (by decide +kernel)⟩, by decide +kernel, rfl, by decide +kernel, by decide +kernel, by decide⟩
theorem sh_Mo_seal : bj_sh bw_TB Y_Mo_seal 0 := ⟨Or.inl ⟨rfl, bw_t (i := 794) (by decide +kernel)⟩, by decide +kernel, rfl, by decide +kernel, by decide +kernel, by decide⟩
theorem si_La_79 : bj_si bw_TB "BeatPathOfficeLaw" 79 Y_Of_init 1 := ⟨bw_t (i := 19) (by decide +kernel), bw_t (i := 20) (by decide +kernel), bw_t (i := 21) (by decide +kernel), rfl, rfl, rfl, by decide, sh_Of_init⟩
theorem si_Of_23 : bj_si bw_TB "BeatPathOffice" 23 Y_Ba_init 0 := ⟨bw_t (i := 28) (by decide +kernel), bw_t (i := 29) (by decide +kernel), bw_t (i := 30) (by decide +kernel), rfl, rfl, rfl, by decide, sh_Ba_init⟩
theorem si_Of_33 : bj_si bw_TB "BeatPathOffice" 33 Y_Co_init 1 := ⟨bw_t (i := 55) (by decide +kernel), bw_t (i := 56) (by decide +kernel), bw_t (i := 57) (by decide +kernel), rfl, rfl, rfl, by decide, sh_Co_init⟩
theorem si_Of_45 : bj_si bw_TB "BeatPathOffice" 45 Y_Pa_init 1 := ⟨bw_t (i := 76) (by decide +kernel), bw_t (i := 77) (by decide +kernel), bw_t (i := 78) (by decide +kernel), rfl, rfl, rfl, by decide, sh_Pa_init⟩
theorem si_Of_52 : bj_si bw_TB "BeatPathOffice" 52 Y_Lo_init 1 := ⟨bw_t (i := 94) (by decide +kernel), bw_t (i := 95) (by decide +kernel), bw_t (i := 96) (by decide +kernel), rfl, rfl, rfl, by decide, sh_Lo_init⟩
theorem sv_La_113 : bj_sv bw_TB "BeatPathOfficeLaw" 113 Y_Of_voters 0 := ⟨bw_t (i := 146) (by decide +kernel), bw_t (i := 147) (by decide +kernel), bw_t (i := 148) (by decide +kernel), by decide, sh_Of_voters⟩
theorem sv_La_149 : bj_sv bw_TB "BeatPathOfficeLaw" 149 Y_Of_seal 0 := ⟨bw_t (i := 150) (by decide +kernel), bw_t (i := 151) (by decide +kernel), bw_t (i := 152) (by decide +kernel), by decide, sh_Of_seal⟩
theorem ss_La_73 : bj_ss bw_TB "BeatPathOfficeLaw" 73 Y_La_cell 2 := ⟨bw_t (i := 154) (by decide +kernel), bw_t (i := 155) (by decide +kernel), bw_t (i := 0) (by decide +kernel), by decide, sh_La_cell⟩
theorem ss_La_85 : bj_ss bw_TB "BeatPathOfficeLaw" 85 Y_La_tie 3 := ⟨bw_t (i := 157) (by decide +kernel), bw_t (i := 158) (by decide +kernel), bw_t (i := 0) (by decide +kernel), by decide, sh_La_tie⟩
theorem sv_La_7 : bj_sv bw_TB "BeatPathOfficeLaw" 7 Y_Of_tie 2 := ⟨bw_t (i := 162) (by decide +kernel), bw_t (i := 163) (by decide +kernel), bw_t (i := 164) (by decide +kernel), by decide, sh_Of_tie⟩
theorem sv_Of_57 : bj_sv bw_TB "BeatPathOffice" 57 Y_Of_needCandidate 1 := ⟨bw_t (i := 166) (by decide +kernel), bw_t (i := 168) (by decide +kernel), bw_p (i := 0) (by decide +kernel), by decide, sh_Of_needCandidate⟩
theorem sv_Of_60 : bj_sv bw_TB "BeatPathOffice" 60 Y_Of_isCandidate 1 := ⟨bw_t (i := 170) (by decide +kernel), bw_t (i := 172) (by decide +kernel), bw_p (i := 1) (by decide +kernel), by decide, sh_Of_isCandidate⟩
theorem sv_Of_71 : bj_sv bw_TB "BeatPathOffice" 71 Y_Of_needUnsealed 0 := ⟨bw_t (i := 243) (by decide +kernel), bw_t (i := 245) (by decide +kernel), bw_p (i := 3) (by decide +kernel), by decide, sh_Of_needUnsealed⟩
theorem sv_Of_79 : bj_sv bw_TB "BeatPathOffice" 79 Y_Of_moveInDrawnOrder 2 := ⟨bw_t (i := 264) (by decide +kernel), bw_t (i := 266) (by decide +kernel), bw_p (i := 4) (by decide +kernel), by decide, sh_Of_moveInDrawnOrder⟩
theorem ss_La_92 : bj_ss bw_TB "BeatPathOfficeLaw" 92 Y_La_drawn 3 := ⟨bw_t (i := 268) (by decide +kernel), bw_t (i := 269) (by decide +kernel), bw_t (i := 0) (by decide +kernel), by decide, sh_La_drawn⟩
theorem sv_La_17 : bj_sv bw_TB "BeatPathOfficeLaw" 17 Y_Of_drawn 1 := ⟨bw_t (i := 272) (by decide +kernel), bw_t (i := 273) (by decide +kernel), bw_t (i := 274) (by decide +kernel), by decide, sh_Of_drawn⟩
theorem ss_La_96 : bj_ss bw_TB "BeatPathOfficeLaw" 96 Y_La_open 2 := ⟨bw_t (i := 291) (by decide +kernel), bw_t (i := 292) (by decide +kernel), bw_t (i := 0) (by decide +kernel), by decide, sh_La_open⟩
theorem sv_La_23 : bj_sv bw_TB "BeatPathOfficeLaw" 23 Y_Of_open 0 := ⟨bw_t (i := 294) (by decide +kernel), bw_t (i := 295) (by decide +kernel), bw_t (i := 296) (by decide +kernel), by decide, sh_Of_open⟩
theorem ss_La_100 : bj_ss bw_TB "BeatPathOfficeLaw" 100 Y_La_ballot 5 := ⟨bw_t (i := 299) (by decide +kernel), bw_t (i := 300) (by decide +kernel), bw_t (i := 0) (by decide +kernel), by decide, sh_La_ballot⟩
theorem sv_La_27 : bj_sv bw_TB "BeatPathOfficeLaw" 27 Y_Of_ballot 3 := ⟨bw_t (i := 302) (by decide +kernel), bw_t (i := 303) (by decide +kernel), bw_t (i := 304) (by decide +kernel), by decide, sh_Of_ballot⟩
theorem sv_Of_88 : bj_sv bw_TB "BeatPathOffice" 88 Y_Of_needBatch 1 := ⟨bw_t (i := 306) (by decide +kernel), bw_t (i := 308) (by decide +kernel), bw_p (i := 5) (by decide +kernel), by decide, sh_Of_needBatch⟩
theorem sv_Of_91 : bj_sv bw_TB "BeatPathOffice" 91 Y_Of_needRanking 1 := ⟨bw_t (i := 311) (by decide +kernel), bw_t (i := 313) (by decide +kernel), bw_p (i := 6) (by decide +kernel), by decide, sh_Of_needRanking⟩
theorem sv_Of_206 : bj_sv bw_TB "BeatPathOffice" 206 Y_Of_isRanking 1 := ⟨bw_t (i := 315) (by decide +kernel), bw_t (i := 317) (by decide +kernel), bw_p (i := 7) (by decide +kernel), by decide, sh_Of_isRanking⟩
theorem ss_Of_215 : bj_ss bw_TB "BeatPathOffice" 215 Y_Of_nibble 2 := ⟨bw_t (i := 319) (by decide +kernel), bw_t (i := 320) (by decide +kernel), bw_t (i := 1) (by decide +kernel), by decide, sh_Of_nibble⟩
theorem sv_Of_104 : bj_sv bw_TB "BeatPathOffice" 104 Y_Ba_put 2 := ⟨bw_t (i := 325) (by decide +kernel), bw_t (i := 326) (by decide +kernel), bw_t (i := 327) (by decide +kernel), by decide, sh_Ba_put⟩
theorem ss_La_104 : bj_ss bw_TB "BeatPathOfficeLaw" 104 Y_La_turn 3 := ⟨bw_t (i := 329) (by decide +kernel), bw_t (i := 330) (by decide +kernel), bw_t (i := 0) (by decide +kernel), by decide, sh_La_turn⟩
theorem sv_La_31 : bj_sv bw_TB "BeatPathOfficeLaw" 31 Y_Of_turn 2 := ⟨bw_t (i := 332) (by decide +kernel), bw_t (i := 333) (by decide +kernel), bw_t (i := 334) (by decide +kernel), by decide, sh_Of_turn⟩
theorem ss_Of_110 : bj_ss bw_TB "BeatPathOffice" 110 Y_Of_stageBefore 1 := ⟨bw_t (i := 337) (by decide +kernel), bw_t (i := 338) (by decide +kernel), bw_t (i := 1) (by decide +kernel), by decide, sh_Of_stageBefore⟩
theorem sv_Of_116 : bj_sv bw_TB "BeatPathOffice" 116 Y_Co_takeOut 1 := ⟨bw_t (i := 341) (by decide +kernel), bw_t (i := 342) (by decide +kernel), bw_t (i := 343) (by decide +kernel), by decide, sh_Co_takeOut⟩
theorem sv_Co_41 : bj_sv bw_TB "BeatPathOffice$Count" 41 Y_Co_add 2 := ⟨bw_t (i := 345) (by decide +kernel), bw_t (i := 346) (by decide +kernel), bw_t (i := 347) (by decide +kernel), by decide, sh_Co_add⟩
theorem ss_Co_45 : bj_ss bw_TB "BeatPathOffice$Count" 45 Y_Co_comesBefore 3 := ⟨bw_t (i := 349) (by decide +kernel), bw_t (i := 350) (by decide +kernel), bw_t (i := 3) (by decide +kernel), by decide, sh_Co_comesBefore⟩
theorem sn_Co_49 : bj_sn bw_TB "BeatPathOffice$Count" "BeatPathOffice" 49 Y_Of_nibble 2 := ⟨bw_t (i := 352) (by decide +kernel), bw_t (i := 320) (by decide +kernel), bw_t (i := 1) (by decide +kernel), by decide, sh_Of_nibble⟩
theorem sv_Of_120 : bj_sv bw_TB "BeatPathOffice" 120 Y_Co_putIn 1 := ⟨bw_t (i := 353) (by decide +kernel), bw_t (i := 354) (by decide +kernel), bw_t (i := 355) (by decide +kernel), by decide, sh_Co_putIn⟩
theorem ss_La_107 : bj_ss bw_TB "BeatPathOfficeLaw" 107 Y_La_correct 5 := ⟨bw_t (i := 357) (by decide +kernel), bw_t (i := 358) (by decide +kernel), bw_t (i := 0) (by decide +kernel), by decide, sh_La_correct⟩
theorem sv_La_34 : bj_sv bw_TB "BeatPathOfficeLaw" 34 Y_Of_correct 3 := ⟨bw_t (i := 360) (by decide +kernel), bw_t (i := 361) (by decide +kernel), bw_t (i := 362) (by decide +kernel), by decide, sh_Of_correct⟩
theorem sv_Of_132 : bj_sv bw_TB "BeatPathOffice" 132 Y_Co_add 2 := ⟨bw_t (i := 366) (by decide +kernel), bw_t (i := 346) (by decide +kernel), bw_t (i := 347) (by decide +kernel), by decide, sh_Co_add⟩
theorem ss_La_110 : bj_ss bw_TB "BeatPathOfficeLaw" 110 Y_La_state 3 := ⟨bw_t (i := 367) (by decide +kernel), bw_t (i := 368) (by decide +kernel), bw_t (i := 0) (by decide +kernel), by decide, sh_La_state⟩
theorem sv_La_37 : bj_sv bw_TB "BeatPathOfficeLaw" 37 Y_Of_state 1 := ⟨bw_t (i := 370) (by decide +kernel), bw_t (i := 371) (by decide +kernel), bw_t (i := 372) (by decide +kernel), by decide, sh_Of_state⟩
theorem ss_La_117 : bj_ss bw_TB "BeatPathOfficeLaw" 117 Y_La_prefer 4 := ⟨bw_t (i := 374) (by decide +kernel), bw_t (i := 375) (by decide +kernel), bw_t (i := 0) (by decide +kernel), by decide, sh_La_prefer⟩
theorem sv_La_40 : bj_sv bw_TB "BeatPathOfficeLaw" 40 Y_Of_prefer 2 := ⟨bw_t (i := 377) (by decide +kernel), bw_t (i := 378) (by decide +kernel), bw_t (i := 379) (by decide +kernel), by decide, sh_Of_prefer⟩
theorem sv_Of_138 : bj_sv bw_TB "BeatPathOffice" 138 Y_Of_needPair 2 := ⟨bw_t (i := 381) (by decide +kernel), bw_t (i := 383) (by decide +kernel), bw_p (i := 8) (by decide +kernel), by decide, sh_Of_needPair⟩
theorem ss_La_121 : bj_ss bw_TB "BeatPathOfficeLaw" 121 Y_La_strength 4 := ⟨bw_t (i := 386) (by decide +kernel), bw_t (i := 387) (by decide +kernel), bw_t (i := 0) (by decide +kernel), by decide, sh_La_strength⟩
theorem sv_La_44 : bj_sv bw_TB "BeatPathOfficeLaw" 44 Y_Of_strength 2 := ⟨bw_t (i := 389) (by decide +kernel), bw_t (i := 390) (by decide +kernel), bw_t (i := 391) (by decide +kernel), by decide, sh_Of_strength⟩
theorem sv_Of_145 : bj_sv bw_TB "BeatPathOffice" 145 Y_Pa_weigh 1 := ⟨bw_t (i := 393) (by decide +kernel), bw_t (i := 394) (by decide +kernel), bw_t (i := 395) (by decide +kernel), by decide, sh_Pa_weigh⟩
theorem sv_Pa_24 : bj_sv bw_TB "BeatPathOffice$BeatPaths" 24 Y_Co_direct 2 := ⟨bw_t (i := 397) (by decide +kernel), bw_t (i := 398) (by decide +kernel), bw_t (i := 399) (by decide +kernel), by decide, sh_Co_direct⟩
theorem sv_Pa_30 : bj_sv bw_TB "BeatPathOffice$BeatPaths" 30 Y_Pa_widen 2 := ⟨bw_t (i := 401) (by decide +kernel), bw_t (i := 403) (by decide +kernel), bw_p (i := 9) (by decide +kernel), by decide, sh_Pa_widen⟩
theorem ss_La_124 : bj_ss bw_TB "BeatPathOfficeLaw" 124 Y_La_way 4 := ⟨bw_t (i := 411) (by decide +kernel), bw_t (i := 412) (by decide +kernel), bw_t (i := 0) (by decide +kernel), by decide, sh_La_way⟩
theorem sv_La_47 : bj_sv bw_TB "BeatPathOfficeLaw" 47 Y_Of_way 2 := ⟨bw_t (i := 414) (by decide +kernel), bw_t (i := 415) (by decide +kernel), bw_t (i := 416) (by decide +kernel), by decide, sh_Of_way⟩
theorem sv_Of_152 : bj_sv bw_TB "BeatPathOffice" 152 Y_Pa_strongestWay 3 := ⟨bw_t (i := 418) (by decide +kernel), bw_t (i := 419) (by decide +kernel), bw_t (i := 420) (by decide +kernel), by decide, sh_Pa_strongestWay⟩
theorem sv_Pa_46 : bj_sv bw_TB "BeatPathOffice$BeatPaths" 46 Y_Pa_countSteps 3 := ⟨bw_t (i := 422) (by decide +kernel), bw_t (i := 424) (by decide +kernel), bw_p (i := 10) (by decide +kernel), by decide, sh_Pa_countSteps⟩
theorem ss_Pa_54 : bj_ss bw_TB "BeatPathOffice$BeatPaths" 54 Y_Ar_fill 2 := ⟨bw_t (i := 426) (by decide +kernel), bw_t (i := 427) (by decide +kernel), bw_t (i := 14) (by decide +kernel), by decide, sh_Ar_fill⟩
theorem sv_Pa_60 : bj_sv bw_TB "BeatPathOffice$BeatPaths" 60 Y_Pa_nextAt 4 := ⟨bw_t (i := 429) (by decide +kernel), bw_t (i := 431) (by decide +kernel), bw_p (i := 11) (by decide +kernel), by decide, sh_Pa_nextAt⟩
theorem sv_Pa_50 : bj_sv bw_TB "BeatPathOffice$BeatPaths" 50 Y_Pa_nextTowards 3 := ⟨bw_t (i := 433) (by decide +kernel), bw_t (i := 435) (by decide +kernel), bw_p (i := 12) (by decide +kernel), by decide, sh_Pa_nextTowards⟩
theorem ss_La_127 : bj_ss bw_TB "BeatPathOfficeLaw" 127 Y_La_cut 4 := ⟨bw_t (i := 437) (by decide +kernel), bw_t (i := 438) (by decide +kernel), bw_t (i := 0) (by decide +kernel), by decide, sh_La_cut⟩
theorem sv_La_50 : bj_sv bw_TB "BeatPathOfficeLaw" 50 Y_Of_cut 2 := ⟨bw_t (i := 440) (by decide +kernel), bw_t (i := 441) (by decide +kernel), bw_t (i := 442) (by decide +kernel), by decide, sh_Of_cut⟩
theorem sv_Of_156 : bj_sv bw_TB "BeatPathOffice" 156 Y_Pa_reachedAbove 2 := ⟨bw_t (i := 444) (by decide +kernel), bw_t (i := 445) (by decide +kernel), bw_t (i := 446) (by decide +kernel), by decide, sh_Pa_reachedAbove⟩
theorem ss_La_130 : bj_ss bw_TB "BeatPathOfficeLaw" 130 Y_La_proves 7 := ⟨bw_t (i := 448) (by decide +kernel), bw_t (i := 449) (by decide +kernel), bw_t (i := 0) (by decide +kernel), by decide, sh_La_proves⟩
theorem sv_La_53 : bj_sv bw_TB "BeatPathOfficeLaw" 53 Y_Of_proves 5 := ⟨bw_t (i := 451) (by decide +kernel), bw_t (i := 452) (by decide +kernel), bw_t (i := 453) (by decide +kernel), by decide, sh_Of_proves⟩
theorem sv_Of_159 : bj_sv bw_TB "BeatPathOffice" 159 Y_Co_isWay 4 := ⟨bw_t (i := 455) (by decide +kernel), bw_t (i := 456) (by decide +kernel), bw_t (i := 457) (by decide +kernel), by decide, sh_Co_isWay⟩
theorem sv_Co_53 : bj_sv bw_TB "BeatPathOffice$Count" 53 Y_Co_direct 2 := ⟨bw_t (i := 459) (by decide +kernel), bw_t (i := 398) (by decide +kernel), bw_t (i := 399) (by decide +kernel), by decide, sh_Co_direct⟩
theorem ss_Of_163 : bj_ss bw_TB "BeatPathOffice" 163 Y_Of_has 2 := ⟨bw_t (i := 460) (by decide +kernel), bw_t (i := 461) (by decide +kernel), bw_t (i := 1) (by decide +kernel), by decide, sh_Of_has⟩
theorem sv_Of_167 : bj_sv bw_TB "BeatPathOffice" 167 Y_Co_isHeldIn 2 := ⟨bw_t (i := 463) (by decide +kernel), bw_t (i := 464) (by decide +kernel), bw_t (i := 465) (by decide +kernel), by decide, sh_Co_isHeldIn⟩
theorem sn_Co_56 : bj_sn bw_TB "BeatPathOffice$Count" "BeatPathOffice" 56 Y_Of_has 2 := ⟨bw_t (i := 467) (by decide +kernel), bw_t (i := 461) (by decide +kernel), bw_t (i := 1) (by decide +kernel), by decide, sh_Of_has⟩
theorem ss_La_134 : bj_ss bw_TB "BeatPathOfficeLaw" 134 Y_La_winner 3 := ⟨bw_t (i := 468) (by decide +kernel), bw_t (i := 469) (by decide +kernel), bw_t (i := 0) (by decide +kernel), by decide, sh_La_winner⟩
theorem sv_La_57 : bj_sv bw_TB "BeatPathOfficeLaw" 57 Y_Of_winner 1 := ⟨bw_t (i := 471) (by decide +kernel), bw_t (i := 472) (by decide +kernel), bw_t (i := 473) (by decide +kernel), by decide, sh_Of_winner⟩
theorem sv_Of_170 : bj_sv bw_TB "BeatPathOffice" 170 Y_Of_winnerSet 1 := ⟨bw_t (i := 475) (by decide +kernel), bw_t (i := 477) (by decide +kernel), bw_p (i := 13) (by decide +kernel), by decide, sh_Of_winnerSet⟩
theorem sv_Of_218 : bj_sv bw_TB "BeatPathOffice" 218 Y_Pa_unbeaten 0 := ⟨bw_t (i := 479) (by decide +kernel), bw_t (i := 480) (by decide +kernel), bw_t (i := 481) (by decide +kernel), by decide, sh_Pa_unbeaten⟩
theorem sv_Pa_42 : bj_sv bw_TB "BeatPathOffice$BeatPaths" 42 Y_Pa_isUnbeaten 1 := ⟨bw_t (i := 483) (by decide +kernel), bw_t (i := 485) (by decide +kernel), bw_p (i := 14) (by decide +kernel), by decide, sh_Pa_isUnbeaten⟩
theorem ss_Of_174 : bj_ss bw_TB "BeatPathOffice" 174 Y_Of_member 2 := ⟨bw_t (i := 487) (by decide +kernel), bw_t (i := 488) (by decide +kernel), bw_t (i := 1) (by decide +kernel), by decide, sh_Of_member⟩
theorem ss_Of_177 : bj_ss bw_TB "BeatPathOffice" 177 Y_Of_needFound 1 := ⟨bw_t (i := 490) (by decide +kernel), bw_t (i := 491) (by decide +kernel), bw_t (i := 1) (by decide +kernel), by decide, sh_Of_needFound⟩
theorem ss_La_137 : bj_ss bw_TB "BeatPathOfficeLaw" 137 Y_La_locked 4 := ⟨bw_t (i := 494) (by decide +kernel), bw_t (i := 495) (by decide +kernel), bw_t (i := 0) (by decide +kernel), by decide, sh_La_locked⟩
theorem sv_La_60 : bj_sv bw_TB "BeatPathOfficeLaw" 60 Y_Of_locked 2 := ⟨bw_t (i := 497) (by decide +kernel), bw_t (i := 498) (by decide +kernel), bw_t (i := 499) (by decide +kernel), by decide, sh_Of_locked⟩
theorem sv_Of_180 : bj_sv bw_TB "BeatPathOffice" 180 Y_Lo_lockPairs 2 := ⟨bw_t (i := 501) (by decide +kernel), bw_t (i := 502) (by decide +kernel), bw_t (i := 503) (by decide +kernel), by decide, sh_Lo_lockPairs⟩
theorem ss_Lo_31 : bj_ss bw_TB "BeatPathOffice$Locks" 31 Y_Ar_fill 2 := ⟨bw_t (i := 505) (by decide +kernel), bw_t (i := 427) (by decide +kernel), bw_t (i := 14) (by decide +kernel), by decide, sh_Ar_fill⟩
theorem sv_Lo_37 : bj_sv bw_TB "BeatPathOffice$Locks" 37 Y_Lo_sortPairs 2 := ⟨bw_t (i := 506) (by decide +kernel), bw_t (i := 508) (by decide +kernel), bw_p (i := 15) (by decide +kernel), by decide, sh_Lo_sortPairs⟩
theorem sv_Lo_49 : bj_sv bw_TB "BeatPathOffice$Locks" 49 Y_Co_direct 2 := ⟨bw_t (i := 510) (by decide +kernel), bw_t (i := 398) (by decide +kernel), bw_t (i := 399) (by decide +kernel), by decide, sh_Co_direct⟩
theorem sv_Lo_55 : bj_sv bw_TB "BeatPathOffice$Locks" 55 Y_Lo_insert 3 := ⟨bw_t (i := 511) (by decide +kernel), bw_t (i := 513) (by decide +kernel), bw_p (i := 16) (by decide +kernel), by decide, sh_Lo_insert⟩
theorem sv_Lo_59 : bj_sv bw_TB "BeatPathOffice$Locks" 59 Y_Lo_overtakes 4 := ⟨bw_t (i := 515) (by decide +kernel), bw_t (i := 517) (by decide +kernel), bw_p (i := 17) (by decide +kernel), by decide, sh_Lo_overtakes⟩
theorem sn_Lo_41 : bj_sn bw_TB "BeatPathOffice$Locks" "BeatPathOffice" 41 Y_Of_has 2 := ⟨bw_t (i := 519) (by decide +kernel), bw_t (i := 461) (by decide +kernel), bw_t (i := 1) (by decide +kernel), by decide, sh_Of_has⟩
theorem sv_Lo_45 : bj_sv bw_TB "BeatPathOffice$Locks" 45 Y_Lo_lock 2 := ⟨bw_t (i := 520) (by decide +kernel), bw_t (i := 522) (by decide +kernel), bw_p (i := 18) (by decide +kernel), by decide, sh_Lo_lock⟩
theorem ss_La_140 : bj_ss bw_TB "BeatPathOfficeLaw" 140 Y_La_order 3 := ⟨bw_t (i := 524) (by decide +kernel), bw_t (i := 525) (by decide +kernel), bw_t (i := 0) (by decide +kernel), by decide, sh_La_order⟩
theorem sv_La_64 : bj_sv bw_TB "BeatPathOfficeLaw" 64 Y_Of_order 1 := ⟨bw_t (i := 527) (by decide +kernel), bw_t (i := 528) (by decide +kernel), bw_t (i := 529) (by decide +kernel), by decide, sh_Of_order⟩
theorem sv_Of_187 : bj_sv bw_TB "BeatPathOffice" 187 Y_Of_inOrder 2 := ⟨bw_t (i := 531) (by decide +kernel), bw_t (i := 533) (by decide +kernel), bw_p (i := 19) (by decide +kernel), by decide, sh_Of_inOrder⟩
theorem sv_Of_221 : bj_sv bw_TB "BeatPathOffice" 221 Y_Lo_lineUp 2 := ⟨bw_t (i := 535) (by decide +kernel), bw_t (i := 536) (by decide +kernel), bw_t (i := 537) (by decide +kernel), by decide, sh_Lo_lineUp⟩
theorem sv_Lo_67 : bj_sv bw_TB "BeatPathOffice$Locks" 67 Y_Lo_firstFree 2 := ⟨bw_t (i := 539) (by decide +kernel), bw_t (i := 541) (by decide +kernel), bw_p (i := 20) (by decide +kernel), by decide, sh_Lo_firstFree⟩
theorem ss_La_143 : bj_ss bw_TB "BeatPathOfficeLaw" 143 Y_La_top 3 := ⟨bw_t (i := 543) (by decide +kernel), bw_t (i := 544) (by decide +kernel), bw_t (i := 0) (by decide +kernel), by decide, sh_La_top⟩
theorem sv_La_67 : bj_sv bw_TB "BeatPathOfficeLaw" 67 Y_Of_top 1 := ⟨bw_t (i := 546) (by decide +kernel), bw_t (i := 547) (by decide +kernel), bw_t (i := 548) (by decide +kernel), by decide, sh_Of_top⟩
theorem sv_Of_191 : bj_sv bw_TB "BeatPathOffice" 191 Y_Co_topSet 0 := ⟨bw_t (i := 550) (by decide +kernel), bw_t (i := 551) (by decide +kernel), bw_t (i := 552) (by decide +kernel), by decide, sh_Co_topSet⟩
theorem sv_Co_60 : bj_sv bw_TB "BeatPathOffice$Count" 60 Y_Co_beatingSetAround 1 := ⟨bw_t (i := 554) (by decide +kernel), bw_t (i := 556) (by decide +kernel), bw_p (i := 21) (by decide +kernel), by decide, sh_Co_beatingSetAround⟩
theorem sv_Co_69 : bj_sv bw_TB "BeatPathOffice$Count" 69 Y_Co_notBeatenBy 1 := ⟨bw_t (i := 558) (by decide +kernel), bw_t (i := 560) (by decide +kernel), bw_p (i := 22) (by decide +kernel), by decide, sh_Co_notBeatenBy⟩
theorem ss_Co_64 : bj_ss bw_TB "BeatPathOffice$Count" 64 Y_In_bitCount 1 := ⟨bw_t (i := 562) (by decide +kernel), bw_t (i := 563) (by decide +kernel), bw_t (i := 15) (by decide +kernel), by decide, sh_In_bitCount⟩
theorem ss_La_146 : bj_ss bw_TB "BeatPathOfficeLaw" 146 Y_La_without 5 := ⟨bw_t (i := 568) (by decide +kernel), bw_t (i := 569) (by decide +kernel), bw_t (i := 0) (by decide +kernel), by decide, sh_La_without⟩
theorem sv_La_70 : bj_sv bw_TB "BeatPathOfficeLaw" 70 Y_Of_without 3 := ⟨bw_t (i := 571) (by decide +kernel), bw_t (i := 572) (by decide +kernel), bw_t (i := 573) (by decide +kernel), by decide, sh_Of_without⟩
theorem sv_Of_197 : bj_sv bw_TB "BeatPathOffice" 197 Y_Co_copy 1 := ⟨bw_t (i := 576) (by decide +kernel), bw_t (i := 577) (by decide +kernel), bw_t (i := 578) (by decide +kernel), by decide, sh_Co_copy⟩
theorem si_La_84 : bj_si bw_TB "BeatPathOfficeLaw" 84 Y_Mo_init 1 := ⟨bw_t (i := 585) (by decide +kernel), bw_t (i := 586) (by decide +kernel), bw_t (i := 587) (by decide +kernel), rfl, rfl, rfl, by decide, sh_Mo_init⟩
theorem sv_La_89 : bj_sv bw_TB "BeatPathOfficeLaw" 89 Y_Mo_thrown 0 := ⟨bw_t (i := 642) (by decide +kernel), bw_t (i := 643) (by decide +kernel), bw_t (i := 644) (by decide +kernel), by decide, sh_Mo_thrown⟩
theorem sv_La_88 : bj_sv bw_TB "BeatPathOfficeLaw" 88 Y_Mo_tie 2 := ⟨bw_t (i := 646) (by decide +kernel), bw_t (i := 647) (by decide +kernel), bw_t (i := 648) (by decide +kernel), by decide, sh_Mo_tie⟩
theorem sv_Mo_57 : bj_sv bw_TB "BeatPathOfficeModel" 57 Y_Mo_isCandidate 1 := ⟨bw_t (i := 650) (by decide +kernel), bw_t (i := 652) (by decide +kernel), bw_p (i := 23) (by decide +kernel), by decide, sh_Mo_isCandidate⟩
theorem sv_Mo_65 : bj_sv bw_TB "BeatPathOfficeModel" 65 Y_Mo_placeOf 1 := ⟨bw_t (i := 654) (by decide +kernel), bw_t (i := 656) (by decide +kernel), bw_p (i := 24) (by decide +kernel), by decide, sh_Mo_placeOf⟩
theorem sv_La_95 : bj_sv bw_TB "BeatPathOfficeLaw" 95 Y_Mo_drawn 1 := ⟨bw_t (i := 658) (by decide +kernel), bw_t (i := 659) (by decide +kernel), bw_t (i := 660) (by decide +kernel), by decide, sh_Mo_drawn⟩
theorem sv_La_99 : bj_sv bw_TB "BeatPathOfficeLaw" 99 Y_Mo_open 0 := ⟨bw_t (i := 662) (by decide +kernel), bw_t (i := 663) (by decide +kernel), bw_t (i := 664) (by decide +kernel), by decide, sh_Mo_open⟩
theorem sv_La_103 : bj_sv bw_TB "BeatPathOfficeLaw" 103 Y_Mo_ballot 3 := ⟨bw_t (i := 666) (by decide +kernel), bw_t (i := 667) (by decide +kernel), bw_t (i := 668) (by decide +kernel), by decide, sh_Mo_ballot⟩
theorem sv_Mo_73 : bj_sv bw_TB "BeatPathOfficeModel" 73 Y_Mo_isBatch 1 := ⟨bw_t (i := 670) (by decide +kernel), bw_t (i := 672) (by decide +kernel), bw_p (i := 25) (by decide +kernel), by decide, sh_Mo_isBatch⟩
theorem sv_Mo_76 : bj_sv bw_TB "BeatPathOfficeModel" 76 Y_Mo_isRanking 1 := ⟨bw_t (i := 674) (by decide +kernel), bw_t (i := 676) (by decide +kernel), bw_p (i := 26) (by decide +kernel), by decide, sh_Mo_isRanking⟩
theorem ss_Mo_69 : bj_ss bw_TB "BeatPathOfficeModel" 69 Y_Mo_place 2 := ⟨bw_t (i := 678) (by decide +kernel), bw_t (i := 679) (by decide +kernel), bw_t (i := 6) (by decide +kernel), by decide, sh_Mo_place⟩
theorem sv_La_106 : bj_sv bw_TB "BeatPathOfficeLaw" 106 Y_Mo_turn 2 := ⟨bw_t (i := 681) (by decide +kernel), bw_t (i := 682) (by decide +kernel), bw_t (i := 683) (by decide +kernel), by decide, sh_Mo_turn⟩
theorem sv_La_109 : bj_sv bw_TB "BeatPathOfficeLaw" 109 Y_Mo_correct 3 := ⟨bw_t (i := 685) (by decide +kernel), bw_t (i := 686) (by decide +kernel), bw_t (i := 687) (by decide +kernel), by decide, sh_Mo_correct⟩
theorem sv_La_112 : bj_sv bw_TB "BeatPathOfficeLaw" 112 Y_Mo_state 1 := ⟨bw_t (i := 689) (by decide +kernel), bw_t (i := 690) (by decide +kernel), bw_t (i := 691) (by decide +kernel), by decide, sh_Mo_state⟩
theorem sv_La_116 : bj_sv bw_TB "BeatPathOfficeLaw" 116 Y_Mo_voters 0 := ⟨bw_t (i := 693) (by decide +kernel), bw_t (i := 694) (by decide +kernel), bw_t (i := 695) (by decide +kernel), by decide, sh_Mo_voters⟩
theorem sv_La_120 : bj_sv bw_TB "BeatPathOfficeLaw" 120 Y_Mo_prefer 2 := ⟨bw_t (i := 697) (by decide +kernel), bw_t (i := 698) (by decide +kernel), bw_t (i := 699) (by decide +kernel), by decide, sh_Mo_prefer⟩
theorem sv_Mo_93 : bj_sv bw_TB "BeatPathOfficeModel" 93 Y_Mo_lacks 2 := ⟨bw_t (i := 701) (by decide +kernel), bw_t (i := 703) (by decide +kernel), bw_p (i := 27) (by decide +kernel), by decide, sh_Mo_lacks⟩
theorem sv_Mo_86 : bj_sv bw_TB "BeatPathOfficeModel" 86 Y_Mo_count 1 := ⟨bw_t (i := 705) (by decide +kernel), bw_t (i := 707) (by decide +kernel), bw_p (i := 28) (by decide +kernel), by decide, sh_Mo_count⟩
theorem sv_Mo_79 : bj_sv bw_TB "BeatPathOfficeModel" 79 Y_Mo_add 2 := ⟨bw_t (i := 709) (by decide +kernel), bw_t (i := 711) (by decide +kernel), bw_p (i := 29) (by decide +kernel), by decide, sh_Mo_add⟩
theorem sv_Mo_90 : bj_sv bw_TB "BeatPathOfficeModel" 90 Y_Mo_strengthen 0 := ⟨bw_t (i := 713) (by decide +kernel), bw_t (i := 715) (by decide +kernel), bw_p (i := 30) (by decide +kernel), by decide, sh_Mo_strengthen⟩
theorem ss_Mo_83 : bj_ss bw_TB "BeatPathOfficeModel" 83 Y_Mo_lesser 2 := ⟨bw_t (i := 717) (by decide +kernel), bw_t (i := 718) (by decide +kernel), bw_t (i := 6) (by decide +kernel), by decide, sh_Mo_lesser⟩
theorem sv_La_123 : bj_sv bw_TB "BeatPathOfficeLaw" 123 Y_Mo_strength 2 := ⟨bw_t (i := 720) (by decide +kernel), bw_t (i := 721) (by decide +kernel), bw_t (i := 722) (by decide +kernel), by decide, sh_Mo_strength⟩
theorem sv_La_126 : bj_sv bw_TB "BeatPathOfficeLaw" 126 Y_Mo_way 2 := ⟨bw_t (i := 724) (by decide +kernel), bw_t (i := 725) (by decide +kernel), bw_t (i := 726) (by decide +kernel), by decide, sh_Mo_way⟩
theorem sv_La_129 : bj_sv bw_TB "BeatPathOfficeLaw" 129 Y_Mo_cut 2 := ⟨bw_t (i := 728) (by decide +kernel), bw_t (i := 729) (by decide +kernel), bw_t (i := 730) (by decide +kernel), by decide, sh_Mo_cut⟩
theorem sv_La_133 : bj_sv bw_TB "BeatPathOfficeLaw" 133 Y_Mo_proves 5 := ⟨bw_t (i := 732) (by decide +kernel), bw_t (i := 733) (by decide +kernel), bw_t (i := 734) (by decide +kernel), by decide, sh_Mo_proves⟩
theorem sv_Mo_97 : bj_sv bw_TB "BeatPathOfficeModel" 97 Y_Mo_isWay 4 := ⟨bw_t (i := 736) (by decide +kernel), bw_t (i := 738) (by decide +kernel), bw_p (i := 31) (by decide +kernel), by decide, sh_Mo_isWay⟩
theorem sv_La_136 : bj_sv bw_TB "BeatPathOfficeLaw" 136 Y_Mo_winner 1 := ⟨bw_t (i := 740) (by decide +kernel), bw_t (i := 741) (by decide +kernel), bw_t (i := 742) (by decide +kernel), by decide, sh_Mo_winner⟩
theorem sv_Mo_125 : bj_sv bw_TB "BeatPathOfficeModel" 125 Y_Mo_tell 4 := ⟨bw_t (i := 744) (by decide +kernel), bw_t (i := 746) (by decide +kernel), bw_p (i := 32) (by decide +kernel), by decide, sh_Mo_tell⟩
theorem sv_Mo_116 : bj_sv bw_TB "BeatPathOfficeModel" 116 Y_Mo_winners 0 := ⟨bw_t (i := 748) (by decide +kernel), bw_t (i := 750) (by decide +kernel), bw_p (i := 33) (by decide +kernel), by decide, sh_Mo_winners⟩
theorem sv_Mo_119 : bj_sv bw_TB "BeatPathOfficeModel" 119 Y_Mo_orderAll 0 := ⟨bw_t (i := 752) (by decide +kernel), bw_t (i := 754) (by decide +kernel), bw_p (i := 34) (by decide +kernel), by decide, sh_Mo_orderAll⟩
theorem sv_Mo_110 : bj_sv bw_TB "BeatPathOfficeModel" 110 Y_Mo_lockAll 0 := ⟨bw_t (i := 756) (by decide +kernel), bw_t (i := 758) (by decide +kernel), bw_p (i := 35) (by decide +kernel), by decide, sh_Mo_lockAll⟩
theorem sv_Mo_104 : bj_sv bw_TB "BeatPathOfficeModel" 104 Y_Mo_isBefore 2 := ⟨bw_t (i := 760) (by decide +kernel), bw_t (i := 762) (by decide +kernel), bw_p (i := 36) (by decide +kernel), by decide, sh_Mo_isBefore⟩
theorem sv_Mo_107 : bj_sv bw_TB "BeatPathOfficeModel" 107 Y_Mo_lock 1 := ⟨bw_t (i := 764) (by decide +kernel), bw_t (i := 766) (by decide +kernel), bw_p (i := 37) (by decide +kernel), by decide, sh_Mo_lock⟩
theorem sv_Mo_122 : bj_sv bw_TB "BeatPathOfficeModel" 122 Y_Mo_topAll 0 := ⟨bw_t (i := 768) (by decide +kernel), bw_t (i := 770) (by decide +kernel), bw_p (i := 38) (by decide +kernel), by decide, sh_Mo_topAll⟩
theorem ss_Mo_113 : bj_ss bw_TB "BeatPathOfficeModel" 113 Y_Mo_sizeOf 1 := ⟨bw_t (i := 772) (by decide +kernel), bw_t (i := 773) (by decide +kernel), bw_t (i := 6) (by decide +kernel), by decide, sh_Mo_sizeOf⟩
theorem sv_La_139 : bj_sv bw_TB "BeatPathOfficeLaw" 139 Y_Mo_locked 2 := ⟨bw_t (i := 775) (by decide +kernel), bw_t (i := 776) (by decide +kernel), bw_t (i := 777) (by decide +kernel), by decide, sh_Mo_locked⟩
theorem sv_La_142 : bj_sv bw_TB "BeatPathOfficeLaw" 142 Y_Mo_order 1 := ⟨bw_t (i := 779) (by decide +kernel), bw_t (i := 780) (by decide +kernel), bw_t (i := 781) (by decide +kernel), by decide, sh_Mo_order⟩
theorem sv_La_145 : bj_sv bw_TB "BeatPathOfficeLaw" 145 Y_Mo_top 1 := ⟨bw_t (i := 783) (by decide +kernel), bw_t (i := 784) (by decide +kernel), bw_t (i := 785) (by decide +kernel), by decide, sh_Mo_top⟩
theorem sv_La_148 : bj_sv bw_TB "BeatPathOfficeLaw" 148 Y_Mo_without 3 := ⟨bw_t (i := 787) (by decide +kernel), bw_t (i := 788) (by decide +kernel), bw_t (i := 789) (by decide +kernel), by decide, sh_Mo_without⟩
theorem sv_La_153 : bj_sv bw_TB "BeatPathOfficeLaw" 153 Y_Mo_seal 0 := ⟨bw_t (i := 791) (by decide +kernel), bw_t (i := 792) (by decide +kernel), bw_t (i := 793) (by decide +kernel), by decide, sh_Mo_seal⟩
