def RX0 : String := "EdgeFinder$Edges"
def TX0 : u_T := fun k => match k with
  | 0 => ("EdgeFinder$Edges", "marks", "[Z", true)
  | 1 => ("EdgeFinder$Edges", "stale", "Z", false)
  | _ => ("EdgeFinder$Edges", "rules", "LEdgeFinder$Rules;", true)
def tyX0 : Nat → FieldType := fun k => match k with
  | 0 => .array .boolean
  | 1 => .boolean
  | _ => .object "EdgeFinder$Rules"
theorem nmX0 : ∀ a, a < 3 → ∀ b, b < 3 → a ≠ b → (TX0 a).2.1 ≠ (TX0 b).2.1 := by decide +kernel
theorem tyX0_ok : ∀ k, k < 3 → parseFieldDescriptor (TX0 k).2.2.1 = some (tyX0 k) := by decide +kernel
def RX1 : String := "EdgeFinder$GraphemeRules"
def TX1 : u_T := fun k => match k with
  | 0 => ("EdgeFinder$GraphemeRules", "before", "I", false)
  | 1 => ("EdgeFinder$GraphemeRules", "oddIndicators", "Z", false)
  | 2 => ("EdgeFinder$GraphemeRules", "afterPicture", "Z", false)
  | _ => ("EdgeFinder$GraphemeRules", "afterPictureAndJoiner", "Z", false)
def tyX1 : Nat → FieldType := fun k => match k with
  | 0 => .int
  | 1 => .boolean
  | 2 => .boolean
  | _ => .boolean
theorem nmX1 : ∀ a, a < 4 → ∀ b, b < 4 → a ≠ b → (TX1 a).2.1 ≠ (TX1 b).2.1 := by decide +kernel
theorem tyX1_ok : ∀ k, k < 4 → parseFieldDescriptor (TX1 k).2.2.1 = some (tyX1 k) := by decide +kernel
def RX2 : String := "EdgeFinder$Row"
def TX2 : u_T := fun k => match k with
  | 0 => ("EdgeFinder$Row", "graphemes", "[I", true)
  | 1 => ("EdgeFinder$Row", "words", "[I", true)
  | 2 => ("EdgeFinder$Row", "pictures", "[Z", true)
  | _ => ("EdgeFinder$Row", "size", "I", false)
def tyX2 : Nat → FieldType := fun k => match k with
  | 0 => .array .int
  | 1 => .array .int
  | 2 => .array .boolean
  | _ => .int
theorem nmX2 : ∀ a, a < 4 → ∀ b, b < 4 → a ≠ b → (TX2 a).2.1 ≠ (TX2 b).2.1 := by decide +kernel
theorem tyX2_ok : ∀ k, k < 4 → parseFieldDescriptor (TX2 k).2.2.1 = some (tyX2 k) := by decide +kernel
def RX3 : String := "EdgeFinder$Rules"
def TX3 : u_T := fun k => match k with
  | _ => ("", "", "", false)
def tyX3 : Nat → FieldType := fun k => match k with
  | _ => .int
def RX4 : String := "EdgeFinder$WordRules"
def TX4 : u_T := fun k => match k with
  | 0 => ("EdgeFinder$WordRules", "before", "I", false)
  | 1 => ("EdgeFinder$WordRules", "last", "I", false)
  | 2 => ("EdgeFinder$WordRules", "lastButOne", "I", false)
  | _ => ("EdgeFinder$WordRules", "oddIndicators", "Z", false)
def tyX4 : Nat → FieldType := fun k => match k with
  | 0 => .int
  | 1 => .int
  | 2 => .int
  | _ => .boolean
theorem nmX4 : ∀ a, a < 4 → ∀ b, b < 4 → a ≠ b → (TX4 a).2.1 ≠ (TX4 b).2.1 := by decide +kernel
theorem tyX4_ok : ∀ k, k < 4 → parseFieldDescriptor (TX4 k).2.2.1 = some (tyX4 k) := by decide +kernel
def RX5 : String := "EdgeFinder"
def TX5 : u_T := fun k => match k with
  | 0 => ("EdgeFinder", "row", "LEdgeFinder$Row;", true)
  | 1 => ("EdgeFinder", "graphemeEdges", "LEdgeFinder$Edges;", true)
  | _ => ("EdgeFinder", "wordEdges", "LEdgeFinder$Edges;", true)
def tyX5 : Nat → FieldType := fun k => match k with
  | 0 => .object "EdgeFinder$Row"
  | 1 => .object "EdgeFinder$Edges"
  | _ => .object "EdgeFinder$Edges"
theorem nmX5 : ∀ a, a < 3 → ∀ b, b < 3 → a ≠ b → (TX5 a).2.1 ≠ (TX5 b).2.1 := by decide +kernel
theorem tyX5_ok : ∀ k, k < 3 → parseFieldDescriptor (TX5 k).2.2.1 = some (tyX5 k) := by decide +kernel
def RX6 : String := "EdgeFinderModel"
def TX6 : u_T := fun k => match k with
  | 0 => ("EdgeFinderModel", "failed", "I", false)
  | 1 => ("EdgeFinderModel", "n", "I", false)
  | 2 => ("EdgeFinderModel", "clusters", "[I", true)
  | 3 => ("EdgeFinderModel", "words", "[I", true)
  | _ => ("EdgeFinderModel", "pictures", "[Z", true)
def tyX6 : Nat → FieldType := fun k => match k with
  | 0 => .int
  | 1 => .int
  | 2 => .array .int
  | 3 => .array .int
  | _ => .array .boolean
theorem nmX6 : ∀ a, a < 5 → ∀ b, b < 5 → a ≠ b → (TX6 a).2.1 ≠ (TX6 b).2.1 := by decide +kernel
theorem tyX6_ok : ∀ k, k < 5 → parseFieldDescriptor (TX6 k).2.2.1 = some (tyX6 k) := by decide +kernel
def RL : String := "EdgeFinderLaw"
abbrev cX5_init : ByteArray := prog_1_method_1_code
def yX5_init : MethodName := ⟨RX5, "<init>", "()V"⟩
abbrev cX2_init : ByteArray := prog_4_method_1_code
def yX2_init : MethodName := ⟨RX2, "<init>", "()V"⟩
abbrev cX1_init : ByteArray := prog_3_method_1_code
def yX1_init : MethodName := ⟨RX1, "<init>", "()V"⟩
abbrev cX3_init : ByteArray := prog_5_method_1_code
def yX3_init : MethodName := ⟨RX3, "<init>", "()V"⟩
abbrev cX0_init : ByteArray := prog_2_method_1_code
def yX0_init : MethodName := ⟨RX0, "<init>", "(LEdgeFinder$Rules;)V"⟩
abbrev cX4_init : ByteArray := prog_6_method_1_code
def yX4_init : MethodName := ⟨RX4, "<init>", "()V"⟩
abbrev cL_add : ByteArray := method_3_code
def yL_add : MethodName := ⟨RL, "add", "(LEdgeFinder;IIZ[J)I"⟩
abbrev cX5_add : ByteArray := prog_1_method_2_code
def yX5_add : MethodName := ⟨RX5, "add", "(IIZ)I"⟩
abbrev cX5_requireUpTo : ByteArray := prog_1_method_9_code
def yX5_requireUpTo : MethodName := ⟨RX5, "requireUpTo", "(II)V"⟩
abbrev cX2_write : ByteArray := prog_4_method_2_code
def yX2_write : MethodName := ⟨RX2, "write", "(IIIZ)V"⟩
abbrev cX5_forgetEdges : ByteArray := prog_1_method_10_code
def yX5_forgetEdges : MethodName := ⟨RX5, "forgetEdges", "()V"⟩
abbrev cL_set : ByteArray := method_4_code
def yL_set : MethodName := ⟨RL, "set", "(LEdgeFinder;IIIZ)I"⟩
abbrev cX5_set : ByteArray := prog_1_method_3_code
def yX5_set : MethodName := ⟨RX5, "set", "(IIIZ)V"⟩
abbrev cL_cut : ByteArray := method_5_code
def yL_cut : MethodName := ⟨RL, "cut", "(LEdgeFinder;I[J)I"⟩
abbrev cX5_cut : ByteArray := prog_1_method_4_code
def yX5_cut : MethodName := ⟨RX5, "cut", "(I)I"⟩
abbrev cL_edge : ByteArray := method_6_code
def yL_edge : MethodName := ⟨RL, "edge", "(LEdgeFinder;II[J)I"⟩
abbrev cX5_edge : ByteArray := prog_1_method_5_code
def yX5_edge : MethodName := ⟨RX5, "edge", "(II)Z"⟩
abbrev cX5_edgesOf : ByteArray := prog_1_method_11_code
def yX5_edgesOf : MethodName := ⟨RX5, "edgesOf", "(I)LEdgeFinder$Edges;"⟩
abbrev cX0_find : ByteArray := prog_2_method_2_code
def yX0_find : MethodName := ⟨RX0, "find", "(LEdgeFinder$Row;)V"⟩
abbrev cX1_begin : ByteArray := prog_3_method_2_code
def yX1_begin : MethodName := ⟨RX1, "begin", "()V"⟩
abbrev cX4_begin : ByteArray := prog_6_method_2_code
def yX4_begin : MethodName := ⟨RX4, "begin", "()V"⟩
abbrev cX1_part : ByteArray := prog_3_method_3_code
def yX1_part : MethodName := ⟨RX1, "part", "(LEdgeFinder$Row;I)Z"⟩
abbrev cX1_isControl : ByteArray := prog_3_method_5_code
def yX1_isControl : MethodName := ⟨RX1, "isControl", "(I)Z"⟩
abbrev cX1_isSyllable : ByteArray := prog_3_method_6_code
def yX1_isSyllable : MethodName := ⟨RX1, "isSyllable", "(I)Z"⟩
abbrev cX4_part : ByteArray := prog_6_method_3_code
def yX4_part : MethodName := ⟨RX4, "part", "(LEdgeFinder$Row;I)Z"⟩
abbrev cX4_isLineEnd : ByteArray := prog_6_method_10_code
def yX4_isLineEnd : MethodName := ⟨RX4, "isLineEnd", "(I)Z"⟩
abbrev cX4_isAttached : ByteArray := prog_6_method_11_code
def yX4_isAttached : MethodName := ⟨RX4, "isAttached", "(I)Z"⟩
abbrev cX4_classAhead : ByteArray := prog_6_method_5_code
def yX4_classAhead : MethodName := ⟨RX4, "classAhead", "(LEdgeFinder$Row;I)I"⟩
abbrev cX4_joinsLetters : ByteArray := prog_6_method_6_code
def yX4_joinsLetters : MethodName := ⟨RX4, "joinsLetters", "(II)Z"⟩
abbrev cX4_isLetter : ByteArray := prog_6_method_12_code
def yX4_isLetter : MethodName := ⟨RX4, "isLetter", "(I)Z"⟩
abbrev cX4_isMidLetter : ByteArray := prog_6_method_13_code
def yX4_isMidLetter : MethodName := ⟨RX4, "isMidLetter", "(I)Z"⟩
abbrev cX4_isMidOfBoth : ByteArray := prog_6_method_15_code
def yX4_isMidOfBoth : MethodName := ⟨RX4, "isMidOfBoth", "(I)Z"⟩
abbrev cX4_joinsHebrew : ByteArray := prog_6_method_7_code
def yX4_joinsHebrew : MethodName := ⟨RX4, "joinsHebrew", "(II)Z"⟩
abbrev cX4_joinsNumbers : ByteArray := prog_6_method_8_code
def yX4_joinsNumbers : MethodName := ⟨RX4, "joinsNumbers", "(II)Z"⟩
abbrev cX4_isMidNumber : ByteArray := prog_6_method_14_code
def yX4_isMidNumber : MethodName := ⟨RX4, "isMidNumber", "(I)Z"⟩
abbrev cX4_joinsRuns : ByteArray := prog_6_method_9_code
def yX4_joinsRuns : MethodName := ⟨RX4, "joinsRuns", "(I)Z"⟩
abbrev cX4_isRunPart : ByteArray := prog_6_method_16_code
def yX4_isRunPart : MethodName := ⟨RX4, "isRunPart", "(I)Z"⟩
abbrev cX1_pass : ByteArray := prog_3_method_4_code
def yX1_pass : MethodName := ⟨RX1, "pass", "(LEdgeFinder$Row;I)V"⟩
abbrev cX4_pass : ByteArray := prog_6_method_4_code
def yX4_pass : MethodName := ⟨RX4, "pass", "(LEdgeFinder$Row;I)V"⟩
abbrev cL_next : ByteArray := method_7_code
def yL_next : MethodName := ⟨RL, "next", "(LEdgeFinder;IIZ[J)I"⟩
abbrev cX5_next : ByteArray := prog_1_method_6_code
def yX5_next : MethodName := ⟨RX5, "next", "(IIZ)I"⟩
abbrev cX0_lastBefore : ByteArray := prog_2_method_4_code
def yX0_lastBefore : MethodName := ⟨RX0, "lastBefore", "(I)I"⟩
abbrev cX0_firstBehind : ByteArray := prog_2_method_3_code
def yX0_firstBehind : MethodName := ⟨RX0, "firstBehind", "(II)I"⟩
abbrev cL_rank : ByteArray := method_8_code
def yL_rank : MethodName := ⟨RL, "rank", "(LEdgeFinder;II[J)I"⟩
abbrev cX5_rank : ByteArray := prog_1_method_7_code
def yX5_rank : MethodName := ⟨RX5, "rank", "(II)I"⟩
abbrev cX0_countUpTo : ByteArray := prog_2_method_5_code
def yX0_countUpTo : MethodName := ⟨RX0, "countUpTo", "(I)I"⟩
abbrev cL_hash : ByteArray := method_9_code
def yL_hash : MethodName := ⟨RL, "hash", "(LEdgeFinder;I[J)I"⟩
abbrev cX5_hash : ByteArray := prog_1_method_8_code
def yX5_hash : MethodName := ⟨RX5, "hash", "(I)I"⟩
abbrev cX0_mixUpTo : ByteArray := prog_2_method_6_code
def yX0_mixUpTo : MethodName := ⟨RX0, "mixUpTo", "(I)I"⟩
abbrev cX6_init : ByteArray := prog_8_method_1_code
def yX6_init : MethodName := ⟨RX6, "<init>", "()V"⟩
abbrev cX6_thrown : ByteArray := prog_8_method_2_code
def yX6_thrown : MethodName := ⟨RX6, "thrown", "()I"⟩
abbrev cX6_add : ByteArray := prog_8_method_15_code
def yX6_add : MethodName := ⟨RX6, "add", "(IIZ)I"⟩
abbrev cX6_fail : ByteArray := prog_8_method_3_code
def yX6_fail : MethodName := ⟨RX6, "fail", "(I)I"⟩
abbrev cX6_set : ByteArray := prog_8_method_16_code
def yX6_set : MethodName := ⟨RX6, "set", "(IIIZ)V"⟩
abbrev cX6_cut : ByteArray := prog_8_method_17_code
def yX6_cut : MethodName := ⟨RX6, "cut", "(I)I"⟩
abbrev cX6_edge : ByteArray := prog_8_method_19_code
def yX6_edge : MethodName := ⟨RX6, "edge", "(II)Z"⟩
abbrev cX6_bad : ByteArray := prog_8_method_18_code
def yX6_bad : MethodName := ⟨RX6, "bad", "(II)Z"⟩
abbrev cX6_boundary : ByteArray := prog_8_method_4_code
def yX6_boundary : MethodName := ⟨RX6, "boundary", "(II)Z"⟩
abbrev cX6_cluster : ByteArray := prog_8_method_5_code
def yX6_cluster : MethodName := ⟨RX6, "cluster", "(I)Z"⟩
abbrev cX6_word : ByteArray := prog_8_method_14_code
def yX6_word : MethodName := ⟨RX6, "word", "(I)Z"⟩
abbrev cX6_breaks : ByteArray := prog_8_method_7_code
def yX6_breaks : MethodName := ⟨RX6, "breaks", "(I)Z"⟩
abbrev cX6_passed : ByteArray := prog_8_method_6_code
def yX6_passed : MethodName := ⟨RX6, "passed", "(I)Z"⟩
abbrev cX6_before : ByteArray := prog_8_method_9_code
def yX6_before : MethodName := ⟨RX6, "before", "(I)I"⟩
abbrev cX6_counts : ByteArray := prog_8_method_8_code
def yX6_counts : MethodName := ⟨RX6, "counts", "(I)I"⟩
abbrev cX6_wordKind : ByteArray := prog_8_method_11_code
def yX6_wordKind : MethodName := ⟨RX6, "wordKind", "(I)I"⟩
abbrev cX6_after : ByteArray := prog_8_method_10_code
def yX6_after : MethodName := ⟨RX6, "after", "(I)I"⟩
abbrev cX6_letter : ByteArray := prog_8_method_12_code
def yX6_letter : MethodName := ⟨RX6, "letter", "(I)Z"⟩
abbrev cX6_quote : ByteArray := prog_8_method_13_code
def yX6_quote : MethodName := ⟨RX6, "quote", "(I)Z"⟩
abbrev cX6_next : ByteArray := prog_8_method_20_code
def yX6_next : MethodName := ⟨RX6, "next", "(IIZ)I"⟩
abbrev cX6_rank : ByteArray := prog_8_method_21_code
def yX6_rank : MethodName := ⟨RX6, "rank", "(II)I"⟩
abbrev cX6_hash : ByteArray := prog_8_method_22_code
def yX6_hash : MethodName := ⟨RX6, "hash", "(I)I"⟩
abbrev cL_law : ByteArray := code
def yL_law : MethodName := ⟨RL, "law", "([I)Z"⟩
abbrev vwCl : List vw_C := [(RX0, TX0, 3), (RX1, TX1, 4), (RX2, TX2, 4), (RX4, TX4, 4), (RX5, TX5, 3), (RX6, TX6, 5)]
/-- the good words of the tables -/
def eT : List Cond := lw_tbl.filter goodWord
theorem eT_m {w : Cond} (h : w ∈ lw_tbl) (g : goodWord w = true) : w ∈ eT := List.mem_filter.mpr ⟨h, g⟩
theorem eT_t {w : Cond} (i : Nat) (h : tables_1[i]? = some w) (g : goodWord w = true) : w ∈ eT := eT_m (List.mem_append_right _ (List.mem_of_getElem? h)) g
theorem eT_p {w : Cond} (i : Nat) (h : (k2_sels lw_privs)[i]? = some w) (g : goodWord w = true) : w ∈ eT := eT_m (List.mem_append_left _ (List.mem_of_getElem? h)) g
theorem eT_g {w : Cond} (h : w ∈ eT) : goodWord w = true := (List.mem_filter.mp h).2
