section
-- ===== PART A: goes FIRST, ahead of the names: the tables' words, and 'selects' of the private methods out of them =====
/-- a private method of a class that the tables say can be made, by its rows of tables_1 -/
def lw_okq (q : MethodName × Nat) : Prop := (q.1.cls ≠ "java/lang/invoke/MethodHandle" ∧ q.1.cls ≠ "java/lang/invoke/VarHandle") ∧ Cond.instantiable q.1.cls q.2 ∈ tables_1 ∧ Cond.privateMethod q.1 ∈ tables_1 ∧ Cond.instanceMethod q.1 ∈ tables_1
theorem lw_p0 : lw_okq (⟨"GlobDesk", "rowOf", "(I)LGlobDesk$Row;"⟩, 4) := ⟨⟨by decide +kernel, by decide +kernel⟩, List.mem_of_getElem? (i := 8) (by decide +kernel), List.mem_of_getElem? (i := 80) (by decide +kernel), List.mem_of_getElem? (i := 81) (by decide +kernel)⟩
theorem lw_p1 : lw_okq (⟨"GlobDesk", "matches", "(II)Z"⟩, 4) := ⟨⟨by decide +kernel, by decide +kernel⟩, List.mem_of_getElem? (i := 8) (by decide +kernel), List.mem_of_getElem? (i := 99) (by decide +kernel), List.mem_of_getElem? (i := 100) (by decide +kernel)⟩
theorem lw_p2 : lw_okq (⟨"GlobDesk", "standing", "(I)I"⟩, 4) := ⟨⟨by decide +kernel, by decide +kernel⟩, List.mem_of_getElem? (i := 8) (by decide +kernel), List.mem_of_getElem? (i := 103) (by decide +kernel), List.mem_of_getElem? (i := 104) (by decide +kernel)⟩
theorem lw_p3 : lw_okq (⟨"GlobDesk", "standingAsNumbers", "()I"⟩, 4) := ⟨⟨by decide +kernel, by decide +kernel⟩, List.mem_of_getElem? (i := 8) (by decide +kernel), List.mem_of_getElem? (i := 107) (by decide +kernel), List.mem_of_getElem? (i := 108) (by decide +kernel)⟩
theorem lw_p4 : lw_okq (⟨"GlobDesk", "standingAsBytes", "(I)I"⟩, 4) := ⟨⟨by decide +kernel, by decide +kernel⟩, List.mem_of_getElem? (i := 8) (by decide +kernel), List.mem_of_getElem? (i := 127) (by decide +kernel), List.mem_of_getElem? (i := 128) (by decide +kernel)⟩
theorem lw_p5 : lw_okq (⟨"GlobDesk", "containsKey", "(I)Z"⟩, 4) := ⟨⟨by decide +kernel, by decide +kernel⟩, List.mem_of_getElem? (i := 8) (by decide +kernel), List.mem_of_getElem? (i := 137) (by decide +kernel), List.mem_of_getElem? (i := 138) (by decide +kernel)⟩
theorem lw_p6 : lw_okq (⟨"GlobDesk$Pattern", "append", "(I)V"⟩, 2) := ⟨⟨by decide +kernel, by decide +kernel⟩, List.mem_of_getElem? (i := 32) (by decide +kernel), List.mem_of_getElem? (i := 146) (by decide +kernel), List.mem_of_getElem? (i := 147) (by decide +kernel)⟩
theorem lw_p7 : lw_okq (⟨"GlobDesk", "firstPlace", "(IIII)I"⟩, 4) := ⟨⟨by decide +kernel, by decide +kernel⟩, List.mem_of_getElem? (i := 8) (by decide +kernel), List.mem_of_getElem? (i := 150) (by decide +kernel), List.mem_of_getElem? (i := 151) (by decide +kernel)⟩
theorem lw_p8 : lw_okq (⟨"GlobDesk", "fits", "(IIII)Z"⟩, 4) := ⟨⟨by decide +kernel, by decide +kernel⟩, List.mem_of_getElem? (i := 8) (by decide +kernel), List.mem_of_getElem? (i := 154) (by decide +kernel), List.mem_of_getElem? (i := 155) (by decide +kernel)⟩
theorem lw_p9 : lw_okq (⟨"GlobDesk", "isLikeKey", "(I)Z"⟩, 4) := ⟨⟨by decide +kernel, by decide +kernel⟩, List.mem_of_getElem? (i := 8) (by decide +kernel), List.mem_of_getElem? (i := 166) (by decide +kernel), List.mem_of_getElem? (i := 167) (by decide +kernel)⟩
theorem lw_p10 : lw_okq (⟨"GlobDeskModel", "compare", "(I)I"⟩, 12) := ⟨⟨by decide +kernel, by decide +kernel⟩, List.mem_of_getElem? (i := 224) (by decide +kernel), List.mem_of_getElem? (i := 280) (by decide +kernel), List.mem_of_getElem? (i := 281) (by decide +kernel)⟩
theorem lw_p11 : lw_okq (⟨"GlobDeskModel", "byNumbers", "()I"⟩, 12) := ⟨⟨by decide +kernel, by decide +kernel⟩, List.mem_of_getElem? (i := 224) (by decide +kernel), List.mem_of_getElem? (i := 284) (by decide +kernel), List.mem_of_getElem? (i := 285) (by decide +kernel)⟩
theorem lw_p12 : lw_okq (⟨"GlobDeskModel", "contains", "(I)Z"⟩, 12) := ⟨⟨by decide +kernel, by decide +kernel⟩, List.mem_of_getElem? (i := 224) (by decide +kernel), List.mem_of_getElem? (i := 297) (by decide +kernel), List.mem_of_getElem? (i := 298) (by decide +kernel)⟩
theorem lw_p13 : lw_okq (⟨"GlobDeskModel", "like", "(I)Z"⟩, 12) := ⟨⟨by decide +kernel, by decide +kernel⟩, List.mem_of_getElem? (i := 224) (by decide +kernel), List.mem_of_getElem? (i := 301) (by decide +kernel), List.mem_of_getElem? (i := 302) (by decide +kernel)⟩
theorem lw_p14 : lw_okq (⟨"GlobDeskModel", "findSigns", "()V"⟩, 12) := ⟨⟨by decide +kernel, by decide +kernel⟩, List.mem_of_getElem? (i := 224) (by decide +kernel), List.mem_of_getElem? (i := 305) (by decide +kernel), List.mem_of_getElem? (i := 306) (by decide +kernel)⟩
def lw_privs_1 : List (MethodName × Nat) := [(⟨"GlobDesk", "rowOf", "(I)LGlobDesk$Row;"⟩, 4), (⟨"GlobDesk", "matches", "(II)Z"⟩, 4), (⟨"GlobDesk", "standing", "(I)I"⟩, 4), (⟨"GlobDesk", "standingAsNumbers", "()I"⟩, 4), (⟨"GlobDesk", "standingAsBytes", "(I)I"⟩, 4), (⟨"GlobDesk", "containsKey", "(I)Z"⟩, 4), (⟨"GlobDesk$Pattern", "append", "(I)V"⟩, 2), (⟨"GlobDesk", "firstPlace", "(IIII)I"⟩, 4), (⟨"GlobDesk", "fits", "(IIII)Z"⟩, 4), (⟨"GlobDesk", "isLikeKey", "(I)Z"⟩, 4), (⟨"GlobDeskModel", "compare", "(I)I"⟩, 12), (⟨"GlobDeskModel", "byNumbers", "()I"⟩, 12), (⟨"GlobDeskModel", "contains", "(I)Z"⟩, 12), (⟨"GlobDeskModel", "like", "(I)Z"⟩, 12), (⟨"GlobDeskModel", "findSigns", "()V"⟩, 12)]
theorem lw_r1 : ∀ q ∈ lw_privs_1, lw_okq q := List.forall_mem_cons.mpr ⟨lw_p0, List.forall_mem_cons.mpr ⟨lw_p1, List.forall_mem_cons.mpr ⟨lw_p2, List.forall_mem_cons.mpr ⟨lw_p3, List.forall_mem_cons.mpr ⟨lw_p4, List.forall_mem_cons.mpr ⟨lw_p5, List.forall_mem_cons.mpr ⟨lw_p6, List.forall_mem_cons.mpr ⟨lw_p7, List.forall_mem_cons.mpr ⟨lw_p8, List.forall_mem_cons.mpr ⟨lw_p9, List.forall_mem_cons.mpr ⟨lw_p10, List.forall_mem_cons.mpr ⟨lw_p11, List.forall_mem_cons.mpr ⟨lw_p12, List.forall_mem_cons.mpr ⟨lw_p13, List.forall_mem_cons.mpr ⟨lw_p14, fun _ h => absurd h List.not_mem_nil⟩⟩⟩⟩⟩⟩⟩⟩⟩⟩⟩⟩⟩⟩⟩
def lw_privs : List (MethodName × Nat) := lw_privs_1
def lw_tbl : List Cond := k2_sels lw_privs ++ tables_1
theorem lw_privs_ok : ∀ q ∈ lw_privs, lw_okq q := lw_r1
-- ===== names =====
def RX0 : String := "GlobDesk$Pattern"
def TX0 : u_T := fun k => match k with
  | 0 => ("GlobDesk$Pattern", "marks", "[I", true)
  | _ => ("GlobDesk$Pattern", "length", "I", false)
def tyX0 : Nat → FieldType := fun k => match k with
  | 0 => .array .int
  | _ => .int
theorem nmX0 : ∀ a, a < 2 → ∀ b, b < 2 → a ≠ b → (TX0 a).2.1 ≠ (TX0 b).2.1 := by decide +kernel
theorem tyX0_ok : ∀ k, k < 2 → parseFieldDescriptor (TX0 k).2.2.1 = some (tyX0 k) := by decide +kernel
abbrev cX0_init : ByteArray := prog_2_method_1_code
def yX0_init : MethodName := ⟨RX0, "<init>", "()V"⟩
abbrev cX0_readPlain : ByteArray := prog_2_method_2_code
def yX0_readPlain : MethodName := ⟨RX0, "readPlain", "(LGlobDesk$Row;)V"⟩
abbrev cX0_readStars : ByteArray := prog_2_method_3_code
def yX0_readStars : MethodName := ⟨RX0, "readStars", "(LGlobDesk$Row;)V"⟩
abbrev cX0_at : ByteArray := prog_2_method_4_code
def yX0_at : MethodName := ⟨RX0, "at", "(I)I"⟩
abbrev cX0_starFrom : ByteArray := prog_2_method_5_code
def yX0_starFrom : MethodName := ⟨RX0, "starFrom", "(I)I"⟩
abbrev cX0_append : ByteArray := prog_2_method_6_code
def yX0_append : MethodName := ⟨RX0, "append", "(I)V"⟩
def RX1 : String := "GlobDesk$Row"
def TX1 : u_T := fun k => match k with
  | 0 => ("GlobDesk$Row", "bytes", "[I", true)
  | _ => ("GlobDesk$Row", "length", "I", false)
def tyX1 : Nat → FieldType := fun k => match k with
  | 0 => .array .int
  | _ => .int
theorem nmX1 : ∀ a, a < 2 → ∀ b, b < 2 → a ≠ b → (TX1 a).2.1 ≠ (TX1 b).2.1 := by decide +kernel
theorem tyX1_ok : ∀ k, k < 2 → parseFieldDescriptor (TX1 k).2.2.1 = some (tyX1 k) := by decide +kernel
abbrev cX1_init : ByteArray := prog_3_method_1_code
def yX1_init : MethodName := ⟨RX1, "<init>", "()V"⟩
abbrev cX1_append : ByteArray := prog_3_method_2_code
def yX1_append : MethodName := ⟨RX1, "append", "(JI)Z"⟩
abbrev cX1_at : ByteArray := prog_3_method_3_code
def yX1_at : MethodName := ⟨RX1, "at", "(I)I"⟩
abbrev cX1_digits : ByteArray := prog_3_method_4_code
def yX1_digits : MethodName := ⟨RX1, "digits", "()I"⟩
abbrev cX1_zerosBefore : ByteArray := prog_3_method_5_code
def yX1_zerosBefore : MethodName := ⟨RX1, "zerosBefore", "(I)I"⟩
abbrev cX1_numberUpTo : ByteArray := prog_3_method_6_code
def yX1_numberUpTo : MethodName := ⟨RX1, "numberUpTo", "(J)J"⟩
def RX2 : String := "GlobDesk$Spans"
def TX2 : u_T := fun k => match k with
  | 0 => ("GlobDesk$Spans", "begins", "[I", true)
  | 1 => ("GlobDesk$Spans", "lengths", "[I", true)
  | _ => ("GlobDesk$Spans", "length", "I", false)
def tyX2 : Nat → FieldType := fun k => match k with
  | 0 => .array .int
  | 1 => .array .int
  | _ => .int
theorem nmX2 : ∀ a, a < 3 → ∀ b, b < 3 → a ≠ b → (TX2 a).2.1 ≠ (TX2 b).2.1 := by decide +kernel
theorem tyX2_ok : ∀ k, k < 3 → parseFieldDescriptor (TX2 k).2.2.1 = some (tyX2 k) := by decide +kernel
abbrev cX2_init : ByteArray := prog_4_method_1_code
def yX2_init : MethodName := ⟨RX2, "<init>", "()V"⟩
abbrev cX2_append : ByteArray := prog_4_method_2_code
def yX2_append : MethodName := ⟨RX2, "append", "(II)V"⟩
abbrev cX2_beginOf : ByteArray := prog_4_method_3_code
def yX2_beginOf : MethodName := ⟨RX2, "beginOf", "(I)I"⟩
abbrev cX2_lengthOf : ByteArray := prog_4_method_4_code
def yX2_lengthOf : MethodName := ⟨RX2, "lengthOf", "(I)I"⟩
def RX3 : String := "GlobDesk"
def TX3 : u_T := fun k => match k with
  | 0 => ("GlobDesk", "value", "LGlobDesk$Row;", true)
  | 1 => ("GlobDesk", "key", "LGlobDesk$Row;", true)
  | 2 => ("GlobDesk", "pattern", "LGlobDesk$Pattern;", true)
  | _ => ("GlobDesk", "found", "LGlobDesk$Spans;", true)
def tyX3 : Nat → FieldType := fun k => match k with
  | 0 => .object "GlobDesk$Row"
  | 1 => .object "GlobDesk$Row"
  | 2 => .object "GlobDesk$Pattern"
  | _ => .object "GlobDesk$Spans"
theorem nmX3 : ∀ a, a < 4 → ∀ b, b < 4 → a ≠ b → (TX3 a).2.1 ≠ (TX3 b).2.1 := by decide +kernel
theorem tyX3_ok : ∀ k, k < 4 → parseFieldDescriptor (TX3 k).2.2.1 = some (tyX3 k) := by decide +kernel
abbrev cX3_init : ByteArray := prog_1_method_1_code
def yX3_init : MethodName := ⟨RX3, "<init>", "()V"⟩
abbrev cX3_put : ByteArray := prog_1_method_2_code
def yX3_put : MethodName := ⟨RX3, "put", "(IJI)Z"⟩
abbrev cX3_clear : ByteArray := prog_1_method_3_code
def yX3_clear : MethodName := ⟨RX3, "clear", "(I)I"⟩
abbrev cX3_match : ByteArray := prog_1_method_4_code
def yX3_match : MethodName := ⟨RX3, "match", "(II)I"⟩
abbrev cX3_spans : ByteArray := prog_1_method_5_code
def yX3_spans : MethodName := ⟨RX3, "spans", "()I"⟩
abbrev cX3_span : ByteArray := prog_1_method_6_code
def yX3_span : MethodName := ⟨RX3, "span", "(II)I"⟩
abbrev cX3_order : ByteArray := prog_1_method_7_code
def yX3_order : MethodName := ⟨RX3, "order", "(I)I"⟩
abbrev cX3_counts : ByteArray := prog_1_method_8_code
def yX3_counts : MethodName := ⟨RX3, "counts", "(II)Z"⟩
abbrev cX3_byteAt : ByteArray := prog_1_method_9_code
def yX3_byteAt : MethodName := ⟨RX3, "byteAt", "(II)I"⟩
abbrev cX3_size : ByteArray := prog_1_method_10_code
def yX3_size : MethodName := ⟨RX3, "size", "(I)I"⟩
abbrev cX3_rowOf : ByteArray := prog_1_method_11_code
def yX3_rowOf : MethodName := ⟨RX3, "rowOf", "(I)LGlobDesk$Row;"⟩
abbrev cX3_isComparator : ByteArray := prog_1_method_12_code
def yX3_isComparator : MethodName := ⟨RX3, "isComparator", "(I)Z"⟩
abbrev cX3_matches : ByteArray := prog_1_method_13_code
def yX3_matches : MethodName := ⟨RX3, "matches", "(II)Z"⟩
abbrev cX3_containsKey : ByteArray := prog_1_method_14_code
def yX3_containsKey : MethodName := ⟨RX3, "containsKey", "(I)Z"⟩
abbrev cX3_isLikeKey : ByteArray := prog_1_method_15_code
def yX3_isLikeKey : MethodName := ⟨RX3, "isLikeKey", "(I)Z"⟩
abbrev cX3_firstPlace : ByteArray := prog_1_method_16_code
def yX3_firstPlace : MethodName := ⟨RX3, "firstPlace", "(IIII)I"⟩
abbrev cX3_fits : ByteArray := prog_1_method_17_code
def yX3_fits : MethodName := ⟨RX3, "fits", "(IIII)Z"⟩
abbrev cX3_standing : ByteArray := prog_1_method_18_code
def yX3_standing : MethodName := ⟨RX3, "standing", "(I)I"⟩
abbrev cX3_standingAsBytes : ByteArray := prog_1_method_19_code
def yX3_standingAsBytes : MethodName := ⟨RX3, "standingAsBytes", "(I)I"⟩
abbrev cX3_standingAsNumbers : ByteArray := prog_1_method_20_code
def yX3_standingAsNumbers : MethodName := ⟨RX3, "standingAsNumbers", "()I"⟩
abbrev cX3_signOf : ByteArray := prog_1_method_21_code
def yX3_signOf : MethodName := ⟨RX3, "signOf", "(II)I"⟩
abbrev cX3_folded : ByteArray := prog_1_method_22_code
def yX3_folded : MethodName := ⟨RX3, "folded", "(II)I"⟩
def RL : String := "GlobDeskLaw"
abbrev cL_law : ByteArray := code
def yL_law : MethodName := ⟨RL, "law", "([I)Z"⟩
def RX4 : String := "GlobDeskModel"
def TX4 : u_T := fun k => match k with
  | 0 => ("GlobDeskModel", "thrownCode", "I", false)
  | 1 => ("GlobDeskModel", "value", "[I", true)
  | 2 => ("GlobDeskModel", "key", "[I", true)
  | 3 => ("GlobDeskModel", "values", "I", false)
  | 4 => ("GlobDeskModel", "keys", "I", false)
  | 5 => ("GlobDeskModel", "signs", "I", false)
  | 6 => ("GlobDeskModel", "sign", "[I", true)
  | 7 => ("GlobDeskModel", "literal", "[I", true)
  | 8 => ("GlobDeskModel", "can", "[Z", true)
  | 9 => ("GlobDeskModel", "spanCount", "I", false)
  | 10 => ("GlobDeskModel", "from", "[I", true)
  | _ => ("GlobDeskModel", "many", "[I", true)
def tyX4 : Nat → FieldType := fun k => match k with
  | 0 => .int
  | 1 => .array .int
  | 2 => .array .int
  | 3 => .int
  | 4 => .int
  | 5 => .int
  | 6 => .array .int
  | 7 => .array .int
  | 8 => .array .boolean
  | 9 => .int
  | 10 => .array .int
  | _ => .array .int
theorem nmX4 : ∀ a, a < 12 → ∀ b, b < 12 → a ≠ b → (TX4 a).2.1 ≠ (TX4 b).2.1 := by decide +kernel
theorem tyX4_ok : ∀ k, k < 12 → parseFieldDescriptor (TX4 k).2.2.1 = some (tyX4 k) := by decide +kernel
abbrev cX4_init : ByteArray := prog_6_method_1_code
def yX4_init : MethodName := ⟨RX4, "<init>", "()V"⟩
abbrev cX4_put : ByteArray := prog_6_method_11_code
def yX4_put : MethodName := ⟨RX4, "put", "(IJI)Z"⟩
abbrev cX4_clear : ByteArray := prog_6_method_12_code
def yX4_clear : MethodName := ⟨RX4, "clear", "(I)I"⟩
abbrev cX4_match : ByteArray := prog_6_method_13_code
def yX4_match : MethodName := ⟨RX4, "match", "(II)I"⟩
abbrev cX4_compare : ByteArray := prog_6_method_6_code
def yX4_compare : MethodName := ⟨RX4, "compare", "(I)I"⟩
abbrev cX4_byNumbers : ByteArray := prog_6_method_5_code
def yX4_byNumbers : MethodName := ⟨RX4, "byNumbers", "()I"⟩
abbrev cX4_digits : ByteArray := prog_6_method_3_code
def yX4_digits : MethodName := ⟨RX4, "digits", "([II)I"⟩
abbrev cX4_zeros : ByteArray := prog_6_method_4_code
def yX4_zeros : MethodName := ⟨RX4, "zeros", "([II)I"⟩
abbrev cX4_folded : ByteArray := prog_6_method_2_code
def yX4_folded : MethodName := ⟨RX4, "folded", "(II)I"⟩
abbrev cX4_contains : ByteArray := prog_6_method_7_code
def yX4_contains : MethodName := ⟨RX4, "contains", "(I)Z"⟩
abbrev cX4_like : ByteArray := prog_6_method_9_code
def yX4_like : MethodName := ⟨RX4, "like", "(I)Z"⟩
abbrev cX4_findSigns : ByteArray := prog_6_method_8_code
def yX4_findSigns : MethodName := ⟨RX4, "findSigns", "()V"⟩
abbrev cX4_spans : ByteArray := prog_6_method_14_code
def yX4_spans : MethodName := ⟨RX4, "spans", "()I"⟩
abbrev cX4_span : ByteArray := prog_6_method_15_code
def yX4_span : MethodName := ⟨RX4, "span", "(II)I"⟩
abbrev cX4_order : ByteArray := prog_6_method_16_code
def yX4_order : MethodName := ⟨RX4, "order", "(I)I"⟩
abbrev cX4_counts : ByteArray := prog_6_method_17_code
def yX4_counts : MethodName := ⟨RX4, "counts", "(II)Z"⟩
abbrev cX4_byteAt : ByteArray := prog_6_method_18_code
def yX4_byteAt : MethodName := ⟨RX4, "byteAt", "(II)I"⟩
abbrev cX4_size : ByteArray := prog_6_method_19_code
def yX4_size : MethodName := ⟨RX4, "size", "(I)I"⟩
def wsA : List Cond := lw_tbl.filter goodWord
theorem inA {w : Cond} (i : Nat) (h : lw_tbl[i]? = some w) (g : goodWord w = true) : w ∈ wsA := List.mem_filter.mpr ⟨List.mem_of_getElem? h, g⟩
theorem wsA_tbl : ∀ w ∈ wsA, w ∈ lw_tbl := fun _ h => (List.mem_filter.mp h).1
theorem goodA {ws : List Cond} (h : ∀ w ∈ ws, w ∈ wsA) : GoodIn wsA ws := fun w hw => ⟨h w hw, good_of_word (List.mem_filter.mp (h w hw)).2⟩
theorem mw0 : Cond.selects "GlobDesk" yX3_rowOf yX3_rowOf ∈ wsA := inA 0 rfl rfl
theorem mw1 : Cond.selects "GlobDesk" yX3_matches yX3_matches ∈ wsA := inA 1 rfl rfl
theorem mw2 : Cond.selects "GlobDesk" yX3_standing yX3_standing ∈ wsA := inA 2 rfl rfl
theorem mw3 : Cond.selects "GlobDesk" yX3_standingAsNumbers yX3_standingAsNumbers ∈ wsA := inA 3 rfl rfl
theorem mw4 : Cond.selects "GlobDesk" yX3_standingAsBytes yX3_standingAsBytes ∈ wsA := inA 4 rfl rfl
theorem mw5 : Cond.selects "GlobDesk" yX3_containsKey yX3_containsKey ∈ wsA := inA 5 rfl rfl
theorem mw6 : Cond.selects "GlobDesk$Pattern" yX0_append yX0_append ∈ wsA := inA 6 rfl rfl
theorem mw7 : Cond.selects "GlobDesk" yX3_firstPlace yX3_firstPlace ∈ wsA := inA 7 rfl rfl
theorem mw8 : Cond.selects "GlobDesk" yX3_fits yX3_fits ∈ wsA := inA 8 rfl rfl
theorem mw9 : Cond.selects "GlobDesk" yX3_isLikeKey yX3_isLikeKey ∈ wsA := inA 9 rfl rfl
theorem mw10 : Cond.selects "GlobDeskModel" yX4_compare yX4_compare ∈ wsA := inA 10 rfl rfl
theorem mw11 : Cond.selects "GlobDeskModel" yX4_byNumbers yX4_byNumbers ∈ wsA := inA 11 rfl rfl
theorem mw12 : Cond.selects "GlobDeskModel" yX4_contains yX4_contains ∈ wsA := inA 12 rfl rfl
theorem mw13 : Cond.selects "GlobDeskModel" yX4_like yX4_like ∈ wsA := inA 13 rfl rfl
theorem mw14 : Cond.selects "GlobDeskModel" yX4_findSigns yX4_findSigns ∈ wsA := inA 14 rfl rfl
theorem mw15 : Cond.initialized "GlobDeskLaw" ∈ wsA := inA 15 rfl rfl
theorem mw16 : Cond.initialized "GlobDesk" ∈ wsA := inA 16 rfl rfl
theorem mw17 : Cond.initialized "GlobDesk$Row" ∈ wsA := inA 17 rfl rfl
theorem mw18 : Cond.initialized "GlobDesk$Pattern" ∈ wsA := inA 18 rfl rfl
theorem mw19 : Cond.initialized "GlobDesk$Spans" ∈ wsA := inA 19 rfl rfl
theorem mw20 : Cond.initialized "GlobDeskModel" ∈ wsA := inA 20 rfl rfl
theorem mw21 : Cond.initialized "java/lang/Math" ∈ wsA := inA 21 rfl rfl
theorem mw22 : Cond.classLink "GlobDeskLaw" 7 "GlobDesk" ∈ wsA := inA 22 rfl rfl
theorem mw23 : Cond.instantiable "GlobDesk" 4 ∈ wsA := inA 23 rfl rfl
theorem mw24 : Cond.methodLink "GlobDeskLaw" 9 yX3_init ∈ wsA := inA 24 rfl rfl
theorem mw25 : Cond.instanceMethod yX3_init ∈ wsA := inA 25 rfl rfl
theorem mw26 : Cond.code yX3_init prog_1_method_1_code 1 (Option.none : Option ClassFile.FieldType) ∈ wsA := inA 26 rfl rfl
theorem mw27 : Cond.methodLink "GlobDesk" 1 ({ cls := "java/lang/Object", name := "<init>", desc := "()V" } : MethodName) ∈ wsA := inA 27 rfl rfl
theorem mw28 : Cond.instanceMethod ({ cls := "java/lang/Object", name := "<init>", desc := "()V" } : MethodName) ∈ wsA := inA 28 rfl rfl
theorem mw29 : Cond.code ({ cls := "java/lang/Object", name := "<init>", desc := "()V" } : MethodName) object_method_1_code 1 (Option.none : Option ClassFile.FieldType) ∈ wsA := inA 29 rfl rfl
theorem mw30 : Cond.classLink "GlobDesk" 7 "GlobDesk$Row" ∈ wsA := inA 30 rfl rfl
theorem mw31 : Cond.instantiable "GlobDesk$Row" 2 ∈ wsA := inA 31 rfl rfl
theorem mw33 : Cond.instanceMethod yX1_init ∈ wsA := inA 33 rfl rfl
theorem mw34 : Cond.code yX1_init prog_3_method_1_code 1 (Option.none : Option ClassFile.FieldType) ∈ wsA := inA 34 rfl rfl
theorem mw35 : Cond.methodLink "GlobDesk$Row" 3 ({ cls := "java/lang/Object", name := "<init>", desc := "()V" } : MethodName) ∈ wsA := inA 35 rfl rfl
theorem mw36 : Cond.fieldLink "GlobDesk$Row" 9 "GlobDesk$Row" "bytes" "[I" ∈ wsA := inA 36 rfl rfl
theorem mw37 : Cond.fieldLink "GlobDesk$Row" 15 "GlobDesk$Row" "length" "I" ∈ wsA := inA 37 rfl rfl
theorem mw40 : Cond.laysFinal "GlobDesk$Row" "GlobDesk$Row" "bytes" "[I" ∈ wsA := inA 40 rfl rfl
theorem mw42 : Cond.lays "GlobDesk$Row" "GlobDesk$Row" "length" "I" ∈ wsA := inA 42 rfl rfl
theorem mw45 : Cond.arrayClass ClassFile.FieldType.int ∈ wsA := inA 45 rfl rfl
theorem mw46 : Cond.classLink "GlobDesk" 19 "GlobDesk$Pattern" ∈ wsA := inA 46 rfl rfl
theorem mw47 : Cond.instantiable "GlobDesk$Pattern" 2 ∈ wsA := inA 47 rfl rfl
theorem mw49 : Cond.instanceMethod yX0_init ∈ wsA := inA 49 rfl rfl
theorem mw50 : Cond.code yX0_init prog_2_method_1_code 1 (Option.none : Option ClassFile.FieldType) ∈ wsA := inA 50 rfl rfl
theorem mw51 : Cond.methodLink "GlobDesk$Pattern" 3 ({ cls := "java/lang/Object", name := "<init>", desc := "()V" } : MethodName) ∈ wsA := inA 51 rfl rfl
theorem mw52 : Cond.fieldLink "GlobDesk$Pattern" 9 "GlobDesk$Pattern" "marks" "[I" ∈ wsA := inA 52 rfl rfl
theorem mw53 : Cond.fieldLink "GlobDesk$Pattern" 15 "GlobDesk$Pattern" "length" "I" ∈ wsA := inA 53 rfl rfl
theorem mw55 : Cond.laysFinal "GlobDesk$Pattern" "GlobDesk$Pattern" "marks" "[I" ∈ wsA := inA 55 rfl rfl
theorem mw57 : Cond.lays "GlobDesk$Pattern" "GlobDesk$Pattern" "length" "I" ∈ wsA := inA 57 rfl rfl
theorem mw60 : Cond.classLink "GlobDesk" 26 "GlobDesk$Spans" ∈ wsA := inA 60 rfl rfl
theorem mw61 : Cond.instantiable "GlobDesk$Spans" 3 ∈ wsA := inA 61 rfl rfl
theorem mw63 : Cond.instanceMethod yX2_init ∈ wsA := inA 63 rfl rfl
theorem mw64 : Cond.code yX2_init prog_4_method_1_code 1 (Option.none : Option ClassFile.FieldType) ∈ wsA := inA 64 rfl rfl
theorem mw65 : Cond.methodLink "GlobDesk$Spans" 3 ({ cls := "java/lang/Object", name := "<init>", desc := "()V" } : MethodName) ∈ wsA := inA 65 rfl rfl
theorem mw66 : Cond.fieldLink "GlobDesk$Spans" 9 "GlobDesk$Spans" "begins" "[I" ∈ wsA := inA 66 rfl rfl
theorem mw67 : Cond.fieldLink "GlobDesk$Spans" 15 "GlobDesk$Spans" "lengths" "[I" ∈ wsA := inA 67 rfl rfl
theorem mw68 : Cond.fieldLink "GlobDesk$Spans" 18 "GlobDesk$Spans" "length" "I" ∈ wsA := inA 68 rfl rfl
theorem mw70 : Cond.laysFinal "GlobDesk$Spans" "GlobDesk$Spans" "begins" "[I" ∈ wsA := inA 70 rfl rfl
theorem mw72 : Cond.laysFinal "GlobDesk$Spans" "GlobDesk$Spans" "lengths" "[I" ∈ wsA := inA 72 rfl rfl
theorem mw74 : Cond.lays "GlobDesk$Spans" "GlobDesk$Spans" "length" "I" ∈ wsA := inA 74 rfl rfl
theorem mw77 : Cond.fieldLink "GlobDesk" 10 "GlobDesk" "value" "LGlobDesk$Row;" ∈ wsA := inA 77 rfl rfl
theorem mw78 : Cond.fieldLink "GlobDesk" 16 "GlobDesk" "key" "LGlobDesk$Row;" ∈ wsA := inA 78 rfl rfl
theorem mw79 : Cond.fieldLink "GlobDesk" 22 "GlobDesk" "pattern" "LGlobDesk$Pattern;" ∈ wsA := inA 79 rfl rfl
theorem mw80 : Cond.fieldLink "GlobDesk" 29 "GlobDesk" "found" "LGlobDesk$Spans;" ∈ wsA := inA 80 rfl rfl
theorem mw81 : Cond.laysFinal "GlobDesk" "GlobDesk" "value" "LGlobDesk$Row;" ∈ wsA := inA 81 rfl rfl
theorem mw83 : Cond.laysFinal "GlobDesk" "GlobDesk" "key" "LGlobDesk$Row;" ∈ wsA := inA 83 rfl rfl
theorem mw85 : Cond.laysFinal "GlobDesk" "GlobDesk" "pattern" "LGlobDesk$Pattern;" ∈ wsA := inA 85 rfl rfl
theorem mw87 : Cond.laysFinal "GlobDesk" "GlobDesk" "found" "LGlobDesk$Spans;" ∈ wsA := inA 87 rfl rfl
theorem mw90 : Cond.methodLink "GlobDeskLaw" 15 yX3_put ∈ wsA := inA 90 rfl rfl
theorem mw91 : Cond.instanceMethod yX3_put ∈ wsA := inA 91 rfl rfl
theorem mw92 : Cond.selects "GlobDesk" yX3_put yX3_put ∈ wsA := inA 92 rfl rfl
theorem mw93 : Cond.code yX3_put prog_1_method_2_code 6 (Option.some ClassFile.FieldType.boolean) ∈ wsA := inA 93 rfl rfl
theorem mw94 : Cond.methodLink "GlobDesk" 33 yX3_rowOf ∈ wsA := inA 94 rfl rfl
theorem mw96 : Cond.instanceMethod yX3_rowOf ∈ wsA := inA 96 rfl rfl
theorem mw97 : Cond.code yX3_rowOf prog_1_method_11_code 2 (Option.some (ClassFile.FieldType.object "GlobDesk$Row")) ∈ wsA := inA 97 rfl rfl
theorem mw98 : Cond.methodLink "GlobDesk" 37 yX1_append ∈ wsA := inA 98 rfl rfl
theorem mw99 : Cond.instanceMethod yX1_append ∈ wsA := inA 99 rfl rfl
theorem mw100 : Cond.selects "GlobDesk$Row" yX1_append yX1_append ∈ wsA := inA 100 rfl rfl
theorem mw101 : Cond.code yX1_append prog_3_method_2_code 5 (Option.some ClassFile.FieldType.boolean) ∈ wsA := inA 101 rfl rfl
theorem mw102 : Cond.methodLink "GlobDeskLaw" 20 yX3_clear ∈ wsA := inA 102 rfl rfl
theorem mw103 : Cond.instanceMethod yX3_clear ∈ wsA := inA 103 rfl rfl
theorem mw104 : Cond.selects "GlobDesk" yX3_clear yX3_clear ∈ wsA := inA 104 rfl rfl
theorem mw105 : Cond.code yX3_clear prog_1_method_3_code 4 (Option.some ClassFile.FieldType.int) ∈ wsA := inA 105 rfl rfl
theorem mw106 : Cond.methodLink "GlobDeskLaw" 25 yX3_match ∈ wsA := inA 106 rfl rfl
theorem mw107 : Cond.instanceMethod yX3_match ∈ wsA := inA 107 rfl rfl
theorem mw108 : Cond.selects "GlobDesk" yX3_match yX3_match ∈ wsA := inA 108 rfl rfl
theorem mw109 : Cond.code yX3_match prog_1_method_4_code 3 (Option.some ClassFile.FieldType.int) ∈ wsA := inA 109 rfl rfl
theorem mw110 : Cond.methodLink "GlobDesk" 45 yX3_isComparator ∈ wsA := inA 110 rfl rfl
theorem mw111 : Cond.static yX3_isComparator ∈ wsA := inA 111 rfl rfl
theorem mw112 : Cond.code yX3_isComparator prog_1_method_12_code 1 (Option.some ClassFile.FieldType.boolean) ∈ wsA := inA 112 rfl rfl
theorem mw113 : Cond.methodLink "GlobDesk" 50 yX3_matches ∈ wsA := inA 113 rfl rfl
theorem mw115 : Cond.instanceMethod yX3_matches ∈ wsA := inA 115 rfl rfl
theorem mw116 : Cond.code yX3_matches prog_1_method_13_code 3 (Option.some ClassFile.FieldType.boolean) ∈ wsA := inA 116 rfl rfl
theorem mw117 : Cond.methodLink "GlobDesk" 61 yX3_standing ∈ wsA := inA 117 rfl rfl
theorem mw119 : Cond.instanceMethod yX3_standing ∈ wsA := inA 119 rfl rfl
theorem mw120 : Cond.code yX3_standing prog_1_method_18_code 2 (Option.some ClassFile.FieldType.int) ∈ wsA := inA 120 rfl rfl
theorem mw121 : Cond.methodLink "GlobDesk" 111 yX3_standingAsNumbers ∈ wsA := inA 121 rfl rfl
theorem mw123 : Cond.instanceMethod yX3_standingAsNumbers ∈ wsA := inA 123 rfl rfl
theorem mw124 : Cond.code yX3_standingAsNumbers prog_1_method_20_code 8 (Option.some ClassFile.FieldType.int) ∈ wsA := inA 124 rfl rfl
theorem mw125 : Cond.methodLink "GlobDesk" 124 yX1_digits ∈ wsA := inA 125 rfl rfl
theorem mw126 : Cond.instanceMethod yX1_digits ∈ wsA := inA 126 rfl rfl
theorem mw127 : Cond.selects "GlobDesk$Row" yX1_digits yX1_digits ∈ wsA := inA 127 rfl rfl
theorem mw128 : Cond.code yX1_digits prog_3_method_4_code 2 (Option.some ClassFile.FieldType.int) ∈ wsA := inA 128 rfl rfl
theorem mw129 : Cond.methodLink "GlobDesk" 121 yX3_signOf ∈ wsA := inA 129 rfl rfl
theorem mw130 : Cond.static yX3_signOf ∈ wsA := inA 130 rfl rfl
theorem mw131 : Cond.code yX3_signOf prog_1_method_21_code 2 (Option.some ClassFile.FieldType.int) ∈ wsA := inA 131 rfl rfl
theorem mw132 : Cond.methodLink "GlobDesk" 127 yX1_zerosBefore ∈ wsA := inA 132 rfl rfl
theorem mw133 : Cond.instanceMethod yX1_zerosBefore ∈ wsA := inA 133 rfl rfl
theorem mw134 : Cond.selects "GlobDesk$Row" yX1_zerosBefore yX1_zerosBefore ∈ wsA := inA 134 rfl rfl
theorem mw135 : Cond.code yX1_zerosBefore prog_3_method_5_code 3 (Option.some ClassFile.FieldType.int) ∈ wsA := inA 135 rfl rfl
theorem mw136 : Cond.methodLink "GlobDesk$Row" 19 yX1_at ∈ wsA := inA 136 rfl rfl
theorem mw137 : Cond.instanceMethod yX1_at ∈ wsA := inA 137 rfl rfl
theorem mw138 : Cond.selects "GlobDesk$Row" yX1_at yX1_at ∈ wsA := inA 138 rfl rfl
theorem mw139 : Cond.code yX1_at prog_3_method_3_code 2 (Option.some ClassFile.FieldType.int) ∈ wsA := inA 139 rfl rfl
theorem mw140 : Cond.methodLink "GlobDesk" 70 yX1_at ∈ wsA := inA 140 rfl rfl
theorem mw141 : Cond.methodLink "GlobDesk" 115 yX3_standingAsBytes ∈ wsA := inA 141 rfl rfl
theorem mw143 : Cond.instanceMethod yX3_standingAsBytes ∈ wsA := inA 143 rfl rfl
theorem mw144 : Cond.code yX3_standingAsBytes prog_1_method_19_code 5 (Option.some ClassFile.FieldType.int) ∈ wsA := inA 144 rfl rfl
theorem mw145 : Cond.methodLink "GlobDesk" 118 ({ cls := "java/lang/Math", name := "min", desc := "(II)I" } : MethodName) ∈ wsA := inA 145 rfl rfl
theorem mw146 : Cond.static ({ cls := "java/lang/Math", name := "min", desc := "(II)I" } : MethodName) ∈ wsA := inA 146 rfl rfl
theorem mw147 : Cond.code ({ cls := "java/lang/Math", name := "min", desc := "(II)I" } : MethodName) prog_7_method_69_code 2 (Option.some ClassFile.FieldType.int) ∈ wsA := inA 147 rfl rfl
theorem mw148 : Cond.methodLink "GlobDesk" 108 yX3_folded ∈ wsA := inA 148 rfl rfl
theorem mw149 : Cond.static yX3_folded ∈ wsA := inA 149 rfl rfl
theorem mw150 : Cond.code yX3_folded prog_1_method_22_code 3 (Option.some ClassFile.FieldType.int) ∈ wsA := inA 150 rfl rfl
theorem mw151 : Cond.methodLink "GlobDesk" 73 yX3_containsKey ∈ wsA := inA 151 rfl rfl
theorem mw153 : Cond.instanceMethod yX3_containsKey ∈ wsA := inA 153 rfl rfl
theorem mw154 : Cond.code yX3_containsKey prog_1_method_14_code 3 (Option.some ClassFile.FieldType.boolean) ∈ wsA := inA 154 rfl rfl
theorem mw155 : Cond.methodLink "GlobDesk" 79 yX0_readPlain ∈ wsA := inA 155 rfl rfl
theorem mw156 : Cond.instanceMethod yX0_readPlain ∈ wsA := inA 156 rfl rfl
theorem mw157 : Cond.selects "GlobDesk$Pattern" yX0_readPlain yX0_readPlain ∈ wsA := inA 157 rfl rfl
theorem mw158 : Cond.code yX0_readPlain prog_2_method_2_code 3 (Option.none : Option ClassFile.FieldType) ∈ wsA := inA 158 rfl rfl
theorem mw159 : Cond.methodLink "GlobDesk$Pattern" 22 yX1_at ∈ wsA := inA 159 rfl rfl
theorem mw160 : Cond.methodLink "GlobDesk$Pattern" 26 yX0_append ∈ wsA := inA 160 rfl rfl
theorem mw162 : Cond.instanceMethod yX0_append ∈ wsA := inA 162 rfl rfl
theorem mw163 : Cond.code yX0_append prog_2_method_6_code 2 (Option.none : Option ClassFile.FieldType) ∈ wsA := inA 163 rfl rfl
theorem mw164 : Cond.methodLink "GlobDesk" 84 yX3_firstPlace ∈ wsA := inA 164 rfl rfl
theorem mw166 : Cond.instanceMethod yX3_firstPlace ∈ wsA := inA 166 rfl rfl
theorem mw167 : Cond.code yX3_firstPlace prog_1_method_16_code 7 (Option.some ClassFile.FieldType.int) ∈ wsA := inA 167 rfl rfl
theorem mw168 : Cond.methodLink "GlobDesk" 97 yX3_fits ∈ wsA := inA 168 rfl rfl
theorem mw170 : Cond.instanceMethod yX3_fits ∈ wsA := inA 170 rfl rfl
theorem mw171 : Cond.code yX3_fits prog_1_method_17_code 8 (Option.some ClassFile.FieldType.boolean) ∈ wsA := inA 171 rfl rfl
theorem mw172 : Cond.methodLink "GlobDesk" 107 yX0_at ∈ wsA := inA 172 rfl rfl
theorem mw173 : Cond.instanceMethod yX0_at ∈ wsA := inA 173 rfl rfl
theorem mw174 : Cond.selects "GlobDesk$Pattern" yX0_at yX0_at ∈ wsA := inA 174 rfl rfl
theorem mw175 : Cond.code yX0_at prog_2_method_4_code 2 (Option.some ClassFile.FieldType.int) ∈ wsA := inA 175 rfl rfl
theorem mw176 : Cond.methodLink "GlobDesk" 88 yX2_append ∈ wsA := inA 176 rfl rfl
theorem mw177 : Cond.instanceMethod yX2_append ∈ wsA := inA 177 rfl rfl
theorem mw178 : Cond.selects "GlobDesk$Spans" yX2_append yX2_append ∈ wsA := inA 178 rfl rfl
theorem mw179 : Cond.code yX2_append prog_4_method_2_code 3 (Option.none : Option ClassFile.FieldType) ∈ wsA := inA 179 rfl rfl
theorem mw180 : Cond.methodLink "GlobDesk" 76 yX3_isLikeKey ∈ wsA := inA 180 rfl rfl
theorem mw182 : Cond.instanceMethod yX3_isLikeKey ∈ wsA := inA 182 rfl rfl
theorem mw183 : Cond.code yX3_isLikeKey prog_1_method_15_code 9 (Option.some ClassFile.FieldType.boolean) ∈ wsA := inA 183 rfl rfl
theorem mw184 : Cond.methodLink "GlobDesk" 91 yX0_readStars ∈ wsA := inA 184 rfl rfl
theorem mw185 : Cond.instanceMethod yX0_readStars ∈ wsA := inA 185 rfl rfl
theorem mw186 : Cond.selects "GlobDesk$Pattern" yX0_readStars yX0_readStars ∈ wsA := inA 186 rfl rfl
theorem mw187 : Cond.code yX0_readStars prog_2_method_3_code 4 (Option.none : Option ClassFile.FieldType) ∈ wsA := inA 187 rfl rfl
theorem mw188 : Cond.methodLink "GlobDesk" 94 yX0_starFrom ∈ wsA := inA 188 rfl rfl
theorem mw189 : Cond.instanceMethod yX0_starFrom ∈ wsA := inA 189 rfl rfl
theorem mw190 : Cond.selects "GlobDesk$Pattern" yX0_starFrom yX0_starFrom ∈ wsA := inA 190 rfl rfl
theorem mw191 : Cond.code yX0_starFrom prog_2_method_5_code 3 (Option.some ClassFile.FieldType.int) ∈ wsA := inA 191 rfl rfl
theorem mw192 : Cond.methodLink "GlobDesk$Pattern" 30 yX0_at ∈ wsA := inA 192 rfl rfl
theorem mw193 : Cond.methodLink "GlobDesk" 101 ({ cls := "java/lang/Math", name := "max", desc := "(II)I" } : MethodName) ∈ wsA := inA 193 rfl rfl
theorem mw194 : Cond.static ({ cls := "java/lang/Math", name := "max", desc := "(II)I" } : MethodName) ∈ wsA := inA 194 rfl rfl
theorem mw195 : Cond.code ({ cls := "java/lang/Math", name := "max", desc := "(II)I" } : MethodName) prog_7_method_65_code 2 (Option.some ClassFile.FieldType.int) ∈ wsA := inA 195 rfl rfl
theorem mw196 : Cond.methodLink "GlobDeskLaw" 30 yX3_spans ∈ wsA := inA 196 rfl rfl
theorem mw197 : Cond.instanceMethod yX3_spans ∈ wsA := inA 197 rfl rfl
theorem mw198 : Cond.selects "GlobDesk" yX3_spans yX3_spans ∈ wsA := inA 198 rfl rfl
theorem mw199 : Cond.code yX3_spans prog_1_method_5_code 1 (Option.some ClassFile.FieldType.int) ∈ wsA := inA 199 rfl rfl
theorem mw200 : Cond.methodLink "GlobDeskLaw" 35 yX3_span ∈ wsA := inA 200 rfl rfl
theorem mw201 : Cond.instanceMethod yX3_span ∈ wsA := inA 201 rfl rfl
theorem mw202 : Cond.selects "GlobDesk" yX3_span yX3_span ∈ wsA := inA 202 rfl rfl
theorem mw203 : Cond.code yX3_span prog_1_method_6_code 3 (Option.some ClassFile.FieldType.int) ∈ wsA := inA 203 rfl rfl
theorem mw204 : Cond.methodLink "GlobDesk" 54 yX2_beginOf ∈ wsA := inA 204 rfl rfl
theorem mw205 : Cond.instanceMethod yX2_beginOf ∈ wsA := inA 205 rfl rfl
theorem mw206 : Cond.selects "GlobDesk$Spans" yX2_beginOf yX2_beginOf ∈ wsA := inA 206 rfl rfl
theorem mw207 : Cond.code yX2_beginOf prog_4_method_3_code 2 (Option.some ClassFile.FieldType.int) ∈ wsA := inA 207 rfl rfl
theorem mw208 : Cond.methodLink "GlobDesk" 58 yX2_lengthOf ∈ wsA := inA 208 rfl rfl
theorem mw209 : Cond.instanceMethod yX2_lengthOf ∈ wsA := inA 209 rfl rfl
theorem mw210 : Cond.selects "GlobDesk$Spans" yX2_lengthOf yX2_lengthOf ∈ wsA := inA 210 rfl rfl
theorem mw211 : Cond.code yX2_lengthOf prog_4_method_4_code 2 (Option.some ClassFile.FieldType.int) ∈ wsA := inA 211 rfl rfl
theorem mw212 : Cond.methodLink "GlobDeskLaw" 39 yX3_order ∈ wsA := inA 212 rfl rfl
theorem mw213 : Cond.instanceMethod yX3_order ∈ wsA := inA 213 rfl rfl
theorem mw214 : Cond.selects "GlobDesk" yX3_order yX3_order ∈ wsA := inA 214 rfl rfl
theorem mw215 : Cond.code yX3_order prog_1_method_7_code 2 (Option.some ClassFile.FieldType.int) ∈ wsA := inA 215 rfl rfl
theorem mw216 : Cond.methodLink "GlobDeskLaw" 43 yX3_counts ∈ wsA := inA 216 rfl rfl
theorem mw217 : Cond.instanceMethod yX3_counts ∈ wsA := inA 217 rfl rfl
theorem mw218 : Cond.selects "GlobDesk" yX3_counts yX3_counts ∈ wsA := inA 218 rfl rfl
theorem mw219 : Cond.code yX3_counts prog_1_method_8_code 5 (Option.some ClassFile.FieldType.boolean) ∈ wsA := inA 219 rfl rfl
theorem mw220 : Cond.constantLong "GlobDesk" 64 (10000000000 : Int64) ∈ wsA := inA 220 rfl rfl
theorem mw221 : Cond.methodLink "GlobDesk" 66 yX1_numberUpTo ∈ wsA := inA 221 rfl rfl
theorem mw222 : Cond.instanceMethod yX1_numberUpTo ∈ wsA := inA 222 rfl rfl
theorem mw223 : Cond.selects "GlobDesk$Row" yX1_numberUpTo yX1_numberUpTo ∈ wsA := inA 223 rfl rfl
theorem mw224 : Cond.code yX1_numberUpTo prog_3_method_6_code 7 (Option.some ClassFile.FieldType.long) ∈ wsA := inA 224 rfl rfl
theorem mw225 : Cond.methodLink "GlobDesk$Row" 23 yX1_digits ∈ wsA := inA 225 rfl rfl
theorem mw226 : Cond.constantLong "GlobDesk$Row" 27 (10 : Int64) ∈ wsA := inA 226 rfl rfl
theorem mw227 : Cond.methodLink "GlobDesk$Row" 29 ({ cls := "java/lang/Math", name := "min", desc := "(JJ)J" } : MethodName) ∈ wsA := inA 227 rfl rfl
theorem mw228 : Cond.static ({ cls := "java/lang/Math", name := "min", desc := "(JJ)J" } : MethodName) ∈ wsA := inA 228 rfl rfl
theorem mw229 : Cond.code ({ cls := "java/lang/Math", name := "min", desc := "(JJ)J" } : MethodName) prog_7_method_70_code 4 (Option.some ClassFile.FieldType.long) ∈ wsA := inA 229 rfl rfl
theorem mw230 : Cond.methodLink "GlobDeskLaw" 48 yX3_byteAt ∈ wsA := inA 230 rfl rfl
theorem mw231 : Cond.instanceMethod yX3_byteAt ∈ wsA := inA 231 rfl rfl
theorem mw232 : Cond.selects "GlobDesk" yX3_byteAt yX3_byteAt ∈ wsA := inA 232 rfl rfl
theorem mw233 : Cond.code yX3_byteAt prog_1_method_9_code 4 (Option.some ClassFile.FieldType.int) ∈ wsA := inA 233 rfl rfl
theorem mw234 : Cond.methodLink "GlobDeskLaw" 52 yX3_size ∈ wsA := inA 234 rfl rfl
theorem mw235 : Cond.instanceMethod yX3_size ∈ wsA := inA 235 rfl rfl
theorem mw236 : Cond.selects "GlobDesk" yX3_size yX3_size ∈ wsA := inA 236 rfl rfl
theorem mw237 : Cond.code yX3_size prog_1_method_10_code 3 (Option.some ClassFile.FieldType.int) ∈ wsA := inA 237 rfl rfl
theorem mw238 : Cond.classLink "GlobDeskLaw" 10 "GlobDeskModel" ∈ wsA := inA 238 rfl rfl
theorem mw239 : Cond.instantiable "GlobDeskModel" 12 ∈ wsA := inA 239 rfl rfl
theorem mw240 : Cond.methodLink "GlobDeskLaw" 12 yX4_init ∈ wsA := inA 240 rfl rfl
theorem mw241 : Cond.instanceMethod yX4_init ∈ wsA := inA 241 rfl rfl
theorem mw242 : Cond.code yX4_init prog_6_method_1_code 1 (Option.none : Option ClassFile.FieldType) ∈ wsA := inA 242 rfl rfl
theorem mw243 : Cond.methodLink "GlobDeskModel" 1 ({ cls := "java/lang/Object", name := "<init>", desc := "()V" } : MethodName) ∈ wsA := inA 243 rfl rfl
theorem mw244 : Cond.fieldLink "GlobDeskModel" 7 "GlobDeskModel" "thrownCode" "I" ∈ wsA := inA 244 rfl rfl
theorem mw245 : Cond.fieldLink "GlobDeskModel" 13 "GlobDeskModel" "value" "[I" ∈ wsA := inA 245 rfl rfl
theorem mw246 : Cond.fieldLink "GlobDeskModel" 17 "GlobDeskModel" "key" "[I" ∈ wsA := inA 246 rfl rfl
theorem mw247 : Cond.fieldLink "GlobDeskModel" 20 "GlobDeskModel" "values" "I" ∈ wsA := inA 247 rfl rfl
theorem mw248 : Cond.fieldLink "GlobDeskModel" 23 "GlobDeskModel" "keys" "I" ∈ wsA := inA 248 rfl rfl
theorem mw249 : Cond.fieldLink "GlobDeskModel" 26 "GlobDeskModel" "signs" "I" ∈ wsA := inA 249 rfl rfl
theorem mw250 : Cond.fieldLink "GlobDeskModel" 29 "GlobDeskModel" "sign" "[I" ∈ wsA := inA 250 rfl rfl
theorem mw251 : Cond.fieldLink "GlobDeskModel" 32 "GlobDeskModel" "literal" "[I" ∈ wsA := inA 251 rfl rfl
theorem mw252 : Cond.fieldLink "GlobDeskModel" 35 "GlobDeskModel" "can" "[Z" ∈ wsA := inA 252 rfl rfl
theorem mw253 : Cond.fieldLink "GlobDeskModel" 39 "GlobDeskModel" "spanCount" "I" ∈ wsA := inA 253 rfl rfl
theorem mw254 : Cond.fieldLink "GlobDeskModel" 42 "GlobDeskModel" "from" "[I" ∈ wsA := inA 254 rfl rfl
theorem mw255 : Cond.fieldLink "GlobDeskModel" 45 "GlobDeskModel" "many" "[I" ∈ wsA := inA 255 rfl rfl
theorem mw256 : Cond.lays "GlobDeskModel" "GlobDeskModel" "thrownCode" "I" ∈ wsA := inA 256 rfl rfl
theorem mw258 : Cond.laysFinal "GlobDeskModel" "GlobDeskModel" "value" "[I" ∈ wsA := inA 258 rfl rfl
theorem mw260 : Cond.laysFinal "GlobDeskModel" "GlobDeskModel" "key" "[I" ∈ wsA := inA 260 rfl rfl
theorem mw262 : Cond.lays "GlobDeskModel" "GlobDeskModel" "values" "I" ∈ wsA := inA 262 rfl rfl
theorem mw264 : Cond.lays "GlobDeskModel" "GlobDeskModel" "keys" "I" ∈ wsA := inA 264 rfl rfl
theorem mw266 : Cond.lays "GlobDeskModel" "GlobDeskModel" "signs" "I" ∈ wsA := inA 266 rfl rfl
theorem mw268 : Cond.laysFinal "GlobDeskModel" "GlobDeskModel" "sign" "[I" ∈ wsA := inA 268 rfl rfl
theorem mw270 : Cond.laysFinal "GlobDeskModel" "GlobDeskModel" "literal" "[I" ∈ wsA := inA 270 rfl rfl
theorem mw272 : Cond.laysFinal "GlobDeskModel" "GlobDeskModel" "can" "[Z" ∈ wsA := inA 272 rfl rfl
theorem mw274 : Cond.lays "GlobDeskModel" "GlobDeskModel" "spanCount" "I" ∈ wsA := inA 274 rfl rfl
theorem mw276 : Cond.laysFinal "GlobDeskModel" "GlobDeskModel" "from" "[I" ∈ wsA := inA 276 rfl rfl
theorem mw278 : Cond.laysFinal "GlobDeskModel" "GlobDeskModel" "many" "[I" ∈ wsA := inA 278 rfl rfl
theorem mw281 : Cond.arrayClass ClassFile.FieldType.boolean ∈ wsA := inA 281 rfl rfl
theorem mw282 : Cond.methodLink "GlobDeskLaw" 19 yX4_put ∈ wsA := inA 282 rfl rfl
theorem mw283 : Cond.instanceMethod yX4_put ∈ wsA := inA 283 rfl rfl
theorem mw284 : Cond.selects "GlobDeskModel" yX4_put yX4_put ∈ wsA := inA 284 rfl rfl
theorem mw285 : Cond.code yX4_put prog_6_method_11_code 7 (Option.some ClassFile.FieldType.boolean) ∈ wsA := inA 285 rfl rfl
theorem mw286 : Cond.methodLink "GlobDeskLaw" 24 yX4_clear ∈ wsA := inA 286 rfl rfl
theorem mw287 : Cond.instanceMethod yX4_clear ∈ wsA := inA 287 rfl rfl
theorem mw288 : Cond.selects "GlobDeskModel" yX4_clear yX4_clear ∈ wsA := inA 288 rfl rfl
theorem mw289 : Cond.code yX4_clear prog_6_method_12_code 3 (Option.some ClassFile.FieldType.int) ∈ wsA := inA 289 rfl rfl
theorem mw290 : Cond.methodLink "GlobDeskLaw" 29 yX4_match ∈ wsA := inA 290 rfl rfl
theorem mw291 : Cond.instanceMethod yX4_match ∈ wsA := inA 291 rfl rfl
theorem mw292 : Cond.selects "GlobDeskModel" yX4_match yX4_match ∈ wsA := inA 292 rfl rfl
theorem mw293 : Cond.code yX4_match prog_6_method_13_code 3 (Option.some ClassFile.FieldType.int) ∈ wsA := inA 293 rfl rfl
theorem mw294 : Cond.methodLink "GlobDeskModel" 66 yX4_compare ∈ wsA := inA 294 rfl rfl
theorem mw296 : Cond.instanceMethod yX4_compare ∈ wsA := inA 296 rfl rfl
theorem mw297 : Cond.code yX4_compare prog_6_method_6_code 5 (Option.some ClassFile.FieldType.int) ∈ wsA := inA 297 rfl rfl
theorem mw298 : Cond.methodLink "GlobDeskModel" 55 yX4_byNumbers ∈ wsA := inA 298 rfl rfl
theorem mw300 : Cond.instanceMethod yX4_byNumbers ∈ wsA := inA 300 rfl rfl
theorem mw301 : Cond.code yX4_byNumbers prog_6_method_5_code 5 (Option.some ClassFile.FieldType.int) ∈ wsA := inA 301 rfl rfl
theorem mw302 : Cond.methodLink "GlobDeskModel" 48 yX4_digits ∈ wsA := inA 302 rfl rfl
theorem mw303 : Cond.static yX4_digits ∈ wsA := inA 303 rfl rfl
theorem mw304 : Cond.code yX4_digits prog_6_method_3_code 3 (Option.some ClassFile.FieldType.int) ∈ wsA := inA 304 rfl rfl
theorem mw305 : Cond.methodLink "GlobDeskModel" 52 yX4_zeros ∈ wsA := inA 305 rfl rfl
theorem mw306 : Cond.static yX4_zeros ∈ wsA := inA 306 rfl rfl
theorem mw307 : Cond.code yX4_zeros prog_6_method_4_code 3 (Option.some ClassFile.FieldType.int) ∈ wsA := inA 307 rfl rfl
theorem mw308 : Cond.methodLink "GlobDeskModel" 59 yX4_folded ∈ wsA := inA 308 rfl rfl
theorem mw309 : Cond.static yX4_folded ∈ wsA := inA 309 rfl rfl
theorem mw310 : Cond.code yX4_folded prog_6_method_2_code 2 (Option.some ClassFile.FieldType.int) ∈ wsA := inA 310 rfl rfl
theorem mw311 : Cond.methodLink "GlobDeskModel" 70 yX4_contains ∈ wsA := inA 311 rfl rfl
theorem mw313 : Cond.instanceMethod yX4_contains ∈ wsA := inA 313 rfl rfl
theorem mw314 : Cond.code yX4_contains prog_6_method_7_code 4 (Option.some ClassFile.FieldType.boolean) ∈ wsA := inA 314 rfl rfl
theorem mw315 : Cond.methodLink "GlobDeskModel" 74 yX4_like ∈ wsA := inA 315 rfl rfl
theorem mw317 : Cond.instanceMethod yX4_like ∈ wsA := inA 317 rfl rfl
theorem mw318 : Cond.code yX4_like prog_6_method_9_code 5 (Option.some ClassFile.FieldType.boolean) ∈ wsA := inA 318 rfl rfl
theorem mw319 : Cond.methodLink "GlobDeskModel" 63 yX4_findSigns ∈ wsA := inA 319 rfl rfl
theorem mw321 : Cond.instanceMethod yX4_findSigns ∈ wsA := inA 321 rfl rfl
theorem mw322 : Cond.code yX4_findSigns prog_6_method_8_code 3 (Option.none : Option ClassFile.FieldType) ∈ wsA := inA 322 rfl rfl
theorem mw323 : Cond.methodLink "GlobDeskLaw" 34 yX4_spans ∈ wsA := inA 323 rfl rfl
theorem mw324 : Cond.instanceMethod yX4_spans ∈ wsA := inA 324 rfl rfl
theorem mw325 : Cond.selects "GlobDeskModel" yX4_spans yX4_spans ∈ wsA := inA 325 rfl rfl
theorem mw326 : Cond.code yX4_spans prog_6_method_14_code 1 (Option.some ClassFile.FieldType.int) ∈ wsA := inA 326 rfl rfl
theorem mw327 : Cond.methodLink "GlobDeskLaw" 38 yX4_span ∈ wsA := inA 327 rfl rfl
theorem mw328 : Cond.instanceMethod yX4_span ∈ wsA := inA 328 rfl rfl
theorem mw329 : Cond.selects "GlobDeskModel" yX4_span yX4_span ∈ wsA := inA 329 rfl rfl
theorem mw330 : Cond.code yX4_span prog_6_method_15_code 3 (Option.some ClassFile.FieldType.int) ∈ wsA := inA 330 rfl rfl
theorem mw331 : Cond.methodLink "GlobDeskLaw" 42 yX4_order ∈ wsA := inA 331 rfl rfl
theorem mw332 : Cond.instanceMethod yX4_order ∈ wsA := inA 332 rfl rfl
theorem mw333 : Cond.selects "GlobDeskModel" yX4_order yX4_order ∈ wsA := inA 333 rfl rfl
theorem mw334 : Cond.code yX4_order prog_6_method_16_code 2 (Option.some ClassFile.FieldType.int) ∈ wsA := inA 334 rfl rfl
theorem mw335 : Cond.methodLink "GlobDeskLaw" 47 yX4_counts ∈ wsA := inA 335 rfl rfl
theorem mw336 : Cond.instanceMethod yX4_counts ∈ wsA := inA 336 rfl rfl
theorem mw337 : Cond.selects "GlobDeskModel" yX4_counts yX4_counts ∈ wsA := inA 337 rfl rfl
theorem mw338 : Cond.code yX4_counts prog_6_method_17_code 7 (Option.some ClassFile.FieldType.boolean) ∈ wsA := inA 338 rfl rfl
theorem mw339 : Cond.constantLong "GlobDeskModel" 77 (4000000000 : Int64) ∈ wsA := inA 339 rfl rfl
theorem mw340 : Cond.constantLong "GlobDeskModel" 79 (3000000000 : Int64) ∈ wsA := inA 340 rfl rfl
theorem mw341 : Cond.constantLong "GlobDeskModel" 81 (10 : Int64) ∈ wsA := inA 341 rfl rfl
theorem mw342 : Cond.constantLong "GlobDeskModel" 83 (48 : Int64) ∈ wsA := inA 342 rfl rfl
theorem mw343 : Cond.methodLink "GlobDeskLaw" 51 yX4_byteAt ∈ wsA := inA 343 rfl rfl
theorem mw344 : Cond.instanceMethod yX4_byteAt ∈ wsA := inA 344 rfl rfl
theorem mw345 : Cond.selects "GlobDeskModel" yX4_byteAt yX4_byteAt ∈ wsA := inA 345 rfl rfl
theorem mw346 : Cond.code yX4_byteAt prog_6_method_18_code 3 (Option.some ClassFile.FieldType.int) ∈ wsA := inA 346 rfl rfl
theorem mw347 : Cond.methodLink "GlobDeskLaw" 55 yX4_size ∈ wsA := inA 347 rfl rfl
theorem mw348 : Cond.instanceMethod yX4_size ∈ wsA := inA 348 rfl rfl
theorem mw349 : Cond.selects "GlobDeskModel" yX4_size yX4_size ∈ wsA := inA 349 rfl rfl
theorem mw350 : Cond.code yX4_size prog_6_method_19_code 2 (Option.some ClassFile.FieldType.int) ∈ wsA := inA 350 rfl rfl
theorem mw351 : Cond.constantLong "GlobDeskLaw" 13 (4294967295 : Int64) ∈ wsA := inA 351 rfl rfl
end
section
theorem dX0_init_0 : decode cX0_init 0 = .ok (.aload_n 0, 1) := by decide +kernel
theorem dX0_init_1 : decode cX0_init 1 = .ok (.invokespecial 3, 3) := by decide +kernel
theorem dX0_init_4 : decode cX0_init 4 = .ok (.aload_n 0, 1) := by decide +kernel
theorem dX0_init_5 : decode cX0_init 5 = .ok (.bipush 100, 2) := by decide +kernel
theorem dX0_init_7 : decode cX0_init 7 = .ok (.newarray .int, 2) := by decide +kernel
theorem dX0_init_9 : decode cX0_init 9 = .ok (.putfield 9, 3) := by decide +kernel
theorem dX0_init_12 : decode cX0_init 12 = .ok (.aload_n 0, 1) := by decide +kernel
theorem dX0_init_13 : decode cX0_init 13 = .ok (.iconst 0, 1) := by decide +kernel
theorem dX0_init_14 : decode cX0_init 14 = .ok (.putfield 15, 3) := by decide +kernel
theorem dX0_init_17 : decode cX0_init 17 = .ok (.return_, 1) := by decide +kernel
theorem dX0_readPlain_0 : decode cX0_readPlain 0 = .ok (.aload_n 0, 1) := by decide +kernel
theorem dX0_readPlain_1 : decode cX0_readPlain 1 = .ok (.iconst 0, 1) := by decide +kernel
theorem dX0_readPlain_2 : decode cX0_readPlain 2 = .ok (.putfield 15, 3) := by decide +kernel
theorem dX0_readPlain_5 : decode cX0_readPlain 5 = .ok (.iconst 0, 1) := by decide +kernel
theorem dX0_readPlain_6 : decode cX0_readPlain 6 = .ok (.istore_n 2, 1) := by decide +kernel
theorem dX0_readPlain_7 : decode cX0_readPlain 7 = .ok (.iload_n 2, 1) := by decide +kernel
theorem dX0_readPlain_8 : decode cX0_readPlain 8 = .ok (.aload_n 1, 1) := by decide +kernel
theorem dX0_readPlain_9 : decode cX0_readPlain 9 = .ok (.getfield 19, 3) := by decide +kernel
theorem dX0_readPlain_12 : decode cX0_readPlain 12 = .ok (.if_icmp .ge 18, 3) := by decide +kernel
theorem dX0_readPlain_15 : decode cX0_readPlain 15 = .ok (.aload_n 0, 1) := by decide +kernel
theorem dX0_readPlain_16 : decode cX0_readPlain 16 = .ok (.aload_n 1, 1) := by decide +kernel
theorem dX0_readPlain_17 : decode cX0_readPlain 17 = .ok (.iload_n 2, 1) := by decide +kernel
theorem dX0_readPlain_18 : decode cX0_readPlain 18 = .ok (.invokevirtual 22, 3) := by decide +kernel
theorem dX0_readPlain_21 : decode cX0_readPlain 21 = .ok (.invokevirtual 26, 3) := by decide +kernel
theorem dX0_readPlain_24 : decode cX0_readPlain 24 = .ok (.iinc 2 1, 3) := by decide +kernel
theorem dX0_readPlain_27 : decode cX0_readPlain 27 = .ok (.goto (-20), 3) := by decide +kernel
theorem dX0_readPlain_30 : decode cX0_readPlain 30 = .ok (.return_, 1) := by decide +kernel
theorem dX0_readStars_0 : decode cX0_readStars 0 = .ok (.aload_n 0, 1) := by decide +kernel
theorem dX0_readStars_1 : decode cX0_readStars 1 = .ok (.iconst 0, 1) := by decide +kernel
theorem dX0_readStars_2 : decode cX0_readStars 2 = .ok (.putfield 15, 3) := by decide +kernel
theorem dX0_readStars_5 : decode cX0_readStars 5 = .ok (.iconst 0, 1) := by decide +kernel
theorem dX0_readStars_6 : decode cX0_readStars 6 = .ok (.istore_n 2, 1) := by decide +kernel
theorem dX0_readStars_7 : decode cX0_readStars 7 = .ok (.iload_n 2, 1) := by decide +kernel
theorem dX0_readStars_8 : decode cX0_readStars 8 = .ok (.aload_n 1, 1) := by decide +kernel
theorem dX0_readStars_9 : decode cX0_readStars 9 = .ok (.getfield 19, 3) := by decide +kernel
theorem dX0_readStars_12 : decode cX0_readStars 12 = .ok (.if_icmp .ge 79, 3) := by decide +kernel
theorem dX0_readStars_15 : decode cX0_readStars 15 = .ok (.aload_n 1, 1) := by decide +kernel
theorem dX0_readStars_16 : decode cX0_readStars 16 = .ok (.iload_n 2, 1) := by decide +kernel
theorem dX0_readStars_17 : decode cX0_readStars 17 = .ok (.invokevirtual 22, 3) := by decide +kernel
theorem dX0_readStars_20 : decode cX0_readStars 20 = .ok (.istore_n 3, 1) := by decide +kernel
theorem dX0_readStars_21 : decode cX0_readStars 21 = .ok (.iload_n 3, 1) := by decide +kernel
theorem dX0_readStars_22 : decode cX0_readStars 22 = .ok (.bipush 92, 2) := by decide +kernel
theorem dX0_readStars_24 : decode cX0_readStars 24 = .ok (.if_icmp .ne 28, 3) := by decide +kernel
theorem dX0_readStars_27 : decode cX0_readStars 27 = .ok (.iload_n 2, 1) := by decide +kernel
theorem dX0_readStars_28 : decode cX0_readStars 28 = .ok (.iconst 1, 1) := by decide +kernel
theorem dX0_readStars_29 : decode cX0_readStars 29 = .ok (.iadd, 1) := by decide +kernel
theorem dX0_readStars_30 : decode cX0_readStars 30 = .ok (.aload_n 1, 1) := by decide +kernel
theorem dX0_readStars_31 : decode cX0_readStars 31 = .ok (.getfield 19, 3) := by decide +kernel
theorem dX0_readStars_34 : decode cX0_readStars 34 = .ok (.if_icmp .ge 18, 3) := by decide +kernel
theorem dX0_readStars_37 : decode cX0_readStars 37 = .ok (.iinc 2 1, 3) := by decide +kernel
theorem dX0_readStars_40 : decode cX0_readStars 40 = .ok (.aload_n 0, 1) := by decide +kernel
theorem dX0_readStars_41 : decode cX0_readStars 41 = .ok (.aload_n 1, 1) := by decide +kernel
theorem dX0_readStars_42 : decode cX0_readStars 42 = .ok (.iload_n 2, 1) := by decide +kernel
theorem dX0_readStars_43 : decode cX0_readStars 43 = .ok (.invokevirtual 22, 3) := by decide +kernel
theorem dX0_readStars_46 : decode cX0_readStars 46 = .ok (.invokevirtual 26, 3) := by decide +kernel
theorem dX0_readStars_49 : decode cX0_readStars 49 = .ok (.goto 36, 3) := by decide +kernel
theorem dX0_readStars_52 : decode cX0_readStars 52 = .ok (.iload_n 3, 1) := by decide +kernel
theorem dX0_readStars_53 : decode cX0_readStars 53 = .ok (.bipush 42, 2) := by decide +kernel
theorem dX0_readStars_55 : decode cX0_readStars 55 = .ok (.if_icmp .ne 13, 3) := by decide +kernel
theorem dX0_readStars_58 : decode cX0_readStars 58 = .ok (.aload_n 0, 1) := by decide +kernel
theorem dX0_readStars_59 : decode cX0_readStars 59 = .ok (.sipush 257, 3) := by decide +kernel
theorem dX0_readStars_62 : decode cX0_readStars 62 = .ok (.invokevirtual 26, 3) := by decide +kernel
theorem dX0_readStars_65 : decode cX0_readStars 65 = .ok (.goto 20, 3) := by decide +kernel
theorem dX0_readStars_68 : decode cX0_readStars 68 = .ok (.aload_n 0, 1) := by decide +kernel
theorem dX0_readStars_69 : decode cX0_readStars 69 = .ok (.iload_n 3, 1) := by decide +kernel
theorem dX0_readStars_70 : decode cX0_readStars 70 = .ok (.bipush 63, 2) := by decide +kernel
theorem dX0_readStars_72 : decode cX0_readStars 72 = .ok (.if_icmp .ne 9, 3) := by decide +kernel
theorem dX0_readStars_75 : decode cX0_readStars 75 = .ok (.sipush 256, 3) := by decide +kernel
theorem dX0_readStars_78 : decode cX0_readStars 78 = .ok (.goto 4, 3) := by decide +kernel
theorem dX0_readStars_81 : decode cX0_readStars 81 = .ok (.iload_n 3, 1) := by decide +kernel
theorem dX0_readStars_82 : decode cX0_readStars 82 = .ok (.invokevirtual 26, 3) := by decide +kernel
theorem dX0_readStars_85 : decode cX0_readStars 85 = .ok (.iinc 2 1, 3) := by decide +kernel
theorem dX0_readStars_88 : decode cX0_readStars 88 = .ok (.goto (-81), 3) := by decide +kernel
theorem dX0_readStars_91 : decode cX0_readStars 91 = .ok (.return_, 1) := by decide +kernel
theorem dX0_at_0 : decode cX0_at 0 = .ok (.iload_n 1, 1) := by decide +kernel
theorem dX0_at_1 : decode cX0_at 1 = .ok (.ifCond .lt 20, 3) := by decide +kernel
theorem dX0_at_4 : decode cX0_at 4 = .ok (.iload_n 1, 1) := by decide +kernel
theorem dX0_at_5 : decode cX0_at 5 = .ok (.aload_n 0, 1) := by decide +kernel
theorem dX0_at_6 : decode cX0_at 6 = .ok (.getfield 15, 3) := by decide +kernel
theorem dX0_at_9 : decode cX0_at 9 = .ok (.if_icmp .ge 12, 3) := by decide +kernel
theorem dX0_at_12 : decode cX0_at 12 = .ok (.aload_n 0, 1) := by decide +kernel
theorem dX0_at_13 : decode cX0_at 13 = .ok (.getfield 9, 3) := by decide +kernel
theorem dX0_at_16 : decode cX0_at 16 = .ok (.iload_n 1, 1) := by decide +kernel
theorem dX0_at_17 : decode cX0_at 17 = .ok (.iaload, 1) := by decide +kernel
theorem dX0_at_18 : decode cX0_at 18 = .ok (.goto 4, 3) := by decide +kernel
theorem dX0_at_21 : decode cX0_at 21 = .ok (.iconst (-1), 1) := by decide +kernel
theorem dX0_at_22 : decode cX0_at 22 = .ok (.ireturn, 1) := by decide +kernel
theorem dX0_starFrom_0 : decode cX0_starFrom 0 = .ok (.iload_n 1, 1) := by decide +kernel
theorem dX0_starFrom_1 : decode cX0_starFrom 1 = .ok (.istore_n 2, 1) := by decide +kernel
theorem dX0_starFrom_2 : decode cX0_starFrom 2 = .ok (.iload_n 2, 1) := by decide +kernel
theorem dX0_starFrom_3 : decode cX0_starFrom 3 = .ok (.aload_n 0, 1) := by decide +kernel
theorem dX0_starFrom_4 : decode cX0_starFrom 4 = .ok (.getfield 15, 3) := by decide +kernel
theorem dX0_starFrom_7 : decode cX0_starFrom 7 = .ok (.if_icmp .ge 20, 3) := by decide +kernel
theorem dX0_starFrom_10 : decode cX0_starFrom 10 = .ok (.aload_n 0, 1) := by decide +kernel
theorem dX0_starFrom_11 : decode cX0_starFrom 11 = .ok (.iload_n 2, 1) := by decide +kernel
theorem dX0_starFrom_12 : decode cX0_starFrom 12 = .ok (.invokevirtual 30, 3) := by decide +kernel
theorem dX0_starFrom_15 : decode cX0_starFrom 15 = .ok (.sipush 257, 3) := by decide +kernel
theorem dX0_starFrom_18 : decode cX0_starFrom 18 = .ok (.if_icmp .eq 9, 3) := by decide +kernel
theorem dX0_starFrom_21 : decode cX0_starFrom 21 = .ok (.iinc 2 1, 3) := by decide +kernel
theorem dX0_starFrom_24 : decode cX0_starFrom 24 = .ok (.goto (-22), 3) := by decide +kernel
theorem dX0_starFrom_27 : decode cX0_starFrom 27 = .ok (.iload_n 2, 1) := by decide +kernel
theorem dX0_starFrom_28 : decode cX0_starFrom 28 = .ok (.ireturn, 1) := by decide +kernel
theorem dX0_append_0 : decode cX0_append 0 = .ok (.aload_n 0, 1) := by decide +kernel
theorem dX0_append_1 : decode cX0_append 1 = .ok (.getfield 15, 3) := by decide +kernel
theorem dX0_append_4 : decode cX0_append 4 = .ok (.aload_n 0, 1) := by decide +kernel
theorem dX0_append_5 : decode cX0_append 5 = .ok (.getfield 9, 3) := by decide +kernel
theorem dX0_append_8 : decode cX0_append 8 = .ok (.arraylength, 1) := by decide +kernel
theorem dX0_append_9 : decode cX0_append 9 = .ok (.if_icmp .ge 23, 3) := by decide +kernel
theorem dX0_append_12 : decode cX0_append 12 = .ok (.aload_n 0, 1) := by decide +kernel
theorem dX0_append_13 : decode cX0_append 13 = .ok (.getfield 9, 3) := by decide +kernel
theorem dX0_append_16 : decode cX0_append 16 = .ok (.aload_n 0, 1) := by decide +kernel
theorem dX0_append_17 : decode cX0_append 17 = .ok (.getfield 15, 3) := by decide +kernel
theorem dX0_append_20 : decode cX0_append 20 = .ok (.iload_n 1, 1) := by decide +kernel
theorem dX0_append_21 : decode cX0_append 21 = .ok (.iastore, 1) := by decide +kernel
theorem dX0_append_22 : decode cX0_append 22 = .ok (.aload_n 0, 1) := by decide +kernel
theorem dX0_append_23 : decode cX0_append 23 = .ok (.dup, 1) := by decide +kernel
theorem dX0_append_24 : decode cX0_append 24 = .ok (.getfield 15, 3) := by decide +kernel
theorem dX0_append_27 : decode cX0_append 27 = .ok (.iconst 1, 1) := by decide +kernel
theorem dX0_append_28 : decode cX0_append 28 = .ok (.iadd, 1) := by decide +kernel
theorem dX0_append_29 : decode cX0_append 29 = .ok (.putfield 15, 3) := by decide +kernel
theorem dX0_append_32 : decode cX0_append 32 = .ok (.return_, 1) := by decide +kernel
theorem dX1_init_0 : decode cX1_init 0 = .ok (.aload_n 0, 1) := by decide +kernel
theorem dX1_init_1 : decode cX1_init 1 = .ok (.invokespecial 3, 3) := by decide +kernel
theorem dX1_init_4 : decode cX1_init 4 = .ok (.aload_n 0, 1) := by decide +kernel
theorem dX1_init_5 : decode cX1_init 5 = .ok (.bipush 100, 2) := by decide +kernel
theorem dX1_init_7 : decode cX1_init 7 = .ok (.newarray .int, 2) := by decide +kernel
theorem dX1_init_9 : decode cX1_init 9 = .ok (.putfield 9, 3) := by decide +kernel
theorem dX1_init_12 : decode cX1_init 12 = .ok (.aload_n 0, 1) := by decide +kernel
theorem dX1_init_13 : decode cX1_init 13 = .ok (.iconst 0, 1) := by decide +kernel
theorem dX1_init_14 : decode cX1_init 14 = .ok (.putfield 15, 3) := by decide +kernel
theorem dX1_init_17 : decode cX1_init 17 = .ok (.return_, 1) := by decide +kernel
theorem dX1_append_0 : decode cX1_append 0 = .ok (.iload_n 3, 1) := by decide +kernel
theorem dX1_append_1 : decode cX1_append 1 = .ok (.iconst 1, 1) := by decide +kernel
theorem dX1_append_2 : decode cX1_append 2 = .ok (.if_icmp .lt 23, 3) := by decide +kernel
theorem dX1_append_5 : decode cX1_append 5 = .ok (.iload_n 3, 1) := by decide +kernel
theorem dX1_append_6 : decode cX1_append 6 = .ok (.bipush 8, 2) := by decide +kernel
theorem dX1_append_8 : decode cX1_append 8 = .ok (.if_icmp .gt 17, 3) := by decide +kernel
theorem dX1_append_11 : decode cX1_append 11 = .ok (.iload_n 3, 1) := by decide +kernel
theorem dX1_append_12 : decode cX1_append 12 = .ok (.aload_n 0, 1) := by decide +kernel
theorem dX1_append_13 : decode cX1_append 13 = .ok (.getfield 9, 3) := by decide +kernel
theorem dX1_append_16 : decode cX1_append 16 = .ok (.arraylength, 1) := by decide +kernel
theorem dX1_append_17 : decode cX1_append 17 = .ok (.aload_n 0, 1) := by decide +kernel
theorem dX1_append_18 : decode cX1_append 18 = .ok (.getfield 15, 3) := by decide +kernel
theorem dX1_append_21 : decode cX1_append 21 = .ok (.isub, 1) := by decide +kernel
theorem dX1_append_22 : decode cX1_append 22 = .ok (.if_icmp .le 5, 3) := by decide +kernel
theorem dX1_append_25 : decode cX1_append 25 = .ok (.iconst 0, 1) := by decide +kernel
theorem dX1_append_26 : decode cX1_append 26 = .ok (.ireturn, 1) := by decide +kernel
theorem dX1_append_27 : decode cX1_append 27 = .ok (.iload_n 3, 1) := by decide +kernel
theorem dX1_append_28 : decode cX1_append 28 = .ok (.iconst 1, 1) := by decide +kernel
theorem dX1_append_29 : decode cX1_append 29 = .ok (.isub, 1) := by decide +kernel
theorem dX1_append_30 : decode cX1_append 30 = .ok (.istore 4, 2) := by decide +kernel
theorem dX1_append_32 : decode cX1_append 32 = .ok (.iload 4, 2) := by decide +kernel
theorem dX1_append_34 : decode cX1_append 34 = .ok (.ifCond .lt 40, 3) := by decide +kernel
theorem dX1_append_37 : decode cX1_append 37 = .ok (.aload_n 0, 1) := by decide +kernel
theorem dX1_append_38 : decode cX1_append 38 = .ok (.getfield 9, 3) := by decide +kernel
theorem dX1_append_41 : decode cX1_append 41 = .ok (.aload_n 0, 1) := by decide +kernel
theorem dX1_append_42 : decode cX1_append 42 = .ok (.getfield 15, 3) := by decide +kernel
theorem dX1_append_45 : decode cX1_append 45 = .ok (.lload_n 1, 1) := by decide +kernel
theorem dX1_append_46 : decode cX1_append 46 = .ok (.bipush 8, 2) := by decide +kernel
theorem dX1_append_48 : decode cX1_append 48 = .ok (.iload 4, 2) := by decide +kernel
theorem dX1_append_50 : decode cX1_append 50 = .ok (.imul, 1) := by decide +kernel
theorem dX1_append_51 : decode cX1_append 51 = .ok (.lushr, 1) := by decide +kernel
theorem dX1_append_52 : decode cX1_append 52 = .ok (.l2i, 1) := by decide +kernel
theorem dX1_append_53 : decode cX1_append 53 = .ok (.sipush 255, 3) := by decide +kernel
theorem dX1_append_56 : decode cX1_append 56 = .ok (.iand, 1) := by decide +kernel
theorem dX1_append_57 : decode cX1_append 57 = .ok (.iastore, 1) := by decide +kernel
theorem dX1_append_58 : decode cX1_append 58 = .ok (.aload_n 0, 1) := by decide +kernel
theorem dX1_append_59 : decode cX1_append 59 = .ok (.dup, 1) := by decide +kernel
theorem dX1_append_60 : decode cX1_append 60 = .ok (.getfield 15, 3) := by decide +kernel
theorem dX1_append_63 : decode cX1_append 63 = .ok (.iconst 1, 1) := by decide +kernel
theorem dX1_append_64 : decode cX1_append 64 = .ok (.iadd, 1) := by decide +kernel
theorem dX1_append_65 : decode cX1_append 65 = .ok (.putfield 15, 3) := by decide +kernel
theorem dX1_append_68 : decode cX1_append 68 = .ok (.iinc 4 (-1), 3) := by decide +kernel
theorem dX1_append_71 : decode cX1_append 71 = .ok (.goto (-39), 3) := by decide +kernel
theorem dX1_append_74 : decode cX1_append 74 = .ok (.iconst 1, 1) := by decide +kernel
theorem dX1_append_75 : decode cX1_append 75 = .ok (.ireturn, 1) := by decide +kernel
theorem dX1_at_0 : decode cX1_at 0 = .ok (.iload_n 1, 1) := by decide +kernel
theorem dX1_at_1 : decode cX1_at 1 = .ok (.ifCond .lt 20, 3) := by decide +kernel
theorem dX1_at_4 : decode cX1_at 4 = .ok (.iload_n 1, 1) := by decide +kernel
theorem dX1_at_5 : decode cX1_at 5 = .ok (.aload_n 0, 1) := by decide +kernel
theorem dX1_at_6 : decode cX1_at 6 = .ok (.getfield 15, 3) := by decide +kernel
theorem dX1_at_9 : decode cX1_at 9 = .ok (.if_icmp .ge 12, 3) := by decide +kernel
theorem dX1_at_12 : decode cX1_at 12 = .ok (.aload_n 0, 1) := by decide +kernel
theorem dX1_at_13 : decode cX1_at 13 = .ok (.getfield 9, 3) := by decide +kernel
theorem dX1_at_16 : decode cX1_at 16 = .ok (.iload_n 1, 1) := by decide +kernel
theorem dX1_at_17 : decode cX1_at 17 = .ok (.iaload, 1) := by decide +kernel
theorem dX1_at_18 : decode cX1_at 18 = .ok (.goto 4, 3) := by decide +kernel
theorem dX1_at_21 : decode cX1_at 21 = .ok (.iconst (-1), 1) := by decide +kernel
theorem dX1_at_22 : decode cX1_at 22 = .ok (.ireturn, 1) := by decide +kernel
theorem dX1_digits_0 : decode cX1_digits 0 = .ok (.iconst 0, 1) := by decide +kernel
theorem dX1_digits_1 : decode cX1_digits 1 = .ok (.istore_n 1, 1) := by decide +kernel
theorem dX1_digits_2 : decode cX1_digits 2 = .ok (.iload_n 1, 1) := by decide +kernel
theorem dX1_digits_3 : decode cX1_digits 3 = .ok (.aload_n 0, 1) := by decide +kernel
theorem dX1_digits_4 : decode cX1_digits 4 = .ok (.getfield 15, 3) := by decide +kernel
theorem dX1_digits_7 : decode cX1_digits 7 = .ok (.if_icmp .ge 31, 3) := by decide +kernel
theorem dX1_digits_10 : decode cX1_digits 10 = .ok (.aload_n 0, 1) := by decide +kernel
theorem dX1_digits_11 : decode cX1_digits 11 = .ok (.getfield 9, 3) := by decide +kernel
theorem dX1_digits_14 : decode cX1_digits 14 = .ok (.iload_n 1, 1) := by decide +kernel
theorem dX1_digits_15 : decode cX1_digits 15 = .ok (.iaload, 1) := by decide +kernel
theorem dX1_digits_16 : decode cX1_digits 16 = .ok (.bipush 48, 2) := by decide +kernel
theorem dX1_digits_18 : decode cX1_digits 18 = .ok (.if_icmp .lt 20, 3) := by decide +kernel
theorem dX1_digits_21 : decode cX1_digits 21 = .ok (.aload_n 0, 1) := by decide +kernel
theorem dX1_digits_22 : decode cX1_digits 22 = .ok (.getfield 9, 3) := by decide +kernel
theorem dX1_digits_25 : decode cX1_digits 25 = .ok (.iload_n 1, 1) := by decide +kernel
theorem dX1_digits_26 : decode cX1_digits 26 = .ok (.iaload, 1) := by decide +kernel
theorem dX1_digits_27 : decode cX1_digits 27 = .ok (.bipush 57, 2) := by decide +kernel
theorem dX1_digits_29 : decode cX1_digits 29 = .ok (.if_icmp .gt 9, 3) := by decide +kernel
theorem dX1_digits_32 : decode cX1_digits 32 = .ok (.iinc 1 1, 3) := by decide +kernel
theorem dX1_digits_35 : decode cX1_digits 35 = .ok (.goto (-33), 3) := by decide +kernel
theorem dX1_digits_38 : decode cX1_digits 38 = .ok (.iload_n 1, 1) := by decide +kernel
theorem dX1_digits_39 : decode cX1_digits 39 = .ok (.ireturn, 1) := by decide +kernel
theorem dX1_zerosBefore_0 : decode cX1_zerosBefore 0 = .ok (.iconst 0, 1) := by decide +kernel
theorem dX1_zerosBefore_1 : decode cX1_zerosBefore 1 = .ok (.istore_n 2, 1) := by decide +kernel
theorem dX1_zerosBefore_2 : decode cX1_zerosBefore 2 = .ok (.iload_n 2, 1) := by decide +kernel
theorem dX1_zerosBefore_3 : decode cX1_zerosBefore 3 = .ok (.iload_n 1, 1) := by decide +kernel
theorem dX1_zerosBefore_4 : decode cX1_zerosBefore 4 = .ok (.if_icmp .ge 19, 3) := by decide +kernel
theorem dX1_zerosBefore_7 : decode cX1_zerosBefore 7 = .ok (.aload_n 0, 1) := by decide +kernel
theorem dX1_zerosBefore_8 : decode cX1_zerosBefore 8 = .ok (.iload_n 2, 1) := by decide +kernel
theorem dX1_zerosBefore_9 : decode cX1_zerosBefore 9 = .ok (.invokevirtual 19, 3) := by decide +kernel
theorem dX1_zerosBefore_12 : decode cX1_zerosBefore 12 = .ok (.bipush 48, 2) := by decide +kernel
theorem dX1_zerosBefore_14 : decode cX1_zerosBefore 14 = .ok (.if_icmp .ne 9, 3) := by decide +kernel
theorem dX1_zerosBefore_17 : decode cX1_zerosBefore 17 = .ok (.iinc 2 1, 3) := by decide +kernel
theorem dX1_zerosBefore_20 : decode cX1_zerosBefore 20 = .ok (.goto (-18), 3) := by decide +kernel
theorem dX1_zerosBefore_23 : decode cX1_zerosBefore 23 = .ok (.iload_n 2, 1) := by decide +kernel
theorem dX1_zerosBefore_24 : decode cX1_zerosBefore 24 = .ok (.ireturn, 1) := by decide +kernel
theorem dX1_numberUpTo_0 : decode cX1_numberUpTo 0 = .ok (.aload_n 0, 1) := by decide +kernel
theorem dX1_numberUpTo_1 : decode cX1_numberUpTo 1 = .ok (.invokevirtual 23, 3) := by decide +kernel
theorem dX1_numberUpTo_4 : decode cX1_numberUpTo 4 = .ok (.istore_n 3, 1) := by decide +kernel
theorem dX1_numberUpTo_5 : decode cX1_numberUpTo 5 = .ok (.iload_n 3, 1) := by decide +kernel
theorem dX1_numberUpTo_6 : decode cX1_numberUpTo 6 = .ok (.ifCond .ne 5, 3) := by decide +kernel
theorem dX1_numberUpTo_9 : decode cX1_numberUpTo 9 = .ok (.lload_n 1, 1) := by decide +kernel
theorem dX1_numberUpTo_10 : decode cX1_numberUpTo 10 = .ok (.lreturn, 1) := by decide +kernel
theorem dX1_numberUpTo_11 : decode cX1_numberUpTo 11 = .ok (.lconst 0, 1) := by decide +kernel
theorem dX1_numberUpTo_12 : decode cX1_numberUpTo 12 = .ok (.lstore 4, 2) := by decide +kernel
theorem dX1_numberUpTo_14 : decode cX1_numberUpTo 14 = .ok (.iconst 0, 1) := by decide +kernel
theorem dX1_numberUpTo_15 : decode cX1_numberUpTo 15 = .ok (.istore 6, 2) := by decide +kernel
theorem dX1_numberUpTo_17 : decode cX1_numberUpTo 17 = .ok (.iload 6, 2) := by decide +kernel
theorem dX1_numberUpTo_19 : decode cX1_numberUpTo 19 = .ok (.iload_n 3, 1) := by decide +kernel
theorem dX1_numberUpTo_20 : decode cX1_numberUpTo 20 = .ok (.if_icmp .ge 32, 3) := by decide +kernel
theorem dX1_numberUpTo_23 : decode cX1_numberUpTo 23 = .ok (.lload_n 1, 1) := by decide +kernel
theorem dX1_numberUpTo_24 : decode cX1_numberUpTo 24 = .ok (.lload 4, 2) := by decide +kernel
theorem dX1_numberUpTo_26 : decode cX1_numberUpTo 26 = .ok (.ldc2_w 27, 3) := by decide +kernel
theorem dX1_numberUpTo_29 : decode cX1_numberUpTo 29 = .ok (.lmul, 1) := by decide +kernel
theorem dX1_numberUpTo_30 : decode cX1_numberUpTo 30 = .ok (.aload_n 0, 1) := by decide +kernel
theorem dX1_numberUpTo_31 : decode cX1_numberUpTo 31 = .ok (.iload 6, 2) := by decide +kernel
theorem dX1_numberUpTo_33 : decode cX1_numberUpTo 33 = .ok (.invokevirtual 19, 3) := by decide +kernel
theorem dX1_numberUpTo_36 : decode cX1_numberUpTo 36 = .ok (.bipush 48, 2) := by decide +kernel
theorem dX1_numberUpTo_38 : decode cX1_numberUpTo 38 = .ok (.isub, 1) := by decide +kernel
theorem dX1_numberUpTo_39 : decode cX1_numberUpTo 39 = .ok (.i2l, 1) := by decide +kernel
theorem dX1_numberUpTo_40 : decode cX1_numberUpTo 40 = .ok (.ladd, 1) := by decide +kernel
theorem dX1_numberUpTo_41 : decode cX1_numberUpTo 41 = .ok (.invokestatic 29, 3) := by decide +kernel
theorem dX1_numberUpTo_44 : decode cX1_numberUpTo 44 = .ok (.lstore 4, 2) := by decide +kernel
theorem dX1_numberUpTo_46 : decode cX1_numberUpTo 46 = .ok (.iinc 6 1, 3) := by decide +kernel
theorem dX1_numberUpTo_49 : decode cX1_numberUpTo 49 = .ok (.goto (-32), 3) := by decide +kernel
theorem dX1_numberUpTo_52 : decode cX1_numberUpTo 52 = .ok (.lload 4, 2) := by decide +kernel
theorem dX1_numberUpTo_54 : decode cX1_numberUpTo 54 = .ok (.lreturn, 1) := by decide +kernel
theorem dX2_init_0 : decode cX2_init 0 = .ok (.aload_n 0, 1) := by decide +kernel
theorem dX2_init_1 : decode cX2_init 1 = .ok (.invokespecial 3, 3) := by decide +kernel
theorem dX2_init_4 : decode cX2_init 4 = .ok (.aload_n 0, 1) := by decide +kernel
theorem dX2_init_5 : decode cX2_init 5 = .ok (.bipush 100, 2) := by decide +kernel
theorem dX2_init_7 : decode cX2_init 7 = .ok (.newarray .int, 2) := by decide +kernel
theorem dX2_init_9 : decode cX2_init 9 = .ok (.putfield 9, 3) := by decide +kernel
theorem dX2_init_12 : decode cX2_init 12 = .ok (.aload_n 0, 1) := by decide +kernel
theorem dX2_init_13 : decode cX2_init 13 = .ok (.bipush 100, 2) := by decide +kernel
theorem dX2_init_15 : decode cX2_init 15 = .ok (.newarray .int, 2) := by decide +kernel
theorem dX2_init_17 : decode cX2_init 17 = .ok (.putfield 15, 3) := by decide +kernel
theorem dX2_init_20 : decode cX2_init 20 = .ok (.aload_n 0, 1) := by decide +kernel
theorem dX2_init_21 : decode cX2_init 21 = .ok (.iconst 0, 1) := by decide +kernel
theorem dX2_init_22 : decode cX2_init 22 = .ok (.putfield 18, 3) := by decide +kernel
theorem dX2_init_25 : decode cX2_init 25 = .ok (.return_, 1) := by decide +kernel
theorem dX2_append_0 : decode cX2_append 0 = .ok (.aload_n 0, 1) := by decide +kernel
theorem dX2_append_1 : decode cX2_append 1 = .ok (.getfield 18, 3) := by decide +kernel
theorem dX2_append_4 : decode cX2_append 4 = .ok (.aload_n 0, 1) := by decide +kernel
theorem dX2_append_5 : decode cX2_append 5 = .ok (.getfield 9, 3) := by decide +kernel
theorem dX2_append_8 : decode cX2_append 8 = .ok (.arraylength, 1) := by decide +kernel
theorem dX2_append_9 : decode cX2_append 9 = .ok (.if_icmp .ge 33, 3) := by decide +kernel
theorem dX2_append_12 : decode cX2_append 12 = .ok (.aload_n 0, 1) := by decide +kernel
theorem dX2_append_13 : decode cX2_append 13 = .ok (.getfield 9, 3) := by decide +kernel
theorem dX2_append_16 : decode cX2_append 16 = .ok (.aload_n 0, 1) := by decide +kernel
theorem dX2_append_17 : decode cX2_append 17 = .ok (.getfield 18, 3) := by decide +kernel
theorem dX2_append_20 : decode cX2_append 20 = .ok (.iload_n 1, 1) := by decide +kernel
theorem dX2_append_21 : decode cX2_append 21 = .ok (.iastore, 1) := by decide +kernel
theorem dX2_append_22 : decode cX2_append 22 = .ok (.aload_n 0, 1) := by decide +kernel
theorem dX2_append_23 : decode cX2_append 23 = .ok (.getfield 15, 3) := by decide +kernel
theorem dX2_append_26 : decode cX2_append 26 = .ok (.aload_n 0, 1) := by decide +kernel
theorem dX2_append_27 : decode cX2_append 27 = .ok (.getfield 18, 3) := by decide +kernel
theorem dX2_append_30 : decode cX2_append 30 = .ok (.iload_n 2, 1) := by decide +kernel
theorem dX2_append_31 : decode cX2_append 31 = .ok (.iastore, 1) := by decide +kernel
theorem dX2_append_32 : decode cX2_append 32 = .ok (.aload_n 0, 1) := by decide +kernel
theorem dX2_append_33 : decode cX2_append 33 = .ok (.dup, 1) := by decide +kernel
theorem dX2_append_34 : decode cX2_append 34 = .ok (.getfield 18, 3) := by decide +kernel
theorem dX2_append_37 : decode cX2_append 37 = .ok (.iconst 1, 1) := by decide +kernel
theorem dX2_append_38 : decode cX2_append 38 = .ok (.iadd, 1) := by decide +kernel
theorem dX2_append_39 : decode cX2_append 39 = .ok (.putfield 18, 3) := by decide +kernel
theorem dX2_append_42 : decode cX2_append 42 = .ok (.return_, 1) := by decide +kernel
theorem dX2_beginOf_0 : decode cX2_beginOf 0 = .ok (.iload_n 1, 1) := by decide +kernel
theorem dX2_beginOf_1 : decode cX2_beginOf 1 = .ok (.ifCond .lt 20, 3) := by decide +kernel
theorem dX2_beginOf_4 : decode cX2_beginOf 4 = .ok (.iload_n 1, 1) := by decide +kernel
theorem dX2_beginOf_5 : decode cX2_beginOf 5 = .ok (.aload_n 0, 1) := by decide +kernel
theorem dX2_beginOf_6 : decode cX2_beginOf 6 = .ok (.getfield 18, 3) := by decide +kernel
theorem dX2_beginOf_9 : decode cX2_beginOf 9 = .ok (.if_icmp .ge 12, 3) := by decide +kernel
theorem dX2_beginOf_12 : decode cX2_beginOf 12 = .ok (.aload_n 0, 1) := by decide +kernel
theorem dX2_beginOf_13 : decode cX2_beginOf 13 = .ok (.getfield 9, 3) := by decide +kernel
theorem dX2_beginOf_16 : decode cX2_beginOf 16 = .ok (.iload_n 1, 1) := by decide +kernel
theorem dX2_beginOf_17 : decode cX2_beginOf 17 = .ok (.iaload, 1) := by decide +kernel
theorem dX2_beginOf_18 : decode cX2_beginOf 18 = .ok (.goto 4, 3) := by decide +kernel
theorem dX2_beginOf_21 : decode cX2_beginOf 21 = .ok (.iconst (-1), 1) := by decide +kernel
theorem dX2_beginOf_22 : decode cX2_beginOf 22 = .ok (.ireturn, 1) := by decide +kernel
theorem dX2_lengthOf_0 : decode cX2_lengthOf 0 = .ok (.iload_n 1, 1) := by decide +kernel
theorem dX2_lengthOf_1 : decode cX2_lengthOf 1 = .ok (.ifCond .lt 20, 3) := by decide +kernel
theorem dX2_lengthOf_4 : decode cX2_lengthOf 4 = .ok (.iload_n 1, 1) := by decide +kernel
theorem dX2_lengthOf_5 : decode cX2_lengthOf 5 = .ok (.aload_n 0, 1) := by decide +kernel
theorem dX2_lengthOf_6 : decode cX2_lengthOf 6 = .ok (.getfield 18, 3) := by decide +kernel
theorem dX2_lengthOf_9 : decode cX2_lengthOf 9 = .ok (.if_icmp .ge 12, 3) := by decide +kernel
theorem dX2_lengthOf_12 : decode cX2_lengthOf 12 = .ok (.aload_n 0, 1) := by decide +kernel
theorem dX2_lengthOf_13 : decode cX2_lengthOf 13 = .ok (.getfield 15, 3) := by decide +kernel
theorem dX2_lengthOf_16 : decode cX2_lengthOf 16 = .ok (.iload_n 1, 1) := by decide +kernel
theorem dX2_lengthOf_17 : decode cX2_lengthOf 17 = .ok (.iaload, 1) := by decide +kernel
theorem dX2_lengthOf_18 : decode cX2_lengthOf 18 = .ok (.goto 4, 3) := by decide +kernel
theorem dX2_lengthOf_21 : decode cX2_lengthOf 21 = .ok (.iconst (-1), 1) := by decide +kernel
theorem dX2_lengthOf_22 : decode cX2_lengthOf 22 = .ok (.ireturn, 1) := by decide +kernel
theorem dX3_init_0 : decode cX3_init 0 = .ok (.aload_n 0, 1) := by decide +kernel
theorem dX3_init_1 : decode cX3_init 1 = .ok (.invokespecial 1, 3) := by decide +kernel
theorem dX3_init_4 : decode cX3_init 4 = .ok (.aload_n 0, 1) := by decide +kernel
theorem dX3_init_5 : decode cX3_init 5 = .ok (.new 7, 3) := by decide +kernel
theorem dX3_init_8 : decode cX3_init 8 = .ok (.dup, 1) := by decide +kernel
theorem dX3_init_9 : decode cX3_init 9 = .ok (.invokespecial 9, 3) := by decide +kernel
theorem dX3_init_12 : decode cX3_init 12 = .ok (.putfield 10, 3) := by decide +kernel
theorem dX3_init_15 : decode cX3_init 15 = .ok (.aload_n 0, 1) := by decide +kernel
theorem dX3_init_16 : decode cX3_init 16 = .ok (.new 7, 3) := by decide +kernel
theorem dX3_init_19 : decode cX3_init 19 = .ok (.dup, 1) := by decide +kernel
theorem dX3_init_20 : decode cX3_init 20 = .ok (.invokespecial 9, 3) := by decide +kernel
theorem dX3_init_23 : decode cX3_init 23 = .ok (.putfield 16, 3) := by decide +kernel
theorem dX3_init_26 : decode cX3_init 26 = .ok (.aload_n 0, 1) := by decide +kernel
theorem dX3_init_27 : decode cX3_init 27 = .ok (.new 19, 3) := by decide +kernel
theorem dX3_init_30 : decode cX3_init 30 = .ok (.dup, 1) := by decide +kernel
theorem dX3_init_31 : decode cX3_init 31 = .ok (.invokespecial 21, 3) := by decide +kernel
theorem dX3_init_34 : decode cX3_init 34 = .ok (.putfield 22, 3) := by decide +kernel
theorem dX3_init_37 : decode cX3_init 37 = .ok (.aload_n 0, 1) := by decide +kernel
theorem dX3_init_38 : decode cX3_init 38 = .ok (.new 26, 3) := by decide +kernel
theorem dX3_init_41 : decode cX3_init 41 = .ok (.dup, 1) := by decide +kernel
theorem dX3_init_42 : decode cX3_init 42 = .ok (.invokespecial 28, 3) := by decide +kernel
theorem dX3_init_45 : decode cX3_init 45 = .ok (.putfield 29, 3) := by decide +kernel
theorem dX3_init_48 : decode cX3_init 48 = .ok (.return_, 1) := by decide +kernel
theorem dX3_put_0 : decode cX3_put 0 = .ok (.aload_n 0, 1) := by decide +kernel
theorem dX3_put_1 : decode cX3_put 1 = .ok (.iload_n 1, 1) := by decide +kernel
theorem dX3_put_2 : decode cX3_put 2 = .ok (.invokevirtual 33, 3) := by decide +kernel
theorem dX3_put_5 : decode cX3_put 5 = .ok (.astore 5, 2) := by decide +kernel
theorem dX3_put_7 : decode cX3_put 7 = .ok (.aload 5, 2) := by decide +kernel
theorem dX3_put_9 : decode cX3_put 9 = .ok (.ifnull 18, 3) := by decide +kernel
theorem dX3_put_12 : decode cX3_put 12 = .ok (.aload 5, 2) := by decide +kernel
theorem dX3_put_14 : decode cX3_put 14 = .ok (.lload_n 2, 1) := by decide +kernel
theorem dX3_put_15 : decode cX3_put 15 = .ok (.iload 4, 2) := by decide +kernel
theorem dX3_put_17 : decode cX3_put 17 = .ok (.invokevirtual 37, 3) := by decide +kernel
theorem dX3_put_20 : decode cX3_put 20 = .ok (.ifCond .eq 7, 3) := by decide +kernel
theorem dX3_put_23 : decode cX3_put 23 = .ok (.iconst 1, 1) := by decide +kernel
theorem dX3_put_24 : decode cX3_put 24 = .ok (.goto 4, 3) := by decide +kernel
theorem dX3_put_27 : decode cX3_put 27 = .ok (.iconst 0, 1) := by decide +kernel
theorem dX3_put_28 : decode cX3_put 28 = .ok (.ireturn, 1) := by decide +kernel
theorem dX3_clear_0 : decode cX3_clear 0 = .ok (.aload_n 0, 1) := by decide +kernel
theorem dX3_clear_1 : decode cX3_clear 1 = .ok (.iload_n 1, 1) := by decide +kernel
theorem dX3_clear_2 : decode cX3_clear 2 = .ok (.invokevirtual 33, 3) := by decide +kernel
theorem dX3_clear_5 : decode cX3_clear 5 = .ok (.astore_n 2, 1) := by decide +kernel
theorem dX3_clear_6 : decode cX3_clear 6 = .ok (.aload_n 2, 1) := by decide +kernel
theorem dX3_clear_7 : decode cX3_clear 7 = .ok (.ifnonnull 5, 3) := by decide +kernel
theorem dX3_clear_10 : decode cX3_clear 10 = .ok (.iconst (-1), 1) := by decide +kernel
theorem dX3_clear_11 : decode cX3_clear 11 = .ok (.ireturn, 1) := by decide +kernel
theorem dX3_clear_12 : decode cX3_clear 12 = .ok (.aload_n 2, 1) := by decide +kernel
theorem dX3_clear_13 : decode cX3_clear 13 = .ok (.getfield 41, 3) := by decide +kernel
theorem dX3_clear_16 : decode cX3_clear 16 = .ok (.istore_n 3, 1) := by decide +kernel
theorem dX3_clear_17 : decode cX3_clear 17 = .ok (.aload_n 2, 1) := by decide +kernel
theorem dX3_clear_18 : decode cX3_clear 18 = .ok (.iconst 0, 1) := by decide +kernel
theorem dX3_clear_19 : decode cX3_clear 19 = .ok (.putfield 41, 3) := by decide +kernel
theorem dX3_clear_22 : decode cX3_clear 22 = .ok (.iload_n 3, 1) := by decide +kernel
theorem dX3_clear_23 : decode cX3_clear 23 = .ok (.ireturn, 1) := by decide +kernel
theorem dX3_match_0 : decode cX3_match 0 = .ok (.iload_n 1, 1) := by decide +kernel
theorem dX3_match_1 : decode cX3_match 1 = .ok (.ifCond .lt 15, 3) := by decide +kernel
theorem dX3_match_4 : decode cX3_match 4 = .ok (.iload_n 1, 1) := by decide +kernel
theorem dX3_match_5 : decode cX3_match 5 = .ok (.iconst 2, 1) := by decide +kernel
theorem dX3_match_6 : decode cX3_match 6 = .ok (.if_icmp .gt 10, 3) := by decide +kernel
theorem dX3_match_9 : decode cX3_match 9 = .ok (.iload_n 2, 1) := by decide +kernel
theorem dX3_match_10 : decode cX3_match 10 = .ok (.invokestatic 45, 3) := by decide +kernel
theorem dX3_match_13 : decode cX3_match 13 = .ok (.ifCond .ne 5, 3) := by decide +kernel
theorem dX3_match_16 : decode cX3_match 16 = .ok (.iconst (-1), 1) := by decide +kernel
theorem dX3_match_17 : decode cX3_match 17 = .ok (.ireturn, 1) := by decide +kernel
theorem dX3_match_18 : decode cX3_match 18 = .ok (.aload_n 0, 1) := by decide +kernel
theorem dX3_match_19 : decode cX3_match 19 = .ok (.getfield 29, 3) := by decide +kernel
theorem dX3_match_22 : decode cX3_match 22 = .ok (.iconst 0, 1) := by decide +kernel
theorem dX3_match_23 : decode cX3_match 23 = .ok (.putfield 49, 3) := by decide +kernel
theorem dX3_match_26 : decode cX3_match 26 = .ok (.aload_n 0, 1) := by decide +kernel
theorem dX3_match_27 : decode cX3_match 27 = .ok (.iload_n 1, 1) := by decide +kernel
theorem dX3_match_28 : decode cX3_match 28 = .ok (.iload_n 2, 1) := by decide +kernel
theorem dX3_match_29 : decode cX3_match 29 = .ok (.invokevirtual 50, 3) := by decide +kernel
theorem dX3_match_32 : decode cX3_match 32 = .ok (.ifCond .eq 5, 3) := by decide +kernel
theorem dX3_match_35 : decode cX3_match 35 = .ok (.iconst 1, 1) := by decide +kernel
theorem dX3_match_36 : decode cX3_match 36 = .ok (.ireturn, 1) := by decide +kernel
theorem dX3_match_37 : decode cX3_match 37 = .ok (.aload_n 0, 1) := by decide +kernel
theorem dX3_match_38 : decode cX3_match 38 = .ok (.getfield 29, 3) := by decide +kernel
theorem dX3_match_41 : decode cX3_match 41 = .ok (.iconst 0, 1) := by decide +kernel
theorem dX3_match_42 : decode cX3_match 42 = .ok (.putfield 49, 3) := by decide +kernel
theorem dX3_match_45 : decode cX3_match 45 = .ok (.iconst 0, 1) := by decide +kernel
theorem dX3_match_46 : decode cX3_match 46 = .ok (.ireturn, 1) := by decide +kernel
theorem dX3_spans_0 : decode cX3_spans 0 = .ok (.aload_n 0, 1) := by decide +kernel
theorem dX3_spans_1 : decode cX3_spans 1 = .ok (.getfield 29, 3) := by decide +kernel
theorem dX3_spans_4 : decode cX3_spans 4 = .ok (.getfield 49, 3) := by decide +kernel
theorem dX3_spans_7 : decode cX3_spans 7 = .ok (.ireturn, 1) := by decide +kernel
theorem dX3_span_0 : decode cX3_span 0 = .ok (.iload_n 2, 1) := by decide +kernel
theorem dX3_span_1 : decode cX3_span 1 = .ok (.ifCond .ne 12, 3) := by decide +kernel
theorem dX3_span_4 : decode cX3_span 4 = .ok (.aload_n 0, 1) := by decide +kernel
theorem dX3_span_5 : decode cX3_span 5 = .ok (.getfield 29, 3) := by decide +kernel
theorem dX3_span_8 : decode cX3_span 8 = .ok (.iload_n 1, 1) := by decide +kernel
theorem dX3_span_9 : decode cX3_span 9 = .ok (.invokevirtual 54, 3) := by decide +kernel
theorem dX3_span_12 : decode cX3_span 12 = .ok (.ireturn, 1) := by decide +kernel
theorem dX3_span_13 : decode cX3_span 13 = .ok (.iload_n 2, 1) := by decide +kernel
theorem dX3_span_14 : decode cX3_span 14 = .ok (.iconst 1, 1) := by decide +kernel
theorem dX3_span_15 : decode cX3_span 15 = .ok (.if_icmp .ne 12, 3) := by decide +kernel
theorem dX3_span_18 : decode cX3_span 18 = .ok (.aload_n 0, 1) := by decide +kernel
theorem dX3_span_19 : decode cX3_span 19 = .ok (.getfield 29, 3) := by decide +kernel
theorem dX3_span_22 : decode cX3_span 22 = .ok (.iload_n 1, 1) := by decide +kernel
theorem dX3_span_23 : decode cX3_span 23 = .ok (.invokevirtual 58, 3) := by decide +kernel
theorem dX3_span_26 : decode cX3_span 26 = .ok (.ireturn, 1) := by decide +kernel
theorem dX3_span_27 : decode cX3_span 27 = .ok (.iconst (-1), 1) := by decide +kernel
theorem dX3_span_28 : decode cX3_span 28 = .ok (.ireturn, 1) := by decide +kernel
theorem dX3_order_0 : decode cX3_order 0 = .ok (.iload_n 1, 1) := by decide +kernel
theorem dX3_order_1 : decode cX3_order 1 = .ok (.invokestatic 45, 3) := by decide +kernel
theorem dX3_order_4 : decode cX3_order 4 = .ok (.ifCond .ne 6, 3) := by decide +kernel
theorem dX3_order_7 : decode cX3_order 7 = .ok (.bipush (-2), 2) := by decide +kernel
theorem dX3_order_9 : decode cX3_order 9 = .ok (.ireturn, 1) := by decide +kernel
theorem dX3_order_10 : decode cX3_order 10 = .ok (.aload_n 0, 1) := by decide +kernel
theorem dX3_order_11 : decode cX3_order 11 = .ok (.iload_n 1, 1) := by decide +kernel
theorem dX3_order_12 : decode cX3_order 12 = .ok (.invokevirtual 61, 3) := by decide +kernel
theorem dX3_order_15 : decode cX3_order 15 = .ok (.ireturn, 1) := by decide +kernel
theorem dX3_counts_0 : decode cX3_counts 0 = .ok (.iload_n 1, 1) := by decide +kernel
theorem dX3_counts_1 : decode cX3_counts 1 = .ok (.ifCond .ge 5, 3) := by decide +kernel
theorem dX3_counts_4 : decode cX3_counts 4 = .ok (.iconst 0, 1) := by decide +kernel
theorem dX3_counts_5 : decode cX3_counts 5 = .ok (.ireturn, 1) := by decide +kernel
theorem dX3_counts_6 : decode cX3_counts 6 = .ok (.aload_n 0, 1) := by decide +kernel
theorem dX3_counts_7 : decode cX3_counts 7 = .ok (.getfield 16, 3) := by decide +kernel
theorem dX3_counts_10 : decode cX3_counts 10 = .ok (.ldc2_w 64, 3) := by decide +kernel
theorem dX3_counts_13 : decode cX3_counts 13 = .ok (.invokevirtual 66, 3) := by decide +kernel
theorem dX3_counts_16 : decode cX3_counts 16 = .ok (.lstore_n 3, 1) := by decide +kernel
theorem dX3_counts_17 : decode cX3_counts 17 = .ok (.iload_n 2, 1) := by decide +kernel
theorem dX3_counts_18 : decode cX3_counts 18 = .ok (.tableswitch 116 0 5 #[38, 51, 64, 77, 90, 103], 38) := by decide +kernel
theorem dX3_counts_56 : decode cX3_counts 56 = .ok (.iload_n 1, 1) := by decide +kernel
theorem dX3_counts_57 : decode cX3_counts 57 = .ok (.i2l, 1) := by decide +kernel
theorem dX3_counts_58 : decode cX3_counts 58 = .ok (.lload_n 3, 1) := by decide +kernel
theorem dX3_counts_59 : decode cX3_counts 59 = .ok (.lcmp, 1) := by decide +kernel
theorem dX3_counts_60 : decode cX3_counts 60 = .ok (.ifCond .le 7, 3) := by decide +kernel
theorem dX3_counts_63 : decode cX3_counts 63 = .ok (.iconst 1, 1) := by decide +kernel
theorem dX3_counts_64 : decode cX3_counts 64 = .ok (.goto 4, 3) := by decide +kernel
theorem dX3_counts_67 : decode cX3_counts 67 = .ok (.iconst 0, 1) := by decide +kernel
theorem dX3_counts_68 : decode cX3_counts 68 = .ok (.ireturn, 1) := by decide +kernel
theorem dX3_counts_69 : decode cX3_counts 69 = .ok (.iload_n 1, 1) := by decide +kernel
theorem dX3_counts_70 : decode cX3_counts 70 = .ok (.i2l, 1) := by decide +kernel
theorem dX3_counts_71 : decode cX3_counts 71 = .ok (.lload_n 3, 1) := by decide +kernel
theorem dX3_counts_72 : decode cX3_counts 72 = .ok (.lcmp, 1) := by decide +kernel
theorem dX3_counts_73 : decode cX3_counts 73 = .ok (.ifCond .lt 7, 3) := by decide +kernel
theorem dX3_counts_76 : decode cX3_counts 76 = .ok (.iconst 1, 1) := by decide +kernel
theorem dX3_counts_77 : decode cX3_counts 77 = .ok (.goto 4, 3) := by decide +kernel
theorem dX3_counts_80 : decode cX3_counts 80 = .ok (.iconst 0, 1) := by decide +kernel
theorem dX3_counts_81 : decode cX3_counts 81 = .ok (.ireturn, 1) := by decide +kernel
theorem dX3_counts_82 : decode cX3_counts 82 = .ok (.iload_n 1, 1) := by decide +kernel
theorem dX3_counts_83 : decode cX3_counts 83 = .ok (.i2l, 1) := by decide +kernel
theorem dX3_counts_84 : decode cX3_counts 84 = .ok (.lload_n 3, 1) := by decide +kernel
theorem dX3_counts_85 : decode cX3_counts 85 = .ok (.lcmp, 1) := by decide +kernel
theorem dX3_counts_86 : decode cX3_counts 86 = .ok (.ifCond .ge 7, 3) := by decide +kernel
theorem dX3_counts_89 : decode cX3_counts 89 = .ok (.iconst 1, 1) := by decide +kernel
theorem dX3_counts_90 : decode cX3_counts 90 = .ok (.goto 4, 3) := by decide +kernel
theorem dX3_counts_93 : decode cX3_counts 93 = .ok (.iconst 0, 1) := by decide +kernel
theorem dX3_counts_94 : decode cX3_counts 94 = .ok (.ireturn, 1) := by decide +kernel
theorem dX3_counts_95 : decode cX3_counts 95 = .ok (.iload_n 1, 1) := by decide +kernel
theorem dX3_counts_96 : decode cX3_counts 96 = .ok (.i2l, 1) := by decide +kernel
theorem dX3_counts_97 : decode cX3_counts 97 = .ok (.lload_n 3, 1) := by decide +kernel
theorem dX3_counts_98 : decode cX3_counts 98 = .ok (.lcmp, 1) := by decide +kernel
theorem dX3_counts_99 : decode cX3_counts 99 = .ok (.ifCond .gt 7, 3) := by decide +kernel
theorem dX3_counts_102 : decode cX3_counts 102 = .ok (.iconst 1, 1) := by decide +kernel
theorem dX3_counts_103 : decode cX3_counts 103 = .ok (.goto 4, 3) := by decide +kernel
theorem dX3_counts_106 : decode cX3_counts 106 = .ok (.iconst 0, 1) := by decide +kernel
theorem dX3_counts_107 : decode cX3_counts 107 = .ok (.ireturn, 1) := by decide +kernel
theorem dX3_counts_108 : decode cX3_counts 108 = .ok (.iload_n 1, 1) := by decide +kernel
theorem dX3_counts_109 : decode cX3_counts 109 = .ok (.i2l, 1) := by decide +kernel
theorem dX3_counts_110 : decode cX3_counts 110 = .ok (.lload_n 3, 1) := by decide +kernel
theorem dX3_counts_111 : decode cX3_counts 111 = .ok (.lcmp, 1) := by decide +kernel
theorem dX3_counts_112 : decode cX3_counts 112 = .ok (.ifCond .ne 7, 3) := by decide +kernel
theorem dX3_counts_115 : decode cX3_counts 115 = .ok (.iconst 1, 1) := by decide +kernel
theorem dX3_counts_116 : decode cX3_counts 116 = .ok (.goto 4, 3) := by decide +kernel
theorem dX3_counts_119 : decode cX3_counts 119 = .ok (.iconst 0, 1) := by decide +kernel
theorem dX3_counts_120 : decode cX3_counts 120 = .ok (.ireturn, 1) := by decide +kernel
theorem dX3_counts_121 : decode cX3_counts 121 = .ok (.iload_n 1, 1) := by decide +kernel
theorem dX3_counts_122 : decode cX3_counts 122 = .ok (.i2l, 1) := by decide +kernel
theorem dX3_counts_123 : decode cX3_counts 123 = .ok (.lload_n 3, 1) := by decide +kernel
theorem dX3_counts_124 : decode cX3_counts 124 = .ok (.lcmp, 1) := by decide +kernel
theorem dX3_counts_125 : decode cX3_counts 125 = .ok (.ifCond .eq 7, 3) := by decide +kernel
theorem dX3_counts_128 : decode cX3_counts 128 = .ok (.iconst 1, 1) := by decide +kernel
theorem dX3_counts_129 : decode cX3_counts 129 = .ok (.goto 4, 3) := by decide +kernel
theorem dX3_counts_132 : decode cX3_counts 132 = .ok (.iconst 0, 1) := by decide +kernel
theorem dX3_counts_133 : decode cX3_counts 133 = .ok (.ireturn, 1) := by decide +kernel
theorem dX3_counts_134 : decode cX3_counts 134 = .ok (.iconst 0, 1) := by decide +kernel
theorem dX3_counts_135 : decode cX3_counts 135 = .ok (.ireturn, 1) := by decide +kernel
theorem dX3_byteAt_0 : decode cX3_byteAt 0 = .ok (.aload_n 0, 1) := by decide +kernel
theorem dX3_byteAt_1 : decode cX3_byteAt 1 = .ok (.iload_n 1, 1) := by decide +kernel
theorem dX3_byteAt_2 : decode cX3_byteAt 2 = .ok (.invokevirtual 33, 3) := by decide +kernel
theorem dX3_byteAt_5 : decode cX3_byteAt 5 = .ok (.astore_n 3, 1) := by decide +kernel
theorem dX3_byteAt_6 : decode cX3_byteAt 6 = .ok (.aload_n 3, 1) := by decide +kernel
theorem dX3_byteAt_7 : decode cX3_byteAt 7 = .ok (.ifnonnull 7, 3) := by decide +kernel
theorem dX3_byteAt_10 : decode cX3_byteAt 10 = .ok (.iconst (-1), 1) := by decide +kernel
theorem dX3_byteAt_11 : decode cX3_byteAt 11 = .ok (.goto 8, 3) := by decide +kernel
theorem dX3_byteAt_14 : decode cX3_byteAt 14 = .ok (.aload_n 3, 1) := by decide +kernel
theorem dX3_byteAt_15 : decode cX3_byteAt 15 = .ok (.iload_n 2, 1) := by decide +kernel
theorem dX3_byteAt_16 : decode cX3_byteAt 16 = .ok (.invokevirtual 70, 3) := by decide +kernel
theorem dX3_byteAt_19 : decode cX3_byteAt 19 = .ok (.ireturn, 1) := by decide +kernel
theorem dX3_size_0 : decode cX3_size 0 = .ok (.aload_n 0, 1) := by decide +kernel
theorem dX3_size_1 : decode cX3_size 1 = .ok (.iload_n 1, 1) := by decide +kernel
theorem dX3_size_2 : decode cX3_size 2 = .ok (.invokevirtual 33, 3) := by decide +kernel
theorem dX3_size_5 : decode cX3_size 5 = .ok (.astore_n 2, 1) := by decide +kernel
theorem dX3_size_6 : decode cX3_size 6 = .ok (.aload_n 2, 1) := by decide +kernel
theorem dX3_size_7 : decode cX3_size 7 = .ok (.ifnonnull 7, 3) := by decide +kernel
theorem dX3_size_10 : decode cX3_size 10 = .ok (.iconst (-1), 1) := by decide +kernel
theorem dX3_size_11 : decode cX3_size 11 = .ok (.goto 7, 3) := by decide +kernel
theorem dX3_size_14 : decode cX3_size 14 = .ok (.aload_n 2, 1) := by decide +kernel
theorem dX3_size_15 : decode cX3_size 15 = .ok (.getfield 41, 3) := by decide +kernel
theorem dX3_size_18 : decode cX3_size 18 = .ok (.ireturn, 1) := by decide +kernel
theorem dX3_rowOf_0 : decode cX3_rowOf 0 = .ok (.iload_n 1, 1) := by decide +kernel
theorem dX3_rowOf_1 : decode cX3_rowOf 1 = .ok (.ifCond .ne 8, 3) := by decide +kernel
theorem dX3_rowOf_4 : decode cX3_rowOf 4 = .ok (.aload_n 0, 1) := by decide +kernel
theorem dX3_rowOf_5 : decode cX3_rowOf 5 = .ok (.getfield 10, 3) := by decide +kernel
theorem dX3_rowOf_8 : decode cX3_rowOf 8 = .ok (.areturn, 1) := by decide +kernel
theorem dX3_rowOf_9 : decode cX3_rowOf 9 = .ok (.iload_n 1, 1) := by decide +kernel
theorem dX3_rowOf_10 : decode cX3_rowOf 10 = .ok (.iconst 1, 1) := by decide +kernel
theorem dX3_rowOf_11 : decode cX3_rowOf 11 = .ok (.if_icmp .ne 10, 3) := by decide +kernel
theorem dX3_rowOf_14 : decode cX3_rowOf 14 = .ok (.aload_n 0, 1) := by decide +kernel
theorem dX3_rowOf_15 : decode cX3_rowOf 15 = .ok (.getfield 16, 3) := by decide +kernel
theorem dX3_rowOf_18 : decode cX3_rowOf 18 = .ok (.goto 4, 3) := by decide +kernel
theorem dX3_rowOf_21 : decode cX3_rowOf 21 = .ok (.aconst_null, 1) := by decide +kernel
theorem dX3_rowOf_22 : decode cX3_rowOf 22 = .ok (.areturn, 1) := by decide +kernel
theorem dX3_isComparator_0 : decode cX3_isComparator 0 = .ok (.iload_n 0, 1) := by decide +kernel
theorem dX3_isComparator_1 : decode cX3_isComparator 1 = .ok (.ifCond .lt 12, 3) := by decide +kernel
theorem dX3_isComparator_4 : decode cX3_isComparator 4 = .ok (.iload_n 0, 1) := by decide +kernel
theorem dX3_isComparator_5 : decode cX3_isComparator 5 = .ok (.iconst 2, 1) := by decide +kernel
theorem dX3_isComparator_6 : decode cX3_isComparator 6 = .ok (.if_icmp .gt 7, 3) := by decide +kernel
theorem dX3_isComparator_9 : decode cX3_isComparator 9 = .ok (.iconst 1, 1) := by decide +kernel
theorem dX3_isComparator_10 : decode cX3_isComparator 10 = .ok (.goto 4, 3) := by decide +kernel
theorem dX3_isComparator_13 : decode cX3_isComparator 13 = .ok (.iconst 0, 1) := by decide +kernel
theorem dX3_isComparator_14 : decode cX3_isComparator 14 = .ok (.ireturn, 1) := by decide +kernel
theorem dX3_matches_0 : decode cX3_matches 0 = .ok (.iload_n 1, 1) := by decide +kernel
theorem dX3_matches_1 : decode cX3_matches 1 = .ok (.ifCond .ne 17, 3) := by decide +kernel
theorem dX3_matches_4 : decode cX3_matches 4 = .ok (.aload_n 0, 1) := by decide +kernel
theorem dX3_matches_5 : decode cX3_matches 5 = .ok (.iload_n 2, 1) := by decide +kernel
theorem dX3_matches_6 : decode cX3_matches 6 = .ok (.invokevirtual 61, 3) := by decide +kernel
theorem dX3_matches_9 : decode cX3_matches 9 = .ok (.ifCond .ne 7, 3) := by decide +kernel
theorem dX3_matches_12 : decode cX3_matches 12 = .ok (.iconst 1, 1) := by decide +kernel
theorem dX3_matches_13 : decode cX3_matches 13 = .ok (.goto 4, 3) := by decide +kernel
theorem dX3_matches_16 : decode cX3_matches 16 = .ok (.iconst 0, 1) := by decide +kernel
theorem dX3_matches_17 : decode cX3_matches 17 = .ok (.ireturn, 1) := by decide +kernel
theorem dX3_matches_18 : decode cX3_matches 18 = .ok (.iload_n 2, 1) := by decide +kernel
theorem dX3_matches_19 : decode cX3_matches 19 = .ok (.iconst 2, 1) := by decide +kernel
theorem dX3_matches_20 : decode cX3_matches 20 = .ok (.if_icmp .ne 5, 3) := by decide +kernel
theorem dX3_matches_23 : decode cX3_matches 23 = .ok (.iconst 0, 1) := by decide +kernel
theorem dX3_matches_24 : decode cX3_matches 24 = .ok (.ireturn, 1) := by decide +kernel
theorem dX3_matches_25 : decode cX3_matches 25 = .ok (.iload_n 1, 1) := by decide +kernel
theorem dX3_matches_26 : decode cX3_matches 26 = .ok (.iconst 1, 1) := by decide +kernel
theorem dX3_matches_27 : decode cX3_matches 27 = .ok (.if_icmp .ne 11, 3) := by decide +kernel
theorem dX3_matches_30 : decode cX3_matches 30 = .ok (.aload_n 0, 1) := by decide +kernel
theorem dX3_matches_31 : decode cX3_matches 31 = .ok (.iload_n 2, 1) := by decide +kernel
theorem dX3_matches_32 : decode cX3_matches 32 = .ok (.invokevirtual 73, 3) := by decide +kernel
theorem dX3_matches_35 : decode cX3_matches 35 = .ok (.goto 8, 3) := by decide +kernel
theorem dX3_matches_38 : decode cX3_matches 38 = .ok (.aload_n 0, 1) := by decide +kernel
theorem dX3_matches_39 : decode cX3_matches 39 = .ok (.iload_n 2, 1) := by decide +kernel
theorem dX3_matches_40 : decode cX3_matches 40 = .ok (.invokevirtual 76, 3) := by decide +kernel
theorem dX3_matches_43 : decode cX3_matches 43 = .ok (.ireturn, 1) := by decide +kernel
theorem dX3_containsKey_0 : decode cX3_containsKey 0 = .ok (.aload_n 0, 1) := by decide +kernel
theorem dX3_containsKey_1 : decode cX3_containsKey 1 = .ok (.getfield 22, 3) := by decide +kernel
theorem dX3_containsKey_4 : decode cX3_containsKey 4 = .ok (.aload_n 0, 1) := by decide +kernel
theorem dX3_containsKey_5 : decode cX3_containsKey 5 = .ok (.getfield 16, 3) := by decide +kernel
theorem dX3_containsKey_8 : decode cX3_containsKey 8 = .ok (.invokevirtual 79, 3) := by decide +kernel
theorem dX3_containsKey_11 : decode cX3_containsKey 11 = .ok (.aload_n 0, 1) := by decide +kernel
theorem dX3_containsKey_12 : decode cX3_containsKey 12 = .ok (.iconst 0, 1) := by decide +kernel
theorem dX3_containsKey_13 : decode cX3_containsKey 13 = .ok (.aload_n 0, 1) := by decide +kernel
theorem dX3_containsKey_14 : decode cX3_containsKey 14 = .ok (.getfield 22, 3) := by decide +kernel
theorem dX3_containsKey_17 : decode cX3_containsKey 17 = .ok (.getfield 83, 3) := by decide +kernel
theorem dX3_containsKey_20 : decode cX3_containsKey 20 = .ok (.iconst 0, 1) := by decide +kernel
theorem dX3_containsKey_21 : decode cX3_containsKey 21 = .ok (.iload_n 1, 1) := by decide +kernel
theorem dX3_containsKey_22 : decode cX3_containsKey 22 = .ok (.invokevirtual 84, 3) := by decide +kernel
theorem dX3_containsKey_25 : decode cX3_containsKey 25 = .ok (.istore_n 2, 1) := by decide +kernel
theorem dX3_containsKey_26 : decode cX3_containsKey 26 = .ok (.iload_n 2, 1) := by decide +kernel
theorem dX3_containsKey_27 : decode cX3_containsKey 27 = .ok (.iconst (-1), 1) := by decide +kernel
theorem dX3_containsKey_28 : decode cX3_containsKey 28 = .ok (.if_icmp .ne 5, 3) := by decide +kernel
theorem dX3_containsKey_31 : decode cX3_containsKey 31 = .ok (.iconst 0, 1) := by decide +kernel
theorem dX3_containsKey_32 : decode cX3_containsKey 32 = .ok (.ireturn, 1) := by decide +kernel
theorem dX3_containsKey_33 : decode cX3_containsKey 33 = .ok (.aload_n 0, 1) := by decide +kernel
theorem dX3_containsKey_34 : decode cX3_containsKey 34 = .ok (.getfield 29, 3) := by decide +kernel
theorem dX3_containsKey_37 : decode cX3_containsKey 37 = .ok (.iload_n 2, 1) := by decide +kernel
theorem dX3_containsKey_38 : decode cX3_containsKey 38 = .ok (.aload_n 0, 1) := by decide +kernel
theorem dX3_containsKey_39 : decode cX3_containsKey 39 = .ok (.getfield 22, 3) := by decide +kernel
theorem dX3_containsKey_42 : decode cX3_containsKey 42 = .ok (.getfield 83, 3) := by decide +kernel
theorem dX3_containsKey_45 : decode cX3_containsKey 45 = .ok (.invokevirtual 88, 3) := by decide +kernel
theorem dX3_containsKey_48 : decode cX3_containsKey 48 = .ok (.iconst 1, 1) := by decide +kernel
theorem dX3_containsKey_49 : decode cX3_containsKey 49 = .ok (.ireturn, 1) := by decide +kernel
theorem dX3_isLikeKey_0 : decode cX3_isLikeKey 0 = .ok (.aload_n 0, 1) := by decide +kernel
theorem dX3_isLikeKey_1 : decode cX3_isLikeKey 1 = .ok (.getfield 22, 3) := by decide +kernel
theorem dX3_isLikeKey_4 : decode cX3_isLikeKey 4 = .ok (.aload_n 0, 1) := by decide +kernel
theorem dX3_isLikeKey_5 : decode cX3_isLikeKey 5 = .ok (.getfield 16, 3) := by decide +kernel
theorem dX3_isLikeKey_8 : decode cX3_isLikeKey 8 = .ok (.invokevirtual 91, 3) := by decide +kernel
theorem dX3_isLikeKey_11 : decode cX3_isLikeKey 11 = .ok (.aload_n 0, 1) := by decide +kernel
theorem dX3_isLikeKey_12 : decode cX3_isLikeKey 12 = .ok (.getfield 22, 3) := by decide +kernel
theorem dX3_isLikeKey_15 : decode cX3_isLikeKey 15 = .ok (.iconst 0, 1) := by decide +kernel
theorem dX3_isLikeKey_16 : decode cX3_isLikeKey 16 = .ok (.invokevirtual 94, 3) := by decide +kernel
theorem dX3_isLikeKey_19 : decode cX3_isLikeKey 19 = .ok (.istore_n 2, 1) := by decide +kernel
theorem dX3_isLikeKey_20 : decode cX3_isLikeKey 20 = .ok (.aload_n 0, 1) := by decide +kernel
theorem dX3_isLikeKey_21 : decode cX3_isLikeKey 21 = .ok (.iconst 0, 1) := by decide +kernel
theorem dX3_isLikeKey_22 : decode cX3_isLikeKey 22 = .ok (.iload_n 2, 1) := by decide +kernel
theorem dX3_isLikeKey_23 : decode cX3_isLikeKey 23 = .ok (.iconst 0, 1) := by decide +kernel
theorem dX3_isLikeKey_24 : decode cX3_isLikeKey 24 = .ok (.iload_n 1, 1) := by decide +kernel
theorem dX3_isLikeKey_25 : decode cX3_isLikeKey 25 = .ok (.invokevirtual 97, 3) := by decide +kernel
theorem dX3_isLikeKey_28 : decode cX3_isLikeKey 28 = .ok (.ifCond .ne 5, 3) := by decide +kernel
theorem dX3_isLikeKey_31 : decode cX3_isLikeKey 31 = .ok (.iconst 0, 1) := by decide +kernel
theorem dX3_isLikeKey_32 : decode cX3_isLikeKey 32 = .ok (.ireturn, 1) := by decide +kernel
theorem dX3_isLikeKey_33 : decode cX3_isLikeKey 33 = .ok (.iload_n 2, 1) := by decide +kernel
theorem dX3_isLikeKey_34 : decode cX3_isLikeKey 34 = .ok (.istore_n 3, 1) := by decide +kernel
theorem dX3_isLikeKey_35 : decode cX3_isLikeKey 35 = .ok (.iconst 0, 1) := by decide +kernel
theorem dX3_isLikeKey_36 : decode cX3_isLikeKey 36 = .ok (.istore 4, 2) := by decide +kernel
theorem dX3_isLikeKey_38 : decode cX3_isLikeKey 38 = .ok (.iload 4, 2) := by decide +kernel
theorem dX3_isLikeKey_40 : decode cX3_isLikeKey 40 = .ok (.bipush 100, 2) := by decide +kernel
theorem dX3_isLikeKey_42 : decode cX3_isLikeKey 42 = .ok (.if_icmp .ge 120, 3) := by decide +kernel
theorem dX3_isLikeKey_45 : decode cX3_isLikeKey 45 = .ok (.iload_n 2, 1) := by decide +kernel
theorem dX3_isLikeKey_46 : decode cX3_isLikeKey 46 = .ok (.aload_n 0, 1) := by decide +kernel
theorem dX3_isLikeKey_47 : decode cX3_isLikeKey 47 = .ok (.getfield 22, 3) := by decide +kernel
theorem dX3_isLikeKey_50 : decode cX3_isLikeKey 50 = .ok (.getfield 83, 3) := by decide +kernel
theorem dX3_isLikeKey_53 : decode cX3_isLikeKey 53 = .ok (.if_icmp .ge 109, 3) := by decide +kernel
theorem dX3_isLikeKey_56 : decode cX3_isLikeKey 56 = .ok (.iload_n 2, 1) := by decide +kernel
theorem dX3_isLikeKey_57 : decode cX3_isLikeKey 57 = .ok (.iconst 1, 1) := by decide +kernel
theorem dX3_isLikeKey_58 : decode cX3_isLikeKey 58 = .ok (.iadd, 1) := by decide +kernel
theorem dX3_isLikeKey_59 : decode cX3_isLikeKey 59 = .ok (.istore 5, 2) := by decide +kernel
theorem dX3_isLikeKey_61 : decode cX3_isLikeKey 61 = .ok (.aload_n 0, 1) := by decide +kernel
theorem dX3_isLikeKey_62 : decode cX3_isLikeKey 62 = .ok (.getfield 22, 3) := by decide +kernel
theorem dX3_isLikeKey_65 : decode cX3_isLikeKey 65 = .ok (.iload 5, 2) := by decide +kernel
theorem dX3_isLikeKey_67 : decode cX3_isLikeKey 67 = .ok (.invokevirtual 94, 3) := by decide +kernel
theorem dX3_isLikeKey_70 : decode cX3_isLikeKey 70 = .ok (.istore_n 2, 1) := by decide +kernel
theorem dX3_isLikeKey_71 : decode cX3_isLikeKey 71 = .ok (.iload_n 2, 1) := by decide +kernel
theorem dX3_isLikeKey_72 : decode cX3_isLikeKey 72 = .ok (.aload_n 0, 1) := by decide +kernel
theorem dX3_isLikeKey_73 : decode cX3_isLikeKey 73 = .ok (.getfield 22, 3) := by decide +kernel
theorem dX3_isLikeKey_76 : decode cX3_isLikeKey 76 = .ok (.getfield 83, 3) := by decide +kernel
theorem dX3_isLikeKey_79 : decode cX3_isLikeKey 79 = .ok (.if_icmp .ne 7, 3) := by decide +kernel
theorem dX3_isLikeKey_82 : decode cX3_isLikeKey 82 = .ok (.iconst 1, 1) := by decide +kernel
theorem dX3_isLikeKey_83 : decode cX3_isLikeKey 83 = .ok (.goto 4, 3) := by decide +kernel
theorem dX3_isLikeKey_86 : decode cX3_isLikeKey 86 = .ok (.iconst 0, 1) := by decide +kernel
theorem dX3_isLikeKey_87 : decode cX3_isLikeKey 87 = .ok (.istore 6, 2) := by decide +kernel
theorem dX3_isLikeKey_89 : decode cX3_isLikeKey 89 = .ok (.iload 6, 2) := by decide +kernel
theorem dX3_isLikeKey_91 : decode cX3_isLikeKey 91 = .ok (.ifCond .eq 22, 3) := by decide +kernel
theorem dX3_isLikeKey_94 : decode cX3_isLikeKey 94 = .ok (.iload_n 3, 1) := by decide +kernel
theorem dX3_isLikeKey_95 : decode cX3_isLikeKey 95 = .ok (.aload_n 0, 1) := by decide +kernel
theorem dX3_isLikeKey_96 : decode cX3_isLikeKey 96 = .ok (.getfield 10, 3) := by decide +kernel
theorem dX3_isLikeKey_99 : decode cX3_isLikeKey 99 = .ok (.getfield 41, 3) := by decide +kernel
theorem dX3_isLikeKey_102 : decode cX3_isLikeKey 102 = .ok (.iload_n 2, 1) := by decide +kernel
theorem dX3_isLikeKey_103 : decode cX3_isLikeKey 103 = .ok (.iload 5, 2) := by decide +kernel
theorem dX3_isLikeKey_105 : decode cX3_isLikeKey 105 = .ok (.isub, 1) := by decide +kernel
theorem dX3_isLikeKey_106 : decode cX3_isLikeKey 106 = .ok (.isub, 1) := by decide +kernel
theorem dX3_isLikeKey_107 : decode cX3_isLikeKey 107 = .ok (.invokestatic 101, 3) := by decide +kernel
theorem dX3_isLikeKey_110 : decode cX3_isLikeKey 110 = .ok (.goto 4, 3) := by decide +kernel
theorem dX3_isLikeKey_113 : decode cX3_isLikeKey 113 = .ok (.iload_n 3, 1) := by decide +kernel
theorem dX3_isLikeKey_114 : decode cX3_isLikeKey 114 = .ok (.istore 7, 2) := by decide +kernel
theorem dX3_isLikeKey_116 : decode cX3_isLikeKey 116 = .ok (.aload_n 0, 1) := by decide +kernel
theorem dX3_isLikeKey_117 : decode cX3_isLikeKey 117 = .ok (.iload 5, 2) := by decide +kernel
theorem dX3_isLikeKey_119 : decode cX3_isLikeKey 119 = .ok (.iload_n 2, 1) := by decide +kernel
theorem dX3_isLikeKey_120 : decode cX3_isLikeKey 120 = .ok (.iload 7, 2) := by decide +kernel
theorem dX3_isLikeKey_122 : decode cX3_isLikeKey 122 = .ok (.iload_n 1, 1) := by decide +kernel
theorem dX3_isLikeKey_123 : decode cX3_isLikeKey 123 = .ok (.invokevirtual 84, 3) := by decide +kernel
theorem dX3_isLikeKey_126 : decode cX3_isLikeKey 126 = .ok (.istore 8, 2) := by decide +kernel
theorem dX3_isLikeKey_128 : decode cX3_isLikeKey 128 = .ok (.iload 8, 2) := by decide +kernel
theorem dX3_isLikeKey_130 : decode cX3_isLikeKey 130 = .ok (.iconst (-1), 1) := by decide +kernel
theorem dX3_isLikeKey_131 : decode cX3_isLikeKey 131 = .ok (.if_icmp .ne 5, 3) := by decide +kernel
theorem dX3_isLikeKey_134 : decode cX3_isLikeKey 134 = .ok (.iconst 0, 1) := by decide +kernel
theorem dX3_isLikeKey_135 : decode cX3_isLikeKey 135 = .ok (.ireturn, 1) := by decide +kernel
theorem dX3_isLikeKey_136 : decode cX3_isLikeKey 136 = .ok (.aload_n 0, 1) := by decide +kernel
theorem dX3_isLikeKey_137 : decode cX3_isLikeKey 137 = .ok (.getfield 29, 3) := by decide +kernel
theorem dX3_isLikeKey_140 : decode cX3_isLikeKey 140 = .ok (.iload_n 3, 1) := by decide +kernel
theorem dX3_isLikeKey_141 : decode cX3_isLikeKey 141 = .ok (.iload 8, 2) := by decide +kernel
theorem dX3_isLikeKey_143 : decode cX3_isLikeKey 143 = .ok (.iload_n 3, 1) := by decide +kernel
theorem dX3_isLikeKey_144 : decode cX3_isLikeKey 144 = .ok (.isub, 1) := by decide +kernel
theorem dX3_isLikeKey_145 : decode cX3_isLikeKey 145 = .ok (.invokevirtual 88, 3) := by decide +kernel
theorem dX3_isLikeKey_148 : decode cX3_isLikeKey 148 = .ok (.iload 8, 2) := by decide +kernel
theorem dX3_isLikeKey_150 : decode cX3_isLikeKey 150 = .ok (.iload_n 2, 1) := by decide +kernel
theorem dX3_isLikeKey_151 : decode cX3_isLikeKey 151 = .ok (.iload 5, 2) := by decide +kernel
theorem dX3_isLikeKey_153 : decode cX3_isLikeKey 153 = .ok (.isub, 1) := by decide +kernel
theorem dX3_isLikeKey_154 : decode cX3_isLikeKey 154 = .ok (.iadd, 1) := by decide +kernel
theorem dX3_isLikeKey_155 : decode cX3_isLikeKey 155 = .ok (.istore_n 3, 1) := by decide +kernel
theorem dX3_isLikeKey_156 : decode cX3_isLikeKey 156 = .ok (.iinc 4 1, 3) := by decide +kernel
theorem dX3_isLikeKey_159 : decode cX3_isLikeKey 159 = .ok (.goto (-121), 3) := by decide +kernel
theorem dX3_isLikeKey_162 : decode cX3_isLikeKey 162 = .ok (.iload_n 3, 1) := by decide +kernel
theorem dX3_isLikeKey_163 : decode cX3_isLikeKey 163 = .ok (.aload_n 0, 1) := by decide +kernel
theorem dX3_isLikeKey_164 : decode cX3_isLikeKey 164 = .ok (.getfield 10, 3) := by decide +kernel
theorem dX3_isLikeKey_167 : decode cX3_isLikeKey 167 = .ok (.getfield 41, 3) := by decide +kernel
theorem dX3_isLikeKey_170 : decode cX3_isLikeKey 170 = .ok (.if_icmp .ne 7, 3) := by decide +kernel
theorem dX3_isLikeKey_173 : decode cX3_isLikeKey 173 = .ok (.iconst 1, 1) := by decide +kernel
theorem dX3_isLikeKey_174 : decode cX3_isLikeKey 174 = .ok (.goto 4, 3) := by decide +kernel
theorem dX3_isLikeKey_177 : decode cX3_isLikeKey 177 = .ok (.iconst 0, 1) := by decide +kernel
theorem dX3_isLikeKey_178 : decode cX3_isLikeKey 178 = .ok (.ireturn, 1) := by decide +kernel
theorem dX3_firstPlace_0 : decode cX3_firstPlace 0 = .ok (.aload_n 0, 1) := by decide +kernel
theorem dX3_firstPlace_1 : decode cX3_firstPlace 1 = .ok (.getfield 10, 3) := by decide +kernel
theorem dX3_firstPlace_4 : decode cX3_firstPlace 4 = .ok (.getfield 41, 3) := by decide +kernel
theorem dX3_firstPlace_7 : decode cX3_firstPlace 7 = .ok (.iload_n 2, 1) := by decide +kernel
theorem dX3_firstPlace_8 : decode cX3_firstPlace 8 = .ok (.iload_n 1, 1) := by decide +kernel
theorem dX3_firstPlace_9 : decode cX3_firstPlace 9 = .ok (.isub, 1) := by decide +kernel
theorem dX3_firstPlace_10 : decode cX3_firstPlace 10 = .ok (.isub, 1) := by decide +kernel
theorem dX3_firstPlace_11 : decode cX3_firstPlace 11 = .ok (.istore 5, 2) := by decide +kernel
theorem dX3_firstPlace_13 : decode cX3_firstPlace 13 = .ok (.iload_n 3, 1) := by decide +kernel
theorem dX3_firstPlace_14 : decode cX3_firstPlace 14 = .ok (.istore 6, 2) := by decide +kernel
theorem dX3_firstPlace_16 : decode cX3_firstPlace 16 = .ok (.iload 6, 2) := by decide +kernel
theorem dX3_firstPlace_18 : decode cX3_firstPlace 18 = .ok (.iload 5, 2) := by decide +kernel
theorem dX3_firstPlace_20 : decode cX3_firstPlace 20 = .ok (.if_icmp .gt 25, 3) := by decide +kernel
theorem dX3_firstPlace_23 : decode cX3_firstPlace 23 = .ok (.aload_n 0, 1) := by decide +kernel
theorem dX3_firstPlace_24 : decode cX3_firstPlace 24 = .ok (.iload_n 1, 1) := by decide +kernel
theorem dX3_firstPlace_25 : decode cX3_firstPlace 25 = .ok (.iload_n 2, 1) := by decide +kernel
theorem dX3_firstPlace_26 : decode cX3_firstPlace 26 = .ok (.iload 6, 2) := by decide +kernel
theorem dX3_firstPlace_28 : decode cX3_firstPlace 28 = .ok (.iload 4, 2) := by decide +kernel
theorem dX3_firstPlace_30 : decode cX3_firstPlace 30 = .ok (.invokevirtual 97, 3) := by decide +kernel
theorem dX3_firstPlace_33 : decode cX3_firstPlace 33 = .ok (.ifCond .eq 6, 3) := by decide +kernel
theorem dX3_firstPlace_36 : decode cX3_firstPlace 36 = .ok (.iload 6, 2) := by decide +kernel
theorem dX3_firstPlace_38 : decode cX3_firstPlace 38 = .ok (.ireturn, 1) := by decide +kernel
theorem dX3_firstPlace_39 : decode cX3_firstPlace 39 = .ok (.iinc 6 1, 3) := by decide +kernel
theorem dX3_firstPlace_42 : decode cX3_firstPlace 42 = .ok (.goto (-26), 3) := by decide +kernel
theorem dX3_firstPlace_45 : decode cX3_firstPlace 45 = .ok (.iconst (-1), 1) := by decide +kernel
theorem dX3_firstPlace_46 : decode cX3_firstPlace 46 = .ok (.ireturn, 1) := by decide +kernel
theorem dX3_fits_0 : decode cX3_fits 0 = .ok (.iload_n 2, 1) := by decide +kernel
theorem dX3_fits_1 : decode cX3_fits 1 = .ok (.iload_n 1, 1) := by decide +kernel
theorem dX3_fits_2 : decode cX3_fits 2 = .ok (.isub, 1) := by decide +kernel
theorem dX3_fits_3 : decode cX3_fits 3 = .ok (.aload_n 0, 1) := by decide +kernel
theorem dX3_fits_4 : decode cX3_fits 4 = .ok (.getfield 10, 3) := by decide +kernel
theorem dX3_fits_7 : decode cX3_fits 7 = .ok (.getfield 41, 3) := by decide +kernel
theorem dX3_fits_10 : decode cX3_fits 10 = .ok (.iload_n 3, 1) := by decide +kernel
theorem dX3_fits_11 : decode cX3_fits 11 = .ok (.isub, 1) := by decide +kernel
theorem dX3_fits_12 : decode cX3_fits 12 = .ok (.if_icmp .le 5, 3) := by decide +kernel
theorem dX3_fits_15 : decode cX3_fits 15 = .ok (.iconst 0, 1) := by decide +kernel
theorem dX3_fits_16 : decode cX3_fits 16 = .ok (.ireturn, 1) := by decide +kernel
theorem dX3_fits_17 : decode cX3_fits 17 = .ok (.iload_n 1, 1) := by decide +kernel
theorem dX3_fits_18 : decode cX3_fits 18 = .ok (.istore 5, 2) := by decide +kernel
theorem dX3_fits_20 : decode cX3_fits 20 = .ok (.iload 5, 2) := by decide +kernel
theorem dX3_fits_22 : decode cX3_fits 22 = .ok (.iload_n 2, 1) := by decide +kernel
theorem dX3_fits_23 : decode cX3_fits 23 = .ok (.if_icmp .ge 62, 3) := by decide +kernel
theorem dX3_fits_26 : decode cX3_fits 26 = .ok (.aload_n 0, 1) := by decide +kernel
theorem dX3_fits_27 : decode cX3_fits 27 = .ok (.getfield 22, 3) := by decide +kernel
theorem dX3_fits_30 : decode cX3_fits 30 = .ok (.iload 5, 2) := by decide +kernel
theorem dX3_fits_32 : decode cX3_fits 32 = .ok (.invokevirtual 107, 3) := by decide +kernel
theorem dX3_fits_35 : decode cX3_fits 35 = .ok (.istore 6, 2) := by decide +kernel
theorem dX3_fits_37 : decode cX3_fits 37 = .ok (.aload_n 0, 1) := by decide +kernel
theorem dX3_fits_38 : decode cX3_fits 38 = .ok (.getfield 10, 3) := by decide +kernel
theorem dX3_fits_41 : decode cX3_fits 41 = .ok (.iload_n 3, 1) := by decide +kernel
theorem dX3_fits_42 : decode cX3_fits 42 = .ok (.iload 5, 2) := by decide +kernel
theorem dX3_fits_44 : decode cX3_fits 44 = .ok (.iload_n 1, 1) := by decide +kernel
theorem dX3_fits_45 : decode cX3_fits 45 = .ok (.isub, 1) := by decide +kernel
theorem dX3_fits_46 : decode cX3_fits 46 = .ok (.iadd, 1) := by decide +kernel
theorem dX3_fits_47 : decode cX3_fits 47 = .ok (.invokevirtual 70, 3) := by decide +kernel
theorem dX3_fits_50 : decode cX3_fits 50 = .ok (.istore 7, 2) := by decide +kernel
theorem dX3_fits_52 : decode cX3_fits 52 = .ok (.iload 6, 2) := by decide +kernel
theorem dX3_fits_54 : decode cX3_fits 54 = .ok (.sipush 256, 3) := by decide +kernel
theorem dX3_fits_57 : decode cX3_fits 57 = .ok (.if_icmp .eq 22, 3) := by decide +kernel
theorem dX3_fits_60 : decode cX3_fits 60 = .ok (.iload 6, 2) := by decide +kernel
theorem dX3_fits_62 : decode cX3_fits 62 = .ok (.iload 4, 2) := by decide +kernel
theorem dX3_fits_64 : decode cX3_fits 64 = .ok (.invokestatic 108, 3) := by decide +kernel
theorem dX3_fits_67 : decode cX3_fits 67 = .ok (.iload 7, 2) := by decide +kernel
theorem dX3_fits_69 : decode cX3_fits 69 = .ok (.iload 4, 2) := by decide +kernel
theorem dX3_fits_71 : decode cX3_fits 71 = .ok (.invokestatic 108, 3) := by decide +kernel
theorem dX3_fits_74 : decode cX3_fits 74 = .ok (.if_icmp .eq 5, 3) := by decide +kernel
theorem dX3_fits_77 : decode cX3_fits 77 = .ok (.iconst 0, 1) := by decide +kernel
theorem dX3_fits_78 : decode cX3_fits 78 = .ok (.ireturn, 1) := by decide +kernel
theorem dX3_fits_79 : decode cX3_fits 79 = .ok (.iinc 5 1, 3) := by decide +kernel
theorem dX3_fits_82 : decode cX3_fits 82 = .ok (.goto (-62), 3) := by decide +kernel
theorem dX3_fits_85 : decode cX3_fits 85 = .ok (.iconst 1, 1) := by decide +kernel
theorem dX3_fits_86 : decode cX3_fits 86 = .ok (.ireturn, 1) := by decide +kernel
theorem dX3_standing_0 : decode cX3_standing 0 = .ok (.iload_n 1, 1) := by decide +kernel
theorem dX3_standing_1 : decode cX3_standing 1 = .ok (.iconst 2, 1) := by decide +kernel
theorem dX3_standing_2 : decode cX3_standing 2 = .ok (.if_icmp .ne 10, 3) := by decide +kernel
theorem dX3_standing_5 : decode cX3_standing 5 = .ok (.aload_n 0, 1) := by decide +kernel
theorem dX3_standing_6 : decode cX3_standing 6 = .ok (.invokevirtual 111, 3) := by decide +kernel
theorem dX3_standing_9 : decode cX3_standing 9 = .ok (.goto 8, 3) := by decide +kernel
theorem dX3_standing_12 : decode cX3_standing 12 = .ok (.aload_n 0, 1) := by decide +kernel
theorem dX3_standing_13 : decode cX3_standing 13 = .ok (.iload_n 1, 1) := by decide +kernel
theorem dX3_standing_14 : decode cX3_standing 14 = .ok (.invokevirtual 115, 3) := by decide +kernel
theorem dX3_standing_17 : decode cX3_standing 17 = .ok (.ireturn, 1) := by decide +kernel
theorem dX3_standingAsBytes_0 : decode cX3_standingAsBytes 0 = .ok (.aload_n 0, 1) := by decide +kernel
theorem dX3_standingAsBytes_1 : decode cX3_standingAsBytes 1 = .ok (.getfield 10, 3) := by decide +kernel
theorem dX3_standingAsBytes_4 : decode cX3_standingAsBytes 4 = .ok (.getfield 41, 3) := by decide +kernel
theorem dX3_standingAsBytes_7 : decode cX3_standingAsBytes 7 = .ok (.aload_n 0, 1) := by decide +kernel
theorem dX3_standingAsBytes_8 : decode cX3_standingAsBytes 8 = .ok (.getfield 16, 3) := by decide +kernel
theorem dX3_standingAsBytes_11 : decode cX3_standingAsBytes 11 = .ok (.getfield 41, 3) := by decide +kernel
theorem dX3_standingAsBytes_14 : decode cX3_standingAsBytes 14 = .ok (.invokestatic 118, 3) := by decide +kernel
theorem dX3_standingAsBytes_17 : decode cX3_standingAsBytes 17 = .ok (.istore_n 2, 1) := by decide +kernel
theorem dX3_standingAsBytes_18 : decode cX3_standingAsBytes 18 = .ok (.iconst 0, 1) := by decide +kernel
theorem dX3_standingAsBytes_19 : decode cX3_standingAsBytes 19 = .ok (.istore_n 3, 1) := by decide +kernel
theorem dX3_standingAsBytes_20 : decode cX3_standingAsBytes 20 = .ok (.iload_n 3, 1) := by decide +kernel
theorem dX3_standingAsBytes_21 : decode cX3_standingAsBytes 21 = .ok (.iload_n 2, 1) := by decide +kernel
theorem dX3_standingAsBytes_22 : decode cX3_standingAsBytes 22 = .ok (.if_icmp .ge 46, 3) := by decide +kernel
theorem dX3_standingAsBytes_25 : decode cX3_standingAsBytes 25 = .ok (.aload_n 0, 1) := by decide +kernel
theorem dX3_standingAsBytes_26 : decode cX3_standingAsBytes 26 = .ok (.getfield 10, 3) := by decide +kernel
theorem dX3_standingAsBytes_29 : decode cX3_standingAsBytes 29 = .ok (.iload_n 3, 1) := by decide +kernel
theorem dX3_standingAsBytes_30 : decode cX3_standingAsBytes 30 = .ok (.invokevirtual 70, 3) := by decide +kernel
theorem dX3_standingAsBytes_33 : decode cX3_standingAsBytes 33 = .ok (.iload_n 1, 1) := by decide +kernel
theorem dX3_standingAsBytes_34 : decode cX3_standingAsBytes 34 = .ok (.invokestatic 108, 3) := by decide +kernel
theorem dX3_standingAsBytes_37 : decode cX3_standingAsBytes 37 = .ok (.aload_n 0, 1) := by decide +kernel
theorem dX3_standingAsBytes_38 : decode cX3_standingAsBytes 38 = .ok (.getfield 16, 3) := by decide +kernel
theorem dX3_standingAsBytes_41 : decode cX3_standingAsBytes 41 = .ok (.iload_n 3, 1) := by decide +kernel
theorem dX3_standingAsBytes_42 : decode cX3_standingAsBytes 42 = .ok (.invokevirtual 70, 3) := by decide +kernel
theorem dX3_standingAsBytes_45 : decode cX3_standingAsBytes 45 = .ok (.iload_n 1, 1) := by decide +kernel
theorem dX3_standingAsBytes_46 : decode cX3_standingAsBytes 46 = .ok (.invokestatic 108, 3) := by decide +kernel
theorem dX3_standingAsBytes_49 : decode cX3_standingAsBytes 49 = .ok (.invokestatic 121, 3) := by decide +kernel
theorem dX3_standingAsBytes_52 : decode cX3_standingAsBytes 52 = .ok (.istore 4, 2) := by decide +kernel
theorem dX3_standingAsBytes_54 : decode cX3_standingAsBytes 54 = .ok (.iload 4, 2) := by decide +kernel
theorem dX3_standingAsBytes_56 : decode cX3_standingAsBytes 56 = .ok (.ifCond .eq 6, 3) := by decide +kernel
theorem dX3_standingAsBytes_59 : decode cX3_standingAsBytes 59 = .ok (.iload 4, 2) := by decide +kernel
theorem dX3_standingAsBytes_61 : decode cX3_standingAsBytes 61 = .ok (.ireturn, 1) := by decide +kernel
theorem dX3_standingAsBytes_62 : decode cX3_standingAsBytes 62 = .ok (.iinc 3 1, 3) := by decide +kernel
theorem dX3_standingAsBytes_65 : decode cX3_standingAsBytes 65 = .ok (.goto (-45), 3) := by decide +kernel
theorem dX3_standingAsBytes_68 : decode cX3_standingAsBytes 68 = .ok (.aload_n 0, 1) := by decide +kernel
theorem dX3_standingAsBytes_69 : decode cX3_standingAsBytes 69 = .ok (.getfield 10, 3) := by decide +kernel
theorem dX3_standingAsBytes_72 : decode cX3_standingAsBytes 72 = .ok (.getfield 41, 3) := by decide +kernel
theorem dX3_standingAsBytes_75 : decode cX3_standingAsBytes 75 = .ok (.aload_n 0, 1) := by decide +kernel
theorem dX3_standingAsBytes_76 : decode cX3_standingAsBytes 76 = .ok (.getfield 16, 3) := by decide +kernel
theorem dX3_standingAsBytes_79 : decode cX3_standingAsBytes 79 = .ok (.getfield 41, 3) := by decide +kernel
theorem dX3_standingAsBytes_82 : decode cX3_standingAsBytes 82 = .ok (.invokestatic 121, 3) := by decide +kernel
theorem dX3_standingAsBytes_85 : decode cX3_standingAsBytes 85 = .ok (.ireturn, 1) := by decide +kernel
theorem dX3_standingAsNumbers_0 : decode cX3_standingAsNumbers 0 = .ok (.aload_n 0, 1) := by decide +kernel
theorem dX3_standingAsNumbers_1 : decode cX3_standingAsNumbers 1 = .ok (.getfield 10, 3) := by decide +kernel
theorem dX3_standingAsNumbers_4 : decode cX3_standingAsNumbers 4 = .ok (.invokevirtual 124, 3) := by decide +kernel
theorem dX3_standingAsNumbers_7 : decode cX3_standingAsNumbers 7 = .ok (.istore_n 1, 1) := by decide +kernel
theorem dX3_standingAsNumbers_8 : decode cX3_standingAsNumbers 8 = .ok (.aload_n 0, 1) := by decide +kernel
theorem dX3_standingAsNumbers_9 : decode cX3_standingAsNumbers 9 = .ok (.getfield 16, 3) := by decide +kernel
theorem dX3_standingAsNumbers_12 : decode cX3_standingAsNumbers 12 = .ok (.invokevirtual 124, 3) := by decide +kernel
theorem dX3_standingAsNumbers_15 : decode cX3_standingAsNumbers 15 = .ok (.istore_n 2, 1) := by decide +kernel
theorem dX3_standingAsNumbers_16 : decode cX3_standingAsNumbers 16 = .ok (.iload_n 1, 1) := by decide +kernel
theorem dX3_standingAsNumbers_17 : decode cX3_standingAsNumbers 17 = .ok (.ifCond .eq 7, 3) := by decide +kernel
theorem dX3_standingAsNumbers_20 : decode cX3_standingAsNumbers 20 = .ok (.iload_n 2, 1) := by decide +kernel
theorem dX3_standingAsNumbers_21 : decode cX3_standingAsNumbers 21 = .ok (.ifCond .ne 25, 3) := by decide +kernel
theorem dX3_standingAsNumbers_24 : decode cX3_standingAsNumbers 24 = .ok (.iload_n 1, 1) := by decide +kernel
theorem dX3_standingAsNumbers_25 : decode cX3_standingAsNumbers 25 = .ok (.ifCond .ne 7, 3) := by decide +kernel
theorem dX3_standingAsNumbers_28 : decode cX3_standingAsNumbers 28 = .ok (.iconst 1, 1) := by decide +kernel
theorem dX3_standingAsNumbers_29 : decode cX3_standingAsNumbers 29 = .ok (.goto 4, 3) := by decide +kernel
theorem dX3_standingAsNumbers_32 : decode cX3_standingAsNumbers 32 = .ok (.iconst 0, 1) := by decide +kernel
theorem dX3_standingAsNumbers_33 : decode cX3_standingAsNumbers 33 = .ok (.iload_n 2, 1) := by decide +kernel
theorem dX3_standingAsNumbers_34 : decode cX3_standingAsNumbers 34 = .ok (.ifCond .ne 7, 3) := by decide +kernel
theorem dX3_standingAsNumbers_37 : decode cX3_standingAsNumbers 37 = .ok (.iconst 1, 1) := by decide +kernel
theorem dX3_standingAsNumbers_38 : decode cX3_standingAsNumbers 38 = .ok (.goto 4, 3) := by decide +kernel
theorem dX3_standingAsNumbers_41 : decode cX3_standingAsNumbers 41 = .ok (.iconst 0, 1) := by decide +kernel
theorem dX3_standingAsNumbers_42 : decode cX3_standingAsNumbers 42 = .ok (.invokestatic 121, 3) := by decide +kernel
theorem dX3_standingAsNumbers_45 : decode cX3_standingAsNumbers 45 = .ok (.ireturn, 1) := by decide +kernel
theorem dX3_standingAsNumbers_46 : decode cX3_standingAsNumbers 46 = .ok (.aload_n 0, 1) := by decide +kernel
theorem dX3_standingAsNumbers_47 : decode cX3_standingAsNumbers 47 = .ok (.getfield 10, 3) := by decide +kernel
theorem dX3_standingAsNumbers_50 : decode cX3_standingAsNumbers 50 = .ok (.iload_n 1, 1) := by decide +kernel
theorem dX3_standingAsNumbers_51 : decode cX3_standingAsNumbers 51 = .ok (.invokevirtual 127, 3) := by decide +kernel
theorem dX3_standingAsNumbers_54 : decode cX3_standingAsNumbers 54 = .ok (.istore_n 3, 1) := by decide +kernel
theorem dX3_standingAsNumbers_55 : decode cX3_standingAsNumbers 55 = .ok (.aload_n 0, 1) := by decide +kernel
theorem dX3_standingAsNumbers_56 : decode cX3_standingAsNumbers 56 = .ok (.getfield 16, 3) := by decide +kernel
theorem dX3_standingAsNumbers_59 : decode cX3_standingAsNumbers 59 = .ok (.iload_n 2, 1) := by decide +kernel
theorem dX3_standingAsNumbers_60 : decode cX3_standingAsNumbers 60 = .ok (.invokevirtual 127, 3) := by decide +kernel
theorem dX3_standingAsNumbers_63 : decode cX3_standingAsNumbers 63 = .ok (.istore 4, 2) := by decide +kernel
theorem dX3_standingAsNumbers_65 : decode cX3_standingAsNumbers 65 = .ok (.iload_n 1, 1) := by decide +kernel
theorem dX3_standingAsNumbers_66 : decode cX3_standingAsNumbers 66 = .ok (.iload_n 3, 1) := by decide +kernel
theorem dX3_standingAsNumbers_67 : decode cX3_standingAsNumbers 67 = .ok (.isub, 1) := by decide +kernel
theorem dX3_standingAsNumbers_68 : decode cX3_standingAsNumbers 68 = .ok (.istore 5, 2) := by decide +kernel
theorem dX3_standingAsNumbers_70 : decode cX3_standingAsNumbers 70 = .ok (.iload 5, 2) := by decide +kernel
theorem dX3_standingAsNumbers_72 : decode cX3_standingAsNumbers 72 = .ok (.iload_n 2, 1) := by decide +kernel
theorem dX3_standingAsNumbers_73 : decode cX3_standingAsNumbers 73 = .ok (.iload 4, 2) := by decide +kernel
theorem dX3_standingAsNumbers_75 : decode cX3_standingAsNumbers 75 = .ok (.isub, 1) := by decide +kernel
theorem dX3_standingAsNumbers_76 : decode cX3_standingAsNumbers 76 = .ok (.invokestatic 121, 3) := by decide +kernel
theorem dX3_standingAsNumbers_79 : decode cX3_standingAsNumbers 79 = .ok (.istore 6, 2) := by decide +kernel
theorem dX3_standingAsNumbers_81 : decode cX3_standingAsNumbers 81 = .ok (.iconst 0, 1) := by decide +kernel
theorem dX3_standingAsNumbers_82 : decode cX3_standingAsNumbers 82 = .ok (.istore 7, 2) := by decide +kernel
theorem dX3_standingAsNumbers_84 : decode cX3_standingAsNumbers 84 = .ok (.iload 7, 2) := by decide +kernel
theorem dX3_standingAsNumbers_86 : decode cX3_standingAsNumbers 86 = .ok (.iload 5, 2) := by decide +kernel
theorem dX3_standingAsNumbers_88 : decode cX3_standingAsNumbers 88 = .ok (.if_icmp .ge 42, 3) := by decide +kernel
theorem dX3_standingAsNumbers_91 : decode cX3_standingAsNumbers 91 = .ok (.iload 6, 2) := by decide +kernel
theorem dX3_standingAsNumbers_93 : decode cX3_standingAsNumbers 93 = .ok (.ifCond .ne 37, 3) := by decide +kernel
theorem dX3_standingAsNumbers_96 : decode cX3_standingAsNumbers 96 = .ok (.aload_n 0, 1) := by decide +kernel
theorem dX3_standingAsNumbers_97 : decode cX3_standingAsNumbers 97 = .ok (.getfield 10, 3) := by decide +kernel
theorem dX3_standingAsNumbers_100 : decode cX3_standingAsNumbers 100 = .ok (.iload_n 3, 1) := by decide +kernel
theorem dX3_standingAsNumbers_101 : decode cX3_standingAsNumbers 101 = .ok (.iload 7, 2) := by decide +kernel
theorem dX3_standingAsNumbers_103 : decode cX3_standingAsNumbers 103 = .ok (.iadd, 1) := by decide +kernel
theorem dX3_standingAsNumbers_104 : decode cX3_standingAsNumbers 104 = .ok (.invokevirtual 70, 3) := by decide +kernel
theorem dX3_standingAsNumbers_107 : decode cX3_standingAsNumbers 107 = .ok (.aload_n 0, 1) := by decide +kernel
theorem dX3_standingAsNumbers_108 : decode cX3_standingAsNumbers 108 = .ok (.getfield 16, 3) := by decide +kernel
theorem dX3_standingAsNumbers_111 : decode cX3_standingAsNumbers 111 = .ok (.iload 4, 2) := by decide +kernel
theorem dX3_standingAsNumbers_113 : decode cX3_standingAsNumbers 113 = .ok (.iload 7, 2) := by decide +kernel
theorem dX3_standingAsNumbers_115 : decode cX3_standingAsNumbers 115 = .ok (.iadd, 1) := by decide +kernel
theorem dX3_standingAsNumbers_116 : decode cX3_standingAsNumbers 116 = .ok (.invokevirtual 70, 3) := by decide +kernel
theorem dX3_standingAsNumbers_119 : decode cX3_standingAsNumbers 119 = .ok (.invokestatic 121, 3) := by decide +kernel
theorem dX3_standingAsNumbers_122 : decode cX3_standingAsNumbers 122 = .ok (.istore 6, 2) := by decide +kernel
theorem dX3_standingAsNumbers_124 : decode cX3_standingAsNumbers 124 = .ok (.iinc 7 1, 3) := by decide +kernel
theorem dX3_standingAsNumbers_127 : decode cX3_standingAsNumbers 127 = .ok (.goto (-43), 3) := by decide +kernel
theorem dX3_standingAsNumbers_130 : decode cX3_standingAsNumbers 130 = .ok (.iload 6, 2) := by decide +kernel
theorem dX3_standingAsNumbers_132 : decode cX3_standingAsNumbers 132 = .ok (.ireturn, 1) := by decide +kernel
theorem dX3_signOf_0 : decode cX3_signOf 0 = .ok (.iload_n 0, 1) := by decide +kernel
theorem dX3_signOf_1 : decode cX3_signOf 1 = .ok (.iload_n 1, 1) := by decide +kernel
theorem dX3_signOf_2 : decode cX3_signOf 2 = .ok (.if_icmp .ge 5, 3) := by decide +kernel
theorem dX3_signOf_5 : decode cX3_signOf 5 = .ok (.iconst (-1), 1) := by decide +kernel
theorem dX3_signOf_6 : decode cX3_signOf 6 = .ok (.ireturn, 1) := by decide +kernel
theorem dX3_signOf_7 : decode cX3_signOf 7 = .ok (.iload_n 0, 1) := by decide +kernel
theorem dX3_signOf_8 : decode cX3_signOf 8 = .ok (.iload_n 1, 1) := by decide +kernel
theorem dX3_signOf_9 : decode cX3_signOf 9 = .ok (.if_icmp .le 7, 3) := by decide +kernel
theorem dX3_signOf_12 : decode cX3_signOf 12 = .ok (.iconst 1, 1) := by decide +kernel
theorem dX3_signOf_13 : decode cX3_signOf 13 = .ok (.goto 4, 3) := by decide +kernel
theorem dX3_signOf_16 : decode cX3_signOf 16 = .ok (.iconst 0, 1) := by decide +kernel
theorem dX3_signOf_17 : decode cX3_signOf 17 = .ok (.ireturn, 1) := by decide +kernel
theorem dX3_folded_0 : decode cX3_folded 0 = .ok (.iload_n 0, 1) := by decide +kernel
theorem dX3_folded_1 : decode cX3_folded 1 = .ok (.bipush 97, 2) := by decide +kernel
theorem dX3_folded_3 : decode cX3_folded 3 = .ok (.if_icmp .lt 13, 3) := by decide +kernel
theorem dX3_folded_6 : decode cX3_folded 6 = .ok (.iload_n 0, 1) := by decide +kernel
theorem dX3_folded_7 : decode cX3_folded 7 = .ok (.bipush 122, 2) := by decide +kernel
theorem dX3_folded_9 : decode cX3_folded 9 = .ok (.if_icmp .gt 7, 3) := by decide +kernel
theorem dX3_folded_12 : decode cX3_folded 12 = .ok (.iconst 1, 1) := by decide +kernel
theorem dX3_folded_13 : decode cX3_folded 13 = .ok (.goto 4, 3) := by decide +kernel
theorem dX3_folded_16 : decode cX3_folded 16 = .ok (.iconst 0, 1) := by decide +kernel
theorem dX3_folded_17 : decode cX3_folded 17 = .ok (.istore_n 2, 1) := by decide +kernel
theorem dX3_folded_18 : decode cX3_folded 18 = .ok (.iload_n 1, 1) := by decide +kernel
theorem dX3_folded_19 : decode cX3_folded 19 = .ok (.ifCond .ne 17, 3) := by decide +kernel
theorem dX3_folded_22 : decode cX3_folded 22 = .ok (.iload_n 2, 1) := by decide +kernel
theorem dX3_folded_23 : decode cX3_folded 23 = .ok (.ifCond .eq 13, 3) := by decide +kernel
theorem dX3_folded_26 : decode cX3_folded 26 = .ok (.iload_n 0, 1) := by decide +kernel
theorem dX3_folded_27 : decode cX3_folded 27 = .ok (.bipush 97, 2) := by decide +kernel
theorem dX3_folded_29 : decode cX3_folded 29 = .ok (.isub, 1) := by decide +kernel
theorem dX3_folded_30 : decode cX3_folded 30 = .ok (.bipush 65, 2) := by decide +kernel
theorem dX3_folded_32 : decode cX3_folded 32 = .ok (.iadd, 1) := by decide +kernel
theorem dX3_folded_33 : decode cX3_folded 33 = .ok (.goto 4, 3) := by decide +kernel
theorem dX3_folded_36 : decode cX3_folded 36 = .ok (.iload_n 0, 1) := by decide +kernel
theorem dX3_folded_37 : decode cX3_folded 37 = .ok (.ireturn, 1) := by decide +kernel
theorem dL_law_0 : decode cL_law 0 = .ok (.new 7, 3) := by decide +kernel
theorem dL_law_3 : decode cL_law 3 = .ok (.dup, 1) := by decide +kernel
theorem dL_law_4 : decode cL_law 4 = .ok (.invokespecial 9, 3) := by decide +kernel
theorem dL_law_7 : decode cL_law 7 = .ok (.astore_n 1, 1) := by decide +kernel
theorem dL_law_8 : decode cL_law 8 = .ok (.new 10, 3) := by decide +kernel
theorem dL_law_11 : decode cL_law 11 = .ok (.dup, 1) := by decide +kernel
theorem dL_law_12 : decode cL_law 12 = .ok (.invokespecial 12, 3) := by decide +kernel
theorem dL_law_15 : decode cL_law 15 = .ok (.astore_n 2, 1) := by decide +kernel
theorem dL_law_16 : decode cL_law 16 = .ok (.iconst 0, 1) := by decide +kernel
theorem dL_law_17 : decode cL_law 17 = .ok (.istore_n 3, 1) := by decide +kernel
theorem dL_law_18 : decode cL_law 18 = .ok (.iload_n 3, 1) := by decide +kernel
theorem dL_law_19 : decode cL_law 19 = .ok (.aload_n 0, 1) := by decide +kernel
theorem dL_law_20 : decode cL_law 20 = .ok (.arraylength, 1) := by decide +kernel
theorem dL_law_21 : decode cL_law 21 = .ok (.iconst 5, 1) := by decide +kernel
theorem dL_law_22 : decode cL_law 22 = .ok (.isub, 1) := by decide +kernel
theorem dL_law_23 : decode cL_law 23 = .ok (.if_icmp .gt 354, 3) := by decide +kernel
theorem dL_law_26 : decode cL_law 26 = .ok (.aload_n 0, 1) := by decide +kernel
theorem dL_law_27 : decode cL_law 27 = .ok (.iload_n 3, 1) := by decide +kernel
theorem dL_law_28 : decode cL_law 28 = .ok (.iaload, 1) := by decide +kernel
theorem dL_law_29 : decode cL_law 29 = .ok (.bipush 15, 2) := by decide +kernel
theorem dL_law_31 : decode cL_law 31 = .ok (.iand, 1) := by decide +kernel
theorem dL_law_32 : decode cL_law 32 = .ok (.tableswitch 339 0 8 #[52, 125, 148, 181, 194, 227, 250, 283, 316], 52) := by decide +kernel
theorem dL_law_84 : decode cL_law 84 = .ok (.aload_n 1, 1) := by decide +kernel
theorem dL_law_85 : decode cL_law 85 = .ok (.aload_n 0, 1) := by decide +kernel
theorem dL_law_86 : decode cL_law 86 = .ok (.iload_n 3, 1) := by decide +kernel
theorem dL_law_87 : decode cL_law 87 = .ok (.iconst 1, 1) := by decide +kernel
theorem dL_law_88 : decode cL_law 88 = .ok (.iadd, 1) := by decide +kernel
theorem dL_law_89 : decode cL_law 89 = .ok (.iaload, 1) := by decide +kernel
theorem dL_law_90 : decode cL_law 90 = .ok (.aload_n 0, 1) := by decide +kernel
theorem dL_law_91 : decode cL_law 91 = .ok (.iload_n 3, 1) := by decide +kernel
theorem dL_law_92 : decode cL_law 92 = .ok (.iconst 2, 1) := by decide +kernel
theorem dL_law_93 : decode cL_law 93 = .ok (.iadd, 1) := by decide +kernel
theorem dL_law_94 : decode cL_law 94 = .ok (.iaload, 1) := by decide +kernel
theorem dL_law_95 : decode cL_law 95 = .ok (.i2l, 1) := by decide +kernel
theorem dL_law_96 : decode cL_law 96 = .ok (.bipush 32, 2) := by decide +kernel
theorem dL_law_98 : decode cL_law 98 = .ok (.lshl, 1) := by decide +kernel
theorem dL_law_99 : decode cL_law 99 = .ok (.aload_n 0, 1) := by decide +kernel
theorem dL_law_100 : decode cL_law 100 = .ok (.iload_n 3, 1) := by decide +kernel
theorem dL_law_101 : decode cL_law 101 = .ok (.iconst 3, 1) := by decide +kernel
theorem dL_law_102 : decode cL_law 102 = .ok (.iadd, 1) := by decide +kernel
theorem dL_law_103 : decode cL_law 103 = .ok (.iaload, 1) := by decide +kernel
theorem dL_law_104 : decode cL_law 104 = .ok (.i2l, 1) := by decide +kernel
theorem dL_law_105 : decode cL_law 105 = .ok (.ldc2_w 13, 3) := by decide +kernel
theorem dL_law_108 : decode cL_law 108 = .ok (.land, 1) := by decide +kernel
theorem dL_law_109 : decode cL_law 109 = .ok (.lor, 1) := by decide +kernel
theorem dL_law_110 : decode cL_law 110 = .ok (.aload_n 0, 1) := by decide +kernel
theorem dL_law_111 : decode cL_law 111 = .ok (.iload_n 3, 1) := by decide +kernel
theorem dL_law_112 : decode cL_law 112 = .ok (.iconst 4, 1) := by decide +kernel
theorem dL_law_113 : decode cL_law 113 = .ok (.iadd, 1) := by decide +kernel
theorem dL_law_114 : decode cL_law 114 = .ok (.iaload, 1) := by decide +kernel
theorem dL_law_115 : decode cL_law 115 = .ok (.invokevirtual 15, 3) := by decide +kernel
theorem dL_law_118 : decode cL_law 118 = .ok (.aload_n 2, 1) := by decide +kernel
theorem dL_law_119 : decode cL_law 119 = .ok (.aload_n 0, 1) := by decide +kernel
theorem dL_law_120 : decode cL_law 120 = .ok (.iload_n 3, 1) := by decide +kernel
theorem dL_law_121 : decode cL_law 121 = .ok (.iconst 1, 1) := by decide +kernel
theorem dL_law_122 : decode cL_law 122 = .ok (.iadd, 1) := by decide +kernel
theorem dL_law_123 : decode cL_law 123 = .ok (.iaload, 1) := by decide +kernel
theorem dL_law_124 : decode cL_law 124 = .ok (.aload_n 0, 1) := by decide +kernel
theorem dL_law_125 : decode cL_law 125 = .ok (.iload_n 3, 1) := by decide +kernel
theorem dL_law_126 : decode cL_law 126 = .ok (.iconst 2, 1) := by decide +kernel
theorem dL_law_127 : decode cL_law 127 = .ok (.iadd, 1) := by decide +kernel
theorem dL_law_128 : decode cL_law 128 = .ok (.iaload, 1) := by decide +kernel
theorem dL_law_129 : decode cL_law 129 = .ok (.i2l, 1) := by decide +kernel
theorem dL_law_130 : decode cL_law 130 = .ok (.bipush 32, 2) := by decide +kernel
theorem dL_law_132 : decode cL_law 132 = .ok (.lshl, 1) := by decide +kernel
theorem dL_law_133 : decode cL_law 133 = .ok (.aload_n 0, 1) := by decide +kernel
theorem dL_law_134 : decode cL_law 134 = .ok (.iload_n 3, 1) := by decide +kernel
theorem dL_law_135 : decode cL_law 135 = .ok (.iconst 3, 1) := by decide +kernel
theorem dL_law_136 : decode cL_law 136 = .ok (.iadd, 1) := by decide +kernel
theorem dL_law_137 : decode cL_law 137 = .ok (.iaload, 1) := by decide +kernel
theorem dL_law_138 : decode cL_law 138 = .ok (.i2l, 1) := by decide +kernel
theorem dL_law_139 : decode cL_law 139 = .ok (.ldc2_w 13, 3) := by decide +kernel
theorem dL_law_142 : decode cL_law 142 = .ok (.land, 1) := by decide +kernel
theorem dL_law_143 : decode cL_law 143 = .ok (.lor, 1) := by decide +kernel
theorem dL_law_144 : decode cL_law 144 = .ok (.aload_n 0, 1) := by decide +kernel
theorem dL_law_145 : decode cL_law 145 = .ok (.iload_n 3, 1) := by decide +kernel
theorem dL_law_146 : decode cL_law 146 = .ok (.iconst 4, 1) := by decide +kernel
theorem dL_law_147 : decode cL_law 147 = .ok (.iadd, 1) := by decide +kernel
theorem dL_law_148 : decode cL_law 148 = .ok (.iaload, 1) := by decide +kernel
theorem dL_law_149 : decode cL_law 149 = .ok (.invokevirtual 19, 3) := by decide +kernel
theorem dL_law_152 : decode cL_law 152 = .ok (.if_icmp .eq 219, 3) := by decide +kernel
theorem dL_law_155 : decode cL_law 155 = .ok (.iconst 0, 1) := by decide +kernel
theorem dL_law_156 : decode cL_law 156 = .ok (.ireturn, 1) := by decide +kernel
theorem dL_law_157 : decode cL_law 157 = .ok (.aload_n 1, 1) := by decide +kernel
theorem dL_law_158 : decode cL_law 158 = .ok (.aload_n 0, 1) := by decide +kernel
theorem dL_law_159 : decode cL_law 159 = .ok (.iload_n 3, 1) := by decide +kernel
theorem dL_law_160 : decode cL_law 160 = .ok (.iconst 1, 1) := by decide +kernel
theorem dL_law_161 : decode cL_law 161 = .ok (.iadd, 1) := by decide +kernel
theorem dL_law_162 : decode cL_law 162 = .ok (.iaload, 1) := by decide +kernel
theorem dL_law_163 : decode cL_law 163 = .ok (.invokevirtual 20, 3) := by decide +kernel
theorem dL_law_166 : decode cL_law 166 = .ok (.aload_n 2, 1) := by decide +kernel
theorem dL_law_167 : decode cL_law 167 = .ok (.aload_n 0, 1) := by decide +kernel
theorem dL_law_168 : decode cL_law 168 = .ok (.iload_n 3, 1) := by decide +kernel
theorem dL_law_169 : decode cL_law 169 = .ok (.iconst 1, 1) := by decide +kernel
theorem dL_law_170 : decode cL_law 170 = .ok (.iadd, 1) := by decide +kernel
theorem dL_law_171 : decode cL_law 171 = .ok (.iaload, 1) := by decide +kernel
theorem dL_law_172 : decode cL_law 172 = .ok (.invokevirtual 24, 3) := by decide +kernel
theorem dL_law_175 : decode cL_law 175 = .ok (.if_icmp .eq 196, 3) := by decide +kernel
theorem dL_law_178 : decode cL_law 178 = .ok (.iconst 0, 1) := by decide +kernel
theorem dL_law_179 : decode cL_law 179 = .ok (.ireturn, 1) := by decide +kernel
theorem dL_law_180 : decode cL_law 180 = .ok (.aload_n 1, 1) := by decide +kernel
theorem dL_law_181 : decode cL_law 181 = .ok (.aload_n 0, 1) := by decide +kernel
theorem dL_law_182 : decode cL_law 182 = .ok (.iload_n 3, 1) := by decide +kernel
theorem dL_law_183 : decode cL_law 183 = .ok (.iconst 1, 1) := by decide +kernel
theorem dL_law_184 : decode cL_law 184 = .ok (.iadd, 1) := by decide +kernel
theorem dL_law_185 : decode cL_law 185 = .ok (.iaload, 1) := by decide +kernel
theorem dL_law_186 : decode cL_law 186 = .ok (.aload_n 0, 1) := by decide +kernel
theorem dL_law_187 : decode cL_law 187 = .ok (.iload_n 3, 1) := by decide +kernel
theorem dL_law_188 : decode cL_law 188 = .ok (.iconst 2, 1) := by decide +kernel
theorem dL_law_189 : decode cL_law 189 = .ok (.iadd, 1) := by decide +kernel
theorem dL_law_190 : decode cL_law 190 = .ok (.iaload, 1) := by decide +kernel
theorem dL_law_191 : decode cL_law 191 = .ok (.invokevirtual 25, 3) := by decide +kernel
theorem dL_law_194 : decode cL_law 194 = .ok (.aload_n 2, 1) := by decide +kernel
theorem dL_law_195 : decode cL_law 195 = .ok (.aload_n 0, 1) := by decide +kernel
theorem dL_law_196 : decode cL_law 196 = .ok (.iload_n 3, 1) := by decide +kernel
theorem dL_law_197 : decode cL_law 197 = .ok (.iconst 1, 1) := by decide +kernel
theorem dL_law_198 : decode cL_law 198 = .ok (.iadd, 1) := by decide +kernel
theorem dL_law_199 : decode cL_law 199 = .ok (.iaload, 1) := by decide +kernel
theorem dL_law_200 : decode cL_law 200 = .ok (.aload_n 0, 1) := by decide +kernel
theorem dL_law_201 : decode cL_law 201 = .ok (.iload_n 3, 1) := by decide +kernel
theorem dL_law_202 : decode cL_law 202 = .ok (.iconst 2, 1) := by decide +kernel
theorem dL_law_203 : decode cL_law 203 = .ok (.iadd, 1) := by decide +kernel
theorem dL_law_204 : decode cL_law 204 = .ok (.iaload, 1) := by decide +kernel
theorem dL_law_205 : decode cL_law 205 = .ok (.invokevirtual 29, 3) := by decide +kernel
theorem dL_law_208 : decode cL_law 208 = .ok (.if_icmp .eq 163, 3) := by decide +kernel
theorem dL_law_211 : decode cL_law 211 = .ok (.iconst 0, 1) := by decide +kernel
theorem dL_law_212 : decode cL_law 212 = .ok (.ireturn, 1) := by decide +kernel
theorem dL_law_213 : decode cL_law 213 = .ok (.aload_n 1, 1) := by decide +kernel
theorem dL_law_214 : decode cL_law 214 = .ok (.invokevirtual 30, 3) := by decide +kernel
theorem dL_law_217 : decode cL_law 217 = .ok (.aload_n 2, 1) := by decide +kernel
theorem dL_law_218 : decode cL_law 218 = .ok (.invokevirtual 34, 3) := by decide +kernel
theorem dL_law_221 : decode cL_law 221 = .ok (.if_icmp .eq 150, 3) := by decide +kernel
theorem dL_law_224 : decode cL_law 224 = .ok (.iconst 0, 1) := by decide +kernel
theorem dL_law_225 : decode cL_law 225 = .ok (.ireturn, 1) := by decide +kernel
theorem dL_law_226 : decode cL_law 226 = .ok (.aload_n 1, 1) := by decide +kernel
theorem dL_law_227 : decode cL_law 227 = .ok (.aload_n 0, 1) := by decide +kernel
theorem dL_law_228 : decode cL_law 228 = .ok (.iload_n 3, 1) := by decide +kernel
theorem dL_law_229 : decode cL_law 229 = .ok (.iconst 1, 1) := by decide +kernel
theorem dL_law_230 : decode cL_law 230 = .ok (.iadd, 1) := by decide +kernel
theorem dL_law_231 : decode cL_law 231 = .ok (.iaload, 1) := by decide +kernel
theorem dL_law_232 : decode cL_law 232 = .ok (.aload_n 0, 1) := by decide +kernel
theorem dL_law_233 : decode cL_law 233 = .ok (.iload_n 3, 1) := by decide +kernel
theorem dL_law_234 : decode cL_law 234 = .ok (.iconst 2, 1) := by decide +kernel
theorem dL_law_235 : decode cL_law 235 = .ok (.iadd, 1) := by decide +kernel
theorem dL_law_236 : decode cL_law 236 = .ok (.iaload, 1) := by decide +kernel
theorem dL_law_237 : decode cL_law 237 = .ok (.invokevirtual 35, 3) := by decide +kernel
theorem dL_law_240 : decode cL_law 240 = .ok (.aload_n 2, 1) := by decide +kernel
theorem dL_law_241 : decode cL_law 241 = .ok (.aload_n 0, 1) := by decide +kernel
theorem dL_law_242 : decode cL_law 242 = .ok (.iload_n 3, 1) := by decide +kernel
theorem dL_law_243 : decode cL_law 243 = .ok (.iconst 1, 1) := by decide +kernel
theorem dL_law_244 : decode cL_law 244 = .ok (.iadd, 1) := by decide +kernel
theorem dL_law_245 : decode cL_law 245 = .ok (.iaload, 1) := by decide +kernel
theorem dL_law_246 : decode cL_law 246 = .ok (.aload_n 0, 1) := by decide +kernel
theorem dL_law_247 : decode cL_law 247 = .ok (.iload_n 3, 1) := by decide +kernel
theorem dL_law_248 : decode cL_law 248 = .ok (.iconst 2, 1) := by decide +kernel
theorem dL_law_249 : decode cL_law 249 = .ok (.iadd, 1) := by decide +kernel
theorem dL_law_250 : decode cL_law 250 = .ok (.iaload, 1) := by decide +kernel
theorem dL_law_251 : decode cL_law 251 = .ok (.invokevirtual 38, 3) := by decide +kernel
theorem dL_law_254 : decode cL_law 254 = .ok (.if_icmp .eq 117, 3) := by decide +kernel
theorem dL_law_257 : decode cL_law 257 = .ok (.iconst 0, 1) := by decide +kernel
theorem dL_law_258 : decode cL_law 258 = .ok (.ireturn, 1) := by decide +kernel
theorem dL_law_259 : decode cL_law 259 = .ok (.aload_n 1, 1) := by decide +kernel
theorem dL_law_260 : decode cL_law 260 = .ok (.aload_n 0, 1) := by decide +kernel
theorem dL_law_261 : decode cL_law 261 = .ok (.iload_n 3, 1) := by decide +kernel
theorem dL_law_262 : decode cL_law 262 = .ok (.iconst 1, 1) := by decide +kernel
theorem dL_law_263 : decode cL_law 263 = .ok (.iadd, 1) := by decide +kernel
theorem dL_law_264 : decode cL_law 264 = .ok (.iaload, 1) := by decide +kernel
theorem dL_law_265 : decode cL_law 265 = .ok (.invokevirtual 39, 3) := by decide +kernel
theorem dL_law_268 : decode cL_law 268 = .ok (.aload_n 2, 1) := by decide +kernel
theorem dL_law_269 : decode cL_law 269 = .ok (.aload_n 0, 1) := by decide +kernel
theorem dL_law_270 : decode cL_law 270 = .ok (.iload_n 3, 1) := by decide +kernel
theorem dL_law_271 : decode cL_law 271 = .ok (.iconst 1, 1) := by decide +kernel
theorem dL_law_272 : decode cL_law 272 = .ok (.iadd, 1) := by decide +kernel
theorem dL_law_273 : decode cL_law 273 = .ok (.iaload, 1) := by decide +kernel
theorem dL_law_274 : decode cL_law 274 = .ok (.invokevirtual 42, 3) := by decide +kernel
theorem dL_law_277 : decode cL_law 277 = .ok (.if_icmp .eq 94, 3) := by decide +kernel
theorem dL_law_280 : decode cL_law 280 = .ok (.iconst 0, 1) := by decide +kernel
theorem dL_law_281 : decode cL_law 281 = .ok (.ireturn, 1) := by decide +kernel
theorem dL_law_282 : decode cL_law 282 = .ok (.aload_n 1, 1) := by decide +kernel
theorem dL_law_283 : decode cL_law 283 = .ok (.aload_n 0, 1) := by decide +kernel
theorem dL_law_284 : decode cL_law 284 = .ok (.iload_n 3, 1) := by decide +kernel
theorem dL_law_285 : decode cL_law 285 = .ok (.iconst 1, 1) := by decide +kernel
theorem dL_law_286 : decode cL_law 286 = .ok (.iadd, 1) := by decide +kernel
theorem dL_law_287 : decode cL_law 287 = .ok (.iaload, 1) := by decide +kernel
theorem dL_law_288 : decode cL_law 288 = .ok (.aload_n 0, 1) := by decide +kernel
theorem dL_law_289 : decode cL_law 289 = .ok (.iload_n 3, 1) := by decide +kernel
theorem dL_law_290 : decode cL_law 290 = .ok (.iconst 2, 1) := by decide +kernel
theorem dL_law_291 : decode cL_law 291 = .ok (.iadd, 1) := by decide +kernel
theorem dL_law_292 : decode cL_law 292 = .ok (.iaload, 1) := by decide +kernel
theorem dL_law_293 : decode cL_law 293 = .ok (.invokevirtual 43, 3) := by decide +kernel
theorem dL_law_296 : decode cL_law 296 = .ok (.aload_n 2, 1) := by decide +kernel
theorem dL_law_297 : decode cL_law 297 = .ok (.aload_n 0, 1) := by decide +kernel
theorem dL_law_298 : decode cL_law 298 = .ok (.iload_n 3, 1) := by decide +kernel
theorem dL_law_299 : decode cL_law 299 = .ok (.iconst 1, 1) := by decide +kernel
theorem dL_law_300 : decode cL_law 300 = .ok (.iadd, 1) := by decide +kernel
theorem dL_law_301 : decode cL_law 301 = .ok (.iaload, 1) := by decide +kernel
theorem dL_law_302 : decode cL_law 302 = .ok (.aload_n 0, 1) := by decide +kernel
theorem dL_law_303 : decode cL_law 303 = .ok (.iload_n 3, 1) := by decide +kernel
theorem dL_law_304 : decode cL_law 304 = .ok (.iconst 2, 1) := by decide +kernel
theorem dL_law_305 : decode cL_law 305 = .ok (.iadd, 1) := by decide +kernel
theorem dL_law_306 : decode cL_law 306 = .ok (.iaload, 1) := by decide +kernel
theorem dL_law_307 : decode cL_law 307 = .ok (.invokevirtual 47, 3) := by decide +kernel
theorem dL_law_310 : decode cL_law 310 = .ok (.if_icmp .eq 61, 3) := by decide +kernel
theorem dL_law_313 : decode cL_law 313 = .ok (.iconst 0, 1) := by decide +kernel
theorem dL_law_314 : decode cL_law 314 = .ok (.ireturn, 1) := by decide +kernel
theorem dL_law_315 : decode cL_law 315 = .ok (.aload_n 1, 1) := by decide +kernel
theorem dL_law_316 : decode cL_law 316 = .ok (.aload_n 0, 1) := by decide +kernel
theorem dL_law_317 : decode cL_law 317 = .ok (.iload_n 3, 1) := by decide +kernel
theorem dL_law_318 : decode cL_law 318 = .ok (.iconst 1, 1) := by decide +kernel
theorem dL_law_319 : decode cL_law 319 = .ok (.iadd, 1) := by decide +kernel
theorem dL_law_320 : decode cL_law 320 = .ok (.iaload, 1) := by decide +kernel
theorem dL_law_321 : decode cL_law 321 = .ok (.aload_n 0, 1) := by decide +kernel
theorem dL_law_322 : decode cL_law 322 = .ok (.iload_n 3, 1) := by decide +kernel
theorem dL_law_323 : decode cL_law 323 = .ok (.iconst 2, 1) := by decide +kernel
theorem dL_law_324 : decode cL_law 324 = .ok (.iadd, 1) := by decide +kernel
theorem dL_law_325 : decode cL_law 325 = .ok (.iaload, 1) := by decide +kernel
theorem dL_law_326 : decode cL_law 326 = .ok (.invokevirtual 48, 3) := by decide +kernel
theorem dL_law_329 : decode cL_law 329 = .ok (.aload_n 2, 1) := by decide +kernel
theorem dL_law_330 : decode cL_law 330 = .ok (.aload_n 0, 1) := by decide +kernel
theorem dL_law_331 : decode cL_law 331 = .ok (.iload_n 3, 1) := by decide +kernel
theorem dL_law_332 : decode cL_law 332 = .ok (.iconst 1, 1) := by decide +kernel
theorem dL_law_333 : decode cL_law 333 = .ok (.iadd, 1) := by decide +kernel
theorem dL_law_334 : decode cL_law 334 = .ok (.iaload, 1) := by decide +kernel
theorem dL_law_335 : decode cL_law 335 = .ok (.aload_n 0, 1) := by decide +kernel
theorem dL_law_336 : decode cL_law 336 = .ok (.iload_n 3, 1) := by decide +kernel
theorem dL_law_337 : decode cL_law 337 = .ok (.iconst 2, 1) := by decide +kernel
theorem dL_law_338 : decode cL_law 338 = .ok (.iadd, 1) := by decide +kernel
theorem dL_law_339 : decode cL_law 339 = .ok (.iaload, 1) := by decide +kernel
theorem dL_law_340 : decode cL_law 340 = .ok (.invokevirtual 51, 3) := by decide +kernel
theorem dL_law_343 : decode cL_law 343 = .ok (.if_icmp .eq 28, 3) := by decide +kernel
theorem dL_law_346 : decode cL_law 346 = .ok (.iconst 0, 1) := by decide +kernel
theorem dL_law_347 : decode cL_law 347 = .ok (.ireturn, 1) := by decide +kernel
theorem dL_law_348 : decode cL_law 348 = .ok (.aload_n 1, 1) := by decide +kernel
theorem dL_law_349 : decode cL_law 349 = .ok (.aload_n 0, 1) := by decide +kernel
theorem dL_law_350 : decode cL_law 350 = .ok (.iload_n 3, 1) := by decide +kernel
theorem dL_law_351 : decode cL_law 351 = .ok (.iconst 1, 1) := by decide +kernel
theorem dL_law_352 : decode cL_law 352 = .ok (.iadd, 1) := by decide +kernel
theorem dL_law_353 : decode cL_law 353 = .ok (.iaload, 1) := by decide +kernel
theorem dL_law_354 : decode cL_law 354 = .ok (.invokevirtual 52, 3) := by decide +kernel
theorem dL_law_357 : decode cL_law 357 = .ok (.aload_n 2, 1) := by decide +kernel
theorem dL_law_358 : decode cL_law 358 = .ok (.aload_n 0, 1) := by decide +kernel
theorem dL_law_359 : decode cL_law 359 = .ok (.iload_n 3, 1) := by decide +kernel
theorem dL_law_360 : decode cL_law 360 = .ok (.iconst 1, 1) := by decide +kernel
theorem dL_law_361 : decode cL_law 361 = .ok (.iadd, 1) := by decide +kernel
theorem dL_law_362 : decode cL_law 362 = .ok (.iaload, 1) := by decide +kernel
theorem dL_law_363 : decode cL_law 363 = .ok (.invokevirtual 55, 3) := by decide +kernel
theorem dL_law_366 : decode cL_law 366 = .ok (.if_icmp .eq 5, 3) := by decide +kernel
theorem dL_law_369 : decode cL_law 369 = .ok (.iconst 0, 1) := by decide +kernel
theorem dL_law_370 : decode cL_law 370 = .ok (.ireturn, 1) := by decide +kernel
theorem dL_law_371 : decode cL_law 371 = .ok (.iinc 3 5, 3) := by decide +kernel
theorem dL_law_374 : decode cL_law 374 = .ok (.goto (-356), 3) := by decide +kernel
theorem dL_law_377 : decode cL_law 377 = .ok (.iconst 1, 1) := by decide +kernel
theorem dL_law_378 : decode cL_law 378 = .ok (.ireturn, 1) := by decide +kernel
end
section
theorem dX4_init_0 : decode cX4_init 0 = .ok (.aload_n 0, 1) := by decide +kernel
theorem dX4_init_1 : decode cX4_init 1 = .ok (.invokespecial 1, 3) := by decide +kernel
theorem dX4_init_4 : decode cX4_init 4 = .ok (.aload_n 0, 1) := by decide +kernel
theorem dX4_init_5 : decode cX4_init 5 = .ok (.iconst 0, 1) := by decide +kernel
theorem dX4_init_6 : decode cX4_init 6 = .ok (.putfield 7, 3) := by decide +kernel
theorem dX4_init_9 : decode cX4_init 9 = .ok (.aload_n 0, 1) := by decide +kernel
theorem dX4_init_10 : decode cX4_init 10 = .ok (.bipush 100, 2) := by decide +kernel
theorem dX4_init_12 : decode cX4_init 12 = .ok (.newarray .int, 2) := by decide +kernel
theorem dX4_init_14 : decode cX4_init 14 = .ok (.putfield 13, 3) := by decide +kernel
theorem dX4_init_17 : decode cX4_init 17 = .ok (.aload_n 0, 1) := by decide +kernel
theorem dX4_init_18 : decode cX4_init 18 = .ok (.bipush 100, 2) := by decide +kernel
theorem dX4_init_20 : decode cX4_init 20 = .ok (.newarray .int, 2) := by decide +kernel
theorem dX4_init_22 : decode cX4_init 22 = .ok (.putfield 17, 3) := by decide +kernel
theorem dX4_init_25 : decode cX4_init 25 = .ok (.aload_n 0, 1) := by decide +kernel
theorem dX4_init_26 : decode cX4_init 26 = .ok (.iconst 0, 1) := by decide +kernel
theorem dX4_init_27 : decode cX4_init 27 = .ok (.putfield 20, 3) := by decide +kernel
theorem dX4_init_30 : decode cX4_init 30 = .ok (.aload_n 0, 1) := by decide +kernel
theorem dX4_init_31 : decode cX4_init 31 = .ok (.iconst 0, 1) := by decide +kernel
theorem dX4_init_32 : decode cX4_init 32 = .ok (.putfield 23, 3) := by decide +kernel
theorem dX4_init_35 : decode cX4_init 35 = .ok (.aload_n 0, 1) := by decide +kernel
theorem dX4_init_36 : decode cX4_init 36 = .ok (.iconst 0, 1) := by decide +kernel
theorem dX4_init_37 : decode cX4_init 37 = .ok (.putfield 26, 3) := by decide +kernel
theorem dX4_init_40 : decode cX4_init 40 = .ok (.aload_n 0, 1) := by decide +kernel
theorem dX4_init_41 : decode cX4_init 41 = .ok (.bipush 100, 2) := by decide +kernel
theorem dX4_init_43 : decode cX4_init 43 = .ok (.newarray .int, 2) := by decide +kernel
theorem dX4_init_45 : decode cX4_init 45 = .ok (.putfield 29, 3) := by decide +kernel
theorem dX4_init_48 : decode cX4_init 48 = .ok (.aload_n 0, 1) := by decide +kernel
theorem dX4_init_49 : decode cX4_init 49 = .ok (.bipush 100, 2) := by decide +kernel
theorem dX4_init_51 : decode cX4_init 51 = .ok (.newarray .int, 2) := by decide +kernel
theorem dX4_init_53 : decode cX4_init 53 = .ok (.putfield 32, 3) := by decide +kernel
theorem dX4_init_56 : decode cX4_init 56 = .ok (.aload_n 0, 1) := by decide +kernel
theorem dX4_init_57 : decode cX4_init 57 = .ok (.sipush 10201, 3) := by decide +kernel
theorem dX4_init_60 : decode cX4_init 60 = .ok (.newarray .boolean, 2) := by decide +kernel
theorem dX4_init_62 : decode cX4_init 62 = .ok (.putfield 35, 3) := by decide +kernel
theorem dX4_init_65 : decode cX4_init 65 = .ok (.aload_n 0, 1) := by decide +kernel
theorem dX4_init_66 : decode cX4_init 66 = .ok (.iconst 0, 1) := by decide +kernel
theorem dX4_init_67 : decode cX4_init 67 = .ok (.putfield 39, 3) := by decide +kernel
theorem dX4_init_70 : decode cX4_init 70 = .ok (.aload_n 0, 1) := by decide +kernel
theorem dX4_init_71 : decode cX4_init 71 = .ok (.bipush 100, 2) := by decide +kernel
theorem dX4_init_73 : decode cX4_init 73 = .ok (.newarray .int, 2) := by decide +kernel
theorem dX4_init_75 : decode cX4_init 75 = .ok (.putfield 42, 3) := by decide +kernel
theorem dX4_init_78 : decode cX4_init 78 = .ok (.aload_n 0, 1) := by decide +kernel
theorem dX4_init_79 : decode cX4_init 79 = .ok (.bipush 100, 2) := by decide +kernel
theorem dX4_init_81 : decode cX4_init 81 = .ok (.newarray .int, 2) := by decide +kernel
theorem dX4_init_83 : decode cX4_init 83 = .ok (.putfield 45, 3) := by decide +kernel
theorem dX4_init_86 : decode cX4_init 86 = .ok (.return_, 1) := by decide +kernel
theorem dX4_folded_0 : decode cX4_folded 0 = .ok (.iload_n 1, 1) := by decide +kernel
theorem dX4_folded_1 : decode cX4_folded 1 = .ok (.ifCond .ne 22, 3) := by decide +kernel
theorem dX4_folded_4 : decode cX4_folded 4 = .ok (.iload_n 0, 1) := by decide +kernel
theorem dX4_folded_5 : decode cX4_folded 5 = .ok (.bipush 97, 2) := by decide +kernel
theorem dX4_folded_7 : decode cX4_folded 7 = .ok (.if_icmp .lt 16, 3) := by decide +kernel
theorem dX4_folded_10 : decode cX4_folded 10 = .ok (.iload_n 0, 1) := by decide +kernel
theorem dX4_folded_11 : decode cX4_folded 11 = .ok (.bipush 122, 2) := by decide +kernel
theorem dX4_folded_13 : decode cX4_folded 13 = .ok (.if_icmp .gt 10, 3) := by decide +kernel
theorem dX4_folded_16 : decode cX4_folded 16 = .ok (.iload_n 0, 1) := by decide +kernel
theorem dX4_folded_17 : decode cX4_folded 17 = .ok (.bipush 32, 2) := by decide +kernel
theorem dX4_folded_19 : decode cX4_folded 19 = .ok (.isub, 1) := by decide +kernel
theorem dX4_folded_20 : decode cX4_folded 20 = .ok (.goto 4, 3) := by decide +kernel
theorem dX4_folded_23 : decode cX4_folded 23 = .ok (.iload_n 0, 1) := by decide +kernel
theorem dX4_folded_24 : decode cX4_folded 24 = .ok (.ireturn, 1) := by decide +kernel
theorem dX4_digits_0 : decode cX4_digits 0 = .ok (.iconst 0, 1) := by decide +kernel
theorem dX4_digits_1 : decode cX4_digits 1 = .ok (.istore_n 2, 1) := by decide +kernel
theorem dX4_digits_2 : decode cX4_digits 2 = .ok (.iload_n 2, 1) := by decide +kernel
theorem dX4_digits_3 : decode cX4_digits 3 = .ok (.iload_n 1, 1) := by decide +kernel
theorem dX4_digits_4 : decode cX4_digits 4 = .ok (.if_icmp .ge 25, 3) := by decide +kernel
theorem dX4_digits_7 : decode cX4_digits 7 = .ok (.aload_n 0, 1) := by decide +kernel
theorem dX4_digits_8 : decode cX4_digits 8 = .ok (.iload_n 2, 1) := by decide +kernel
theorem dX4_digits_9 : decode cX4_digits 9 = .ok (.iaload, 1) := by decide +kernel
theorem dX4_digits_10 : decode cX4_digits 10 = .ok (.bipush 48, 2) := by decide +kernel
theorem dX4_digits_12 : decode cX4_digits 12 = .ok (.if_icmp .lt 17, 3) := by decide +kernel
theorem dX4_digits_15 : decode cX4_digits 15 = .ok (.aload_n 0, 1) := by decide +kernel
theorem dX4_digits_16 : decode cX4_digits 16 = .ok (.iload_n 2, 1) := by decide +kernel
theorem dX4_digits_17 : decode cX4_digits 17 = .ok (.iaload, 1) := by decide +kernel
theorem dX4_digits_18 : decode cX4_digits 18 = .ok (.bipush 57, 2) := by decide +kernel
theorem dX4_digits_20 : decode cX4_digits 20 = .ok (.if_icmp .gt 9, 3) := by decide +kernel
theorem dX4_digits_23 : decode cX4_digits 23 = .ok (.iinc 2 1, 3) := by decide +kernel
theorem dX4_digits_26 : decode cX4_digits 26 = .ok (.goto (-24), 3) := by decide +kernel
theorem dX4_digits_29 : decode cX4_digits 29 = .ok (.iload_n 2, 1) := by decide +kernel
theorem dX4_digits_30 : decode cX4_digits 30 = .ok (.ireturn, 1) := by decide +kernel
theorem dX4_zeros_0 : decode cX4_zeros 0 = .ok (.iconst 0, 1) := by decide +kernel
theorem dX4_zeros_1 : decode cX4_zeros 1 = .ok (.istore_n 2, 1) := by decide +kernel
theorem dX4_zeros_2 : decode cX4_zeros 2 = .ok (.iload_n 2, 1) := by decide +kernel
theorem dX4_zeros_3 : decode cX4_zeros 3 = .ok (.iload_n 1, 1) := by decide +kernel
theorem dX4_zeros_4 : decode cX4_zeros 4 = .ok (.if_icmp .ge 17, 3) := by decide +kernel
theorem dX4_zeros_7 : decode cX4_zeros 7 = .ok (.aload_n 0, 1) := by decide +kernel
theorem dX4_zeros_8 : decode cX4_zeros 8 = .ok (.iload_n 2, 1) := by decide +kernel
theorem dX4_zeros_9 : decode cX4_zeros 9 = .ok (.iaload, 1) := by decide +kernel
theorem dX4_zeros_10 : decode cX4_zeros 10 = .ok (.bipush 48, 2) := by decide +kernel
theorem dX4_zeros_12 : decode cX4_zeros 12 = .ok (.if_icmp .ne 9, 3) := by decide +kernel
theorem dX4_zeros_15 : decode cX4_zeros 15 = .ok (.iinc 2 1, 3) := by decide +kernel
theorem dX4_zeros_18 : decode cX4_zeros 18 = .ok (.goto (-16), 3) := by decide +kernel
theorem dX4_zeros_21 : decode cX4_zeros 21 = .ok (.iload_n 2, 1) := by decide +kernel
theorem dX4_zeros_22 : decode cX4_zeros 22 = .ok (.ireturn, 1) := by decide +kernel
theorem dX4_byNumbers_0 : decode cX4_byNumbers 0 = .ok (.aload_n 0, 1) := by decide +kernel
theorem dX4_byNumbers_1 : decode cX4_byNumbers 1 = .ok (.getfield 13, 3) := by decide +kernel
theorem dX4_byNumbers_4 : decode cX4_byNumbers 4 = .ok (.aload_n 0, 1) := by decide +kernel
theorem dX4_byNumbers_5 : decode cX4_byNumbers 5 = .ok (.getfield 20, 3) := by decide +kernel
theorem dX4_byNumbers_8 : decode cX4_byNumbers 8 = .ok (.invokestatic 48, 3) := by decide +kernel
theorem dX4_byNumbers_11 : decode cX4_byNumbers 11 = .ok (.istore_n 1, 1) := by decide +kernel
theorem dX4_byNumbers_12 : decode cX4_byNumbers 12 = .ok (.aload_n 0, 1) := by decide +kernel
theorem dX4_byNumbers_13 : decode cX4_byNumbers 13 = .ok (.getfield 17, 3) := by decide +kernel
theorem dX4_byNumbers_16 : decode cX4_byNumbers 16 = .ok (.aload_n 0, 1) := by decide +kernel
theorem dX4_byNumbers_17 : decode cX4_byNumbers 17 = .ok (.getfield 23, 3) := by decide +kernel
theorem dX4_byNumbers_20 : decode cX4_byNumbers 20 = .ok (.invokestatic 48, 3) := by decide +kernel
theorem dX4_byNumbers_23 : decode cX4_byNumbers 23 = .ok (.istore_n 2, 1) := by decide +kernel
theorem dX4_byNumbers_24 : decode cX4_byNumbers 24 = .ok (.iload_n 1, 1) := by decide +kernel
theorem dX4_byNumbers_25 : decode cX4_byNumbers 25 = .ok (.ifCond .eq 7, 3) := by decide +kernel
theorem dX4_byNumbers_28 : decode cX4_byNumbers 28 = .ok (.iload_n 2, 1) := by decide +kernel
theorem dX4_byNumbers_29 : decode cX4_byNumbers 29 = .ok (.ifCond .ne 22, 3) := by decide +kernel
theorem dX4_byNumbers_32 : decode cX4_byNumbers 32 = .ok (.iload_n 1, 1) := by decide +kernel
theorem dX4_byNumbers_33 : decode cX4_byNumbers 33 = .ok (.iload_n 2, 1) := by decide +kernel
theorem dX4_byNumbers_34 : decode cX4_byNumbers 34 = .ok (.if_icmp .ne 7, 3) := by decide +kernel
theorem dX4_byNumbers_37 : decode cX4_byNumbers 37 = .ok (.iconst 0, 1) := by decide +kernel
theorem dX4_byNumbers_38 : decode cX4_byNumbers 38 = .ok (.goto 12, 3) := by decide +kernel
theorem dX4_byNumbers_41 : decode cX4_byNumbers 41 = .ok (.iload_n 1, 1) := by decide +kernel
theorem dX4_byNumbers_42 : decode cX4_byNumbers 42 = .ok (.ifCond .ne 7, 3) := by decide +kernel
theorem dX4_byNumbers_45 : decode cX4_byNumbers 45 = .ok (.iconst 1, 1) := by decide +kernel
theorem dX4_byNumbers_46 : decode cX4_byNumbers 46 = .ok (.goto 4, 3) := by decide +kernel
theorem dX4_byNumbers_49 : decode cX4_byNumbers 49 = .ok (.iconst (-1), 1) := by decide +kernel
theorem dX4_byNumbers_50 : decode cX4_byNumbers 50 = .ok (.ireturn, 1) := by decide +kernel
theorem dX4_byNumbers_51 : decode cX4_byNumbers 51 = .ok (.aload_n 0, 1) := by decide +kernel
theorem dX4_byNumbers_52 : decode cX4_byNumbers 52 = .ok (.getfield 13, 3) := by decide +kernel
theorem dX4_byNumbers_55 : decode cX4_byNumbers 55 = .ok (.iload_n 1, 1) := by decide +kernel
theorem dX4_byNumbers_56 : decode cX4_byNumbers 56 = .ok (.invokestatic 52, 3) := by decide +kernel
theorem dX4_byNumbers_59 : decode cX4_byNumbers 59 = .ok (.istore_n 3, 1) := by decide +kernel
theorem dX4_byNumbers_60 : decode cX4_byNumbers 60 = .ok (.aload_n 0, 1) := by decide +kernel
theorem dX4_byNumbers_61 : decode cX4_byNumbers 61 = .ok (.getfield 17, 3) := by decide +kernel
theorem dX4_byNumbers_64 : decode cX4_byNumbers 64 = .ok (.iload_n 2, 1) := by decide +kernel
theorem dX4_byNumbers_65 : decode cX4_byNumbers 65 = .ok (.invokestatic 52, 3) := by decide +kernel
theorem dX4_byNumbers_68 : decode cX4_byNumbers 68 = .ok (.istore 4, 2) := by decide +kernel
theorem dX4_byNumbers_70 : decode cX4_byNumbers 70 = .ok (.iload_n 1, 1) := by decide +kernel
theorem dX4_byNumbers_71 : decode cX4_byNumbers 71 = .ok (.iload_n 3, 1) := by decide +kernel
theorem dX4_byNumbers_72 : decode cX4_byNumbers 72 = .ok (.isub, 1) := by decide +kernel
theorem dX4_byNumbers_73 : decode cX4_byNumbers 73 = .ok (.iload_n 2, 1) := by decide +kernel
theorem dX4_byNumbers_74 : decode cX4_byNumbers 74 = .ok (.iload 4, 2) := by decide +kernel
theorem dX4_byNumbers_76 : decode cX4_byNumbers 76 = .ok (.isub, 1) := by decide +kernel
theorem dX4_byNumbers_77 : decode cX4_byNumbers 77 = .ok (.if_icmp .eq 19, 3) := by decide +kernel
theorem dX4_byNumbers_80 : decode cX4_byNumbers 80 = .ok (.iload_n 1, 1) := by decide +kernel
theorem dX4_byNumbers_81 : decode cX4_byNumbers 81 = .ok (.iload_n 3, 1) := by decide +kernel
theorem dX4_byNumbers_82 : decode cX4_byNumbers 82 = .ok (.isub, 1) := by decide +kernel
theorem dX4_byNumbers_83 : decode cX4_byNumbers 83 = .ok (.iload_n 2, 1) := by decide +kernel
theorem dX4_byNumbers_84 : decode cX4_byNumbers 84 = .ok (.iload 4, 2) := by decide +kernel
theorem dX4_byNumbers_86 : decode cX4_byNumbers 86 = .ok (.isub, 1) := by decide +kernel
theorem dX4_byNumbers_87 : decode cX4_byNumbers 87 = .ok (.if_icmp .ge 7, 3) := by decide +kernel
theorem dX4_byNumbers_90 : decode cX4_byNumbers 90 = .ok (.iconst (-1), 1) := by decide +kernel
theorem dX4_byNumbers_91 : decode cX4_byNumbers 91 = .ok (.goto 4, 3) := by decide +kernel
theorem dX4_byNumbers_94 : decode cX4_byNumbers 94 = .ok (.iconst 1, 1) := by decide +kernel
theorem dX4_byNumbers_95 : decode cX4_byNumbers 95 = .ok (.ireturn, 1) := by decide +kernel
theorem dX4_byNumbers_96 : decode cX4_byNumbers 96 = .ok (.iload_n 3, 1) := by decide +kernel
theorem dX4_byNumbers_97 : decode cX4_byNumbers 97 = .ok (.iload_n 1, 1) := by decide +kernel
theorem dX4_byNumbers_98 : decode cX4_byNumbers 98 = .ok (.if_icmp .ge 50, 3) := by decide +kernel
theorem dX4_byNumbers_101 : decode cX4_byNumbers 101 = .ok (.aload_n 0, 1) := by decide +kernel
theorem dX4_byNumbers_102 : decode cX4_byNumbers 102 = .ok (.getfield 13, 3) := by decide +kernel
theorem dX4_byNumbers_105 : decode cX4_byNumbers 105 = .ok (.iload_n 3, 1) := by decide +kernel
theorem dX4_byNumbers_106 : decode cX4_byNumbers 106 = .ok (.iaload, 1) := by decide +kernel
theorem dX4_byNumbers_107 : decode cX4_byNumbers 107 = .ok (.aload_n 0, 1) := by decide +kernel
theorem dX4_byNumbers_108 : decode cX4_byNumbers 108 = .ok (.getfield 17, 3) := by decide +kernel
theorem dX4_byNumbers_111 : decode cX4_byNumbers 111 = .ok (.iload 4, 2) := by decide +kernel
theorem dX4_byNumbers_113 : decode cX4_byNumbers 113 = .ok (.iaload, 1) := by decide +kernel
theorem dX4_byNumbers_114 : decode cX4_byNumbers 114 = .ok (.if_icmp .eq 25, 3) := by decide +kernel
theorem dX4_byNumbers_117 : decode cX4_byNumbers 117 = .ok (.aload_n 0, 1) := by decide +kernel
theorem dX4_byNumbers_118 : decode cX4_byNumbers 118 = .ok (.getfield 13, 3) := by decide +kernel
theorem dX4_byNumbers_121 : decode cX4_byNumbers 121 = .ok (.iload_n 3, 1) := by decide +kernel
theorem dX4_byNumbers_122 : decode cX4_byNumbers 122 = .ok (.iaload, 1) := by decide +kernel
theorem dX4_byNumbers_123 : decode cX4_byNumbers 123 = .ok (.aload_n 0, 1) := by decide +kernel
theorem dX4_byNumbers_124 : decode cX4_byNumbers 124 = .ok (.getfield 17, 3) := by decide +kernel
theorem dX4_byNumbers_127 : decode cX4_byNumbers 127 = .ok (.iload 4, 2) := by decide +kernel
theorem dX4_byNumbers_129 : decode cX4_byNumbers 129 = .ok (.iaload, 1) := by decide +kernel
theorem dX4_byNumbers_130 : decode cX4_byNumbers 130 = .ok (.if_icmp .ge 7, 3) := by decide +kernel
theorem dX4_byNumbers_133 : decode cX4_byNumbers 133 = .ok (.iconst (-1), 1) := by decide +kernel
theorem dX4_byNumbers_134 : decode cX4_byNumbers 134 = .ok (.goto 4, 3) := by decide +kernel
theorem dX4_byNumbers_137 : decode cX4_byNumbers 137 = .ok (.iconst 1, 1) := by decide +kernel
theorem dX4_byNumbers_138 : decode cX4_byNumbers 138 = .ok (.ireturn, 1) := by decide +kernel
theorem dX4_byNumbers_139 : decode cX4_byNumbers 139 = .ok (.iinc 3 1, 3) := by decide +kernel
theorem dX4_byNumbers_142 : decode cX4_byNumbers 142 = .ok (.iinc 4 1, 3) := by decide +kernel
theorem dX4_byNumbers_145 : decode cX4_byNumbers 145 = .ok (.goto (-49), 3) := by decide +kernel
theorem dX4_byNumbers_148 : decode cX4_byNumbers 148 = .ok (.iconst 0, 1) := by decide +kernel
theorem dX4_byNumbers_149 : decode cX4_byNumbers 149 = .ok (.ireturn, 1) := by decide +kernel
theorem dX4_compare_0 : decode cX4_compare 0 = .ok (.iload_n 1, 1) := by decide +kernel
theorem dX4_compare_1 : decode cX4_compare 1 = .ok (.iconst 2, 1) := by decide +kernel
theorem dX4_compare_2 : decode cX4_compare 2 = .ok (.if_icmp .ne 8, 3) := by decide +kernel
theorem dX4_compare_5 : decode cX4_compare 5 = .ok (.aload_n 0, 1) := by decide +kernel
theorem dX4_compare_6 : decode cX4_compare 6 = .ok (.invokevirtual 55, 3) := by decide +kernel
theorem dX4_compare_9 : decode cX4_compare 9 = .ok (.ireturn, 1) := by decide +kernel
theorem dX4_compare_10 : decode cX4_compare 10 = .ok (.iconst 0, 1) := by decide +kernel
theorem dX4_compare_11 : decode cX4_compare 11 = .ok (.istore_n 2, 1) := by decide +kernel
theorem dX4_compare_12 : decode cX4_compare 12 = .ok (.iload_n 2, 1) := by decide +kernel
theorem dX4_compare_13 : decode cX4_compare 13 = .ok (.aload_n 0, 1) := by decide +kernel
theorem dX4_compare_14 : decode cX4_compare 14 = .ok (.getfield 20, 3) := by decide +kernel
theorem dX4_compare_17 : decode cX4_compare 17 = .ok (.if_icmp .ge 58, 3) := by decide +kernel
theorem dX4_compare_20 : decode cX4_compare 20 = .ok (.iload_n 2, 1) := by decide +kernel
theorem dX4_compare_21 : decode cX4_compare 21 = .ok (.aload_n 0, 1) := by decide +kernel
theorem dX4_compare_22 : decode cX4_compare 22 = .ok (.getfield 23, 3) := by decide +kernel
theorem dX4_compare_25 : decode cX4_compare 25 = .ok (.if_icmp .ge 50, 3) := by decide +kernel
theorem dX4_compare_28 : decode cX4_compare 28 = .ok (.aload_n 0, 1) := by decide +kernel
theorem dX4_compare_29 : decode cX4_compare 29 = .ok (.getfield 13, 3) := by decide +kernel
theorem dX4_compare_32 : decode cX4_compare 32 = .ok (.iload_n 2, 1) := by decide +kernel
theorem dX4_compare_33 : decode cX4_compare 33 = .ok (.iaload, 1) := by decide +kernel
theorem dX4_compare_34 : decode cX4_compare 34 = .ok (.iload_n 1, 1) := by decide +kernel
theorem dX4_compare_35 : decode cX4_compare 35 = .ok (.invokestatic 59, 3) := by decide +kernel
theorem dX4_compare_38 : decode cX4_compare 38 = .ok (.istore_n 3, 1) := by decide +kernel
theorem dX4_compare_39 : decode cX4_compare 39 = .ok (.aload_n 0, 1) := by decide +kernel
theorem dX4_compare_40 : decode cX4_compare 40 = .ok (.getfield 17, 3) := by decide +kernel
theorem dX4_compare_43 : decode cX4_compare 43 = .ok (.iload_n 2, 1) := by decide +kernel
theorem dX4_compare_44 : decode cX4_compare 44 = .ok (.iaload, 1) := by decide +kernel
theorem dX4_compare_45 : decode cX4_compare 45 = .ok (.iload_n 1, 1) := by decide +kernel
theorem dX4_compare_46 : decode cX4_compare 46 = .ok (.invokestatic 59, 3) := by decide +kernel
theorem dX4_compare_49 : decode cX4_compare 49 = .ok (.istore 4, 2) := by decide +kernel
theorem dX4_compare_51 : decode cX4_compare 51 = .ok (.iload_n 3, 1) := by decide +kernel
theorem dX4_compare_52 : decode cX4_compare 52 = .ok (.iload 4, 2) := by decide +kernel
theorem dX4_compare_54 : decode cX4_compare 54 = .ok (.if_icmp .eq 15, 3) := by decide +kernel
theorem dX4_compare_57 : decode cX4_compare 57 = .ok (.iload_n 3, 1) := by decide +kernel
theorem dX4_compare_58 : decode cX4_compare 58 = .ok (.iload 4, 2) := by decide +kernel
theorem dX4_compare_60 : decode cX4_compare 60 = .ok (.if_icmp .ge 7, 3) := by decide +kernel
theorem dX4_compare_63 : decode cX4_compare 63 = .ok (.iconst (-1), 1) := by decide +kernel
theorem dX4_compare_64 : decode cX4_compare 64 = .ok (.goto 4, 3) := by decide +kernel
theorem dX4_compare_67 : decode cX4_compare 67 = .ok (.iconst 1, 1) := by decide +kernel
theorem dX4_compare_68 : decode cX4_compare 68 = .ok (.ireturn, 1) := by decide +kernel
theorem dX4_compare_69 : decode cX4_compare 69 = .ok (.iinc 2 1, 3) := by decide +kernel
theorem dX4_compare_72 : decode cX4_compare 72 = .ok (.goto (-60), 3) := by decide +kernel
theorem dX4_compare_75 : decode cX4_compare 75 = .ok (.aload_n 0, 1) := by decide +kernel
theorem dX4_compare_76 : decode cX4_compare 76 = .ok (.getfield 20, 3) := by decide +kernel
theorem dX4_compare_79 : decode cX4_compare 79 = .ok (.aload_n 0, 1) := by decide +kernel
theorem dX4_compare_80 : decode cX4_compare 80 = .ok (.getfield 23, 3) := by decide +kernel
theorem dX4_compare_83 : decode cX4_compare 83 = .ok (.if_icmp .ge 7, 3) := by decide +kernel
theorem dX4_compare_86 : decode cX4_compare 86 = .ok (.iconst (-1), 1) := by decide +kernel
theorem dX4_compare_87 : decode cX4_compare 87 = .ok (.goto 19, 3) := by decide +kernel
theorem dX4_compare_90 : decode cX4_compare 90 = .ok (.aload_n 0, 1) := by decide +kernel
theorem dX4_compare_91 : decode cX4_compare 91 = .ok (.getfield 20, 3) := by decide +kernel
theorem dX4_compare_94 : decode cX4_compare 94 = .ok (.aload_n 0, 1) := by decide +kernel
theorem dX4_compare_95 : decode cX4_compare 95 = .ok (.getfield 23, 3) := by decide +kernel
theorem dX4_compare_98 : decode cX4_compare 98 = .ok (.if_icmp .le 7, 3) := by decide +kernel
theorem dX4_compare_101 : decode cX4_compare 101 = .ok (.iconst 1, 1) := by decide +kernel
theorem dX4_compare_102 : decode cX4_compare 102 = .ok (.goto 4, 3) := by decide +kernel
theorem dX4_compare_105 : decode cX4_compare 105 = .ok (.iconst 0, 1) := by decide +kernel
theorem dX4_compare_106 : decode cX4_compare 106 = .ok (.ireturn, 1) := by decide +kernel
theorem dX4_contains_0 : decode cX4_contains 0 = .ok (.iconst 0, 1) := by decide +kernel
theorem dX4_contains_1 : decode cX4_contains 1 = .ok (.istore_n 2, 1) := by decide +kernel
theorem dX4_contains_2 : decode cX4_contains 2 = .ok (.iload_n 2, 1) := by decide +kernel
theorem dX4_contains_3 : decode cX4_contains 3 = .ok (.aload_n 0, 1) := by decide +kernel
theorem dX4_contains_4 : decode cX4_contains 4 = .ok (.getfield 23, 3) := by decide +kernel
theorem dX4_contains_7 : decode cX4_contains 7 = .ok (.iadd, 1) := by decide +kernel
theorem dX4_contains_8 : decode cX4_contains 8 = .ok (.aload_n 0, 1) := by decide +kernel
theorem dX4_contains_9 : decode cX4_contains 9 = .ok (.getfield 20, 3) := by decide +kernel
theorem dX4_contains_12 : decode cX4_contains 12 = .ok (.if_icmp .gt 82, 3) := by decide +kernel
theorem dX4_contains_15 : decode cX4_contains 15 = .ok (.iconst 0, 1) := by decide +kernel
theorem dX4_contains_16 : decode cX4_contains 16 = .ok (.istore_n 3, 1) := by decide +kernel
theorem dX4_contains_17 : decode cX4_contains 17 = .ok (.iload_n 3, 1) := by decide +kernel
theorem dX4_contains_18 : decode cX4_contains 18 = .ok (.aload_n 0, 1) := by decide +kernel
theorem dX4_contains_19 : decode cX4_contains 19 = .ok (.getfield 23, 3) := by decide +kernel
theorem dX4_contains_22 : decode cX4_contains 22 = .ok (.if_icmp .ge 34, 3) := by decide +kernel
theorem dX4_contains_25 : decode cX4_contains 25 = .ok (.aload_n 0, 1) := by decide +kernel
theorem dX4_contains_26 : decode cX4_contains 26 = .ok (.getfield 13, 3) := by decide +kernel
theorem dX4_contains_29 : decode cX4_contains 29 = .ok (.iload_n 2, 1) := by decide +kernel
theorem dX4_contains_30 : decode cX4_contains 30 = .ok (.iload_n 3, 1) := by decide +kernel
theorem dX4_contains_31 : decode cX4_contains 31 = .ok (.iadd, 1) := by decide +kernel
theorem dX4_contains_32 : decode cX4_contains 32 = .ok (.iaload, 1) := by decide +kernel
theorem dX4_contains_33 : decode cX4_contains 33 = .ok (.iload_n 1, 1) := by decide +kernel
theorem dX4_contains_34 : decode cX4_contains 34 = .ok (.invokestatic 59, 3) := by decide +kernel
theorem dX4_contains_37 : decode cX4_contains 37 = .ok (.aload_n 0, 1) := by decide +kernel
theorem dX4_contains_38 : decode cX4_contains 38 = .ok (.getfield 17, 3) := by decide +kernel
theorem dX4_contains_41 : decode cX4_contains 41 = .ok (.iload_n 3, 1) := by decide +kernel
theorem dX4_contains_42 : decode cX4_contains 42 = .ok (.iaload, 1) := by decide +kernel
theorem dX4_contains_43 : decode cX4_contains 43 = .ok (.iload_n 1, 1) := by decide +kernel
theorem dX4_contains_44 : decode cX4_contains 44 = .ok (.invokestatic 59, 3) := by decide +kernel
theorem dX4_contains_47 : decode cX4_contains 47 = .ok (.if_icmp .ne 9, 3) := by decide +kernel
theorem dX4_contains_50 : decode cX4_contains 50 = .ok (.iinc 3 1, 3) := by decide +kernel
theorem dX4_contains_53 : decode cX4_contains 53 = .ok (.goto (-36), 3) := by decide +kernel
theorem dX4_contains_56 : decode cX4_contains 56 = .ok (.iload_n 3, 1) := by decide +kernel
theorem dX4_contains_57 : decode cX4_contains 57 = .ok (.aload_n 0, 1) := by decide +kernel
theorem dX4_contains_58 : decode cX4_contains 58 = .ok (.getfield 23, 3) := by decide +kernel
theorem dX4_contains_61 : decode cX4_contains 61 = .ok (.if_icmp .ne 27, 3) := by decide +kernel
theorem dX4_contains_64 : decode cX4_contains 64 = .ok (.aload_n 0, 1) := by decide +kernel
theorem dX4_contains_65 : decode cX4_contains 65 = .ok (.getfield 42, 3) := by decide +kernel
theorem dX4_contains_68 : decode cX4_contains 68 = .ok (.iconst 0, 1) := by decide +kernel
theorem dX4_contains_69 : decode cX4_contains 69 = .ok (.iload_n 2, 1) := by decide +kernel
theorem dX4_contains_70 : decode cX4_contains 70 = .ok (.iastore, 1) := by decide +kernel
theorem dX4_contains_71 : decode cX4_contains 71 = .ok (.aload_n 0, 1) := by decide +kernel
theorem dX4_contains_72 : decode cX4_contains 72 = .ok (.getfield 45, 3) := by decide +kernel
theorem dX4_contains_75 : decode cX4_contains 75 = .ok (.iconst 0, 1) := by decide +kernel
theorem dX4_contains_76 : decode cX4_contains 76 = .ok (.aload_n 0, 1) := by decide +kernel
theorem dX4_contains_77 : decode cX4_contains 77 = .ok (.getfield 23, 3) := by decide +kernel
theorem dX4_contains_80 : decode cX4_contains 80 = .ok (.iastore, 1) := by decide +kernel
theorem dX4_contains_81 : decode cX4_contains 81 = .ok (.aload_n 0, 1) := by decide +kernel
theorem dX4_contains_82 : decode cX4_contains 82 = .ok (.iconst 1, 1) := by decide +kernel
theorem dX4_contains_83 : decode cX4_contains 83 = .ok (.putfield 39, 3) := by decide +kernel
theorem dX4_contains_86 : decode cX4_contains 86 = .ok (.iconst 1, 1) := by decide +kernel
theorem dX4_contains_87 : decode cX4_contains 87 = .ok (.ireturn, 1) := by decide +kernel
theorem dX4_contains_88 : decode cX4_contains 88 = .ok (.iinc 2 1, 3) := by decide +kernel
theorem dX4_contains_91 : decode cX4_contains 91 = .ok (.goto (-89), 3) := by decide +kernel
theorem dX4_contains_94 : decode cX4_contains 94 = .ok (.iconst 0, 1) := by decide +kernel
theorem dX4_contains_95 : decode cX4_contains 95 = .ok (.ireturn, 1) := by decide +kernel
theorem dX4_findSigns_0 : decode cX4_findSigns 0 = .ok (.aload_n 0, 1) := by decide +kernel
theorem dX4_findSigns_1 : decode cX4_findSigns 1 = .ok (.iconst 0, 1) := by decide +kernel
theorem dX4_findSigns_2 : decode cX4_findSigns 2 = .ok (.putfield 26, 3) := by decide +kernel
theorem dX4_findSigns_5 : decode cX4_findSigns 5 = .ok (.iconst 0, 1) := by decide +kernel
theorem dX4_findSigns_6 : decode cX4_findSigns 6 = .ok (.istore_n 1, 1) := by decide +kernel
theorem dX4_findSigns_7 : decode cX4_findSigns 7 = .ok (.iload_n 1, 1) := by decide +kernel
theorem dX4_findSigns_8 : decode cX4_findSigns 8 = .ok (.aload_n 0, 1) := by decide +kernel
theorem dX4_findSigns_9 : decode cX4_findSigns 9 = .ok (.getfield 23, 3) := by decide +kernel
theorem dX4_findSigns_12 : decode cX4_findSigns 12 = .ok (.if_icmp .ge 116, 3) := by decide +kernel
theorem dX4_findSigns_15 : decode cX4_findSigns 15 = .ok (.aload_n 0, 1) := by decide +kernel
theorem dX4_findSigns_16 : decode cX4_findSigns 16 = .ok (.getfield 17, 3) := by decide +kernel
theorem dX4_findSigns_19 : decode cX4_findSigns 19 = .ok (.iload_n 1, 1) := by decide +kernel
theorem dX4_findSigns_20 : decode cX4_findSigns 20 = .ok (.iaload, 1) := by decide +kernel
theorem dX4_findSigns_21 : decode cX4_findSigns 21 = .ok (.bipush 92, 2) := by decide +kernel
theorem dX4_findSigns_23 : decode cX4_findSigns 23 = .ok (.if_icmp .ne 17, 3) := by decide +kernel
theorem dX4_findSigns_26 : decode cX4_findSigns 26 = .ok (.iload_n 1, 1) := by decide +kernel
theorem dX4_findSigns_27 : decode cX4_findSigns 27 = .ok (.iconst 1, 1) := by decide +kernel
theorem dX4_findSigns_28 : decode cX4_findSigns 28 = .ok (.iadd, 1) := by decide +kernel
theorem dX4_findSigns_29 : decode cX4_findSigns 29 = .ok (.aload_n 0, 1) := by decide +kernel
theorem dX4_findSigns_30 : decode cX4_findSigns 30 = .ok (.getfield 23, 3) := by decide +kernel
theorem dX4_findSigns_33 : decode cX4_findSigns 33 = .ok (.if_icmp .ge 7, 3) := by decide +kernel
theorem dX4_findSigns_36 : decode cX4_findSigns 36 = .ok (.iconst 1, 1) := by decide +kernel
theorem dX4_findSigns_37 : decode cX4_findSigns 37 = .ok (.goto 4, 3) := by decide +kernel
theorem dX4_findSigns_40 : decode cX4_findSigns 40 = .ok (.iconst 0, 1) := by decide +kernel
theorem dX4_findSigns_41 : decode cX4_findSigns 41 = .ok (.istore_n 2, 1) := by decide +kernel
theorem dX4_findSigns_42 : decode cX4_findSigns 42 = .ok (.iload_n 2, 1) := by decide +kernel
theorem dX4_findSigns_43 : decode cX4_findSigns 43 = .ok (.ifCond .eq 6, 3) := by decide +kernel
theorem dX4_findSigns_46 : decode cX4_findSigns 46 = .ok (.iinc 1 1, 3) := by decide +kernel
theorem dX4_findSigns_49 : decode cX4_findSigns 49 = .ok (.aload_n 0, 1) := by decide +kernel
theorem dX4_findSigns_50 : decode cX4_findSigns 50 = .ok (.getfield 29, 3) := by decide +kernel
theorem dX4_findSigns_53 : decode cX4_findSigns 53 = .ok (.aload_n 0, 1) := by decide +kernel
theorem dX4_findSigns_54 : decode cX4_findSigns 54 = .ok (.getfield 26, 3) := by decide +kernel
theorem dX4_findSigns_57 : decode cX4_findSigns 57 = .ok (.iload_n 2, 1) := by decide +kernel
theorem dX4_findSigns_58 : decode cX4_findSigns 58 = .ok (.ifCond .eq 7, 3) := by decide +kernel
theorem dX4_findSigns_61 : decode cX4_findSigns 61 = .ok (.iconst 0, 1) := by decide +kernel
theorem dX4_findSigns_62 : decode cX4_findSigns 62 = .ok (.goto 34, 3) := by decide +kernel
theorem dX4_findSigns_65 : decode cX4_findSigns 65 = .ok (.aload_n 0, 1) := by decide +kernel
theorem dX4_findSigns_66 : decode cX4_findSigns 66 = .ok (.getfield 17, 3) := by decide +kernel
theorem dX4_findSigns_69 : decode cX4_findSigns 69 = .ok (.iload_n 1, 1) := by decide +kernel
theorem dX4_findSigns_70 : decode cX4_findSigns 70 = .ok (.iaload, 1) := by decide +kernel
theorem dX4_findSigns_71 : decode cX4_findSigns 71 = .ok (.bipush 63, 2) := by decide +kernel
theorem dX4_findSigns_73 : decode cX4_findSigns 73 = .ok (.if_icmp .ne 7, 3) := by decide +kernel
theorem dX4_findSigns_76 : decode cX4_findSigns 76 = .ok (.iconst 1, 1) := by decide +kernel
theorem dX4_findSigns_77 : decode cX4_findSigns 77 = .ok (.goto 19, 3) := by decide +kernel
theorem dX4_findSigns_80 : decode cX4_findSigns 80 = .ok (.aload_n 0, 1) := by decide +kernel
theorem dX4_findSigns_81 : decode cX4_findSigns 81 = .ok (.getfield 17, 3) := by decide +kernel
theorem dX4_findSigns_84 : decode cX4_findSigns 84 = .ok (.iload_n 1, 1) := by decide +kernel
theorem dX4_findSigns_85 : decode cX4_findSigns 85 = .ok (.iaload, 1) := by decide +kernel
theorem dX4_findSigns_86 : decode cX4_findSigns 86 = .ok (.bipush 42, 2) := by decide +kernel
theorem dX4_findSigns_88 : decode cX4_findSigns 88 = .ok (.if_icmp .ne 7, 3) := by decide +kernel
theorem dX4_findSigns_91 : decode cX4_findSigns 91 = .ok (.iconst 2, 1) := by decide +kernel
theorem dX4_findSigns_92 : decode cX4_findSigns 92 = .ok (.goto 4, 3) := by decide +kernel
theorem dX4_findSigns_95 : decode cX4_findSigns 95 = .ok (.iconst 0, 1) := by decide +kernel
theorem dX4_findSigns_96 : decode cX4_findSigns 96 = .ok (.iastore, 1) := by decide +kernel
theorem dX4_findSigns_97 : decode cX4_findSigns 97 = .ok (.aload_n 0, 1) := by decide +kernel
theorem dX4_findSigns_98 : decode cX4_findSigns 98 = .ok (.getfield 32, 3) := by decide +kernel
theorem dX4_findSigns_101 : decode cX4_findSigns 101 = .ok (.aload_n 0, 1) := by decide +kernel
theorem dX4_findSigns_102 : decode cX4_findSigns 102 = .ok (.getfield 26, 3) := by decide +kernel
theorem dX4_findSigns_105 : decode cX4_findSigns 105 = .ok (.aload_n 0, 1) := by decide +kernel
theorem dX4_findSigns_106 : decode cX4_findSigns 106 = .ok (.getfield 17, 3) := by decide +kernel
theorem dX4_findSigns_109 : decode cX4_findSigns 109 = .ok (.iload_n 1, 1) := by decide +kernel
theorem dX4_findSigns_110 : decode cX4_findSigns 110 = .ok (.iaload, 1) := by decide +kernel
theorem dX4_findSigns_111 : decode cX4_findSigns 111 = .ok (.iastore, 1) := by decide +kernel
theorem dX4_findSigns_112 : decode cX4_findSigns 112 = .ok (.aload_n 0, 1) := by decide +kernel
theorem dX4_findSigns_113 : decode cX4_findSigns 113 = .ok (.dup, 1) := by decide +kernel
theorem dX4_findSigns_114 : decode cX4_findSigns 114 = .ok (.getfield 26, 3) := by decide +kernel
theorem dX4_findSigns_117 : decode cX4_findSigns 117 = .ok (.iconst 1, 1) := by decide +kernel
theorem dX4_findSigns_118 : decode cX4_findSigns 118 = .ok (.iadd, 1) := by decide +kernel
theorem dX4_findSigns_119 : decode cX4_findSigns 119 = .ok (.putfield 26, 3) := by decide +kernel
theorem dX4_findSigns_122 : decode cX4_findSigns 122 = .ok (.iinc 1 1, 3) := by decide +kernel
theorem dX4_findSigns_125 : decode cX4_findSigns 125 = .ok (.goto (-118), 3) := by decide +kernel
theorem dX4_findSigns_128 : decode cX4_findSigns 128 = .ok (.return_, 1) := by decide +kernel
theorem dX4_like_0 : decode cX4_like 0 = .ok (.aload_n 0, 1) := by decide +kernel
theorem dX4_like_1 : decode cX4_like 1 = .ok (.invokevirtual 63, 3) := by decide +kernel
theorem dX4_like_4 : decode cX4_like 4 = .ok (.aload_n 0, 1) := by decide +kernel
theorem dX4_like_5 : decode cX4_like 5 = .ok (.getfield 26, 3) := by decide +kernel
theorem dX4_like_8 : decode cX4_like 8 = .ok (.istore_n 2, 1) := by decide +kernel
theorem dX4_like_9 : decode cX4_like 9 = .ok (.iload_n 2, 1) := by decide +kernel
theorem dX4_like_10 : decode cX4_like 10 = .ok (.ifCond .lt 202, 3) := by decide +kernel
theorem dX4_like_13 : decode cX4_like 13 = .ok (.aload_n 0, 1) := by decide +kernel
theorem dX4_like_14 : decode cX4_like 14 = .ok (.getfield 20, 3) := by decide +kernel
theorem dX4_like_17 : decode cX4_like 17 = .ok (.istore_n 3, 1) := by decide +kernel
theorem dX4_like_18 : decode cX4_like 18 = .ok (.iload_n 3, 1) := by decide +kernel
theorem dX4_like_19 : decode cX4_like 19 = .ok (.ifCond .lt 187, 3) := by decide +kernel
theorem dX4_like_22 : decode cX4_like 22 = .ok (.iload_n 2, 1) := by decide +kernel
theorem dX4_like_23 : decode cX4_like 23 = .ok (.aload_n 0, 1) := by decide +kernel
theorem dX4_like_24 : decode cX4_like 24 = .ok (.getfield 26, 3) := by decide +kernel
theorem dX4_like_27 : decode cX4_like 27 = .ok (.if_icmp .ne 15, 3) := by decide +kernel
theorem dX4_like_30 : decode cX4_like 30 = .ok (.iload_n 3, 1) := by decide +kernel
theorem dX4_like_31 : decode cX4_like 31 = .ok (.aload_n 0, 1) := by decide +kernel
theorem dX4_like_32 : decode cX4_like 32 = .ok (.getfield 20, 3) := by decide +kernel
theorem dX4_like_35 : decode cX4_like 35 = .ok (.if_icmp .ne 7, 3) := by decide +kernel
theorem dX4_like_38 : decode cX4_like 38 = .ok (.iconst 1, 1) := by decide +kernel
theorem dX4_like_39 : decode cX4_like 39 = .ok (.goto 4, 3) := by decide +kernel
theorem dX4_like_42 : decode cX4_like 42 = .ok (.iconst 0, 1) := by decide +kernel
theorem dX4_like_43 : decode cX4_like 43 = .ok (.istore 4, 2) := by decide +kernel
theorem dX4_like_45 : decode cX4_like 45 = .ok (.iload_n 2, 1) := by decide +kernel
theorem dX4_like_46 : decode cX4_like 46 = .ok (.aload_n 0, 1) := by decide +kernel
theorem dX4_like_47 : decode cX4_like 47 = .ok (.getfield 26, 3) := by decide +kernel
theorem dX4_like_50 : decode cX4_like 50 = .ok (.if_icmp .ge 64, 3) := by decide +kernel
theorem dX4_like_53 : decode cX4_like 53 = .ok (.aload_n 0, 1) := by decide +kernel
theorem dX4_like_54 : decode cX4_like 54 = .ok (.getfield 29, 3) := by decide +kernel
theorem dX4_like_57 : decode cX4_like 57 = .ok (.iload_n 2, 1) := by decide +kernel
theorem dX4_like_58 : decode cX4_like 58 = .ok (.iaload, 1) := by decide +kernel
theorem dX4_like_59 : decode cX4_like 59 = .ok (.iconst 2, 1) := by decide +kernel
theorem dX4_like_60 : decode cX4_like 60 = .ok (.if_icmp .ne 54, 3) := by decide +kernel
theorem dX4_like_63 : decode cX4_like 63 = .ok (.aload_n 0, 1) := by decide +kernel
theorem dX4_like_64 : decode cX4_like 64 = .ok (.getfield 35, 3) := by decide +kernel
theorem dX4_like_67 : decode cX4_like 67 = .ok (.bipush 101, 2) := by decide +kernel
theorem dX4_like_69 : decode cX4_like 69 = .ok (.iload_n 2, 1) := by decide +kernel
theorem dX4_like_70 : decode cX4_like 70 = .ok (.imul, 1) := by decide +kernel
theorem dX4_like_71 : decode cX4_like 71 = .ok (.bipush 101, 2) := by decide +kernel
theorem dX4_like_73 : decode cX4_like 73 = .ok (.iadd, 1) := by decide +kernel
theorem dX4_like_74 : decode cX4_like 74 = .ok (.iload_n 3, 1) := by decide +kernel
theorem dX4_like_75 : decode cX4_like 75 = .ok (.iadd, 1) := by decide +kernel
theorem dX4_like_76 : decode cX4_like 76 = .ok (.baload, 1) := by decide +kernel
theorem dX4_like_77 : decode cX4_like 77 = .ok (.ifCond .ne 27, 3) := by decide +kernel
theorem dX4_like_80 : decode cX4_like 80 = .ok (.iload_n 3, 1) := by decide +kernel
theorem dX4_like_81 : decode cX4_like 81 = .ok (.aload_n 0, 1) := by decide +kernel
theorem dX4_like_82 : decode cX4_like 82 = .ok (.getfield 20, 3) := by decide +kernel
theorem dX4_like_85 : decode cX4_like 85 = .ok (.if_icmp .ge 23, 3) := by decide +kernel
theorem dX4_like_88 : decode cX4_like 88 = .ok (.aload_n 0, 1) := by decide +kernel
theorem dX4_like_89 : decode cX4_like 89 = .ok (.getfield 35, 3) := by decide +kernel
theorem dX4_like_92 : decode cX4_like 92 = .ok (.bipush 101, 2) := by decide +kernel
theorem dX4_like_94 : decode cX4_like 94 = .ok (.iload_n 2, 1) := by decide +kernel
theorem dX4_like_95 : decode cX4_like 95 = .ok (.imul, 1) := by decide +kernel
theorem dX4_like_96 : decode cX4_like 96 = .ok (.iload_n 3, 1) := by decide +kernel
theorem dX4_like_97 : decode cX4_like 97 = .ok (.iadd, 1) := by decide +kernel
theorem dX4_like_98 : decode cX4_like 98 = .ok (.iconst 1, 1) := by decide +kernel
theorem dX4_like_99 : decode cX4_like 99 = .ok (.iadd, 1) := by decide +kernel
theorem dX4_like_100 : decode cX4_like 100 = .ok (.baload, 1) := by decide +kernel
theorem dX4_like_101 : decode cX4_like 101 = .ok (.ifCond .eq 7, 3) := by decide +kernel
theorem dX4_like_104 : decode cX4_like 104 = .ok (.iconst 1, 1) := by decide +kernel
theorem dX4_like_105 : decode cX4_like 105 = .ok (.goto 4, 3) := by decide +kernel
theorem dX4_like_108 : decode cX4_like 108 = .ok (.iconst 0, 1) := by decide +kernel
theorem dX4_like_109 : decode cX4_like 109 = .ok (.istore 4, 2) := by decide +kernel
theorem dX4_like_111 : decode cX4_like 111 = .ok (.goto 76, 3) := by decide +kernel
theorem dX4_like_114 : decode cX4_like 114 = .ok (.iload_n 2, 1) := by decide +kernel
theorem dX4_like_115 : decode cX4_like 115 = .ok (.aload_n 0, 1) := by decide +kernel
theorem dX4_like_116 : decode cX4_like 116 = .ok (.getfield 26, 3) := by decide +kernel
theorem dX4_like_119 : decode cX4_like 119 = .ok (.if_icmp .ge 68, 3) := by decide +kernel
theorem dX4_like_122 : decode cX4_like 122 = .ok (.iload_n 3, 1) := by decide +kernel
theorem dX4_like_123 : decode cX4_like 123 = .ok (.aload_n 0, 1) := by decide +kernel
theorem dX4_like_124 : decode cX4_like 124 = .ok (.getfield 20, 3) := by decide +kernel
theorem dX4_like_127 : decode cX4_like 127 = .ok (.if_icmp .ge 60, 3) := by decide +kernel
theorem dX4_like_130 : decode cX4_like 130 = .ok (.aload_n 0, 1) := by decide +kernel
theorem dX4_like_131 : decode cX4_like 131 = .ok (.getfield 35, 3) := by decide +kernel
theorem dX4_like_134 : decode cX4_like 134 = .ok (.bipush 101, 2) := by decide +kernel
theorem dX4_like_136 : decode cX4_like 136 = .ok (.iload_n 2, 1) := by decide +kernel
theorem dX4_like_137 : decode cX4_like 137 = .ok (.imul, 1) := by decide +kernel
theorem dX4_like_138 : decode cX4_like 138 = .ok (.bipush 102, 2) := by decide +kernel
theorem dX4_like_140 : decode cX4_like 140 = .ok (.iadd, 1) := by decide +kernel
theorem dX4_like_141 : decode cX4_like 141 = .ok (.iload_n 3, 1) := by decide +kernel
theorem dX4_like_142 : decode cX4_like 142 = .ok (.iadd, 1) := by decide +kernel
theorem dX4_like_143 : decode cX4_like 143 = .ok (.baload, 1) := by decide +kernel
theorem dX4_like_144 : decode cX4_like 144 = .ok (.ifCond .eq 40, 3) := by decide +kernel
theorem dX4_like_147 : decode cX4_like 147 = .ok (.aload_n 0, 1) := by decide +kernel
theorem dX4_like_148 : decode cX4_like 148 = .ok (.getfield 29, 3) := by decide +kernel
theorem dX4_like_151 : decode cX4_like 151 = .ok (.iload_n 2, 1) := by decide +kernel
theorem dX4_like_152 : decode cX4_like 152 = .ok (.iaload, 1) := by decide +kernel
theorem dX4_like_153 : decode cX4_like 153 = .ok (.iconst 1, 1) := by decide +kernel
theorem dX4_like_154 : decode cX4_like 154 = .ok (.if_icmp .eq 26, 3) := by decide +kernel
theorem dX4_like_157 : decode cX4_like 157 = .ok (.aload_n 0, 1) := by decide +kernel
theorem dX4_like_158 : decode cX4_like 158 = .ok (.getfield 13, 3) := by decide +kernel
theorem dX4_like_161 : decode cX4_like 161 = .ok (.iload_n 3, 1) := by decide +kernel
theorem dX4_like_162 : decode cX4_like 162 = .ok (.iaload, 1) := by decide +kernel
theorem dX4_like_163 : decode cX4_like 163 = .ok (.iload_n 1, 1) := by decide +kernel
theorem dX4_like_164 : decode cX4_like 164 = .ok (.invokestatic 59, 3) := by decide +kernel
theorem dX4_like_167 : decode cX4_like 167 = .ok (.aload_n 0, 1) := by decide +kernel
theorem dX4_like_168 : decode cX4_like 168 = .ok (.getfield 32, 3) := by decide +kernel
theorem dX4_like_171 : decode cX4_like 171 = .ok (.iload_n 2, 1) := by decide +kernel
theorem dX4_like_172 : decode cX4_like 172 = .ok (.iaload, 1) := by decide +kernel
theorem dX4_like_173 : decode cX4_like 173 = .ok (.iload_n 1, 1) := by decide +kernel
theorem dX4_like_174 : decode cX4_like 174 = .ok (.invokestatic 59, 3) := by decide +kernel
theorem dX4_like_177 : decode cX4_like 177 = .ok (.if_icmp .ne 7, 3) := by decide +kernel
theorem dX4_like_180 : decode cX4_like 180 = .ok (.iconst 1, 1) := by decide +kernel
theorem dX4_like_181 : decode cX4_like 181 = .ok (.goto 4, 3) := by decide +kernel
theorem dX4_like_184 : decode cX4_like 184 = .ok (.iconst 0, 1) := by decide +kernel
theorem dX4_like_185 : decode cX4_like 185 = .ok (.istore 4, 2) := by decide +kernel
theorem dX4_like_187 : decode cX4_like 187 = .ok (.aload_n 0, 1) := by decide +kernel
theorem dX4_like_188 : decode cX4_like 188 = .ok (.getfield 35, 3) := by decide +kernel
theorem dX4_like_191 : decode cX4_like 191 = .ok (.bipush 101, 2) := by decide +kernel
theorem dX4_like_193 : decode cX4_like 193 = .ok (.iload_n 2, 1) := by decide +kernel
theorem dX4_like_194 : decode cX4_like 194 = .ok (.imul, 1) := by decide +kernel
theorem dX4_like_195 : decode cX4_like 195 = .ok (.iload_n 3, 1) := by decide +kernel
theorem dX4_like_196 : decode cX4_like 196 = .ok (.iadd, 1) := by decide +kernel
theorem dX4_like_197 : decode cX4_like 197 = .ok (.iload 4, 2) := by decide +kernel
theorem dX4_like_199 : decode cX4_like 199 = .ok (.bastore, 1) := by decide +kernel
theorem dX4_like_200 : decode cX4_like 200 = .ok (.iinc 3 (-1), 3) := by decide +kernel
theorem dX4_like_203 : decode cX4_like 203 = .ok (.goto (-185), 3) := by decide +kernel
theorem dX4_like_206 : decode cX4_like 206 = .ok (.iinc 2 (-1), 3) := by decide +kernel
theorem dX4_like_209 : decode cX4_like 209 = .ok (.goto (-200), 3) := by decide +kernel
theorem dX4_like_212 : decode cX4_like 212 = .ok (.aload_n 0, 1) := by decide +kernel
theorem dX4_like_213 : decode cX4_like 213 = .ok (.getfield 35, 3) := by decide +kernel
theorem dX4_like_216 : decode cX4_like 216 = .ok (.iconst 0, 1) := by decide +kernel
theorem dX4_like_217 : decode cX4_like 217 = .ok (.baload, 1) := by decide +kernel
theorem dX4_like_218 : decode cX4_like 218 = .ok (.ifCond .ne 5, 3) := by decide +kernel
theorem dX4_like_221 : decode cX4_like 221 = .ok (.iconst 0, 1) := by decide +kernel
theorem dX4_like_222 : decode cX4_like 222 = .ok (.ireturn, 1) := by decide +kernel
theorem dX4_like_223 : decode cX4_like 223 = .ok (.iconst 0, 1) := by decide +kernel
theorem dX4_like_224 : decode cX4_like 224 = .ok (.istore_n 2, 1) := by decide +kernel
theorem dX4_like_225 : decode cX4_like 225 = .ok (.iconst 0, 1) := by decide +kernel
theorem dX4_like_226 : decode cX4_like 226 = .ok (.istore_n 3, 1) := by decide +kernel
theorem dX4_like_227 : decode cX4_like 227 = .ok (.iload_n 3, 1) := by decide +kernel
theorem dX4_like_228 : decode cX4_like 228 = .ok (.aload_n 0, 1) := by decide +kernel
theorem dX4_like_229 : decode cX4_like 229 = .ok (.getfield 26, 3) := by decide +kernel
theorem dX4_like_232 : decode cX4_like 232 = .ok (.if_icmp .ge 88, 3) := by decide +kernel
theorem dX4_like_235 : decode cX4_like 235 = .ok (.aload_n 0, 1) := by decide +kernel
theorem dX4_like_236 : decode cX4_like 236 = .ok (.getfield 29, 3) := by decide +kernel
theorem dX4_like_239 : decode cX4_like 239 = .ok (.iload_n 3, 1) := by decide +kernel
theorem dX4_like_240 : decode cX4_like 240 = .ok (.iaload, 1) := by decide +kernel
theorem dX4_like_241 : decode cX4_like 241 = .ok (.iconst 2, 1) := by decide +kernel
theorem dX4_like_242 : decode cX4_like 242 = .ok (.if_icmp .ne 69, 3) := by decide +kernel
theorem dX4_like_245 : decode cX4_like 245 = .ok (.aload_n 0, 1) := by decide +kernel
theorem dX4_like_246 : decode cX4_like 246 = .ok (.getfield 42, 3) := by decide +kernel
theorem dX4_like_249 : decode cX4_like 249 = .ok (.aload_n 0, 1) := by decide +kernel
theorem dX4_like_250 : decode cX4_like 250 = .ok (.getfield 39, 3) := by decide +kernel
theorem dX4_like_253 : decode cX4_like 253 = .ok (.iload_n 2, 1) := by decide +kernel
theorem dX4_like_254 : decode cX4_like 254 = .ok (.iastore, 1) := by decide +kernel
theorem dX4_like_255 : decode cX4_like 255 = .ok (.aload_n 0, 1) := by decide +kernel
theorem dX4_like_256 : decode cX4_like 256 = .ok (.getfield 35, 3) := by decide +kernel
theorem dX4_like_259 : decode cX4_like 259 = .ok (.bipush 101, 2) := by decide +kernel
theorem dX4_like_261 : decode cX4_like 261 = .ok (.iload_n 3, 1) := by decide +kernel
theorem dX4_like_262 : decode cX4_like 262 = .ok (.imul, 1) := by decide +kernel
theorem dX4_like_263 : decode cX4_like 263 = .ok (.bipush 101, 2) := by decide +kernel
theorem dX4_like_265 : decode cX4_like 265 = .ok (.iadd, 1) := by decide +kernel
theorem dX4_like_266 : decode cX4_like 266 = .ok (.iload_n 2, 1) := by decide +kernel
theorem dX4_like_267 : decode cX4_like 267 = .ok (.iadd, 1) := by decide +kernel
theorem dX4_like_268 : decode cX4_like 268 = .ok (.baload, 1) := by decide +kernel
theorem dX4_like_269 : decode cX4_like 269 = .ok (.ifCond .ne 9, 3) := by decide +kernel
theorem dX4_like_272 : decode cX4_like 272 = .ok (.iinc 2 1, 3) := by decide +kernel
theorem dX4_like_275 : decode cX4_like 275 = .ok (.goto (-20), 3) := by decide +kernel
theorem dX4_like_278 : decode cX4_like 278 = .ok (.aload_n 0, 1) := by decide +kernel
theorem dX4_like_279 : decode cX4_like 279 = .ok (.getfield 45, 3) := by decide +kernel
theorem dX4_like_282 : decode cX4_like 282 = .ok (.aload_n 0, 1) := by decide +kernel
theorem dX4_like_283 : decode cX4_like 283 = .ok (.getfield 39, 3) := by decide +kernel
theorem dX4_like_286 : decode cX4_like 286 = .ok (.iload_n 2, 1) := by decide +kernel
theorem dX4_like_287 : decode cX4_like 287 = .ok (.aload_n 0, 1) := by decide +kernel
theorem dX4_like_288 : decode cX4_like 288 = .ok (.getfield 42, 3) := by decide +kernel
theorem dX4_like_291 : decode cX4_like 291 = .ok (.aload_n 0, 1) := by decide +kernel
theorem dX4_like_292 : decode cX4_like 292 = .ok (.getfield 39, 3) := by decide +kernel
theorem dX4_like_295 : decode cX4_like 295 = .ok (.iaload, 1) := by decide +kernel
theorem dX4_like_296 : decode cX4_like 296 = .ok (.isub, 1) := by decide +kernel
theorem dX4_like_297 : decode cX4_like 297 = .ok (.iastore, 1) := by decide +kernel
theorem dX4_like_298 : decode cX4_like 298 = .ok (.aload_n 0, 1) := by decide +kernel
theorem dX4_like_299 : decode cX4_like 299 = .ok (.dup, 1) := by decide +kernel
theorem dX4_like_300 : decode cX4_like 300 = .ok (.getfield 39, 3) := by decide +kernel
theorem dX4_like_303 : decode cX4_like 303 = .ok (.iconst 1, 1) := by decide +kernel
theorem dX4_like_304 : decode cX4_like 304 = .ok (.iadd, 1) := by decide +kernel
theorem dX4_like_305 : decode cX4_like 305 = .ok (.putfield 39, 3) := by decide +kernel
theorem dX4_like_308 : decode cX4_like 308 = .ok (.goto 6, 3) := by decide +kernel
theorem dX4_like_311 : decode cX4_like 311 = .ok (.iinc 2 1, 3) := by decide +kernel
theorem dX4_like_314 : decode cX4_like 314 = .ok (.iinc 3 1, 3) := by decide +kernel
theorem dX4_like_317 : decode cX4_like 317 = .ok (.goto (-90), 3) := by decide +kernel
theorem dX4_like_320 : decode cX4_like 320 = .ok (.iconst 1, 1) := by decide +kernel
theorem dX4_like_321 : decode cX4_like 321 = .ok (.ireturn, 1) := by decide +kernel
theorem dX4_put_0 : decode cX4_put 0 = .ok (.aload_n 0, 1) := by decide +kernel
theorem dX4_put_1 : decode cX4_put 1 = .ok (.iconst 0, 1) := by decide +kernel
theorem dX4_put_2 : decode cX4_put 2 = .ok (.putfield 7, 3) := by decide +kernel
theorem dX4_put_5 : decode cX4_put 5 = .ok (.iload_n 1, 1) := by decide +kernel
theorem dX4_put_6 : decode cX4_put 6 = .ok (.ifCond .lt 44, 3) := by decide +kernel
theorem dX4_put_9 : decode cX4_put 9 = .ok (.iload_n 1, 1) := by decide +kernel
theorem dX4_put_10 : decode cX4_put 10 = .ok (.iconst 1, 1) := by decide +kernel
theorem dX4_put_11 : decode cX4_put 11 = .ok (.if_icmp .gt 39, 3) := by decide +kernel
theorem dX4_put_14 : decode cX4_put 14 = .ok (.iload 4, 2) := by decide +kernel
theorem dX4_put_16 : decode cX4_put 16 = .ok (.iconst 1, 1) := by decide +kernel
theorem dX4_put_17 : decode cX4_put 17 = .ok (.if_icmp .lt 33, 3) := by decide +kernel
theorem dX4_put_20 : decode cX4_put 20 = .ok (.iload 4, 2) := by decide +kernel
theorem dX4_put_22 : decode cX4_put 22 = .ok (.bipush 8, 2) := by decide +kernel
theorem dX4_put_24 : decode cX4_put 24 = .ok (.if_icmp .gt 26, 3) := by decide +kernel
theorem dX4_put_27 : decode cX4_put 27 = .ok (.iload_n 1, 1) := by decide +kernel
theorem dX4_put_28 : decode cX4_put 28 = .ok (.ifCond .ne 10, 3) := by decide +kernel
theorem dX4_put_31 : decode cX4_put 31 = .ok (.aload_n 0, 1) := by decide +kernel
theorem dX4_put_32 : decode cX4_put 32 = .ok (.getfield 20, 3) := by decide +kernel
theorem dX4_put_35 : decode cX4_put 35 = .ok (.goto 7, 3) := by decide +kernel
theorem dX4_put_38 : decode cX4_put 38 = .ok (.aload_n 0, 1) := by decide +kernel
theorem dX4_put_39 : decode cX4_put 39 = .ok (.getfield 23, 3) := by decide +kernel
theorem dX4_put_42 : decode cX4_put 42 = .ok (.iload 4, 2) := by decide +kernel
theorem dX4_put_44 : decode cX4_put 44 = .ok (.iadd, 1) := by decide +kernel
theorem dX4_put_45 : decode cX4_put 45 = .ok (.bipush 100, 2) := by decide +kernel
theorem dX4_put_47 : decode cX4_put 47 = .ok (.if_icmp .le 5, 3) := by decide +kernel
theorem dX4_put_50 : decode cX4_put 50 = .ok (.iconst 0, 1) := by decide +kernel
theorem dX4_put_51 : decode cX4_put 51 = .ok (.ireturn, 1) := by decide +kernel
theorem dX4_put_52 : decode cX4_put 52 = .ok (.iload 4, 2) := by decide +kernel
theorem dX4_put_54 : decode cX4_put 54 = .ok (.iconst 1, 1) := by decide +kernel
theorem dX4_put_55 : decode cX4_put 55 = .ok (.isub, 1) := by decide +kernel
theorem dX4_put_56 : decode cX4_put 56 = .ok (.istore 5, 2) := by decide +kernel
theorem dX4_put_58 : decode cX4_put 58 = .ok (.iload 5, 2) := by decide +kernel
theorem dX4_put_60 : decode cX4_put 60 = .ok (.ifCond .lt 72, 3) := by decide +kernel
theorem dX4_put_63 : decode cX4_put 63 = .ok (.lload_n 2, 1) := by decide +kernel
theorem dX4_put_64 : decode cX4_put 64 = .ok (.bipush 8, 2) := by decide +kernel
theorem dX4_put_66 : decode cX4_put 66 = .ok (.iload 5, 2) := by decide +kernel
theorem dX4_put_68 : decode cX4_put 68 = .ok (.imul, 1) := by decide +kernel
theorem dX4_put_69 : decode cX4_put 69 = .ok (.lushr, 1) := by decide +kernel
theorem dX4_put_70 : decode cX4_put 70 = .ok (.l2i, 1) := by decide +kernel
theorem dX4_put_71 : decode cX4_put 71 = .ok (.sipush 255, 3) := by decide +kernel
theorem dX4_put_74 : decode cX4_put 74 = .ok (.iand, 1) := by decide +kernel
theorem dX4_put_75 : decode cX4_put 75 = .ok (.istore 6, 2) := by decide +kernel
theorem dX4_put_77 : decode cX4_put 77 = .ok (.iload_n 1, 1) := by decide +kernel
theorem dX4_put_78 : decode cX4_put 78 = .ok (.ifCond .ne 27, 3) := by decide +kernel
theorem dX4_put_81 : decode cX4_put 81 = .ok (.aload_n 0, 1) := by decide +kernel
theorem dX4_put_82 : decode cX4_put 82 = .ok (.getfield 13, 3) := by decide +kernel
theorem dX4_put_85 : decode cX4_put 85 = .ok (.aload_n 0, 1) := by decide +kernel
theorem dX4_put_86 : decode cX4_put 86 = .ok (.getfield 20, 3) := by decide +kernel
theorem dX4_put_89 : decode cX4_put 89 = .ok (.iload 6, 2) := by decide +kernel
theorem dX4_put_91 : decode cX4_put 91 = .ok (.iastore, 1) := by decide +kernel
theorem dX4_put_92 : decode cX4_put 92 = .ok (.aload_n 0, 1) := by decide +kernel
theorem dX4_put_93 : decode cX4_put 93 = .ok (.dup, 1) := by decide +kernel
theorem dX4_put_94 : decode cX4_put 94 = .ok (.getfield 20, 3) := by decide +kernel
theorem dX4_put_97 : decode cX4_put 97 = .ok (.iconst 1, 1) := by decide +kernel
theorem dX4_put_98 : decode cX4_put 98 = .ok (.iadd, 1) := by decide +kernel
theorem dX4_put_99 : decode cX4_put 99 = .ok (.putfield 20, 3) := by decide +kernel
theorem dX4_put_102 : decode cX4_put 102 = .ok (.goto 24, 3) := by decide +kernel
theorem dX4_put_105 : decode cX4_put 105 = .ok (.aload_n 0, 1) := by decide +kernel
theorem dX4_put_106 : decode cX4_put 106 = .ok (.getfield 17, 3) := by decide +kernel
theorem dX4_put_109 : decode cX4_put 109 = .ok (.aload_n 0, 1) := by decide +kernel
theorem dX4_put_110 : decode cX4_put 110 = .ok (.getfield 23, 3) := by decide +kernel
theorem dX4_put_113 : decode cX4_put 113 = .ok (.iload 6, 2) := by decide +kernel
theorem dX4_put_115 : decode cX4_put 115 = .ok (.iastore, 1) := by decide +kernel
theorem dX4_put_116 : decode cX4_put 116 = .ok (.aload_n 0, 1) := by decide +kernel
theorem dX4_put_117 : decode cX4_put 117 = .ok (.dup, 1) := by decide +kernel
theorem dX4_put_118 : decode cX4_put 118 = .ok (.getfield 23, 3) := by decide +kernel
theorem dX4_put_121 : decode cX4_put 121 = .ok (.iconst 1, 1) := by decide +kernel
theorem dX4_put_122 : decode cX4_put 122 = .ok (.iadd, 1) := by decide +kernel
theorem dX4_put_123 : decode cX4_put 123 = .ok (.putfield 23, 3) := by decide +kernel
theorem dX4_put_126 : decode cX4_put 126 = .ok (.iinc 5 (-1), 3) := by decide +kernel
theorem dX4_put_129 : decode cX4_put 129 = .ok (.goto (-71), 3) := by decide +kernel
theorem dX4_put_132 : decode cX4_put 132 = .ok (.iconst 1, 1) := by decide +kernel
theorem dX4_put_133 : decode cX4_put 133 = .ok (.ireturn, 1) := by decide +kernel
theorem dX4_clear_0 : decode cX4_clear 0 = .ok (.aload_n 0, 1) := by decide +kernel
theorem dX4_clear_1 : decode cX4_clear 1 = .ok (.iconst 0, 1) := by decide +kernel
theorem dX4_clear_2 : decode cX4_clear 2 = .ok (.putfield 7, 3) := by decide +kernel
theorem dX4_clear_5 : decode cX4_clear 5 = .ok (.iload_n 1, 1) := by decide +kernel
theorem dX4_clear_6 : decode cX4_clear 6 = .ok (.ifCond .ne 10, 3) := by decide +kernel
theorem dX4_clear_9 : decode cX4_clear 9 = .ok (.aload_n 0, 1) := by decide +kernel
theorem dX4_clear_10 : decode cX4_clear 10 = .ok (.getfield 20, 3) := by decide +kernel
theorem dX4_clear_13 : decode cX4_clear 13 = .ok (.goto 16, 3) := by decide +kernel
theorem dX4_clear_16 : decode cX4_clear 16 = .ok (.iload_n 1, 1) := by decide +kernel
theorem dX4_clear_17 : decode cX4_clear 17 = .ok (.iconst 1, 1) := by decide +kernel
theorem dX4_clear_18 : decode cX4_clear 18 = .ok (.if_icmp .ne 10, 3) := by decide +kernel
theorem dX4_clear_21 : decode cX4_clear 21 = .ok (.aload_n 0, 1) := by decide +kernel
theorem dX4_clear_22 : decode cX4_clear 22 = .ok (.getfield 23, 3) := by decide +kernel
theorem dX4_clear_25 : decode cX4_clear 25 = .ok (.goto 4, 3) := by decide +kernel
theorem dX4_clear_28 : decode cX4_clear 28 = .ok (.iconst (-1), 1) := by decide +kernel
theorem dX4_clear_29 : decode cX4_clear 29 = .ok (.istore_n 2, 1) := by decide +kernel
theorem dX4_clear_30 : decode cX4_clear 30 = .ok (.iload_n 1, 1) := by decide +kernel
theorem dX4_clear_31 : decode cX4_clear 31 = .ok (.ifCond .ne 8, 3) := by decide +kernel
theorem dX4_clear_34 : decode cX4_clear 34 = .ok (.aload_n 0, 1) := by decide +kernel
theorem dX4_clear_35 : decode cX4_clear 35 = .ok (.iconst 0, 1) := by decide +kernel
theorem dX4_clear_36 : decode cX4_clear 36 = .ok (.putfield 20, 3) := by decide +kernel
theorem dX4_clear_39 : decode cX4_clear 39 = .ok (.iload_n 1, 1) := by decide +kernel
theorem dX4_clear_40 : decode cX4_clear 40 = .ok (.iconst 1, 1) := by decide +kernel
theorem dX4_clear_41 : decode cX4_clear 41 = .ok (.if_icmp .ne 8, 3) := by decide +kernel
theorem dX4_clear_44 : decode cX4_clear 44 = .ok (.aload_n 0, 1) := by decide +kernel
theorem dX4_clear_45 : decode cX4_clear 45 = .ok (.iconst 0, 1) := by decide +kernel
theorem dX4_clear_46 : decode cX4_clear 46 = .ok (.putfield 23, 3) := by decide +kernel
theorem dX4_clear_49 : decode cX4_clear 49 = .ok (.iload_n 2, 1) := by decide +kernel
theorem dX4_clear_50 : decode cX4_clear 50 = .ok (.ireturn, 1) := by decide +kernel
theorem dX4_match_0 : decode cX4_match 0 = .ok (.aload_n 0, 1) := by decide +kernel
theorem dX4_match_1 : decode cX4_match 1 = .ok (.iconst 0, 1) := by decide +kernel
theorem dX4_match_2 : decode cX4_match 2 = .ok (.putfield 7, 3) := by decide +kernel
theorem dX4_match_5 : decode cX4_match 5 = .ok (.iload_n 1, 1) := by decide +kernel
theorem dX4_match_6 : decode cX4_match 6 = .ok (.ifCond .lt 17, 3) := by decide +kernel
theorem dX4_match_9 : decode cX4_match 9 = .ok (.iload_n 1, 1) := by decide +kernel
theorem dX4_match_10 : decode cX4_match 10 = .ok (.iconst 2, 1) := by decide +kernel
theorem dX4_match_11 : decode cX4_match 11 = .ok (.if_icmp .gt 12, 3) := by decide +kernel
theorem dX4_match_14 : decode cX4_match 14 = .ok (.iload_n 2, 1) := by decide +kernel
theorem dX4_match_15 : decode cX4_match 15 = .ok (.ifCond .lt 8, 3) := by decide +kernel
theorem dX4_match_18 : decode cX4_match 18 = .ok (.iload_n 2, 1) := by decide +kernel
theorem dX4_match_19 : decode cX4_match 19 = .ok (.iconst 2, 1) := by decide +kernel
theorem dX4_match_20 : decode cX4_match 20 = .ok (.if_icmp .le 5, 3) := by decide +kernel
theorem dX4_match_23 : decode cX4_match 23 = .ok (.iconst (-1), 1) := by decide +kernel
theorem dX4_match_24 : decode cX4_match 24 = .ok (.ireturn, 1) := by decide +kernel
theorem dX4_match_25 : decode cX4_match 25 = .ok (.aload_n 0, 1) := by decide +kernel
theorem dX4_match_26 : decode cX4_match 26 = .ok (.iconst 0, 1) := by decide +kernel
theorem dX4_match_27 : decode cX4_match 27 = .ok (.putfield 39, 3) := by decide +kernel
theorem dX4_match_30 : decode cX4_match 30 = .ok (.iload_n 1, 1) := by decide +kernel
theorem dX4_match_31 : decode cX4_match 31 = .ok (.ifCond .ne 17, 3) := by decide +kernel
theorem dX4_match_34 : decode cX4_match 34 = .ok (.aload_n 0, 1) := by decide +kernel
theorem dX4_match_35 : decode cX4_match 35 = .ok (.iload_n 2, 1) := by decide +kernel
theorem dX4_match_36 : decode cX4_match 36 = .ok (.invokevirtual 66, 3) := by decide +kernel
theorem dX4_match_39 : decode cX4_match 39 = .ok (.ifCond .ne 7, 3) := by decide +kernel
theorem dX4_match_42 : decode cX4_match 42 = .ok (.iconst 1, 1) := by decide +kernel
theorem dX4_match_43 : decode cX4_match 43 = .ok (.goto 4, 3) := by decide +kernel
theorem dX4_match_46 : decode cX4_match 46 = .ok (.iconst 0, 1) := by decide +kernel
theorem dX4_match_47 : decode cX4_match 47 = .ok (.ireturn, 1) := by decide +kernel
theorem dX4_match_48 : decode cX4_match 48 = .ok (.iload_n 2, 1) := by decide +kernel
theorem dX4_match_49 : decode cX4_match 49 = .ok (.iconst 2, 1) := by decide +kernel
theorem dX4_match_50 : decode cX4_match 50 = .ok (.if_icmp .ne 5, 3) := by decide +kernel
theorem dX4_match_53 : decode cX4_match 53 = .ok (.iconst 0, 1) := by decide +kernel
theorem dX4_match_54 : decode cX4_match 54 = .ok (.ireturn, 1) := by decide +kernel
theorem dX4_match_55 : decode cX4_match 55 = .ok (.iload_n 1, 1) := by decide +kernel
theorem dX4_match_56 : decode cX4_match 56 = .ok (.iconst 1, 1) := by decide +kernel
theorem dX4_match_57 : decode cX4_match 57 = .ok (.if_icmp .ne 14, 3) := by decide +kernel
theorem dX4_match_60 : decode cX4_match 60 = .ok (.aload_n 0, 1) := by decide +kernel
theorem dX4_match_61 : decode cX4_match 61 = .ok (.iload_n 2, 1) := by decide +kernel
theorem dX4_match_62 : decode cX4_match 62 = .ok (.invokevirtual 70, 3) := by decide +kernel
theorem dX4_match_65 : decode cX4_match 65 = .ok (.ifCond .eq 18, 3) := by decide +kernel
theorem dX4_match_68 : decode cX4_match 68 = .ok (.goto 11, 3) := by decide +kernel
theorem dX4_match_71 : decode cX4_match 71 = .ok (.aload_n 0, 1) := by decide +kernel
theorem dX4_match_72 : decode cX4_match 72 = .ok (.iload_n 2, 1) := by decide +kernel
theorem dX4_match_73 : decode cX4_match 73 = .ok (.invokevirtual 74, 3) := by decide +kernel
theorem dX4_match_76 : decode cX4_match 76 = .ok (.ifCond .eq 7, 3) := by decide +kernel
theorem dX4_match_79 : decode cX4_match 79 = .ok (.iconst 1, 1) := by decide +kernel
theorem dX4_match_80 : decode cX4_match 80 = .ok (.goto 4, 3) := by decide +kernel
theorem dX4_match_83 : decode cX4_match 83 = .ok (.iconst 0, 1) := by decide +kernel
theorem dX4_match_84 : decode cX4_match 84 = .ok (.ireturn, 1) := by decide +kernel
theorem dX4_spans_0 : decode cX4_spans 0 = .ok (.aload_n 0, 1) := by decide +kernel
theorem dX4_spans_1 : decode cX4_spans 1 = .ok (.iconst 0, 1) := by decide +kernel
theorem dX4_spans_2 : decode cX4_spans 2 = .ok (.putfield 7, 3) := by decide +kernel
theorem dX4_spans_5 : decode cX4_spans 5 = .ok (.aload_n 0, 1) := by decide +kernel
theorem dX4_spans_6 : decode cX4_spans 6 = .ok (.getfield 39, 3) := by decide +kernel
theorem dX4_spans_9 : decode cX4_spans 9 = .ok (.ireturn, 1) := by decide +kernel
theorem dX4_span_0 : decode cX4_span 0 = .ok (.aload_n 0, 1) := by decide +kernel
theorem dX4_span_1 : decode cX4_span 1 = .ok (.iconst 0, 1) := by decide +kernel
theorem dX4_span_2 : decode cX4_span 2 = .ok (.putfield 7, 3) := by decide +kernel
theorem dX4_span_5 : decode cX4_span 5 = .ok (.iload_n 1, 1) := by decide +kernel
theorem dX4_span_6 : decode cX4_span 6 = .ok (.ifCond .lt 11, 3) := by decide +kernel
theorem dX4_span_9 : decode cX4_span 9 = .ok (.iload_n 1, 1) := by decide +kernel
theorem dX4_span_10 : decode cX4_span 10 = .ok (.aload_n 0, 1) := by decide +kernel
theorem dX4_span_11 : decode cX4_span 11 = .ok (.getfield 39, 3) := by decide +kernel
theorem dX4_span_14 : decode cX4_span 14 = .ok (.if_icmp .lt 5, 3) := by decide +kernel
theorem dX4_span_17 : decode cX4_span 17 = .ok (.iconst (-1), 1) := by decide +kernel
theorem dX4_span_18 : decode cX4_span 18 = .ok (.ireturn, 1) := by decide +kernel
theorem dX4_span_19 : decode cX4_span 19 = .ok (.iload_n 2, 1) := by decide +kernel
theorem dX4_span_20 : decode cX4_span 20 = .ok (.ifCond .ne 12, 3) := by decide +kernel
theorem dX4_span_23 : decode cX4_span 23 = .ok (.aload_n 0, 1) := by decide +kernel
theorem dX4_span_24 : decode cX4_span 24 = .ok (.getfield 42, 3) := by decide +kernel
theorem dX4_span_27 : decode cX4_span 27 = .ok (.iload_n 1, 1) := by decide +kernel
theorem dX4_span_28 : decode cX4_span 28 = .ok (.iaload, 1) := by decide +kernel
theorem dX4_span_29 : decode cX4_span 29 = .ok (.goto 18, 3) := by decide +kernel
theorem dX4_span_32 : decode cX4_span 32 = .ok (.iload_n 2, 1) := by decide +kernel
theorem dX4_span_33 : decode cX4_span 33 = .ok (.iconst 1, 1) := by decide +kernel
theorem dX4_span_34 : decode cX4_span 34 = .ok (.if_icmp .ne 12, 3) := by decide +kernel
theorem dX4_span_37 : decode cX4_span 37 = .ok (.aload_n 0, 1) := by decide +kernel
theorem dX4_span_38 : decode cX4_span 38 = .ok (.getfield 45, 3) := by decide +kernel
theorem dX4_span_41 : decode cX4_span 41 = .ok (.iload_n 1, 1) := by decide +kernel
theorem dX4_span_42 : decode cX4_span 42 = .ok (.iaload, 1) := by decide +kernel
theorem dX4_span_43 : decode cX4_span 43 = .ok (.goto 4, 3) := by decide +kernel
theorem dX4_span_46 : decode cX4_span 46 = .ok (.iconst (-1), 1) := by decide +kernel
theorem dX4_span_47 : decode cX4_span 47 = .ok (.ireturn, 1) := by decide +kernel
theorem dX4_order_0 : decode cX4_order 0 = .ok (.aload_n 0, 1) := by decide +kernel
theorem dX4_order_1 : decode cX4_order 1 = .ok (.iconst 0, 1) := by decide +kernel
theorem dX4_order_2 : decode cX4_order 2 = .ok (.putfield 7, 3) := by decide +kernel
theorem dX4_order_5 : decode cX4_order 5 = .ok (.iload_n 1, 1) := by decide +kernel
theorem dX4_order_6 : decode cX4_order 6 = .ok (.ifCond .lt 8, 3) := by decide +kernel
theorem dX4_order_9 : decode cX4_order 9 = .ok (.iload_n 1, 1) := by decide +kernel
theorem dX4_order_10 : decode cX4_order 10 = .ok (.iconst 2, 1) := by decide +kernel
theorem dX4_order_11 : decode cX4_order 11 = .ok (.if_icmp .le 8, 3) := by decide +kernel
theorem dX4_order_14 : decode cX4_order 14 = .ok (.bipush (-2), 2) := by decide +kernel
theorem dX4_order_16 : decode cX4_order 16 = .ok (.goto 8, 3) := by decide +kernel
theorem dX4_order_19 : decode cX4_order 19 = .ok (.aload_n 0, 1) := by decide +kernel
theorem dX4_order_20 : decode cX4_order 20 = .ok (.iload_n 1, 1) := by decide +kernel
theorem dX4_order_21 : decode cX4_order 21 = .ok (.invokevirtual 66, 3) := by decide +kernel
theorem dX4_order_24 : decode cX4_order 24 = .ok (.ireturn, 1) := by decide +kernel
theorem dX4_counts_0 : decode cX4_counts 0 = .ok (.aload_n 0, 1) := by decide +kernel
theorem dX4_counts_1 : decode cX4_counts 1 = .ok (.iconst 0, 1) := by decide +kernel
theorem dX4_counts_2 : decode cX4_counts 2 = .ok (.putfield 7, 3) := by decide +kernel
theorem dX4_counts_5 : decode cX4_counts 5 = .ok (.iload_n 1, 1) := by decide +kernel
theorem dX4_counts_6 : decode cX4_counts 6 = .ok (.ifCond .lt 12, 3) := by decide +kernel
theorem dX4_counts_9 : decode cX4_counts 9 = .ok (.iload_n 2, 1) := by decide +kernel
theorem dX4_counts_10 : decode cX4_counts 10 = .ok (.ifCond .lt 8, 3) := by decide +kernel
theorem dX4_counts_13 : decode cX4_counts 13 = .ok (.iload_n 2, 1) := by decide +kernel
theorem dX4_counts_14 : decode cX4_counts 14 = .ok (.iconst 5, 1) := by decide +kernel
theorem dX4_counts_15 : decode cX4_counts 15 = .ok (.if_icmp .le 5, 3) := by decide +kernel
theorem dX4_counts_18 : decode cX4_counts 18 = .ok (.iconst 0, 1) := by decide +kernel
theorem dX4_counts_19 : decode cX4_counts 19 = .ok (.ireturn, 1) := by decide +kernel
theorem dX4_counts_20 : decode cX4_counts 20 = .ok (.aload_n 0, 1) := by decide +kernel
theorem dX4_counts_21 : decode cX4_counts 21 = .ok (.getfield 17, 3) := by decide +kernel
theorem dX4_counts_24 : decode cX4_counts 24 = .ok (.aload_n 0, 1) := by decide +kernel
theorem dX4_counts_25 : decode cX4_counts 25 = .ok (.getfield 23, 3) := by decide +kernel
theorem dX4_counts_28 : decode cX4_counts 28 = .ok (.invokestatic 48, 3) := by decide +kernel
theorem dX4_counts_31 : decode cX4_counts 31 = .ok (.istore_n 3, 1) := by decide +kernel
theorem dX4_counts_32 : decode cX4_counts 32 = .ok (.iload_n 3, 1) := by decide +kernel
theorem dX4_counts_33 : decode cX4_counts 33 = .ok (.ifCond .ne 9, 3) := by decide +kernel
theorem dX4_counts_36 : decode cX4_counts 36 = .ok (.ldc2_w 77, 3) := by decide +kernel
theorem dX4_counts_39 : decode cX4_counts 39 = .ok (.goto 4, 3) := by decide +kernel
theorem dX4_counts_42 : decode cX4_counts 42 = .ok (.lconst 0, 1) := by decide +kernel
theorem dX4_counts_43 : decode cX4_counts 43 = .ok (.lstore 4, 2) := by decide +kernel
theorem dX4_counts_45 : decode cX4_counts 45 = .ok (.iconst 0, 1) := by decide +kernel
theorem dX4_counts_46 : decode cX4_counts 46 = .ok (.istore 6, 2) := by decide +kernel
theorem dX4_counts_48 : decode cX4_counts 48 = .ok (.iload 6, 2) := by decide +kernel
theorem dX4_counts_50 : decode cX4_counts 50 = .ok (.iload_n 3, 1) := by decide +kernel
theorem dX4_counts_51 : decode cX4_counts 51 = .ok (.if_icmp .ge 44, 3) := by decide +kernel
theorem dX4_counts_54 : decode cX4_counts 54 = .ok (.lload 4, 2) := by decide +kernel
theorem dX4_counts_56 : decode cX4_counts 56 = .ok (.ldc2_w 79, 3) := by decide +kernel
theorem dX4_counts_59 : decode cX4_counts 59 = .ok (.lcmp, 1) := by decide +kernel
theorem dX4_counts_60 : decode cX4_counts 60 = .ok (.ifCond .le 8, 3) := by decide +kernel
theorem dX4_counts_63 : decode cX4_counts 63 = .ok (.lload 4, 2) := by decide +kernel
theorem dX4_counts_65 : decode cX4_counts 65 = .ok (.goto 22, 3) := by decide +kernel
theorem dX4_counts_68 : decode cX4_counts 68 = .ok (.ldc2_w 81, 3) := by decide +kernel
theorem dX4_counts_71 : decode cX4_counts 71 = .ok (.lload 4, 2) := by decide +kernel
theorem dX4_counts_73 : decode cX4_counts 73 = .ok (.lmul, 1) := by decide +kernel
theorem dX4_counts_74 : decode cX4_counts 74 = .ok (.aload_n 0, 1) := by decide +kernel
theorem dX4_counts_75 : decode cX4_counts 75 = .ok (.getfield 17, 3) := by decide +kernel
theorem dX4_counts_78 : decode cX4_counts 78 = .ok (.iload 6, 2) := by decide +kernel
theorem dX4_counts_80 : decode cX4_counts 80 = .ok (.iaload, 1) := by decide +kernel
theorem dX4_counts_81 : decode cX4_counts 81 = .ok (.i2l, 1) := by decide +kernel
theorem dX4_counts_82 : decode cX4_counts 82 = .ok (.ladd, 1) := by decide +kernel
theorem dX4_counts_83 : decode cX4_counts 83 = .ok (.ldc2_w 83, 3) := by decide +kernel
theorem dX4_counts_86 : decode cX4_counts 86 = .ok (.lsub, 1) := by decide +kernel
theorem dX4_counts_87 : decode cX4_counts 87 = .ok (.lstore 4, 2) := by decide +kernel
theorem dX4_counts_89 : decode cX4_counts 89 = .ok (.iinc 6 1, 3) := by decide +kernel
theorem dX4_counts_92 : decode cX4_counts 92 = .ok (.goto (-44), 3) := by decide +kernel
theorem dX4_counts_95 : decode cX4_counts 95 = .ok (.iload_n 2, 1) := by decide +kernel
theorem dX4_counts_96 : decode cX4_counts 96 = .ok (.ifCond .ne 17, 3) := by decide +kernel
theorem dX4_counts_99 : decode cX4_counts 99 = .ok (.iload_n 1, 1) := by decide +kernel
theorem dX4_counts_100 : decode cX4_counts 100 = .ok (.i2l, 1) := by decide +kernel
theorem dX4_counts_101 : decode cX4_counts 101 = .ok (.lload 4, 2) := by decide +kernel
theorem dX4_counts_103 : decode cX4_counts 103 = .ok (.lcmp, 1) := by decide +kernel
theorem dX4_counts_104 : decode cX4_counts 104 = .ok (.ifCond .le 7, 3) := by decide +kernel
theorem dX4_counts_107 : decode cX4_counts 107 = .ok (.iconst 1, 1) := by decide +kernel
theorem dX4_counts_108 : decode cX4_counts 108 = .ok (.goto 4, 3) := by decide +kernel
theorem dX4_counts_111 : decode cX4_counts 111 = .ok (.iconst 0, 1) := by decide +kernel
theorem dX4_counts_112 : decode cX4_counts 112 = .ok (.ireturn, 1) := by decide +kernel
theorem dX4_counts_113 : decode cX4_counts 113 = .ok (.iload_n 2, 1) := by decide +kernel
theorem dX4_counts_114 : decode cX4_counts 114 = .ok (.iconst 1, 1) := by decide +kernel
theorem dX4_counts_115 : decode cX4_counts 115 = .ok (.if_icmp .ne 17, 3) := by decide +kernel
theorem dX4_counts_118 : decode cX4_counts 118 = .ok (.iload_n 1, 1) := by decide +kernel
theorem dX4_counts_119 : decode cX4_counts 119 = .ok (.i2l, 1) := by decide +kernel
theorem dX4_counts_120 : decode cX4_counts 120 = .ok (.lload 4, 2) := by decide +kernel
theorem dX4_counts_122 : decode cX4_counts 122 = .ok (.lcmp, 1) := by decide +kernel
theorem dX4_counts_123 : decode cX4_counts 123 = .ok (.ifCond .lt 7, 3) := by decide +kernel
theorem dX4_counts_126 : decode cX4_counts 126 = .ok (.iconst 1, 1) := by decide +kernel
theorem dX4_counts_127 : decode cX4_counts 127 = .ok (.goto 4, 3) := by decide +kernel
theorem dX4_counts_130 : decode cX4_counts 130 = .ok (.iconst 0, 1) := by decide +kernel
theorem dX4_counts_131 : decode cX4_counts 131 = .ok (.ireturn, 1) := by decide +kernel
theorem dX4_counts_132 : decode cX4_counts 132 = .ok (.iload_n 2, 1) := by decide +kernel
theorem dX4_counts_133 : decode cX4_counts 133 = .ok (.iconst 2, 1) := by decide +kernel
theorem dX4_counts_134 : decode cX4_counts 134 = .ok (.if_icmp .ne 17, 3) := by decide +kernel
theorem dX4_counts_137 : decode cX4_counts 137 = .ok (.iload_n 1, 1) := by decide +kernel
theorem dX4_counts_138 : decode cX4_counts 138 = .ok (.i2l, 1) := by decide +kernel
theorem dX4_counts_139 : decode cX4_counts 139 = .ok (.lload 4, 2) := by decide +kernel
theorem dX4_counts_141 : decode cX4_counts 141 = .ok (.lcmp, 1) := by decide +kernel
theorem dX4_counts_142 : decode cX4_counts 142 = .ok (.ifCond .ge 7, 3) := by decide +kernel
theorem dX4_counts_145 : decode cX4_counts 145 = .ok (.iconst 1, 1) := by decide +kernel
theorem dX4_counts_146 : decode cX4_counts 146 = .ok (.goto 4, 3) := by decide +kernel
theorem dX4_counts_149 : decode cX4_counts 149 = .ok (.iconst 0, 1) := by decide +kernel
theorem dX4_counts_150 : decode cX4_counts 150 = .ok (.ireturn, 1) := by decide +kernel
theorem dX4_counts_151 : decode cX4_counts 151 = .ok (.iload_n 2, 1) := by decide +kernel
theorem dX4_counts_152 : decode cX4_counts 152 = .ok (.iconst 3, 1) := by decide +kernel
theorem dX4_counts_153 : decode cX4_counts 153 = .ok (.if_icmp .ne 17, 3) := by decide +kernel
theorem dX4_counts_156 : decode cX4_counts 156 = .ok (.iload_n 1, 1) := by decide +kernel
theorem dX4_counts_157 : decode cX4_counts 157 = .ok (.i2l, 1) := by decide +kernel
theorem dX4_counts_158 : decode cX4_counts 158 = .ok (.lload 4, 2) := by decide +kernel
theorem dX4_counts_160 : decode cX4_counts 160 = .ok (.lcmp, 1) := by decide +kernel
theorem dX4_counts_161 : decode cX4_counts 161 = .ok (.ifCond .gt 7, 3) := by decide +kernel
theorem dX4_counts_164 : decode cX4_counts 164 = .ok (.iconst 1, 1) := by decide +kernel
theorem dX4_counts_165 : decode cX4_counts 165 = .ok (.goto 4, 3) := by decide +kernel
theorem dX4_counts_168 : decode cX4_counts 168 = .ok (.iconst 0, 1) := by decide +kernel
theorem dX4_counts_169 : decode cX4_counts 169 = .ok (.ireturn, 1) := by decide +kernel
theorem dX4_counts_170 : decode cX4_counts 170 = .ok (.iload_n 2, 1) := by decide +kernel
theorem dX4_counts_171 : decode cX4_counts 171 = .ok (.iconst 4, 1) := by decide +kernel
theorem dX4_counts_172 : decode cX4_counts 172 = .ok (.if_icmp .ne 19, 3) := by decide +kernel
theorem dX4_counts_175 : decode cX4_counts 175 = .ok (.iload_n 1, 1) := by decide +kernel
theorem dX4_counts_176 : decode cX4_counts 176 = .ok (.i2l, 1) := by decide +kernel
theorem dX4_counts_177 : decode cX4_counts 177 = .ok (.lload 4, 2) := by decide +kernel
theorem dX4_counts_179 : decode cX4_counts 179 = .ok (.lcmp, 1) := by decide +kernel
theorem dX4_counts_180 : decode cX4_counts 180 = .ok (.ifCond .ne 7, 3) := by decide +kernel
theorem dX4_counts_183 : decode cX4_counts 183 = .ok (.iconst 1, 1) := by decide +kernel
theorem dX4_counts_184 : decode cX4_counts 184 = .ok (.goto 20, 3) := by decide +kernel
theorem dX4_counts_187 : decode cX4_counts 187 = .ok (.iconst 0, 1) := by decide +kernel
theorem dX4_counts_188 : decode cX4_counts 188 = .ok (.goto 16, 3) := by decide +kernel
theorem dX4_counts_191 : decode cX4_counts 191 = .ok (.iload_n 1, 1) := by decide +kernel
theorem dX4_counts_192 : decode cX4_counts 192 = .ok (.i2l, 1) := by decide +kernel
theorem dX4_counts_193 : decode cX4_counts 193 = .ok (.lload 4, 2) := by decide +kernel
theorem dX4_counts_195 : decode cX4_counts 195 = .ok (.lcmp, 1) := by decide +kernel
theorem dX4_counts_196 : decode cX4_counts 196 = .ok (.ifCond .eq 7, 3) := by decide +kernel
theorem dX4_counts_199 : decode cX4_counts 199 = .ok (.iconst 1, 1) := by decide +kernel
theorem dX4_counts_200 : decode cX4_counts 200 = .ok (.goto 4, 3) := by decide +kernel
theorem dX4_counts_203 : decode cX4_counts 203 = .ok (.iconst 0, 1) := by decide +kernel
theorem dX4_counts_204 : decode cX4_counts 204 = .ok (.ireturn, 1) := by decide +kernel
theorem dX4_byteAt_0 : decode cX4_byteAt 0 = .ok (.aload_n 0, 1) := by decide +kernel
theorem dX4_byteAt_1 : decode cX4_byteAt 1 = .ok (.iconst 0, 1) := by decide +kernel
theorem dX4_byteAt_2 : decode cX4_byteAt 2 = .ok (.putfield 7, 3) := by decide +kernel
theorem dX4_byteAt_5 : decode cX4_byteAt 5 = .ok (.iload_n 2, 1) := by decide +kernel
theorem dX4_byteAt_6 : decode cX4_byteAt 6 = .ok (.ifCond .lt 31, 3) := by decide +kernel
theorem dX4_byteAt_9 : decode cX4_byteAt 9 = .ok (.iload_n 1, 1) := by decide +kernel
theorem dX4_byteAt_10 : decode cX4_byteAt 10 = .ok (.ifCond .lt 27, 3) := by decide +kernel
theorem dX4_byteAt_13 : decode cX4_byteAt 13 = .ok (.iload_n 1, 1) := by decide +kernel
theorem dX4_byteAt_14 : decode cX4_byteAt 14 = .ok (.iconst 1, 1) := by decide +kernel
theorem dX4_byteAt_15 : decode cX4_byteAt 15 = .ok (.if_icmp .gt 22, 3) := by decide +kernel
theorem dX4_byteAt_18 : decode cX4_byteAt 18 = .ok (.iload_n 2, 1) := by decide +kernel
theorem dX4_byteAt_19 : decode cX4_byteAt 19 = .ok (.iload_n 1, 1) := by decide +kernel
theorem dX4_byteAt_20 : decode cX4_byteAt 20 = .ok (.ifCond .ne 10, 3) := by decide +kernel
theorem dX4_byteAt_23 : decode cX4_byteAt 23 = .ok (.aload_n 0, 1) := by decide +kernel
theorem dX4_byteAt_24 : decode cX4_byteAt 24 = .ok (.getfield 20, 3) := by decide +kernel
theorem dX4_byteAt_27 : decode cX4_byteAt 27 = .ok (.goto 7, 3) := by decide +kernel
theorem dX4_byteAt_30 : decode cX4_byteAt 30 = .ok (.aload_n 0, 1) := by decide +kernel
theorem dX4_byteAt_31 : decode cX4_byteAt 31 = .ok (.getfield 23, 3) := by decide +kernel
theorem dX4_byteAt_34 : decode cX4_byteAt 34 = .ok (.if_icmp .lt 5, 3) := by decide +kernel
theorem dX4_byteAt_37 : decode cX4_byteAt 37 = .ok (.iconst (-1), 1) := by decide +kernel
theorem dX4_byteAt_38 : decode cX4_byteAt 38 = .ok (.ireturn, 1) := by decide +kernel
theorem dX4_byteAt_39 : decode cX4_byteAt 39 = .ok (.iload_n 1, 1) := by decide +kernel
theorem dX4_byteAt_40 : decode cX4_byteAt 40 = .ok (.ifCond .ne 12, 3) := by decide +kernel
theorem dX4_byteAt_43 : decode cX4_byteAt 43 = .ok (.aload_n 0, 1) := by decide +kernel
theorem dX4_byteAt_44 : decode cX4_byteAt 44 = .ok (.getfield 13, 3) := by decide +kernel
theorem dX4_byteAt_47 : decode cX4_byteAt 47 = .ok (.iload_n 2, 1) := by decide +kernel
theorem dX4_byteAt_48 : decode cX4_byteAt 48 = .ok (.iaload, 1) := by decide +kernel
theorem dX4_byteAt_49 : decode cX4_byteAt 49 = .ok (.goto 9, 3) := by decide +kernel
theorem dX4_byteAt_52 : decode cX4_byteAt 52 = .ok (.aload_n 0, 1) := by decide +kernel
theorem dX4_byteAt_53 : decode cX4_byteAt 53 = .ok (.getfield 17, 3) := by decide +kernel
theorem dX4_byteAt_56 : decode cX4_byteAt 56 = .ok (.iload_n 2, 1) := by decide +kernel
theorem dX4_byteAt_57 : decode cX4_byteAt 57 = .ok (.iaload, 1) := by decide +kernel
theorem dX4_byteAt_58 : decode cX4_byteAt 58 = .ok (.ireturn, 1) := by decide +kernel
theorem dX4_size_0 : decode cX4_size 0 = .ok (.aload_n 0, 1) := by decide +kernel
theorem dX4_size_1 : decode cX4_size 1 = .ok (.iconst 0, 1) := by decide +kernel
theorem dX4_size_2 : decode cX4_size 2 = .ok (.putfield 7, 3) := by decide +kernel
theorem dX4_size_5 : decode cX4_size 5 = .ok (.iload_n 1, 1) := by decide +kernel
theorem dX4_size_6 : decode cX4_size 6 = .ok (.ifCond .ne 10, 3) := by decide +kernel
theorem dX4_size_9 : decode cX4_size 9 = .ok (.aload_n 0, 1) := by decide +kernel
theorem dX4_size_10 : decode cX4_size 10 = .ok (.getfield 20, 3) := by decide +kernel
theorem dX4_size_13 : decode cX4_size 13 = .ok (.goto 16, 3) := by decide +kernel
theorem dX4_size_16 : decode cX4_size 16 = .ok (.iload_n 1, 1) := by decide +kernel
theorem dX4_size_17 : decode cX4_size 17 = .ok (.iconst 1, 1) := by decide +kernel
theorem dX4_size_18 : decode cX4_size 18 = .ok (.if_icmp .ne 10, 3) := by decide +kernel
theorem dX4_size_21 : decode cX4_size 21 = .ok (.aload_n 0, 1) := by decide +kernel
theorem dX4_size_22 : decode cX4_size 22 = .ok (.getfield 23, 3) := by decide +kernel
theorem dX4_size_25 : decode cX4_size 25 = .ok (.goto 4, 3) := by decide +kernel
theorem dX4_size_28 : decode cX4_size 28 = .ok (.iconst (-1), 1) := by decide +kernel
theorem dX4_size_29 : decode cX4_size 29 = .ok (.ireturn, 1) := by decide +kernel
end
section
/-- the classes whose objects the worlds hold -/
abbrev cl5 : List vw_C := [(RX0, TX0, 2), (RX1, TX1, 2), (RX2, TX2, 3), (RX3, TX3, 4), (RX4, TX4, 12)]
theorem inX0 : ∀ w ∈ u_ws RX0 TX0 2, w ∈ wsA := show ∀ w ∈ ([Cond.laysFinal "GlobDesk$Pattern" "GlobDesk$Pattern" "marks" "[I", Cond.lays "GlobDesk$Pattern" "GlobDesk$Pattern" "length" "I"] : List Cond), w ∈ wsA from List.forall_mem_cons.mpr ⟨mw55, List.forall_mem_cons.mpr ⟨mw57, fun _ h => absurd h List.not_mem_nil⟩⟩
theorem inX1 : ∀ w ∈ u_ws RX1 TX1 2, w ∈ wsA := show ∀ w ∈ ([Cond.laysFinal "GlobDesk$Row" "GlobDesk$Row" "bytes" "[I", Cond.lays "GlobDesk$Row" "GlobDesk$Row" "length" "I"] : List Cond), w ∈ wsA from List.forall_mem_cons.mpr ⟨mw40, List.forall_mem_cons.mpr ⟨mw42, fun _ h => absurd h List.not_mem_nil⟩⟩
theorem inX2 : ∀ w ∈ u_ws RX2 TX2 3, w ∈ wsA := show ∀ w ∈ ([Cond.laysFinal "GlobDesk$Spans" "GlobDesk$Spans" "begins" "[I", Cond.laysFinal "GlobDesk$Spans" "GlobDesk$Spans" "lengths" "[I", Cond.lays "GlobDesk$Spans" "GlobDesk$Spans" "length" "I"] : List Cond), w ∈ wsA from List.forall_mem_cons.mpr ⟨mw70, List.forall_mem_cons.mpr ⟨mw72, List.forall_mem_cons.mpr ⟨mw74, fun _ h => absurd h List.not_mem_nil⟩⟩⟩
theorem inX3 : ∀ w ∈ u_ws RX3 TX3 4, w ∈ wsA := show ∀ w ∈ ([Cond.laysFinal "GlobDesk" "GlobDesk" "value" "LGlobDesk$Row;", Cond.laysFinal "GlobDesk" "GlobDesk" "key" "LGlobDesk$Row;", Cond.laysFinal "GlobDesk" "GlobDesk" "pattern" "LGlobDesk$Pattern;", Cond.laysFinal "GlobDesk" "GlobDesk" "found" "LGlobDesk$Spans;"] : List Cond), w ∈ wsA from List.forall_mem_cons.mpr ⟨mw81, List.forall_mem_cons.mpr ⟨mw83, List.forall_mem_cons.mpr ⟨mw85, List.forall_mem_cons.mpr ⟨mw87, fun _ h => absurd h List.not_mem_nil⟩⟩⟩⟩
theorem inX4 : ∀ w ∈ u_ws RX4 TX4 12, w ∈ wsA := show ∀ w ∈ ([Cond.lays "GlobDeskModel" "GlobDeskModel" "thrownCode" "I", Cond.laysFinal "GlobDeskModel" "GlobDeskModel" "value" "[I", Cond.laysFinal "GlobDeskModel" "GlobDeskModel" "key" "[I", Cond.lays "GlobDeskModel" "GlobDeskModel" "values" "I", Cond.lays "GlobDeskModel" "GlobDeskModel" "keys" "I", Cond.lays "GlobDeskModel" "GlobDeskModel" "signs" "I", Cond.laysFinal "GlobDeskModel" "GlobDeskModel" "sign" "[I", Cond.laysFinal "GlobDeskModel" "GlobDeskModel" "literal" "[I", Cond.laysFinal "GlobDeskModel" "GlobDeskModel" "can" "[Z", Cond.lays "GlobDeskModel" "GlobDeskModel" "spanCount" "I", Cond.laysFinal "GlobDeskModel" "GlobDeskModel" "from" "[I", Cond.laysFinal "GlobDeskModel" "GlobDeskModel" "many" "[I"] : List Cond), w ∈ wsA from List.forall_mem_cons.mpr ⟨mw256, List.forall_mem_cons.mpr ⟨mw258, List.forall_mem_cons.mpr ⟨mw260, List.forall_mem_cons.mpr ⟨mw262, List.forall_mem_cons.mpr ⟨mw264, List.forall_mem_cons.mpr ⟨mw266, List.forall_mem_cons.mpr ⟨mw268, List.forall_mem_cons.mpr ⟨mw270, List.forall_mem_cons.mpr ⟨mw272, List.forall_mem_cons.mpr ⟨mw274, List.forall_mem_cons.mpr ⟨mw276, List.forall_mem_cons.mpr ⟨mw278, fun _ h => absurd h List.not_mem_nil⟩⟩⟩⟩⟩⟩⟩⟩⟩⟩⟩⟩
theorem gV {own C : String} {idx : Nat} {y : MethodName} {c : ByteArray} {n : Nat} {r : Option FieldType} (h1 : Cond.methodLink own idx y ∈ wsA) (h2 : Cond.instanceMethod y ∈ wsA) (h3 : Cond.selects C y y ∈ wsA) (h4 : Cond.initialized C ∈ wsA) (h5 : Cond.code y c n r ∈ wsA) : GoodIn wsA (wsV own idx C y (.code y c n r :: wsA)) := goodA (by
  intro w h
  simp only [wsV, List.mem_append, List.mem_cons, List.not_mem_nil, or_false] at h
  rcases h with (h | h | h | h) | h | h
  · rw [h]; exact h1
  · rw [h]; exact h2
  · rw [h]; exact h3
  · rw [h]; exact h4
  · rw [h]; exact h5
  · exact h)
theorem gS {own : String} {idx : Nat} {y : MethodName} {c : ByteArray} {n : Nat} {r : Option FieldType} (h1 : Cond.methodLink own idx y ∈ wsA) (h2 : Cond.static y ∈ wsA) (h4 : Cond.initialized own ∈ wsA) (h5 : Cond.code y c n r ∈ wsA) : GoodIn wsA (wsS own idx y (.code y c n r :: wsA)) := goodA (by
  intro w h
  simp only [wsS, List.mem_append, List.mem_cons, List.not_mem_nil, or_false] at h
  rcases h with (h | h | h) | h | h
  · rw [h]; exact h1
  · rw [h]; exact h2
  · rw [h]; exact h4
  · rw [h]; exact h5
  · exact h)
theorem gI {y : MethodName} {c : ByteArray} {n : Nat} {r : Option FieldType} (h5 : Cond.code y c n r ∈ wsA) : GoodIn wsA (.code y c n r :: wsA) := goodA (fun w h => by
  rcases List.mem_cons.mp h with h | h
  · rw [h]; exact h5
  · exact h)
/-- the links between nest mates -/
def nz (U : State) : Prop := va_Nw (Cond.methodLinkNest "GlobDesk" 9 yX1_init "GlobDesk") U ∧ va_Nw (Cond.fieldLinkNest "GlobDesk$Pattern" 19 "GlobDesk$Row" "length" "I" "GlobDesk") U ∧ va_Nw (Cond.fieldLinkNest "GlobDesk" 41 "GlobDesk$Row" "length" "I" "GlobDesk") U ∧ va_Nw (Cond.methodLinkNest "GlobDesk" 21 yX0_init "GlobDesk") U ∧ va_Nw (Cond.fieldLinkNest "GlobDesk" 83 "GlobDesk$Pattern" "length" "I" "GlobDesk") U ∧ va_Nw (Cond.methodLinkNest "GlobDesk" 28 yX2_init "GlobDesk") U ∧ va_Nw (Cond.fieldLinkNest "GlobDesk" 49 "GlobDesk$Spans" "length" "I" "GlobDesk") U
theorem nz.warm {s U : State} (hW : s.WarmedH U.vm) (h : nz s) : nz U := ⟨va_Nw.warmM hW h.1, va_Nw.warmF hW h.2.1, va_Nw.warmF hW h.2.2.1, va_Nw.warmM hW h.2.2.2.1, va_Nw.warmF hW h.2.2.2.2.1, va_Nw.warmM hW h.2.2.2.2.2.1, va_Nw.warmF hW h.2.2.2.2.2.2⟩
theorem nz.call {U : State} {g : JFrame} {mk : MethodId} {a : Array Value} (h : nz U) : nz (U.calling g mk a) := ⟨va_Nw.same (u := U) rfl rfl h.1, va_Nw.same (u := U) rfl rfl h.2.1, va_Nw.same (u := U) rfl rfl h.2.2.1, va_Nw.same (u := U) rfl rfl h.2.2.2.1, va_Nw.same (u := U) rfl rfl h.2.2.2.2.1, va_Nw.same (u := U) rfl rfl h.2.2.2.2.2.1, va_Nw.same (u := U) rfl rfl h.2.2.2.2.2.2⟩
/-- a method that reads: what it needs of the world -/
def ro (D : va_G) (ws : va_W) (tys : List (ClassId × FieldType)) (U : State) : Prop := nz U ∧ va_P D cl5 ws U.heap ∧ va_K D cl5 tys U
theorem ro.call {D : va_G} {ws : va_W} {tys : List (ClassId × FieldType)} {U : State} {g : JFrame} {mk : MethodId} {a : Array Value} (h : ro D ws tys U) : ro D ws tys (U.calling g mk a) := ⟨h.1.call, h.2.1, va_K.moved (u := U) (U := U.calling g mk a) (Vm.Alike.refl U.vm) h.2.2⟩
theorem ro.V {s : State} {H : Heap} {D : va_G} {ws : va_W} {tys : List (ClassId × FieldType)} {C : String} {T : u_T} {N b q0 ci : Nat} {fs As : List Value} (hN : nz s) (hK : va_K D cl5 tys s) (hP : va_P D cl5 ws H) (hc : cl5[ci]? = some (C, T, N)) (he : ws[q0]? = some (b, .inr (ci, fs))) : PreV s H C b (va_Pc (.ref b :: As) (ro D ws tys)) As :=
  ⟨fun _ _ _ _ q => ⟨q.1, q.2.call⟩, va_recv hK hP hc he, fun U hU hW => ⟨rfl, hN.warm hW, by rw [hU]; exact hP, va_K.moved hW.alike hK⟩⟩
theorem ro.S {s : State} {H : Heap} {D : va_G} {ws : va_W} {tys : List (ClassId × FieldType)} {As : List Value} (hN : nz s) (hK : va_K D cl5 tys s) (hP : va_P D cl5 ws H) : PreS s H (va_Pc As (ro D ws tys)) As :=
  ⟨fun _ _ _ _ q => ⟨q.1, q.2.call⟩, fun U hU hW => ⟨rfl, hN.warm hW, by rw [hU]; exact hP, va_K.moved hW.alike hK⟩⟩
theorem st.S {s : State} {H : Heap} {As : List Value} : PreS s H (va_Pc As (fun _ => True)) As := ⟨fun _ _ _ _ q => q, fun _ _ _ => ⟨rfl, trivial⟩⟩
/-- a method that writes: what it needs of the world -/
def wr (D : va_G) (ws : va_W) (tys : List (ClassId × FieldType)) (sz : Nat) (U : State) : Prop := U.heap.size = sz ∧ nz U ∧ va_P D cl5 ws U.heap ∧ va_K D cl5 tys U ∧ va_D (fun _ => True) ws
theorem wr.call {D : va_G} {ws : va_W} {tys : List (ClassId × FieldType)} {sz : Nat} {U : State} {g : JFrame} {mk : MethodId} {a : Array Value} (h : wr D ws tys sz U) : wr D ws tys sz (U.calling g mk a) := ⟨h.1, h.2.1.call, h.2.2.1, va_K.moved (u := U) (U := U.calling g mk a) (Vm.Alike.refl U.vm) h.2.2.2.1, h.2.2.2.2⟩
theorem wr.V {s : State} {H : Heap} {D : va_G} {ws : va_W} {tys : List (ClassId × FieldType)} {A : Nat → Prop} {C : String} {T : u_T} {N b q0 ci : Nat} {fs As : List Value} (hN : nz s) (hK : va_K D cl5 tys s) (hP : va_P D cl5 ws H) (hD : va_D A ws) (hc : cl5[ci]? = some (C, T, N)) (he : ws[q0]? = some (b, .inr (ci, fs))) : PreV s H C b (va_Pc (.ref b :: As) (wr D ws tys H.size)) As :=
  ⟨fun _ _ _ _ q => ⟨q.1, q.2.call⟩, va_recv hK hP hc he, fun U hU hW => ⟨rfl, by rw [hU], hN.warm hW, by rw [hU]; exact hP, va_K.moved hW.alike hK, hD.weaken (fun _ _ _ _ => trivial)⟩⟩
theorem wr.S {s : State} {H : Heap} {D : va_G} {ws : va_W} {tys : List (ClassId × FieldType)} {A : Nat → Prop} {As : List Value} (hN : nz s) (hK : va_K D cl5 tys s) (hP : va_P D cl5 ws H) (hD : va_D A ws) : PreS s H (va_Pc As (wr D ws tys H.size)) As :=
  ⟨fun _ _ _ _ q => ⟨q.1, q.2.call⟩, fun U hU hW => ⟨rfl, by rw [hU], hN.warm hW, by rw [hU]; exact hP, va_K.moved hW.alike hK, hD.weaken (fun _ _ _ _ => trivial)⟩⟩
/-- the world behind a writer: the cells that u says -/
def wB {S : Type} (D : va_G) (A : Nat → Prop) (Wf : S → va_W) (u : S) (t : State) : Prop := va_P D cl5 (Wf u) t.heap ∧ va_D A (Wf u)
-- numbers
theorem nI_inc (i : Nat) : nI i + Int32.ofInt 1 = nI (i + 1) := nI_1 i
theorem ti_lt {a b : Int32} : a < b ↔ a.toInt < b.toInt := Int32.lt_iff_toInt_lt
theorem ti_le {a b : Int32} : a ≤ b ↔ a.toInt ≤ b.toInt := Int32.le_iff_toInt_le
theorem ti_eq {a b : Int32} : a = b ↔ a.toInt = b.toInt := Int32.toInt_inj.symm
theorem ti_cl {a : Int32} : a.toNatClampNeg = a.toInt.toNat := rfl
theorem vp_of {x : Int32} {n : Nat} (h0 : 0 ≤ x.toInt) (h1 : x.toInt < n) : vp_in x n := vp_in_iff.mpr ⟨h0, h1⟩
theorem tc_m2 : (-2 : Int32).toInt = -2 := by decide
theorem tc_m1 : (-1 : Int32).toInt = -1 := by decide
theorem tc_0 : (0 : Int32).toInt = 0 := by decide
theorem tc_1 : (1 : Int32).toInt = 1 := by decide
theorem tc_2 : (2 : Int32).toInt = 2 := by decide
theorem tc_3 : (3 : Int32).toInt = 3 := by decide
theorem tc_4 : (4 : Int32).toInt = 4 := by decide
theorem tc_5 : (5 : Int32).toInt = 5 := by decide
theorem tc_8 : (8 : Int32).toInt = 8 := by decide
theorem tc_32 : (32 : Int32).toInt = 32 := by decide
theorem tc_42 : (42 : Int32).toInt = 42 := by decide
theorem tc_48 : (48 : Int32).toInt = 48 := by decide
theorem tc_57 : (57 : Int32).toInt = 57 := by decide
theorem tc_63 : (63 : Int32).toInt = 63 := by decide
theorem tc_65 : (65 : Int32).toInt = 65 := by decide
theorem tc_90 : (90 : Int32).toInt = 90 := by decide
theorem tc_92 : (92 : Int32).toInt = 92 := by decide
theorem tc_97 : (97 : Int32).toInt = 97 := by decide
theorem tc_100 : (100 : Int32).toInt = 100 := by decide
theorem tc_101 : (101 : Int32).toInt = 101 := by decide
theorem tc_102 : (102 : Int32).toInt = 102 := by decide
theorem tc_122 : (122 : Int32).toInt = 122 := by decide
theorem tc_255 : (255 : Int32).toInt = 255 := by decide
theorem tc_256 : (256 : Int32).toInt = 256 := by decide
theorem tc_257 : (257 : Int32).toInt = 257 := by decide
end
section
/-- the entry i of a row of n entries; -1 if there is none -/
def ra (f : Nat → Int32) (n : Nat) (i : Int32) : Int32 := if 0 ≤ i.toInt ∧ i.toInt < n then f i.toNatClampNeg else -1
theorem ra_neg {f : Nat → Int32} {n : Nat} {i : Int32} (h : i < 0) : ra f n i = -1 := by
  rw [ti_lt, tc_0] at h
  exact if_neg (by omega)
theorem ra_big {f : Nat → Int32} {n : Nat} {i : Int32} (h : nI n ≤ i) (hn : n ≤ 100) : ra f n i = -1 := by
  rw [ti_le, nI_toInt (by omega)] at h
  exact if_neg (by omega)
theorem ra_ok {f : Nat → Int32} {n : Nat} {i : Int32} (h0 : ¬ i < 0) (h : ¬ nI n ≤ i) (hn : n ≤ 100) : f i.toNatClampNeg = ra f n i := by
  rw [ti_le, nI_toInt (by omega)] at h
  rw [ti_lt, tc_0] at h0
  exact (if_pos ⟨by omega, by omega⟩).symm
theorem ra_vp {n : Nat} {i : Int32} (h0 : ¬ i < 0) (h : ¬ nI n ≤ i) (hn : n ≤ 100) : vp_in i 100 := by
  rw [ti_le, nI_toInt (by omega)] at h
  rw [ti_lt, tc_0] at h0
  exact vp_of (by omega) (by omega)
theorem ra_in {f : Nat → Int32} {n j : Nat} (h : j < n) (hn : n ≤ 100) : ra f n (nI j) = f j := by
  unfold ra
  rw [nI_toInt (by omega), if_pos ⟨by omega, by omega⟩, nI_clamp (by omega)]
/-- the first place from i on, at most k further, where p fails -/
def cnt (p : Nat → Bool) : Nat → Nat → Nat
  | 0, i => i
  | k + 1, i => if p i = true then cnt p k (i + 1) else i
theorem cnt_stop {p : Nat → Bool} {k i : Nat} (h : p i = false) : cnt p k i = i := by
  cases k with
  | zero => rfl
  | succ k => simp [cnt, h]
theorem cnt_step {p : Nat → Bool} {k i : Nat} (h : p i = true) (hk : 0 < k) : cnt p k i = cnt p (k - 1) (i + 1) := by
  cases k with
  | zero => omega
  | succ k => simp [cnt, h]
theorem cnt_le (p : Nat → Bool) : ∀ k i, i ≤ cnt p k i ∧ cnt p k i ≤ i + k
  | 0, i => ⟨Nat.le_refl _, Nat.le_refl _⟩
  | k + 1, i => by
    unfold cnt
    split
    · have := cnt_le p k (i + 1); omega
    · omega
theorem cnt_in (p : Nat → Bool) : ∀ k i j, i ≤ j → j < cnt p k i → p j = true
  | 0, i, j, h1, h2 => by simp [cnt] at h2; omega
  | k + 1, i, j, h1, h2 => by
    unfold cnt at h2
    split at h2
    · rcases Nat.lt_or_ge i j with q | q
      · exact cnt_in p k (i + 1) j q h2
      · have : j = i := by omega
        subst this; assumption
    · omega
/-- a digit -/
def dgb (x : Int32) : Bool := decide (48 ≤ x.toInt ∧ x.toInt ≤ 57)
theorem dgb_lt {x : Int32} (h : x < 48) : dgb x = false := by
  rw [ti_lt, tc_48] at h; exact decide_eq_false (by omega)
theorem dgb_gt {x : Int32} (h : 57 < x) : dgb x = false := by
  rw [ti_lt, tc_57] at h; exact decide_eq_false (by omega)
theorem dgb_in {x : Int32} (h : ¬ x < 48) (h2 : ¬ 57 < x) : dgb x = true := by
  rw [ti_lt, tc_48] at h; rw [ti_lt, tc_57] at h2; exact decide_eq_true (by omega)
/-- how many digits a row begins with -/
def dg (f : Nat → Int32) (n : Nat) : Nat := cnt (fun j => dgb (f j)) n 0
theorem dg_le (f : Nat → Int32) (n : Nat) : dg f n ≤ n := by have := (cnt_le (fun j => dgb (f j)) n 0).2; unfold dg; omega
/-- how many zeros the first e bytes begin with -/
def zr (f : Nat → Int32) (e : Nat) : Nat := cnt (fun j => decide (f j = 48)) e 0
theorem zr_le (f : Nat → Int32) (n : Nat) : zr f n ≤ n := by have := (cnt_le (fun j => decide (f j = 48)) n 0).2; unfold zr; omega
/-- a .. z as A .. Z for the comparator 0 -/
def fo (x c : Int32) : Int32 := if c = 0 ∧ 97 ≤ x.toInt ∧ x.toInt ≤ 122 then x - 32 else x
/-- the sign of a against b -/
def sg (a b : Int32) : Int32 := if a < b then -1 else if b < a then 1 else 0
theorem sg_self (a : Int32) : sg a a = 0 := by
  unfold sg
  rw [if_neg (by rw [ti_lt]; omega), if_neg (by rw [ti_lt]; omega)]
theorem sg_ne {a b : Int32} (h : a ≠ b) : sg a b = if a < b then -1 else 1 := by
  unfold sg
  by_cases q : a < b
  · rw [if_pos q, if_pos q]
  · rw [if_neg q, if_neg q, if_pos]
    rw [ti_lt] at q ⊢
    have : a.toInt ≠ b.toInt := fun e => h (Int32.toInt_inj.mp e)
    omega
theorem sg_0 {a b : Int32} : sg a b = 0 ↔ a = b := by
  constructor
  · intro h
    by_cases q : a = b
    · exact q
    · rw [sg_ne q] at h
      split at h <;> exact absurd h (by decide)
  · rintro rfl; exact sg_self _
theorem sub32 (x : Int32) : x - 97 + 65 = x - 32 := by
  rw [Int32.sub_eq_add_neg, Int32.sub_eq_add_neg, Int32.add_assoc]; rfl
theorem sg_l {a b : Int32} (h : ¬ b ≤ a) : -1 = sg a b := by
  unfold sg; rw [if_pos (by rw [ti_lt]; rw [ti_le] at h; omega)]
theorem sg_g {a b : Int32} (h : b ≤ a) (h2 : ¬ a ≤ b) : 1 = sg a b := by
  unfold sg; rw [ti_le] at h h2; rw [if_neg (by rw [ti_lt]; omega), if_pos (by rw [ti_lt]; omega)]
theorem sg_e {a b : Int32} (h : b ≤ a) (h2 : a ≤ b) : 0 = sg a b := by
  unfold sg; rw [ti_le] at h h2; rw [if_neg (by rw [ti_lt]; omega), if_neg (by rw [ti_lt]; omega)]
theorem fo_t {x c : Int32} (h1 : ¬ x < 97) (h2 : ¬ 122 < x) (hc : c = 0) : fo x c = x - 32 := by
  rw [ti_lt, tc_97] at h1; rw [ti_lt, tc_122] at h2; exact if_pos ⟨hc, by omega, by omega⟩
theorem fo_c {x c : Int32} (hc : ¬ c = 0) : fo x c = x := if_neg (fun h => hc h.1)
theorem fo_l {x c : Int32} (h : x < 97) : fo x c = x := by
  rw [ti_lt, tc_97] at h; exact if_neg (by omega)
theorem fo_g {x c : Int32} (h : 122 < x) : fo x c = x := by
  rw [ti_lt, tc_122] at h; exact if_neg (by omega)
end
section
abbrev rm_c_Row_at : Room := { frames := 0, cells := 0, slots := 0, locals := 0 }
set_option maxHeartbeats 4000000 in
set_option maxRecDepth 100000 in
theorem c_Row_at (l : Launch) (dC : Nat → ClassId) (dI : Nat → Nat → Nat) (h0 q : Nat) (k : ClassId) (f : Nat → Int32) (n : Nat) (hn : n ≤ 100) (i : Int32) : Met l yX1_at (.code yX1_at cX1_at 2 (some (.int)) :: wsA) rm_c_Row_at (va_Pc [.ref h0, .int (i)] (ro (dC, dI) [(h0, .inr (1, [.ref q, .int (nI n)])), (q, .inl (k, 100, .inl f))] [(k, .int)])) (vp_Si (fun r => r = ra f n i)) 0 0 (fun _ => False) := by
  refine Met.ofW (cc := cX1_at) (maxL := 2) (ret := (some (.int))) (by decide) rfl ?_
  intro p e s m args below meth c s₁ B hml hv
  obtain ⟨hargs, hN, hP, hK⟩ := hv
  have hx := B.exec
  have hb := B.bytes
  have hr := B.returns
  have hw : ∀ w ∈ wsA, w.before args s = true := fun w h => atoms_spec (ws := (.code yX1_at cX1_at 2 (some (.int)) :: wsA)) B.pre w (List.mem_cons_of_mem _ h)
  have hown : s.vm.findClass "GlobDesk$Row" = some m.cls := findClass_of_methodNamed B.named
  have hlocks := B.notSynchronized
  generalize hQ : MQ below _ args s _ _ _ = Q
  change W p l e rm_c_Row_at s m args below meth c s.heap [] 0 0 Q (entryFrame m args 2)
  have hl := lv_entry ([.ref h0, .int (i)]) (n := 2) (Nat.le_of_ble_eq_true rfl)
  rw [show entryFrame m args 2 = entryFrame m ([.ref h0, .int (i)] : List Value).toArray 2 from by rw [hargs], lg_entry_eq]
  generalize (lg_sl ([.ref h0, .int (i)]) ++ List.replicate (2 - (lg_sl ([.ref h0, .int (i)])).length) Slot.unset).toArray = ls at hl ⊢
  have hl : lv_has ls 2 [(0, .ref h0), (1, .int (i))] := hl
  refine lv_iload_n hx hb dX1_at_0 rfl (lv_at hl 1 rfl) ?_
  refine lv_if_lt (tgt := 21) hx hb dX1_at_1 (by decide) (fun c1_0 => ?_) (fun c1_0 => ?_)
  · skip
    have hc0 := c1_0
    refine lv_iconst (v := -1) hx hb dX1_at_21 (by decide) ?_
    subst hQ
    exact W.iret (v := (-1)) hx hb hr (fun t ht hW => ⟨_, rfl, Eq.symm (by first | exact ra_neg hc0 | exact ra_big hc hn), ht⟩) (fun _ h => absurd h List.not_mem_nil) dX1_at_22
  · skip
    have hc0 := c1_0
    refine lv_iload_n hx hb dX1_at_4 rfl (lv_at hl 1 rfl) ?_
    refine lv_aload_n hx hb dX1_at_5 rfl (lv_at hl 0 rfl) ?_
    refine va_get (D := (dC, dI)) (ci := 1) (v := .int (nI n)) (C := RX1) (T := TX1) (N := 2) hx hb hw inX1 hown hK hP 0 rfl rfl 1 (by decide) (hw _ mw37) (fun _ h9 => h9) rfl dX1_at_6 ?_
    refine lv_icmp_ge (tgt := 21) hx hb dX1_at_9 (by decide) (fun c9_1 => ?_) (fun c9_1 => ?_)
    · skip
      have hc := c9_1
      refine lv_iconst (v := -1) hx hb dX1_at_21 (by decide) ?_
      subst hQ
      exact W.iret (v := (-1)) hx hb hr (fun t ht hW => ⟨_, rfl, Eq.symm (by first | exact ra_neg hc0 | exact ra_big hc hn), ht⟩) (fun _ h => absurd h List.not_mem_nil) dX1_at_22
    · skip
      have hc := c9_1
      refine lv_aload_n hx hb dX1_at_12 rfl (lv_at hl 0 rfl) ?_
      refine va_get (D := (dC, dI)) (ci := 1) (v := .ref q) (C := RX1) (T := TX1) (N := 2) hx hb hw inX1 hown hK hP 0 rfl rfl 0 (by decide) (hw _ mw36) (fun _ h9 => h9) rfl dX1_at_13 ?_
      refine lv_iload_n hx hb dX1_at_16 rfl (lv_at hl 1 rfl) ?_
      refine va_iald hx hb hK hP 1 0 rfl rfl (i := i) (ra_vp hc0 hc hn) dX1_at_17 ?_
      refine lv_goto (tgt := 22) hx hb dX1_at_18 (by decide) ?_
      subst hQ
      exact W.iret (v := (f (i).toNatClampNeg)) hx hb hr (fun t ht hW => ⟨_, rfl, ra_ok hc0 hc hn, ht⟩) (fun _ h => absurd h List.not_mem_nil) dX1_at_22

abbrev rm_c_Pat_at : Room := { frames := 0, cells := 0, slots := 0, locals := 0 }
set_option maxHeartbeats 4000000 in
set_option maxRecDepth 100000 in
theorem c_Pat_at (l : Launch) (dC : Nat → ClassId) (dI : Nat → Nat → Nat) (h0 q : Nat) (k : ClassId) (f : Nat → Int32) (n : Nat) (hn : n ≤ 100) (i : Int32) : Met l yX0_at (.code yX0_at cX0_at 2 (some (.int)) :: wsA) rm_c_Pat_at (va_Pc [.ref h0, .int (i)] (ro (dC, dI) [(h0, .inr (0, [.ref q, .int (nI n)])), (q, .inl (k, 100, .inl f))] [(k, .int)])) (vp_Si (fun r => r = ra f n i)) 0 0 (fun _ => False) := by
  refine Met.ofW (cc := cX0_at) (maxL := 2) (ret := (some (.int))) (by decide) rfl ?_
  intro p e s m args below meth c s₁ B hml hv
  obtain ⟨hargs, hN, hP, hK⟩ := hv
  have hx := B.exec
  have hb := B.bytes
  have hr := B.returns
  have hw : ∀ w ∈ wsA, w.before args s = true := fun w h => atoms_spec (ws := (.code yX0_at cX0_at 2 (some (.int)) :: wsA)) B.pre w (List.mem_cons_of_mem _ h)
  have hown : s.vm.findClass "GlobDesk$Pattern" = some m.cls := findClass_of_methodNamed B.named
  have hlocks := B.notSynchronized
  generalize hQ : MQ below _ args s _ _ _ = Q
  change W p l e rm_c_Pat_at s m args below meth c s.heap [] 0 0 Q (entryFrame m args 2)
  have hl := lv_entry ([.ref h0, .int (i)]) (n := 2) (Nat.le_of_ble_eq_true rfl)
  rw [show entryFrame m args 2 = entryFrame m ([.ref h0, .int (i)] : List Value).toArray 2 from by rw [hargs], lg_entry_eq]
  generalize (lg_sl ([.ref h0, .int (i)]) ++ List.replicate (2 - (lg_sl ([.ref h0, .int (i)])).length) Slot.unset).toArray = ls at hl ⊢
  have hl : lv_has ls 2 [(0, .ref h0), (1, .int (i))] := hl
  refine lv_iload_n hx hb dX0_at_0 rfl (lv_at hl 1 rfl) ?_
  refine lv_if_lt (tgt := 21) hx hb dX0_at_1 (by decide) (fun c1_0 => ?_) (fun c1_0 => ?_)
  · skip
    have hc0 := c1_0
    refine lv_iconst (v := -1) hx hb dX0_at_21 (by decide) ?_
    subst hQ
    exact W.iret (v := (-1)) hx hb hr (fun t ht hW => ⟨_, rfl, Eq.symm (by first | exact ra_neg hc0 | exact ra_big hc hn), ht⟩) (fun _ h => absurd h List.not_mem_nil) dX0_at_22
  · skip
    have hc0 := c1_0
    refine lv_iload_n hx hb dX0_at_4 rfl (lv_at hl 1 rfl) ?_
    refine lv_aload_n hx hb dX0_at_5 rfl (lv_at hl 0 rfl) ?_
    refine va_get (D := (dC, dI)) (ci := 0) (v := .int (nI n)) (C := RX0) (T := TX0) (N := 2) hx hb hw inX0 hown hK hP 0 rfl rfl 1 (by decide) (hw _ mw53) (fun _ h9 => h9) rfl dX0_at_6 ?_
    refine lv_icmp_ge (tgt := 21) hx hb dX0_at_9 (by decide) (fun c9_1 => ?_) (fun c9_1 => ?_)
    · skip
      have hc := c9_1
      refine lv_iconst (v := -1) hx hb dX0_at_21 (by decide) ?_
      subst hQ
      exact W.iret (v := (-1)) hx hb hr (fun t ht hW => ⟨_, rfl, Eq.symm (by first | exact ra_neg hc0 | exact ra_big hc hn), ht⟩) (fun _ h => absurd h List.not_mem_nil) dX0_at_22
    · skip
      have hc := c9_1
      refine lv_aload_n hx hb dX0_at_12 rfl (lv_at hl 0 rfl) ?_
      refine va_get (D := (dC, dI)) (ci := 0) (v := .ref q) (C := RX0) (T := TX0) (N := 2) hx hb hw inX0 hown hK hP 0 rfl rfl 0 (by decide) (hw _ mw52) (fun _ h9 => h9) rfl dX0_at_13 ?_
      refine lv_iload_n hx hb dX0_at_16 rfl (lv_at hl 1 rfl) ?_
      refine va_iald hx hb hK hP 1 0 rfl rfl (i := i) (ra_vp hc0 hc hn) dX0_at_17 ?_
      refine lv_goto (tgt := 22) hx hb dX0_at_18 (by decide) ?_
      subst hQ
      exact W.iret (v := (f (i).toNatClampNeg)) hx hb hr (fun t ht hW => ⟨_, rfl, ra_ok hc0 hc hn, ht⟩) (fun _ h => absurd h List.not_mem_nil) dX0_at_22
end
section
abbrev rm_c_Sp_begin : Room := { frames := 0, cells := 0, slots := 0, locals := 0 }
set_option maxHeartbeats 4000000 in
set_option maxRecDepth 100000 in
theorem c_Sp_begin (l : Launch) (dC : Nat → ClassId) (dI : Nat → Nat → Nat) (h0 q1 q2 : Nat) (k1 k2 : ClassId) (f g : Nat → Int32) (n : Nat) (hn : n ≤ 100) (i : Int32) : Met l yX2_beginOf (.code yX2_beginOf cX2_beginOf 2 (some (.int)) :: wsA) rm_c_Sp_begin (va_Pc [.ref h0, .int (i)] (ro (dC, dI) [(h0, .inr (2, [.ref q1, .ref q2, .int (nI n)])), (q1, .inl (k1, 100, .inl f)), (q2, .inl (k2, 100, .inl g))] [(k1, .int), (k2, .int)])) (vp_Si (fun r => r = ra f n i)) 0 0 (fun _ => False) := by
  refine Met.ofW (cc := cX2_beginOf) (maxL := 2) (ret := (some (.int))) (by decide) rfl ?_
  intro p e s m args below meth c s₁ B hml hv
  obtain ⟨hargs, hN, hP, hK⟩ := hv
  have hx := B.exec
  have hb := B.bytes
  have hr := B.returns
  have hw : ∀ w ∈ wsA, w.before args s = true := fun w h => atoms_spec (ws := (.code yX2_beginOf cX2_beginOf 2 (some (.int)) :: wsA)) B.pre w (List.mem_cons_of_mem _ h)
  have hown : s.vm.findClass "GlobDesk$Spans" = some m.cls := findClass_of_methodNamed B.named
  have hlocks := B.notSynchronized
  generalize hQ : MQ below _ args s _ _ _ = Q
  change W p l e rm_c_Sp_begin s m args below meth c s.heap [] 0 0 Q (entryFrame m args 2)
  have hl := lv_entry ([.ref h0, .int (i)]) (n := 2) (Nat.le_of_ble_eq_true rfl)
  rw [show entryFrame m args 2 = entryFrame m ([.ref h0, .int (i)] : List Value).toArray 2 from by rw [hargs], lg_entry_eq]
  generalize (lg_sl ([.ref h0, .int (i)]) ++ List.replicate (2 - (lg_sl ([.ref h0, .int (i)])).length) Slot.unset).toArray = ls at hl ⊢
  have hl : lv_has ls 2 [(0, .ref h0), (1, .int (i))] := hl
  refine lv_iload_n hx hb dX2_beginOf_0 rfl (lv_at hl 1 rfl) ?_
  refine lv_if_lt (tgt := 21) hx hb dX2_beginOf_1 (by decide) (fun c1_0 => ?_) (fun c1_0 => ?_)
  · skip
    have hc0 := c1_0
    refine lv_iconst (v := -1) hx hb dX2_beginOf_21 (by decide) ?_
    subst hQ
    exact W.iret (v := (-1)) hx hb hr (fun t ht hW => ⟨_, rfl, Eq.symm (by first | exact ra_neg hc0 | exact ra_big hc hn), ht⟩) (fun _ h => absurd h List.not_mem_nil) dX2_beginOf_22
  · skip
    have hc0 := c1_0
    refine lv_iload_n hx hb dX2_beginOf_4 rfl (lv_at hl 1 rfl) ?_
    refine lv_aload_n hx hb dX2_beginOf_5 rfl (lv_at hl 0 rfl) ?_
    refine va_get (D := (dC, dI)) (ci := 2) (v := .int (nI n)) (C := RX2) (T := TX2) (N := 3) hx hb hw inX2 hown hK hP 0 rfl rfl 2 (by decide) (hw _ mw68) (fun _ h9 => h9) rfl dX2_beginOf_6 ?_
    refine lv_icmp_ge (tgt := 21) hx hb dX2_beginOf_9 (by decide) (fun c9_1 => ?_) (fun c9_1 => ?_)
    · skip
      have hc := c9_1
      refine lv_iconst (v := -1) hx hb dX2_beginOf_21 (by decide) ?_
      subst hQ
      exact W.iret (v := (-1)) hx hb hr (fun t ht hW => ⟨_, rfl, Eq.symm (by first | exact ra_neg hc0 | exact ra_big hc hn), ht⟩) (fun _ h => absurd h List.not_mem_nil) dX2_beginOf_22
    · skip
      have hc := c9_1
      refine lv_aload_n hx hb dX2_beginOf_12 rfl (lv_at hl 0 rfl) ?_
      refine va_get (D := (dC, dI)) (ci := 2) (v := .ref q1) (C := RX2) (T := TX2) (N := 3) hx hb hw inX2 hown hK hP 0 rfl rfl 0 (by decide) (hw _ mw66) (fun _ h9 => h9) rfl dX2_beginOf_13 ?_
      refine lv_iload_n hx hb dX2_beginOf_16 rfl (lv_at hl 1 rfl) ?_
      refine va_iald hx hb hK hP 1 0 rfl rfl (i := i) (ra_vp hc0 hc hn) dX2_beginOf_17 ?_
      refine lv_goto (tgt := 22) hx hb dX2_beginOf_18 (by decide) ?_
      subst hQ
      exact W.iret (v := (f (i).toNatClampNeg)) hx hb hr (fun t ht hW => ⟨_, rfl, ra_ok hc0 hc hn, ht⟩) (fun _ h => absurd h List.not_mem_nil) dX2_beginOf_22

abbrev rm_c_Sp_length : Room := { frames := 0, cells := 0, slots := 0, locals := 0 }
set_option maxHeartbeats 4000000 in
set_option maxRecDepth 100000 in
theorem c_Sp_length (l : Launch) (dC : Nat → ClassId) (dI : Nat → Nat → Nat) (h0 q1 q2 : Nat) (k1 k2 : ClassId) (f g : Nat → Int32) (n : Nat) (hn : n ≤ 100) (i : Int32) : Met l yX2_lengthOf (.code yX2_lengthOf cX2_lengthOf 2 (some (.int)) :: wsA) rm_c_Sp_length (va_Pc [.ref h0, .int (i)] (ro (dC, dI) [(h0, .inr (2, [.ref q1, .ref q2, .int (nI n)])), (q1, .inl (k1, 100, .inl f)), (q2, .inl (k2, 100, .inl g))] [(k1, .int), (k2, .int)])) (vp_Si (fun r => r = ra g n i)) 0 0 (fun _ => False) := by
  refine Met.ofW (cc := cX2_lengthOf) (maxL := 2) (ret := (some (.int))) (by decide) rfl ?_
  intro p e s m args below meth c s₁ B hml hv
  obtain ⟨hargs, hN, hP, hK⟩ := hv
  have hx := B.exec
  have hb := B.bytes
  have hr := B.returns
  have hw : ∀ w ∈ wsA, w.before args s = true := fun w h => atoms_spec (ws := (.code yX2_lengthOf cX2_lengthOf 2 (some (.int)) :: wsA)) B.pre w (List.mem_cons_of_mem _ h)
  have hown : s.vm.findClass "GlobDesk$Spans" = some m.cls := findClass_of_methodNamed B.named
  have hlocks := B.notSynchronized
  generalize hQ : MQ below _ args s _ _ _ = Q
  change W p l e rm_c_Sp_length s m args below meth c s.heap [] 0 0 Q (entryFrame m args 2)
  have hl := lv_entry ([.ref h0, .int (i)]) (n := 2) (Nat.le_of_ble_eq_true rfl)
  rw [show entryFrame m args 2 = entryFrame m ([.ref h0, .int (i)] : List Value).toArray 2 from by rw [hargs], lg_entry_eq]
  generalize (lg_sl ([.ref h0, .int (i)]) ++ List.replicate (2 - (lg_sl ([.ref h0, .int (i)])).length) Slot.unset).toArray = ls at hl ⊢
  have hl : lv_has ls 2 [(0, .ref h0), (1, .int (i))] := hl
  refine lv_iload_n hx hb dX2_lengthOf_0 rfl (lv_at hl 1 rfl) ?_
  refine lv_if_lt (tgt := 21) hx hb dX2_lengthOf_1 (by decide) (fun c1_0 => ?_) (fun c1_0 => ?_)
  · skip
    have hc0 := c1_0
    refine lv_iconst (v := -1) hx hb dX2_lengthOf_21 (by decide) ?_
    subst hQ
    exact W.iret (v := (-1)) hx hb hr (fun t ht hW => ⟨_, rfl, Eq.symm (by first | exact ra_neg hc0 | exact ra_big hc hn), ht⟩) (fun _ h => absurd h List.not_mem_nil) dX2_lengthOf_22
  · skip
    have hc0 := c1_0
    refine lv_iload_n hx hb dX2_lengthOf_4 rfl (lv_at hl 1 rfl) ?_
    refine lv_aload_n hx hb dX2_lengthOf_5 rfl (lv_at hl 0 rfl) ?_
    refine va_get (D := (dC, dI)) (ci := 2) (v := .int (nI n)) (C := RX2) (T := TX2) (N := 3) hx hb hw inX2 hown hK hP 0 rfl rfl 2 (by decide) (hw _ mw68) (fun _ h9 => h9) rfl dX2_lengthOf_6 ?_
    refine lv_icmp_ge (tgt := 21) hx hb dX2_lengthOf_9 (by decide) (fun c9_1 => ?_) (fun c9_1 => ?_)
    · skip
      have hc := c9_1
      refine lv_iconst (v := -1) hx hb dX2_lengthOf_21 (by decide) ?_
      subst hQ
      exact W.iret (v := (-1)) hx hb hr (fun t ht hW => ⟨_, rfl, Eq.symm (by first | exact ra_neg hc0 | exact ra_big hc hn), ht⟩) (fun _ h => absurd h List.not_mem_nil) dX2_lengthOf_22
    · skip
      have hc := c9_1
      refine lv_aload_n hx hb dX2_lengthOf_12 rfl (lv_at hl 0 rfl) ?_
      refine va_get (D := (dC, dI)) (ci := 2) (v := .ref q2) (C := RX2) (T := TX2) (N := 3) hx hb hw inX2 hown hK hP 0 rfl rfl 1 (by decide) (hw _ mw67) (fun _ h9 => h9) rfl dX2_lengthOf_13 ?_
      refine lv_iload_n hx hb dX2_lengthOf_16 rfl (lv_at hl 1 rfl) ?_
      refine va_iald hx hb hK hP 2 1 rfl rfl (i := i) (ra_vp hc0 hc hn) dX2_lengthOf_17 ?_
      refine lv_goto (tgt := 22) hx hb dX2_lengthOf_18 (by decide) ?_
      subst hQ
      exact W.iret (v := (g (i).toNatClampNeg)) hx hb hr (fun t ht hW => ⟨_, rfl, ra_ok hc0 hc hn, ht⟩) (fun _ h => absurd h List.not_mem_nil) dX2_lengthOf_22

abbrev rm_c_Row_digits : Room := { frames := 0, cells := 0, slots := 0, locals := 0 }
set_option maxHeartbeats 4000000 in
set_option maxRecDepth 100000 in
theorem c_Row_digits (l : Launch) (dC : Nat → ClassId) (dI : Nat → Nat → Nat) (h0 q : Nat) (k : ClassId) (f : Nat → Int32) (n : Nat) (hn : n ≤ 100) : Met l yX1_digits (.code yX1_digits cX1_digits 2 (some (.int)) :: wsA) rm_c_Row_digits (va_Pc [.ref h0] (ro (dC, dI) [(h0, .inr (1, [.ref q, .int (nI n)])), (q, .inl (k, 100, .inl f))] [(k, .int)])) (vp_Si (fun r => r = nI (dg f n))) 0 0 (fun _ => False) := by
  refine Met.ofW (cc := cX1_digits) (maxL := 2) (ret := (some (.int))) (by decide) rfl ?_
  intro p e s m args below meth c s₁ B hml hv
  obtain ⟨hargs, hN, hP, hK⟩ := hv
  have hx := B.exec
  have hb := B.bytes
  have hr := B.returns
  have hw : ∀ w ∈ wsA, w.before args s = true := fun w h => atoms_spec (ws := (.code yX1_digits cX1_digits 2 (some (.int)) :: wsA)) B.pre w (List.mem_cons_of_mem _ h)
  have hown : s.vm.findClass "GlobDesk$Row" = some m.cls := findClass_of_methodNamed B.named
  have hlocks := B.notSynchronized
  generalize hQ : MQ below _ args s _ _ _ = Q
  change W p l e rm_c_Row_digits s m args below meth c s.heap [] 0 0 Q (entryFrame m args 2)
  have hl := lv_entry ([.ref h0]) (n := 2) (Nat.le_of_ble_eq_true rfl)
  rw [show entryFrame m args 2 = entryFrame m ([.ref h0] : List Value).toArray 2 from by rw [hargs], lg_entry_eq]
  generalize (lg_sl ([.ref h0]) ++ List.replicate (2 - (lg_sl ([.ref h0])).length) Slot.unset).toArray = ls at hl ⊢
  have hl : lv_has ls 2 [(0, .ref h0)] := hl
  refine lv_iconst (v := 0) hx hb dX1_digits_0 (by decide) ?_
  refine lv_topi (fun x1 ex1 => ?_)
  obtain rfl : x1 = nI 0 := by rw [ex1]; exact nI_0.symm
  refine lv_istore_n (lv' := [(1, .int (nI 0)), (0, .ref h0)]) hx hb dX1_digits_1 rfl hl (by decide) rfl (fun ls hl => ?_)
  have loop2 : ∀ (nn2 : Nat) (i : Nat) (hi : i ≤ n) (e9 : cnt (fun j => dgb (f j)) (n - i) i = dg f n) (_ : n - i < nn2) (ls : Array Slot) (_ : lv_has ls 2 [(0, .ref h0), (1, .int (nI i))]), W p l e rm_c_Row_digits s m args below meth c s.heap [] 0 0 Q (F0 m 2 ls []) := by
    intro nn2
    induction nn2 with
    | zero => intro i hi e9 hm2 ls hl; exact absurd hm2 (Nat.not_lt_zero _)
    | succ nn2 ih2 =>
      intro i hi e9 hm2 ls hl
      refine lv_iload_n hx hb dX1_digits_2 rfl (lv_at hl 1 rfl) ?_
      refine lv_aload_n hx hb dX1_digits_3 rfl (lv_at hl 0 rfl) ?_
      refine va_get (D := (dC, dI)) (ci := 1) (v := .int (nI n)) (C := RX1) (T := TX1) (N := 2) hx hb hw inX1 hown hK hP 0 rfl rfl 1 (by decide) (hw _ mw37) (fun _ h9 => h9) rfl dX1_digits_4 ?_
      refine lv_icmp_ge (tgt := 38) hx hb dX1_digits_7 (by decide) (fun c7_1 => ?_) (fun c7_1 => ?_)
      · skip
        rw [ti_le, nI_toInt (by omega), nI_toInt (by omega)] at c7_1
        have e8 : i = n := by omega
        refine lv_iload_n hx hb dX1_digits_38 rfl (lv_at hl 1 rfl) ?_
        subst hQ
        exact W.iret (v := (nI i)) hx hb hr (fun t ht hW => ⟨_, rfl, (by first | (rw [← e9, cnt_stop d1]) | (subst e8; rw [← e9, Nat.sub_self]; rfl)), ht⟩) (fun _ h => absurd h List.not_mem_nil) dX1_digits_39
      · skip
        rw [ti_le, nI_toInt (by omega), nI_toInt (by omega)] at c7_1
        refine lv_aload_n hx hb dX1_digits_10 rfl (lv_at hl 0 rfl) ?_
        refine va_get (D := (dC, dI)) (ci := 1) (v := .ref q) (C := RX1) (T := TX1) (N := 2) hx hb hw inX1 hown hK hP 0 rfl rfl 0 (by decide) (hw _ mw36) (fun _ h9 => h9) rfl dX1_digits_11 ?_
        refine lv_iload_n hx hb dX1_digits_14 rfl (lv_at hl 1 rfl) ?_
        refine va_iald hx hb hK hP 1 0 rfl rfl (i := (nI i)) (vp_in_nI (by omega) (by omega)) dX1_digits_15 ?_
        refine lv_topi (fun x3 ex3 => ?_)
        obtain rfl : x3 = f i := by rw [ex3, nI_clamp (by omega)]
        refine lv_bipush (v := 48) hx hb dX1_digits_16 (by decide) ?_
        refine lv_icmp_lt (tgt := 38) hx hb dX1_digits_18 (by decide) (fun c18_3 => ?_) (fun c18_3 => ?_)
        · skip
          have d1 := dgb_lt c18_3
          refine lv_iload_n hx hb dX1_digits_38 rfl (lv_at hl 1 rfl) ?_
          subst hQ
          exact W.iret (v := (nI i)) hx hb hr (fun t ht hW => ⟨_, rfl, (by first | (rw [← e9, cnt_stop d1]) | (subst e8; rw [← e9, Nat.sub_self]; rfl)), ht⟩) (fun _ h => absurd h List.not_mem_nil) dX1_digits_39
        · skip
          have d1 := c18_3
          refine lv_aload_n hx hb dX1_digits_21 rfl (lv_at hl 0 rfl) ?_
          refine va_get (D := (dC, dI)) (ci := 1) (v := .ref q) (C := RX1) (T := TX1) (N := 2) hx hb hw inX1 hown hK hP 0 rfl rfl 0 (by decide) (hw _ mw36) (fun _ h9 => h9) rfl dX1_digits_22 ?_
          refine lv_iload_n hx hb dX1_digits_25 rfl (lv_at hl 1 rfl) ?_
          refine va_iald hx hb hK hP 1 0 rfl rfl (i := (nI i)) (vp_in_nI (by omega) (by omega)) dX1_digits_26 ?_
          refine lv_topi (fun x5 ex5 => ?_)
          obtain rfl : x5 = f i := by rw [ex5, nI_clamp (by omega)]
          refine lv_bipush (v := 57) hx hb dX1_digits_27 (by decide) ?_
          refine lv_icmp_gt (tgt := 38) hx hb dX1_digits_29 (by decide) (fun c29_5 => ?_) (fun c29_5 => ?_)
          · skip
            have d1 := dgb_gt c29_5
            refine lv_iload_n hx hb dX1_digits_38 rfl (lv_at hl 1 rfl) ?_
            subst hQ
            exact W.iret (v := (nI i)) hx hb hr (fun t ht hW => ⟨_, rfl, (by first | (rw [← e9, cnt_stop d1]) | (subst e8; rw [← e9, Nat.sub_self]; rfl)), ht⟩) (fun _ h => absurd h List.not_mem_nil) dX1_digits_39
          · skip
            have d2 := c29_5
            refine lv_iinc (v := nI (i + 1)) (lv' := [(1, .int (nI (i + 1))), (0, .ref h0)]) hx hb dX1_digits_32 hl (k := 1) rfl (nI_inc i) (by decide) rfl (fun ls hl => ?_)
            refine lv_goto (tgt := 2) hx hb dX1_digits_35 (by decide) ?_
            exact ih2 (i + 1) (by omega) ((cnt_step (p := fun j => dgb (f j)) (k := n - i) (i := i) (dgb_in d1 d2) (by omega)).symm.trans e9) (by omega) ls (lv_sub hl [1, 0] rfl)
  exact loop2 (n + 1) 0 (Nat.zero_le _) rfl (by omega) ls (lv_sub hl [1, 0] rfl)

abbrev rm_c_Row_zeros : Room := { frames := 1, cells := 0, slots := 0, locals := 21 }
set_option maxHeartbeats 4000000 in
set_option maxRecDepth 100000 in
theorem c_Row_zeros (l : Launch) (dC : Nat → ClassId) (dI : Nat → Nat → Nat) (h0 q : Nat) (k : ClassId) (f : Nat → Int32) (n : Nat) (hn : n ≤ 100) (b : Nat) (hbn : b ≤ n) : Met l yX1_zerosBefore (.code yX1_zerosBefore cX1_zerosBefore 3 (some (.int)) :: wsA) rm_c_Row_zeros (va_Pc [.ref h0, .int (nI b)] (ro (dC, dI) [(h0, .inr (1, [.ref q, .int (nI n)])), (q, .inl (k, 100, .inl f))] [(k, .int)])) (vp_Si (fun r => r = nI (zr f b))) 0 0 (fun _ => False) := by
  refine Met.ofW (cc := cX1_zerosBefore) (maxL := 3) (ret := (some (.int))) (by decide) rfl ?_
  intro p e s m args below meth c s₁ B hml hv
  obtain ⟨hargs, hN, hP, hK⟩ := hv
  have hx := B.exec
  have hb := B.bytes
  have hr := B.returns
  have hw : ∀ w ∈ wsA, w.before args s = true := fun w h => atoms_spec (ws := (.code yX1_zerosBefore cX1_zerosBefore 3 (some (.int)) :: wsA)) B.pre w (List.mem_cons_of_mem _ h)
  have hown : s.vm.findClass "GlobDesk$Row" = some m.cls := findClass_of_methodNamed B.named
  have hlocks := B.notSynchronized
  generalize hQ : MQ below _ args s _ _ _ = Q
  change W p l e rm_c_Row_zeros s m args below meth c s.heap [] 0 0 Q (entryFrame m args 3)
  have hl := lv_entry ([.ref h0, .int (nI b)]) (n := 3) (Nat.le_of_ble_eq_true rfl)
  rw [show entryFrame m args 3 = entryFrame m ([.ref h0, .int (nI b)] : List Value).toArray 3 from by rw [hargs], lg_entry_eq]
  generalize (lg_sl ([.ref h0, .int (nI b)]) ++ List.replicate (3 - (lg_sl ([.ref h0, .int (nI b)])).length) Slot.unset).toArray = ls at hl ⊢
  have hl : lv_has ls 3 [(0, .ref h0), (1, .int (nI b))] := hl
  refine lv_iconst (v := 0) hx hb dX1_zerosBefore_0 (by decide) ?_
  refine lv_topi (fun x1 ex1 => ?_)
  obtain rfl : x1 = nI 0 := by rw [ex1]; exact nI_0.symm
  refine lv_istore_n (lv' := [(2, .int (nI 0)), (0, .ref h0), (1, .int (nI b))]) hx hb dX1_zerosBefore_1 rfl hl (by decide) rfl (fun ls hl => ?_)
  have loop2 : ∀ (nn2 : Nat) (i : Nat) (hi : i ≤ b) (e9 : cnt (fun j => decide (f j = 48)) (b - i) i = zr f b) (_ : b - i < nn2) (ls : Array Slot) (_ : lv_has ls 3 [(0, .ref h0), (1, .int (nI b)), (2, .int (nI i))]), W p l e rm_c_Row_zeros s m args below meth c s.heap [] 0 0 Q (F0 m 2 ls []) := by
    intro nn2
    induction nn2 with
    | zero => intro i hi e9 hm2 ls hl; exact absurd hm2 (Nat.not_lt_zero _)
    | succ nn2 ih2 =>
      intro i hi e9 hm2 ls hl
      refine lv_iload_n hx hb dX1_zerosBefore_2 rfl (lv_at hl 2 rfl) ?_
      refine lv_iload_n hx hb dX1_zerosBefore_3 rfl (lv_at hl 1 rfl) ?_
      refine lv_icmp_ge (tgt := 23) hx hb dX1_zerosBefore_4 (by decide) (fun c4_1 => ?_) (fun c4_1 => ?_)
      · skip
        rw [ti_le, nI_toInt (by omega), nI_toInt (by omega)] at c4_1
        have e8 : i = b := by omega
        refine lv_iload_n hx hb dX1_zerosBefore_23 rfl (lv_at hl 2 rfl) ?_
        subst hQ
        exact W.iret (v := (nI i)) hx hb hr (fun t ht hW => ⟨_, rfl, (by first | (rw [← e9, cnt_stop (decide_eq_false d1)]) | (subst e8; rw [← e9, Nat.sub_self]; rfl)), ht⟩) (fun _ h => absurd h List.not_mem_nil) dX1_zerosBefore_24
      · skip
        rw [ti_le, nI_toInt (by omega), nI_toInt (by omega)] at c4_1
        refine lv_aload_n hx hb dX1_zerosBefore_7 rfl (lv_at hl 0 rfl) ?_
        refine lv_iload_n hx hb dX1_zerosBefore_8 rfl (lv_at hl 2 rfl) ?_
        refine vp_callSi (va_Run.run (va_runV (As := [.int (nI i)]) (rest := []) ⟨hx, hb, hml, hown, hw⟩ (c_Row_at l dC dI h0 q k f n hn (nI i)) (cwV 1 hw (gV mw136 mw137 mw138 mw17 mw139) rfl rfl rfl (by decide +kernel) ⟨Nat.le_of_ble_eq_true rfl, Nat.le_of_ble_eq_true rfl⟩) (ro.V (q0 := 0) (ci := 1) hN (hK.sub (tys' := [(k, .int)]) [0] rfl) (hP.sub (ws' := [(h0, .inr (1, [.ref q, .int (nI n)])), (q, .inl (k, 100, .inl f))]) [0, 1] rfl) rfl rfl) rfl rfl hl.1 rfl (lv_room (Nat.le_of_ble_eq_true rfl)) dX1_zerosBefore_9 ⟨Nat.le_of_ble_eq_true rfl, Nat.le_of_ble_eq_true rfl⟩)) (fun r3 hr3 => ?_)
        rw [ra_in (by omega) hn] at hr3
        subst hr3
        refine lv_bipush (v := 48) hx hb dX1_zerosBefore_12 (by decide) ?_
        refine lv_icmp_ne (tgt := 23) hx hb dX1_zerosBefore_14 (by decide) (fun c14_3 => ?_) (fun c14_3 => ?_)
        · skip
          have d1 := c14_3
          refine lv_iload_n hx hb dX1_zerosBefore_23 rfl (lv_at hl 2 rfl) ?_
          subst hQ
          exact W.iret (v := (nI i)) hx hb hr (fun t ht hW => ⟨_, rfl, (by first | (rw [← e9, cnt_stop (decide_eq_false d1)]) | (subst e8; rw [← e9, Nat.sub_self]; rfl)), ht⟩) (fun _ h => absurd h List.not_mem_nil) dX1_zerosBefore_24
        · skip
          have d1 := c14_3
          refine lv_iinc (v := nI (i + 1)) (lv' := [(2, .int (nI (i + 1))), (0, .ref h0), (1, .int (nI b))]) hx hb dX1_zerosBefore_17 hl (k := 2) rfl (nI_inc i) (by decide) rfl (fun ls hl => ?_)
          refine lv_goto (tgt := 2) hx hb dX1_zerosBefore_20 (by decide) ?_
          exact ih2 (i + 1) (by omega) ((cnt_step (p := fun j => decide (f j = 48)) (k := b - i) (i := i) (decide_eq_true (by first | exact d1 | exact Decidable.not_not.mp d1)) (by omega)).symm.trans e9) (by omega) ls (lv_sub hl [1, 2, 0] rfl)
  exact loop2 (b + 1) 0 (Nat.zero_le _) rfl (by omega) ls (lv_sub hl [1, 2, 0] rfl)

abbrev rm_c_sign : Room := { frames := 0, cells := 0, slots := 0, locals := 0 }
set_option maxHeartbeats 4000000 in
set_option maxRecDepth 100000 in
theorem c_sign (l : Launch) (a b : Int32) : Met l yX3_signOf (.code yX3_signOf cX3_signOf 2 (some (.int)) :: wsA) rm_c_sign (va_Pc [.int (a), .int (b)] (fun _ => True)) (vp_Si (fun r => r = sg a b)) 0 0 (fun _ => False) := by
  refine Met.ofW (cc := cX3_signOf) (maxL := 2) (ret := (some (.int))) (by decide) rfl ?_
  intro p e s m args below meth c s₁ B hml hv
  obtain ⟨hargs, -⟩ := hv
  have hx := B.exec
  have hb := B.bytes
  have hr := B.returns
  have hw : ∀ w ∈ wsA, w.before args s = true := fun w h => atoms_spec (ws := (.code yX3_signOf cX3_signOf 2 (some (.int)) :: wsA)) B.pre w (List.mem_cons_of_mem _ h)
  have hown : s.vm.findClass "GlobDesk" = some m.cls := findClass_of_methodNamed B.named
  have hlocks := B.notSynchronized
  generalize hQ : MQ below _ args s _ _ _ = Q
  change W p l e rm_c_sign s m args below meth c s.heap [] 0 0 Q (entryFrame m args 2)
  have hl := lv_entry ([.int (a), .int (b)]) (n := 2) (Nat.le_of_ble_eq_true rfl)
  rw [show entryFrame m args 2 = entryFrame m ([.int (a), .int (b)] : List Value).toArray 2 from by rw [hargs], lg_entry_eq]
  generalize (lg_sl ([.int (a), .int (b)]) ++ List.replicate (2 - (lg_sl ([.int (a), .int (b)])).length) Slot.unset).toArray = ls at hl ⊢
  have hl : lv_has ls 2 [(0, .int (a)), (1, .int (b))] := hl
  refine lv_iload_n hx hb dX3_signOf_0 rfl (lv_at hl 0 rfl) ?_
  refine lv_iload_n hx hb dX3_signOf_1 rfl (lv_at hl 1 rfl) ?_
  refine lv_icmp_ge (tgt := 7) hx hb dX3_signOf_2 (by decide) (fun c2_0 => ?_) (fun c2_0 => ?_)
  · skip
    have q1 := c2_0
    refine lv_iload_n hx hb dX3_signOf_7 rfl (lv_at hl 0 rfl) ?_
    refine lv_iload_n hx hb dX3_signOf_8 rfl (lv_at hl 1 rfl) ?_
    refine lv_icmp_le (tgt := 16) hx hb dX3_signOf_9 (by decide) (fun c9_1 => ?_) (fun c9_1 => ?_)
    · skip
      have q2 := c9_1
      refine lv_iconst (v := 0) hx hb dX3_signOf_16 (by decide) ?_
      subst hQ
      exact W.iret (v := 0) hx hb hr (fun t ht hW => ⟨_, rfl, sg_e q1 q2, ht⟩) (fun _ h => absurd h List.not_mem_nil) dX3_signOf_17
    · skip
      have q2 := c9_1
      refine lv_iconst (v := 1) hx hb dX3_signOf_12 (by decide) ?_
      refine lv_goto (tgt := 17) hx hb dX3_signOf_13 (by decide) ?_
      subst hQ
      exact W.iret (v := 1) hx hb hr (fun t ht hW => ⟨_, rfl, sg_g q1 q2, ht⟩) (fun _ h => absurd h List.not_mem_nil) dX3_signOf_17
  · skip
    have q1 := c2_0
    refine lv_iconst (v := -1) hx hb dX3_signOf_5 (by decide) ?_
    subst hQ
    exact W.iret (v := (-1)) hx hb hr (fun t ht hW => ⟨_, rfl, sg_l q1, ht⟩) (fun _ h => absurd h List.not_mem_nil) dX3_signOf_6

abbrev rm_c_fold : Room := { frames := 0, cells := 0, slots := 0, locals := 0 }
set_option maxHeartbeats 4000000 in
set_option maxRecDepth 100000 in
theorem c_fold (l : Launch) (x cp : Int32) : Met l yX3_folded (.code yX3_folded cX3_folded 3 (some (.int)) :: wsA) rm_c_fold (va_Pc [.int (x), .int (cp)] (fun _ => True)) (vp_Si (fun r => r = fo x cp)) 0 0 (fun _ => False) := by
  refine Met.ofW (cc := cX3_folded) (maxL := 3) (ret := (some (.int))) (by decide) rfl ?_
  intro p e s m args below meth c s₁ B hml hv
  obtain ⟨hargs, -⟩ := hv
  have hx := B.exec
  have hb := B.bytes
  have hr := B.returns
  have hw : ∀ w ∈ wsA, w.before args s = true := fun w h => atoms_spec (ws := (.code yX3_folded cX3_folded 3 (some (.int)) :: wsA)) B.pre w (List.mem_cons_of_mem _ h)
  have hown : s.vm.findClass "GlobDesk" = some m.cls := findClass_of_methodNamed B.named
  have hlocks := B.notSynchronized
  generalize hQ : MQ below _ args s _ _ _ = Q
  change W p l e rm_c_fold s m args below meth c s.heap [] 0 0 Q (entryFrame m args 3)
  have hl := lv_entry ([.int (x), .int (cp)]) (n := 3) (Nat.le_of_ble_eq_true rfl)
  rw [show entryFrame m args 3 = entryFrame m ([.int (x), .int (cp)] : List Value).toArray 3 from by rw [hargs], lg_entry_eq]
  generalize (lg_sl ([.int (x), .int (cp)]) ++ List.replicate (3 - (lg_sl ([.int (x), .int (cp)])).length) Slot.unset).toArray = ls at hl ⊢
  have hl : lv_has ls 3 [(0, .int (x)), (1, .int (cp))] := hl
  refine lv_iload_n hx hb dX3_folded_0 rfl (lv_at hl 0 rfl) ?_
  refine lv_bipush (v := 97) hx hb dX3_folded_1 (by decide) ?_
  refine lv_icmp_lt (tgt := 16) hx hb dX3_folded_3 (by decide) (fun c3_0 => ?_) (fun c3_0 => ?_)
  · skip
    have q1 := c3_0
    refine lv_iconst (v := 0) hx hb dX3_folded_16 (by decide) ?_
    refine lv_istore_n (lv' := [(2, .int (0)), (0, .int (x)), (1, .int (cp))]) hx hb dX3_folded_17 rfl hl (by decide) rfl (fun ls hl => ?_)
    refine lv_iload_n hx hb dX3_folded_18 rfl (lv_at hl 2 rfl) ?_
    refine lv_if_ne (tgt := 36) hx hb dX3_folded_19 (by decide) (fun c19_1 => ?_) (fun c19_1 => ?_)
    · skip
      have q3 := c19_1
      refine lv_iload_n hx hb dX3_folded_36 rfl (lv_at hl 1 rfl) ?_
      subst hQ
      exact W.iret (v := x) hx hb hr (fun t ht hW => ⟨_, rfl, (by first | (rw [fo_t q1 q2 (by first | exact q3 | exact Decidable.not_not.mp q3)]; exact sub32 x) | exact (fo_c q3).symm | exact (fo_l q1).symm | exact (fo_g q2).symm), ht⟩) (fun _ h => absurd h List.not_mem_nil) dX3_folded_37
    · skip
      have q3 := c19_1
      refine lv_iload_n hx hb dX3_folded_22 rfl (lv_at hl 0 rfl) ?_
      refine lv_if_eq (tgt := 36) hx hb dX3_folded_23 (by decide) (fun c23_2 => ?_) (fun c23_2 => ?_)
      · skip
        refine lv_iload_n hx hb dX3_folded_36 rfl (lv_at hl 1 rfl) ?_
        subst hQ
        exact W.iret (v := x) hx hb hr (fun t ht hW => ⟨_, rfl, (by first | (rw [fo_t q1 q2 (by first | exact q3 | exact Decidable.not_not.mp q3)]; exact sub32 x) | exact (fo_c q3).symm | exact (fo_l q1).symm | exact (fo_g q2).symm), ht⟩) (fun _ h => absurd h List.not_mem_nil) dX3_folded_37
      · skip
        exact absurd rfl c23_2
  · skip
    have q1 := c3_0
    refine lv_iload_n hx hb dX3_folded_6 rfl (lv_at hl 0 rfl) ?_
    refine lv_bipush (v := 122) hx hb dX3_folded_7 (by decide) ?_
    refine lv_icmp_gt (tgt := 16) hx hb dX3_folded_9 (by decide) (fun c9_3 => ?_) (fun c9_3 => ?_)
    · skip
      have q2 := c9_3
      refine lv_iconst (v := 0) hx hb dX3_folded_16 (by decide) ?_
      refine lv_istore_n (lv' := [(2, .int (0)), (0, .int (x)), (1, .int (cp))]) hx hb dX3_folded_17 rfl hl (by decide) rfl (fun ls hl => ?_)
      refine lv_iload_n hx hb dX3_folded_18 rfl (lv_at hl 2 rfl) ?_
      refine lv_if_ne (tgt := 36) hx hb dX3_folded_19 (by decide) (fun c19_4 => ?_) (fun c19_4 => ?_)
      · skip
        have q3 := c19_4
        refine lv_iload_n hx hb dX3_folded_36 rfl (lv_at hl 1 rfl) ?_
        subst hQ
        exact W.iret (v := x) hx hb hr (fun t ht hW => ⟨_, rfl, (by first | (rw [fo_t q1 q2 (by first | exact q3 | exact Decidable.not_not.mp q3)]; exact sub32 x) | exact (fo_c q3).symm | exact (fo_l q1).symm | exact (fo_g q2).symm), ht⟩) (fun _ h => absurd h List.not_mem_nil) dX3_folded_37
      · skip
        have q3 := c19_4
        refine lv_iload_n hx hb dX3_folded_22 rfl (lv_at hl 0 rfl) ?_
        refine lv_if_eq (tgt := 36) hx hb dX3_folded_23 (by decide) (fun c23_5 => ?_) (fun c23_5 => ?_)
        · skip
          refine lv_iload_n hx hb dX3_folded_36 rfl (lv_at hl 1 rfl) ?_
          subst hQ
          exact W.iret (v := x) hx hb hr (fun t ht hW => ⟨_, rfl, (by first | (rw [fo_t q1 q2 (by first | exact q3 | exact Decidable.not_not.mp q3)]; exact sub32 x) | exact (fo_c q3).symm | exact (fo_l q1).symm | exact (fo_g q2).symm), ht⟩) (fun _ h => absurd h List.not_mem_nil) dX3_folded_37
        · skip
          exact absurd rfl c23_5
    · skip
      have q2 := c9_3
      refine lv_iconst (v := 1) hx hb dX3_folded_12 (by decide) ?_
      refine lv_goto (tgt := 17) hx hb dX3_folded_13 (by decide) ?_
      refine lv_istore_n (lv' := [(2, .int (1)), (0, .int (x)), (1, .int (cp))]) hx hb dX3_folded_17 rfl hl (by decide) rfl (fun ls hl => ?_)
      refine lv_iload_n hx hb dX3_folded_18 rfl (lv_at hl 2 rfl) ?_
      refine lv_if_ne (tgt := 36) hx hb dX3_folded_19 (by decide) (fun c19_6 => ?_) (fun c19_6 => ?_)
      · skip
        have q3 := c19_6
        refine lv_iload_n hx hb dX3_folded_36 rfl (lv_at hl 1 rfl) ?_
        subst hQ
        exact W.iret (v := x) hx hb hr (fun t ht hW => ⟨_, rfl, (by first | (rw [fo_t q1 q2 (by first | exact q3 | exact Decidable.not_not.mp q3)]; exact sub32 x) | exact (fo_c q3).symm | exact (fo_l q1).symm | exact (fo_g q2).symm), ht⟩) (fun _ h => absurd h List.not_mem_nil) dX3_folded_37
      · skip
        have q3 := c19_6
        refine lv_iload_n hx hb dX3_folded_22 rfl (lv_at hl 0 rfl) ?_
        refine lv_if_eq (tgt := 36) hx hb dX3_folded_23 (by decide) (fun c23_7 => ?_) (fun c23_7 => ?_)
        · skip
          exact absurd c23_7 (by decide)
        · skip
          refine lv_iload_n hx hb dX3_folded_26 rfl (lv_at hl 1 rfl) ?_
          refine lv_bipush (v := 97) hx hb dX3_folded_27 (by decide) ?_
          refine lv_isub hx hb dX3_folded_29 ?_
          refine lv_bipush (v := 65) hx hb dX3_folded_30 (by decide) ?_
          refine lv_iadd hx hb dX3_folded_32 ?_
          refine lv_goto (tgt := 37) hx hb dX3_folded_33 (by decide) ?_
          subst hQ
          exact W.iret (v := ((x) - (97)) + (65)) hx hb hr (fun t ht hW => ⟨_, rfl, (by first | (rw [fo_t q1 q2 (by first | exact q3 | exact Decidable.not_not.mp q3)]; exact sub32 x) | exact (fo_c q3).symm | exact (fo_l q1).symm | exact (fo_g q2).symm), ht⟩) (fun _ h => absurd h List.not_mem_nil) dX3_folded_37

abbrev rm_c_isCmp : Room := { frames := 0, cells := 0, slots := 0, locals := 0 }
set_option maxHeartbeats 4000000 in
set_option maxRecDepth 100000 in
theorem c_isCmp (l : Launch) (x : Int32) : Met l yX3_isComparator (.code yX3_isComparator cX3_isComparator 1 (some (.boolean)) :: wsA) rm_c_isCmp (va_Pc [.int (x)] (fun _ => True)) (vp_Si (fun r => r = if 0 ≤ x.toInt ∧ x.toInt ≤ 2 then 1 else 0)) 0 0 (fun _ => False) := by
  refine Met.ofW (cc := cX3_isComparator) (maxL := 1) (ret := (some (.boolean))) (by decide) rfl ?_
  intro p e s m args below meth c s₁ B hml hv
  obtain ⟨hargs, -⟩ := hv
  have hx := B.exec
  have hb := B.bytes
  have hr := B.returns
  have hw : ∀ w ∈ wsA, w.before args s = true := fun w h => atoms_spec (ws := (.code yX3_isComparator cX3_isComparator 1 (some (.boolean)) :: wsA)) B.pre w (List.mem_cons_of_mem _ h)
  have hown : s.vm.findClass "GlobDesk" = some m.cls := findClass_of_methodNamed B.named
  have hlocks := B.notSynchronized
  generalize hQ : MQ below _ args s _ _ _ = Q
  change W p l e rm_c_isCmp s m args below meth c s.heap [] 0 0 Q (entryFrame m args 1)
  have hl := lv_entry ([.int (x)]) (n := 1) (Nat.le_of_ble_eq_true rfl)
  rw [show entryFrame m args 1 = entryFrame m ([.int (x)] : List Value).toArray 1 from by rw [hargs], lg_entry_eq]
  generalize (lg_sl ([.int (x)]) ++ List.replicate (1 - (lg_sl ([.int (x)])).length) Slot.unset).toArray = ls at hl ⊢
  have hl : lv_has ls 1 [(0, .int (x))] := hl
  refine lv_iload_n hx hb dX3_isComparator_0 rfl (lv_at hl 0 rfl) ?_
  refine lv_if_lt (tgt := 13) hx hb dX3_isComparator_1 (by decide) (fun c1_0 => ?_) (fun c1_0 => ?_)
  · skip
    have q1 := c1_0
    rw [ti_lt, tc_0] at q1
    refine lv_iconst (v := 0) hx hb dX3_isComparator_13 (by decide) ?_
    subst hQ
    exact W.zret (v := 0) hx hb hr (by decide) (fun t ht hW => ⟨_, rfl, (by first | exact (if_pos (by omega)).symm | exact (if_neg (by omega)).symm), ht⟩) (fun _ h => absurd h List.not_mem_nil) dX3_isComparator_14
  · skip
    have q1 := c1_0
    rw [ti_lt, tc_0] at q1
    refine lv_iload_n hx hb dX3_isComparator_4 rfl (lv_at hl 0 rfl) ?_
    refine lv_iconst (v := 2) hx hb dX3_isComparator_5 (by decide) ?_
    refine lv_icmp_gt (tgt := 13) hx hb dX3_isComparator_6 (by decide) (fun c6_1 => ?_) (fun c6_1 => ?_)
    · skip
      have q2 := c6_1
      rw [ti_lt, tc_2] at q2
      refine lv_iconst (v := 0) hx hb dX3_isComparator_13 (by decide) ?_
      subst hQ
      exact W.zret (v := 0) hx hb hr (by decide) (fun t ht hW => ⟨_, rfl, (by first | exact (if_pos (by omega)).symm | exact (if_neg (by omega)).symm), ht⟩) (fun _ h => absurd h List.not_mem_nil) dX3_isComparator_14
    · skip
      have q2 := c6_1
      rw [ti_lt, tc_2] at q2
      refine lv_iconst (v := 1) hx hb dX3_isComparator_9 (by decide) ?_
      refine lv_goto (tgt := 14) hx hb dX3_isComparator_10 (by decide) ?_
      subst hQ
      exact W.zret (v := 1) hx hb hr (by decide) (fun t ht hW => ⟨_, rfl, (by first | exact (if_pos (by omega)).symm | exact (if_neg (by omega)).symm), ht⟩) (fun _ h => absurd h List.not_mem_nil) dX3_isComparator_14
end
section
/-- a mark against a byte -/
def mok (m x c : Int32) : Bool := decide (m = 256 ∨ fo m c = fo x c)
/-- k marks from i on fit the bytes from p on -/
def fitA (mk v : Nat → Int32) (c : Int32) : Nat → Nat → Nat → Bool
  | 0, _, _ => true
  | k + 1, i, p => mok (mk i) (v p) c && fitA mk v c k (i + 1) (p + 1)
theorem fitA_no {mk v : Nat → Int32} {c : Int32} {k i p : Nat} (hk : 0 < k) (h : mok (mk i) (v p) c = false) : fitA mk v c k i p = false := by
  cases k with
  | zero => omega
  | succ k => simp [fitA, h]
theorem fitA_yes {mk v : Nat → Int32} {c : Int32} {k i p : Nat} (hk : 0 < k) (h : mok (mk i) (v p) c = true) : fitA mk v c k i p = fitA mk v c (k - 1) (i + 1) (p + 1) := by
  cases k with
  | zero => omega
  | succ k => simp [fitA, h]
/-- the marks a .. b - 1 fit the value's bytes from p on -/
def fitB (mk v : Nat → Int32) (nv : Nat) (c : Int32) (a b p : Nat) : Bool := decide (p + (b - a) ≤ nv) && fitA mk v c (b - a) a p
/-- the first place from p on, of the next k, where they fit; -1 if there is none -/
def fpA (mk v : Nat → Int32) (nv : Nat) (c : Int32) (a b : Nat) : Nat → Nat → Int32
  | 0, _ => -1
  | k + 1, p => if fitB mk v nv c a b p = true then nI p else fpA mk v nv c a b k (p + 1)
def fpF (mk v : Nat → Int32) (nv : Nat) (c : Int32) (a b e : Nat) : Int32 := fpA mk v nv c a b (nv + 1 - (b - a) - e) e
theorem fpA_hit {mk v : Nat → Int32} {nv : Nat} {c : Int32} {a b k p : Nat} (hk : 0 < k) (h : fitB mk v nv c a b p = true) : fpA mk v nv c a b k p = nI p := by
  cases k with
  | zero => omega
  | succ k => simp [fpA, h]
theorem fpA_next {mk v : Nat → Int32} {nv : Nat} {c : Int32} {a b k p : Nat} (hk : 0 < k) (h : fitB mk v nv c a b p = false) : fpA mk v nv c a b k p = fpA mk v nv c a b (k - 1) (p + 1) := by
  cases k with
  | zero => omega
  | succ k => simp [fpA, h]
theorem ifb {b : Bool} (h : ¬ (if b = true then (1 : Int32) else 0) = 0) : b = true := by
  cases b
  · exact absurd rfl h
  · rfl
theorem ifb0 {b : Bool} (h : (if b = true then (1 : Int32) else 0) = 0) : b = false := by
  cases b
  · rfl
  · exact absurd h (by decide)
theorem lat {nv a b : Nat} (h : a ≤ b) (hb : b ≤ 100) (hv : nv ≤ 100) : (nI nv - (nI b - nI a)).toInt = (nv : Int) - (b - a : Nat) := by
  rw [pk_sub h, pk_sub_toInt (by omega) (by omega)]
/-- rows by their bytes -/
def sbA (v k : Nat → Int32) (nv nk : Nat) (c : Int32) : Nat → Nat → Int32
  | 0, _ => sg (nI nv) (nI nk)
  | r + 1, i => if sg (fo (v i) c) (fo (k i) c) = 0 then sbA v k nv nk c r (i + 1) else sg (fo (v i) c) (fo (k i) c)
def sbF (v k : Nat → Int32) (nv nk : Nat) (c : Int32) : Int32 := sbA v k nv nk c (min nv nk) 0
theorem sbA_hit {v k : Nat → Int32} {nv nk : Nat} {c : Int32} {r i : Nat} (hr : 0 < r) (h : ¬ sg (fo (v i) c) (fo (k i) c) = 0) : sbA v k nv nk c r i = sg (fo (v i) c) (fo (k i) c) := by
  cases r with
  | zero => omega
  | succ r => simp [sbA, h]
theorem sbA_next {v k : Nat → Int32} {nv nk : Nat} {c : Int32} {r i : Nat} (hr : 0 < r) (h : sg (fo (v i) c) (fo (k i) c) = 0) : sbA v k nv nk c r i = sbA v k nv nk c (r - 1) (i + 1) := by
  cases r with
  | zero => omega
  | succ r => simp [sbA, h]
theorem min32 {a b : Nat} (ha : a ≤ 100) (hb : b ≤ 100) : (if nI b < nI a then nI b else nI a) = nI (min a b) := by
  split
  · rename_i h; rw [nI_ltI (by omega) (by omega)] at h; rw [Nat.min_eq_right (by omega)]
  · rename_i h; rw [nI_ltI (by omega) (by omega)] at h; rw [Nat.min_eq_left (by omega)]
theorem max32 {a b : Nat} (ha : a ≤ 100) (hb : b ≤ 100) : (if nI a < nI b then nI b else nI a) = nI (max a b) := by
  split
  · rename_i h; rw [nI_ltI (by omega) (by omega)] at h; rw [Nat.max_eq_right (by omega)]
  · rename_i h; rw [nI_ltI (by omega) (by omega)] at h; rw [Nat.max_eq_left (by omega)]
/-- digits by digits -/
def snA (v k : Nat → Int32) : Nat → Nat → Nat → Int32
  | 0, _, _ => 0
  | r + 1, i, j => if sg (v i) (k j) = 0 then snA v k r (i + 1) (j + 1) else sg (v i) (k j)
theorem snA_hit {v k : Nat → Int32} {r i j : Nat} (hr : 0 < r) (h : ¬ sg (v i) (k j) = 0) : snA v k r i j = sg (v i) (k j) := by
  cases r with
  | zero => omega
  | succ r => simp [snA, h]
theorem snA_next {v k : Nat → Int32} {r i j : Nat} (hr : 0 < r) (h : sg (v i) (k j) = 0) : snA v k r i j = snA v k (r - 1) (i + 1) (j + 1) := by
  cases r with
  | zero => omega
  | succ r => simp [snA, h]
/-- rows by their numbers -/
def snF (v k : Nat → Int32) (nv nk : Nat) : Int32 :=
  if dg v nv = 0 ∨ dg k nk = 0 then (if dg v nv = dg k nk then 0 else if dg v nv = 0 then 1 else -1)
  else if sg (nI (dg v nv - zr v (dg v nv))) (nI (dg k nk - zr k (dg k nk))) = 0 then snA v k (dg v nv - zr v (dg v nv)) (zr v (dg v nv)) (zr k (dg k nk))
  else sg (nI (dg v nv - zr v (dg v nv))) (nI (dg k nk - zr k (dg k nk)))
/-- the order of two rows by a comparator -/
def stF (v k : Nat → Int32) (nv nk : Nat) (c : Int32) : Int32 := if c = 2 then snF v k nv nk else sbF v k nv nk c
/-- the number that digits are, no closer than 10^10 -/
def numA (f : Nat → Int32) : Nat → Nat → Nat → Nat
  | 0, _, x => x
  | r + 1, i, x => numA f r (i + 1) (min 10000000000 (x * 10 + ((f i).toInt.toNat - 48)))
theorem numA_next {f : Nat → Int32} {r i x : Nat} (hr : 0 < r) : numA f r i x = numA f (r - 1) (i + 1) (min 10000000000 (x * 10 + ((f i).toInt.toNat - 48))) := by
  cases r with
  | zero => omega
  | succ r => rfl
def kn (f : Nat → Int32) (n : Nat) : Nat := if dg f n = 0 then 10000000000 else numA f (dg f n) 0 0
theorem numA_le (f : Nat → Int32) : ∀ r i x, x ≤ 10000000000 → numA f r i x ≤ 10000000000
  | 0, _, _, h => h
  | r + 1, i, x, _ => numA_le f r (i + 1) _ (Nat.min_le_left _ _)
theorem kn_le (f : Nat → Int32) (n : Nat) : kn f n ≤ 10000000000 := by
  unfold kn; split
  · exact Nat.le_refl _
  · exact numA_le f _ _ _ (by omega)
theorem dgv {x : Int32} (h : dgb x = true) : (x - 48).toInt64 = lN (x.toInt.toNat - 48) := by
  have h := of_decide_eq_true h
  have e : x = nI (x.toInt.toNat) := by
    apply Int32.toInt_inj.mp
    rw [nI_toInt (by omega)]; omega
  have e2 : x - 48 = nI (x.toInt.toNat - 48) := by
    conv => lhs; rw [e]
    exact pk_sub (b := 48) (by omega)
  rw [e2, nI_l (by omega)]
theorem numS {x d : Nat} (hx : x ≤ 10000000000) (hd : d ≤ 9) : (if lN x * 10 + lN d < 10000000000 then lN x * 10 + lN d else (10000000000 : Int64)) = lN (min 10000000000 (x * 10 + d)) := by
  have e1 : lN x * 10 = lN (x * 10) := lN_mul x 10
  have e2 : (10000000000 : Int64) = lN 10000000000 := rfl
  rw [e1, lN_add, e2]
  split
  · rename_i h; rw [pk_lLT (by omega) (by omega)] at h; rw [Nat.min_eq_right (by omega)]
  · rename_i h; rw [pk_lLT (by omega) (by omega)] at h; rw [Nat.min_eq_left (by omega)]
/-- so many against a number as a relation says -/
def cs (m N : Int) (r : Int32) : Bool := decide (0 ≤ m ∧ ((r = 0 ∧ N < m) ∨ (r = 1 ∧ N ≤ m) ∨ (r = 2 ∧ m < N) ∨ (r = 3 ∧ m ≤ N) ∨ (r = 4 ∧ m = N) ∨ (r = 5 ∧ m ≠ N)))
theorem i64 (x : Int32) : x.toInt64.toInt = x.toInt := by simp
theorem tl_lt {a b : Int64} : a < b ↔ a.toInt < b.toInt := Int64.lt_iff_toInt_lt
theorem tl_le {a b : Int64} : a ≤ b ↔ a.toInt ≤ b.toInt := Int64.le_iff_toInt_le
theorem tl_eq {a b : Int64} : a = b ↔ a.toInt = b.toInt := Int64.toInt_inj.symm
end
section
abbrev rm_c_Row_number : Room := { frames := 1, cells := 0, slots := 0, locals := 21 }
set_option maxHeartbeats 4000000 in
set_option maxRecDepth 100000 in
theorem c_Row_number (l : Launch) (dC : Nat → ClassId) (dI : Nat → Nat → Nat) (h0 q : Nat) (k : ClassId) (f : Nat → Int32) (n : Nat) (hn : n ≤ 100) : Met l yX1_numberUpTo (.code yX1_numberUpTo cX1_numberUpTo 7 (some (.long)) :: wsA) rm_c_Row_number (va_Pc [.ref h0, .long (10000000000)] (ro (dC, dI) [(h0, .inr (1, [.ref q, .int (nI n)])), (q, .inl (k, 100, .inl f))] [(k, .int)])) (vp_Sl (fun r => r = lN (kn f n))) 0 0 (fun _ => False) := by
  refine Met.ofW (cc := cX1_numberUpTo) (maxL := 7) (ret := (some (.long))) (by decide) rfl ?_
  intro p e s m args below meth c s₁ B hml hv
  obtain ⟨hargs, hN, hP, hK⟩ := hv
  have hx := B.exec
  have hb := B.bytes
  have hr := B.returns
  have hw : ∀ w ∈ wsA, w.before args s = true := fun w h => atoms_spec (ws := (.code yX1_numberUpTo cX1_numberUpTo 7 (some (.long)) :: wsA)) B.pre w (List.mem_cons_of_mem _ h)
  have hown : s.vm.findClass "GlobDesk$Row" = some m.cls := findClass_of_methodNamed B.named
  have hlocks := B.notSynchronized
  generalize hQ : MQ below _ args s _ _ _ = Q
  change W p l e rm_c_Row_number s m args below meth c s.heap [] 0 0 Q (entryFrame m args 7)
  have hl := lv_entry ([.ref h0, .long (10000000000)]) (n := 7) (Nat.le_of_ble_eq_true rfl)
  rw [show entryFrame m args 7 = entryFrame m ([.ref h0, .long (10000000000)] : List Value).toArray 7 from by rw [hargs], lg_entry_eq]
  generalize (lg_sl ([.ref h0, .long (10000000000)]) ++ List.replicate (7 - (lg_sl ([.ref h0, .long (10000000000)])).length) Slot.unset).toArray = ls at hl ⊢
  have hl : lv_has ls 7 [(0, .ref h0), (1, .long (10000000000))] := hl
  have hdn := dg_le f n
  refine lv_aload_n hx hb dX1_numberUpTo_0 rfl (lv_at hl 0 rfl) ?_
  refine vp_callSi (va_Run.run (va_runV (As := []) (rest := []) ⟨hx, hb, hml, hown, hw⟩ (c_Row_digits l dC dI h0 q k f n hn) (cwV 0 hw (gV mw225 mw126 mw127 mw17 mw128) rfl rfl rfl (by decide +kernel) ⟨Nat.le_of_ble_eq_true rfl, Nat.le_of_ble_eq_true rfl⟩) (ro.V (q0 := 0) (ci := 1) hN (hK.sub (tys' := [(k, .int)]) [0] rfl) (hP.sub (ws' := [(h0, .inr (1, [.ref q, .int (nI n)])), (q, .inl (k, 100, .inl f))]) [0, 1] rfl) rfl rfl) rfl rfl hl.1 rfl (lv_room (Nat.le_of_ble_eq_true rfl)) dX1_numberUpTo_1 ⟨Nat.le_of_ble_eq_true rfl, Nat.le_of_ble_eq_true rfl⟩)) (fun r1 hr1 => ?_)
  subst hr1
  refine lv_istore_n (lv' := [(3, .int (nI (dg f n))), (0, .ref h0), (1, .long (10000000000))]) hx hb dX1_numberUpTo_4 rfl hl (by decide) rfl (fun ls hl => ?_)
  refine lv_iload_n hx hb dX1_numberUpTo_5 rfl (lv_at hl 0 rfl) ?_
  refine lv_if_ne (tgt := 11) hx hb dX1_numberUpTo_6 (by decide) (fun c6_1 => ?_) (fun c6_1 => ?_)
  · skip
    rw [ti_eq, nI_toInt (by omega), tc_0] at c6_1
    have q1 : ¬ dg f n = 0 := by omega
    refine lv_lconst (v := 0) hx hb dX1_numberUpTo_11 (by decide) ?_
    refine lv_topl (fun x3 ex3 => ?_)
    obtain rfl : x3 = lN 0 := by rw [ex3]; rfl
    refine lv_lstore (lv' := [(4, .long (lN 0)), (3, .int (nI (dg f n))), (0, .ref h0), (1, .long (10000000000))]) hx hb dX1_numberUpTo_12 hl (by decide) rfl (fun ls hl => ?_)
    refine lv_iconst (v := 0) hx hb dX1_numberUpTo_14 (by decide) ?_
    refine lv_topi (fun x4 ex4 => ?_)
    obtain rfl : x4 = nI 0 := by rw [ex4]; exact nI_0.symm
    refine lv_istore (lv' := [(6, .int (nI 0)), (4, .long (lN 0)), (3, .int (nI (dg f n))), (0, .ref h0), (1, .long (10000000000))]) hx hb dX1_numberUpTo_15 hl (by decide) rfl (fun ls hl => ?_)
    have loop17 : ∀ (nn17 : Nat) (i x : Nat) (hi : i ≤ dg f n) (hxx : x ≤ 10000000000) (e9 : numA f (dg f n - i) i x = kn f n) (_ : dg f n - i < nn17) (ls : Array Slot) (_ : lv_has ls 7 [(0, .ref h0), (1, .long (10000000000)), (3, .int (nI (dg f n))), (4, .long (lN x)), (6, .int (nI i))]), W p l e rm_c_Row_number s m args below meth c s.heap [] 0 0 Q (F0 m 17 ls []) := by
      intro nn17
      induction nn17 with
      | zero => intro i x hi hxx e9 hm17 ls hl; exact absurd hm17 (Nat.not_lt_zero _)
      | succ nn17 ih17 =>
        intro i x hi hxx e9 hm17 ls hl
        refine lv_iload hx hb dX1_numberUpTo_17 (lv_at hl 4 rfl) ?_
        refine lv_iload_n hx hb dX1_numberUpTo_19 rfl (lv_at hl 2 rfl) ?_
        refine lv_icmp_ge (tgt := 52) hx hb dX1_numberUpTo_20 (by decide) (fun c20_4 => ?_) (fun c20_4 => ?_)
        · skip
          rw [ti_le, nI_toInt (by omega), nI_toInt (by omega)] at c20_4
          have e8 : i = dg f n := by omega
          refine lv_lload hx hb dX1_numberUpTo_52 (lv_at hl 3 rfl) ?_
          subst hQ
          exact W.lret (v := (lN x)) hx hb hr (fun t ht hW => ⟨_, rfl, (by rw [← e9, e8, Nat.sub_self]; rfl), ht⟩) (fun _ h => absurd h List.not_mem_nil) dX1_numberUpTo_54
        · skip
          rw [ti_le, nI_toInt (by omega), nI_toInt (by omega)] at c20_4
          have d1 : dgb (f i) = true := cnt_in (fun j => dgb (f j)) n 0 i (Nat.zero_le _) (by unfold dg at *; omega)
          have d2 := of_decide_eq_true d1
          refine lv_lload_n hx hb dX1_numberUpTo_23 rfl (lv_at hl 1 rfl) ?_
          refine lv_lload hx hb dX1_numberUpTo_24 (lv_at hl 3 rfl) ?_
          refine lv_ldc2 (v := 10) hx hb hown (hw _ mw226) dX1_numberUpTo_26 ?_
          refine lv_lmul hx hb dX1_numberUpTo_29 ?_
          refine lv_aload_n hx hb dX1_numberUpTo_30 rfl (lv_at hl 0 rfl) ?_
          refine lv_iload hx hb dX1_numberUpTo_31 (lv_at hl 4 rfl) ?_
          refine vp_callSi (va_Run.run (va_runV (As := [.int (nI i)]) (rest := [.long ((lN x) * (10)), .long (10000000000)]) ⟨hx, hb, hml, hown, hw⟩ (c_Row_at l dC dI h0 q k f n hn (nI i)) (cwV 1 hw (gV mw136 mw137 mw138 mw17 mw139) rfl rfl rfl (by decide +kernel) ⟨Nat.le_of_ble_eq_true rfl, Nat.le_of_ble_eq_true rfl⟩) (ro.V (q0 := 0) (ci := 1) hN (hK.sub (tys' := [(k, .int)]) [0] rfl) (hP.sub (ws' := [(h0, .inr (1, [.ref q, .int (nI n)])), (q, .inl (k, 100, .inl f))]) [0, 1] rfl) rfl rfl) rfl rfl hl.1 rfl (lv_room (Nat.le_of_ble_eq_true rfl)) dX1_numberUpTo_33 ⟨Nat.le_of_ble_eq_true rfl, Nat.le_of_ble_eq_true rfl⟩)) (fun r6 hr6 => ?_)
          rw [ra_in (by omega) hn] at hr6
          subst hr6
          refine lv_bipush (v := 48) hx hb dX1_numberUpTo_36 (by decide) ?_
          refine lv_isub hx hb dX1_numberUpTo_38 ?_
          refine lv_i2l hx hb dX1_numberUpTo_39 rfl ?_
          refine lv_topl (fun x7 ex7 => ?_)
          obtain rfl : x7 = lN ((f i).toInt.toNat - 48) := by rw [ex7]; exact dgv d1
          refine lv_ladd hx hb dX1_numberUpTo_40 ?_
          refine va_mmin_long hx hb (by rw [hml]; exact hl.1.symm) hown (hw _ mw227) (hw _ mw228) (hw _ mw21) (hw _ mw229) (Nat.le_of_ble_eq_true rfl) (Nat.le_of_ble_eq_true rfl) (Nat.le_of_ble_eq_true rfl) (Nat.le_of_ble_eq_true rfl) dX1_numberUpTo_41 ?_
          refine lv_topl (fun x8 ex8 => ?_)
          obtain rfl : x8 = lN (min 10000000000 (x * 10 + ((f i).toInt.toNat - 48))) := by rw [ex8]; exact numS hxx (by omega)
          refine lv_lstore (lv' := [(4, .long (lN (min 10000000000 (x * 10 + ((f i).toInt.toNat - 48))))), (0, .ref h0), (1, .long (10000000000)), (3, .int (nI (dg f n))), (6, .int (nI i))]) hx hb dX1_numberUpTo_44 hl (by decide) rfl (fun ls hl => ?_)
          refine lv_iinc (v := nI (i + 1)) (lv' := [(6, .int (nI (i + 1))), (4, .long (lN (min 10000000000 (x * 10 + ((f i).toInt.toNat - 48))))), (0, .ref h0), (1, .long (10000000000)), (3, .int (nI (dg f n)))]) hx hb dX1_numberUpTo_46 hl (k := 4) rfl (nI_inc i) (by decide) rfl (fun ls hl => ?_)
          refine lv_goto (tgt := 17) hx hb dX1_numberUpTo_49 (by decide) ?_
          exact ih17 (i + 1) (min 10000000000 (x * 10 + ((f i).toInt.toNat - 48))) (by omega) (Nat.min_le_left _ _) ((numA_next (f := f) (r := dg f n - i) (i := i) (x := x) (by omega)).symm.trans e9) (by omega) ls (lv_sub hl [2, 3, 4, 1, 0] rfl)
    exact loop17 (dg f n + 1) 0 0 (Nat.zero_le _) (Nat.zero_le _) (by unfold kn; rw [if_neg q1]; rfl) (by omega) ls (lv_sub hl [3, 4, 2, 1, 0] rfl)
  · skip
    rw [ti_eq, nI_toInt (by omega), tc_0] at c6_1
    have q1 : dg f n = 0 := by omega
    refine lv_lload_n hx hb dX1_numberUpTo_9 rfl (lv_at hl 2 rfl) ?_
    subst hQ
    exact W.lret (v := 10000000000) hx hb hr (fun t ht hW => ⟨_, rfl, (by unfold kn; rw [if_pos q1]; rfl), ht⟩) (fun _ h => absurd h List.not_mem_nil) dX1_numberUpTo_10

abbrev rm_c_Pat_star : Room := { frames := 1, cells := 0, slots := 0, locals := 21 }
set_option maxHeartbeats 4000000 in
set_option maxRecDepth 100000 in
theorem c_Pat_star (l : Launch) (dC : Nat → ClassId) (dI : Nat → Nat → Nat) (h0 q : Nat) (k : ClassId) (f : Nat → Int32) (n : Nat) (hn : n ≤ 100) (b : Nat) (hbn : b ≤ n) : Met l yX0_starFrom (.code yX0_starFrom cX0_starFrom 3 (some (.int)) :: wsA) rm_c_Pat_star (va_Pc [.ref h0, .int (nI b)] (ro (dC, dI) [(h0, .inr (0, [.ref q, .int (nI n)])), (q, .inl (k, 100, .inl f))] [(k, .int)])) (vp_Si (fun r => r = nI (cnt (fun j => decide (f j ≠ 257)) (n - b) b))) 0 0 (fun _ => False) := by
  refine Met.ofW (cc := cX0_starFrom) (maxL := 3) (ret := (some (.int))) (by decide) rfl ?_
  intro p e s m args below meth c s₁ B hml hv
  obtain ⟨hargs, hN, hP, hK⟩ := hv
  have hx := B.exec
  have hb := B.bytes
  have hr := B.returns
  have hw : ∀ w ∈ wsA, w.before args s = true := fun w h => atoms_spec (ws := (.code yX0_starFrom cX0_starFrom 3 (some (.int)) :: wsA)) B.pre w (List.mem_cons_of_mem _ h)
  have hown : s.vm.findClass "GlobDesk$Pattern" = some m.cls := findClass_of_methodNamed B.named
  have hlocks := B.notSynchronized
  generalize hQ : MQ below _ args s _ _ _ = Q
  change W p l e rm_c_Pat_star s m args below meth c s.heap [] 0 0 Q (entryFrame m args 3)
  have hl := lv_entry ([.ref h0, .int (nI b)]) (n := 3) (Nat.le_of_ble_eq_true rfl)
  rw [show entryFrame m args 3 = entryFrame m ([.ref h0, .int (nI b)] : List Value).toArray 3 from by rw [hargs], lg_entry_eq]
  generalize (lg_sl ([.ref h0, .int (nI b)]) ++ List.replicate (3 - (lg_sl ([.ref h0, .int (nI b)])).length) Slot.unset).toArray = ls at hl ⊢
  have hl : lv_has ls 3 [(0, .ref h0), (1, .int (nI b))] := hl
  refine lv_iload_n hx hb dX0_starFrom_0 rfl (lv_at hl 1 rfl) ?_
  refine lv_istore_n (lv' := [(2, .int (nI b)), (0, .ref h0), (1, .int (nI b))]) hx hb dX0_starFrom_1 rfl hl (by decide) rfl (fun ls hl => ?_)
  have loop2 : ∀ (nn2 : Nat) (i : Nat) (hi : i ≤ n) (e9 : cnt (fun j => decide (f j ≠ 257)) (n - i) i = cnt (fun j => decide (f j ≠ 257)) (n - b) b) (_ : n - i < nn2) (ls : Array Slot) (_ : lv_has ls 3 [(0, .ref h0), (2, .int (nI i))]), W p l e rm_c_Pat_star s m args below meth c s.heap [] 0 0 Q (F0 m 2 ls []) := by
    intro nn2
    induction nn2 with
    | zero => intro i hi e9 hm2 ls hl; exact absurd hm2 (Nat.not_lt_zero _)
    | succ nn2 ih2 =>
      intro i hi e9 hm2 ls hl
      refine lv_iload_n hx hb dX0_starFrom_2 rfl (lv_at hl 1 rfl) ?_
      refine lv_aload_n hx hb dX0_starFrom_3 rfl (lv_at hl 0 rfl) ?_
      refine va_get (D := (dC, dI)) (ci := 0) (v := .int (nI n)) (C := RX0) (T := TX0) (N := 2) hx hb hw inX0 hown hK hP 0 rfl rfl 1 (by decide) (hw _ mw53) (fun _ h9 => h9) rfl dX0_starFrom_4 ?_
      refine lv_icmp_ge (tgt := 27) hx hb dX0_starFrom_7 (by decide) (fun c7_0 => ?_) (fun c7_0 => ?_)
      · skip
        rw [ti_le, nI_toInt (by omega), nI_toInt (by omega)] at c7_0
        have e8 : i = n := by omega
        refine lv_iload_n hx hb dX0_starFrom_27 rfl (lv_at hl 1 rfl) ?_
        subst hQ
        exact W.iret (v := (nI i)) hx hb hr (fun t ht hW => ⟨_, rfl, (by first | (rw [← e9, cnt_stop (decide_eq_false (not_not_intro d1))]) | (rw [← e9, e8, Nat.sub_self]; rfl)), ht⟩) (fun _ h => absurd h List.not_mem_nil) dX0_starFrom_28
      · skip
        rw [ti_le, nI_toInt (by omega), nI_toInt (by omega)] at c7_0
        refine lv_aload_n hx hb dX0_starFrom_10 rfl (lv_at hl 0 rfl) ?_
        refine lv_iload_n hx hb dX0_starFrom_11 rfl (lv_at hl 1 rfl) ?_
        refine vp_callSi (va_Run.run (va_runV (As := [.int (nI i)]) (rest := []) ⟨hx, hb, hml, hown, hw⟩ (c_Pat_at l dC dI h0 q k f n hn (nI i)) (cwV 1 hw (gV mw192 mw173 mw174 mw18 mw175) rfl rfl rfl (by decide +kernel) ⟨Nat.le_of_ble_eq_true rfl, Nat.le_of_ble_eq_true rfl⟩) (ro.V (q0 := 0) (ci := 0) hN (hK.sub (tys' := [(k, .int)]) [0] rfl) (hP.sub (ws' := [(h0, .inr (0, [.ref q, .int (nI n)])), (q, .inl (k, 100, .inl f))]) [0, 1] rfl) rfl rfl) rfl rfl hl.1 rfl (lv_room (Nat.le_of_ble_eq_true rfl)) dX0_starFrom_12 ⟨Nat.le_of_ble_eq_true rfl, Nat.le_of_ble_eq_true rfl⟩)) (fun r2 hr2 => ?_)
        rw [ra_in (by omega) hn] at hr2
        subst hr2
        refine lv_sipush (v := 257) hx hb dX0_starFrom_15 (by decide) ?_
        refine lv_icmp_eq (tgt := 27) hx hb dX0_starFrom_18 (by decide) (fun c18_2 => ?_) (fun c18_2 => ?_)
        · skip
          have d1 := c18_2
          refine lv_iload_n hx hb dX0_starFrom_27 rfl (lv_at hl 1 rfl) ?_
          subst hQ
          exact W.iret (v := (nI i)) hx hb hr (fun t ht hW => ⟨_, rfl, (by first | (rw [← e9, cnt_stop (decide_eq_false (not_not_intro d1))]) | (rw [← e9, e8, Nat.sub_self]; rfl)), ht⟩) (fun _ h => absurd h List.not_mem_nil) dX0_starFrom_28
        · skip
          have d1 := c18_2
          refine lv_iinc (v := nI (i + 1)) (lv' := [(2, .int (nI (i + 1))), (0, .ref h0)]) hx hb dX0_starFrom_21 hl (k := 1) rfl (nI_inc i) (by decide) rfl (fun ls hl => ?_)
          refine lv_goto (tgt := 2) hx hb dX0_starFrom_24 (by decide) ?_
          exact ih2 (i + 1) (by omega) ((cnt_step (p := fun j => decide (f j ≠ 257)) (k := n - i) (i := i) (decide_eq_true d1) (by omega)).symm.trans e9) (by omega) ls (lv_sub hl [1, 0] rfl)
  exact loop2 (n - b + 1) b hbn rfl (by omega) ls (lv_sub hl [1, 0] rfl)

abbrev rm_c_fits : Room := { frames := 1, cells := 0, slots := 0, locals := 22 }
set_option maxHeartbeats 4000000 in
set_option maxRecDepth 100000 in
theorem c_fits (l : Launch) (dC : Nat → ClassId) (dI : Nat → Nat → Nat) (g rv rk pt sp av ak ap a1 a2 : Nat) (kv kk kp k1 k2 : ClassId) (fv fk fp f1 f2 : Nat → Int32) (nv nk np ns : Nat) (hv : nv ≤ 100) (hk : nk ≤ 100) (hp : np ≤ 100) (hs : ns ≤ 100) (a b p0 : Nat) (cp : Int32) (hab : a ≤ b) (hbp : b ≤ np) (hp0 : p0 ≤ 100) : Met l yX3_fits (.code yX3_fits cX3_fits 8 (some (.boolean)) :: wsA) rm_c_fits (va_Pc [.ref g, .int (nI a), .int (nI b), .int (nI p0), .int (cp)] (ro (dC, dI) [(g, .inr (3, [.ref rv, .ref rk, .ref pt, .ref sp])), (rv, .inr (1, [.ref av, .int (nI nv)])), (av, .inl (kv, 100, .inl fv)), (rk, .inr (1, [.ref ak, .int (nI nk)])), (ak, .inl (kk, 100, .inl fk)), (pt, .inr (0, [.ref ap, .int (nI np)])), (ap, .inl (kp, 100, .inl fp)), (sp, .inr (2, [.ref a1, .ref a2, .int (nI ns)])), (a1, .inl (k1, 100, .inl f1)), (a2, .inl (k2, 100, .inl f2))] [(kv, .int), (kk, .int), (kp, .int), (k1, .int), (k2, .int)])) (vp_Si (fun r => r = if fitB fp fv nv cp a b p0 = true then 1 else 0)) 0 0 (fun _ => False) := by
  refine Met.ofW (cc := cX3_fits) (maxL := 8) (ret := (some (.boolean))) (by decide) rfl ?_
  intro p e s m args below meth c s₁ B hml hv
  obtain ⟨hargs, hN, hP, hK⟩ := hv
  have hx := B.exec
  have hb := B.bytes
  have hr := B.returns
  have hw : ∀ w ∈ wsA, w.before args s = true := fun w h => atoms_spec (ws := (.code yX3_fits cX3_fits 8 (some (.boolean)) :: wsA)) B.pre w (List.mem_cons_of_mem _ h)
  have hown : s.vm.findClass "GlobDesk" = some m.cls := findClass_of_methodNamed B.named
  have hlocks := B.notSynchronized
  generalize hQ : MQ below _ args s _ _ _ = Q
  change W p l e rm_c_fits s m args below meth c s.heap [] 0 0 Q (entryFrame m args 8)
  have hl := lv_entry ([.ref g, .int (nI a), .int (nI b), .int (nI p0), .int (cp)]) (n := 8) (Nat.le_of_ble_eq_true rfl)
  rw [show entryFrame m args 8 = entryFrame m ([.ref g, .int (nI a), .int (nI b), .int (nI p0), .int (cp)] : List Value).toArray 8 from by rw [hargs], lg_entry_eq]
  generalize (lg_sl ([.ref g, .int (nI a), .int (nI b), .int (nI p0), .int (cp)]) ++ List.replicate (8 - (lg_sl ([.ref g, .int (nI a), .int (nI b), .int (nI p0), .int (cp)])).length) Slot.unset).toArray = ls at hl ⊢
  have hl : lv_has ls 8 [(0, .ref g), (1, .int (nI a)), (2, .int (nI b)), (3, .int (nI p0)), (4, .int (cp))] := hl
  refine lv_iload_n hx hb dX3_fits_0 rfl (lv_at hl 2 rfl) ?_
  refine lv_iload_n hx hb dX3_fits_1 rfl (lv_at hl 1 rfl) ?_
  refine lv_isub hx hb dX3_fits_2 ?_
  refine lv_aload_n hx hb dX3_fits_3 rfl (lv_at hl 0 rfl) ?_
  refine va_get (D := (dC, dI)) (ci := 3) (v := .ref rv) (C := RX3) (T := TX3) (N := 4) hx hb hw inX3 hown hK hP 0 rfl rfl 0 (by decide) (hw _ mw77) (fun _ h9 => h9) rfl dX3_fits_4 ?_
  refine va_getN (D := (dC, dI)) (ci := 1) (v := .int (nI nv)) (C := RX1) (T := TX1) (N := 2) hx hb hw inX1 hown hK hP 1 rfl rfl 1 (by decide) (va_Nw.use rfl hN.2.2.1) (fun _ h9 => h9) rfl dX3_fits_7 ?_
  refine lv_iload_n hx hb dX3_fits_10 rfl (lv_at hl 3 rfl) ?_
  refine lv_isub hx hb dX3_fits_11 ?_
  refine lv_icmp_le (tgt := 17) hx hb dX3_fits_12 (by decide) (fun c12_0 => ?_) (fun c12_0 => ?_)
  · skip
    rw [ti_le, pk_sub_toInt (by omega) (by omega), pk_sub_toInt (by omega) (by omega)] at c12_0
    have q0 : p0 + (b - a) ≤ nv := by omega
    refine lv_iload_n hx hb dX3_fits_17 rfl (lv_at hl 1 rfl) ?_
    refine lv_istore (lv' := [(5, .int (nI a)), (0, .ref g), (1, .int (nI a)), (2, .int (nI b)), (3, .int (nI p0)), (4, .int (cp))]) hx hb dX3_fits_18 hl (by decide) rfl (fun ls hl => ?_)
    have loop20 : ∀ (nn20 : Nat) (i : Nat) (hai : a ≤ i) (hi : i ≤ b) (e9 : fitA fp fv cp (b - i) i (p0 + (i - a)) = fitA fp fv cp (b - a) a p0) (_ : b - i < nn20) (ls : Array Slot) (_ : lv_has ls 8 [(0, .ref g), (1, .int (nI a)), (2, .int (nI b)), (3, .int (nI p0)), (4, .int (cp)), (5, .int (nI i))]), W p l e rm_c_fits s m args below meth c s.heap [] 0 0 Q (F0 m 20 ls []) := by
      intro nn20
      induction nn20 with
      | zero => intro i hai hi e9 hm20 ls hl; exact absurd hm20 (Nat.not_lt_zero _)
      | succ nn20 ih20 =>
        intro i hai hi e9 hm20 ls hl
        refine lv_iload hx hb dX3_fits_20 (lv_at hl 5 rfl) ?_
        refine lv_iload_n hx hb dX3_fits_22 rfl (lv_at hl 2 rfl) ?_
        refine lv_icmp_ge (tgt := 85) hx hb dX3_fits_23 (by decide) (fun c23_1 => ?_) (fun c23_1 => ?_)
        · skip
          rw [ti_le, nI_toInt (by omega), nI_toInt (by omega)] at c23_1
          have e8 : i = b := by omega
          refine lv_iconst (v := 1) hx hb dX3_fits_85 (by decide) ?_
          subst hQ
          exact W.zret (v := 1) hx hb hr (by decide) (fun t ht hW => ⟨_, rfl, (by unfold fitB; rw [← e9, e8, Nat.sub_self, decide_eq_true q0]; rfl), ht⟩) (fun _ h => absurd h List.not_mem_nil) dX3_fits_86
        · skip
          rw [ti_le, nI_toInt (by omega), nI_toInt (by omega)] at c23_1
          refine lv_aload_n hx hb dX3_fits_26 rfl (lv_at hl 0 rfl) ?_
          refine va_get (D := (dC, dI)) (ci := 3) (v := .ref pt) (C := RX3) (T := TX3) (N := 4) hx hb hw inX3 hown hK hP 0 rfl rfl 2 (by decide) (hw _ mw79) (fun _ h9 => h9) rfl dX3_fits_27 ?_
          refine lv_iload hx hb dX3_fits_30 (lv_at hl 5 rfl) ?_
          refine vp_callSi (va_Run.run (va_runV (As := [.int (nI i)]) (rest := []) ⟨hx, hb, hml, hown, hw⟩ (c_Pat_at l dC dI pt ap kp fp np hp (nI i)) (cwV 1 hw (gV mw172 mw173 mw174 mw18 mw175) rfl rfl rfl (by decide +kernel) ⟨Nat.le_of_ble_eq_true rfl, Nat.le_of_ble_eq_true rfl⟩) (ro.V (q0 := 0) (ci := 0) hN (hK.sub (tys' := [(kp, .int)]) [2] rfl) (hP.sub (ws' := [(pt, .inr (0, [.ref ap, .int (nI np)])), (ap, .inl (kp, 100, .inl fp))]) [5, 6] rfl) rfl rfl) rfl rfl hl.1 rfl (lv_room (Nat.le_of_ble_eq_true rfl)) dX3_fits_32 ⟨Nat.le_of_ble_eq_true rfl, Nat.le_of_ble_eq_true rfl⟩)) (fun r3 hr3 => ?_)
          rw [ra_in (by omega) hp] at hr3
          subst hr3
          refine lv_istore (lv' := [(6, .int (fp i)), (0, .ref g), (1, .int (nI a)), (2, .int (nI b)), (3, .int (nI p0)), (4, .int (cp)), (5, .int (nI i))]) hx hb dX3_fits_35 hl (by decide) rfl (fun ls hl => ?_)
          refine lv_aload_n hx hb dX3_fits_37 rfl (lv_at hl 1 rfl) ?_
          refine va_get (D := (dC, dI)) (ci := 3) (v := .ref rv) (C := RX3) (T := TX3) (N := 4) hx hb hw inX3 hown hK hP 0 rfl rfl 0 (by decide) (hw _ mw77) (fun _ h9 => h9) rfl dX3_fits_38 ?_
          refine lv_iload_n hx hb dX3_fits_41 rfl (lv_at hl 4 rfl) ?_
          refine lv_iload hx hb dX3_fits_42 (lv_at hl 6 rfl) ?_
          refine lv_iload_n hx hb dX3_fits_44 rfl (lv_at hl 2 rfl) ?_
          refine lv_isub hx hb dX3_fits_45 ?_
          refine lv_iadd hx hb dX3_fits_46 ?_
          refine lv_topi (fun x4 ex4 => ?_)
          obtain rfl : x4 = nI (p0 + (i - a)) := by rw [ex4, pk_sub hai, nI_add]
          refine vp_callSi (va_Run.run (va_runV (As := [.int (nI (p0 + (i - a)))]) (rest := []) ⟨hx, hb, hml, hown, hw⟩ (c_Row_at l dC dI rv av kv fv nv hv (nI (p0 + (i - a)))) (cwV 1 hw (gV mw140 mw137 mw138 mw17 mw139) rfl rfl rfl (by decide +kernel) ⟨Nat.le_of_ble_eq_true rfl, Nat.le_of_ble_eq_true rfl⟩) (ro.V (q0 := 0) (ci := 1) hN (hK.sub (tys' := [(kv, .int)]) [0] rfl) (hP.sub (ws' := [(rv, .inr (1, [.ref av, .int (nI nv)])), (av, .inl (kv, 100, .inl fv))]) [1, 2] rfl) rfl rfl) rfl rfl hl.1 rfl (lv_room (Nat.le_of_ble_eq_true rfl)) dX3_fits_47 ⟨Nat.le_of_ble_eq_true rfl, Nat.le_of_ble_eq_true rfl⟩)) (fun r5 hr5 => ?_)
          rw [ra_in (by omega) hv] at hr5
          subst hr5
          refine lv_istore (lv' := [(7, .int (fv (p0 + (i - a)))), (6, .int (fp i)), (0, .ref g), (1, .int (nI a)), (2, .int (nI b)), (3, .int (nI p0)), (4, .int (cp)), (5, .int (nI i))]) hx hb dX3_fits_50 hl (by decide) rfl (fun ls hl => ?_)
          refine lv_iload hx hb dX3_fits_52 (lv_at hl 1 rfl) ?_
          refine lv_sipush (v := 256) hx hb dX3_fits_54 (by decide) ?_
          refine lv_icmp_eq (tgt := 79) hx hb dX3_fits_57 (by decide) (fun c57_5 => ?_) (fun c57_5 => ?_)
          · skip
            have d1 : mok (fp i) (fv (p0 + (i - a))) cp = true := decide_eq_true (Or.inl c57_5)
            refine lv_iinc (v := nI (i + 1)) (lv' := [(5, .int (nI (i + 1))), (7, .int (fv (p0 + (i - a)))), (6, .int (fp i)), (0, .ref g), (1, .int (nI a)), (2, .int (nI b)), (3, .int (nI p0)), (4, .int (cp))]) hx hb dX3_fits_79 hl (k := 7) rfl (nI_inc i) (by decide) rfl (fun ls hl => ?_)
            refine lv_goto (tgt := 20) hx hb dX3_fits_82 (by decide) ?_
            exact ih20 (i + 1) (by omega) (by omega) (by rw [← e9, fitA_yes (k := b - i) (by omega) d1, show p0 + (i + 1 - a) = p0 + (i - a) + 1 from by omega]; rfl) (by omega) ls (lv_sub hl [3, 4, 5, 6, 7, 0] rfl)
          · skip
            have d0 := c57_5
            refine lv_iload hx hb dX3_fits_60 (lv_at hl 1 rfl) ?_
            refine lv_iload hx hb dX3_fits_62 (lv_at hl 6 rfl) ?_
            refine vp_callSi (va_Run.run (va_runS (As := [.int (fp i), .int (cp)]) (rest := []) ⟨hx, hb, hml, hown, hw⟩ (c_fold l (fp i) (cp)) (cwS 2 hw (gS mw148 mw149 mw16 mw150) rfl rfl rfl (by decide +kernel) ⟨Nat.le_of_ble_eq_true rfl, Nat.le_of_ble_eq_true rfl⟩) st.S rfl rfl hl.1 rfl (lv_room (Nat.le_of_ble_eq_true rfl)) dX3_fits_64 ⟨Nat.le_of_ble_eq_true rfl, Nat.le_of_ble_eq_true rfl⟩)) (fun r7 hr7 => ?_)
            subst hr7
            refine lv_iload hx hb dX3_fits_67 (lv_at hl 0 rfl) ?_
            refine lv_iload hx hb dX3_fits_69 (lv_at hl 6 rfl) ?_
            refine vp_callSi (va_Run.run (va_runS (As := [.int (fv (p0 + (i - a))), .int (cp)]) (rest := [.int (fo (fp i) (cp))]) ⟨hx, hb, hml, hown, hw⟩ (c_fold l (fv (p0 + (i - a))) (cp)) (cwS 2 hw (gS mw148 mw149 mw16 mw150) rfl rfl rfl (by decide +kernel) ⟨Nat.le_of_ble_eq_true rfl, Nat.le_of_ble_eq_true rfl⟩) st.S rfl rfl hl.1 rfl (lv_room (Nat.le_of_ble_eq_true rfl)) dX3_fits_71 ⟨Nat.le_of_ble_eq_true rfl, Nat.le_of_ble_eq_true rfl⟩)) (fun r8 hr8 => ?_)
            subst hr8
            refine lv_icmp_eq (tgt := 79) hx hb dX3_fits_74 (by decide) (fun c74_8 => ?_) (fun c74_8 => ?_)
            · skip
              have d1 : mok (fp i) (fv (p0 + (i - a))) cp = true := decide_eq_true (Or.inr c74_8)
              refine lv_iinc (v := nI (i + 1)) (lv' := [(5, .int (nI (i + 1))), (7, .int (fv (p0 + (i - a)))), (6, .int (fp i)), (0, .ref g), (1, .int (nI a)), (2, .int (nI b)), (3, .int (nI p0)), (4, .int (cp))]) hx hb dX3_fits_79 hl (k := 7) rfl (nI_inc i) (by decide) rfl (fun ls hl => ?_)
              refine lv_goto (tgt := 20) hx hb dX3_fits_82 (by decide) ?_
              exact ih20 (i + 1) (by omega) (by omega) (by rw [← e9, fitA_yes (k := b - i) (by omega) d1, show p0 + (i + 1 - a) = p0 + (i - a) + 1 from by omega]; rfl) (by omega) ls (lv_sub hl [3, 4, 5, 6, 7, 0] rfl)
            · skip
              have d1 : mok (fp i) (fv (p0 + (i - a))) cp = false := decide_eq_false (fun h => h.elim d0 c74_8)
              have q9 : fitB fp fv nv cp a b p0 = false := by unfold fitB; rw [← e9, fitA_no (by omega) d1, Bool.and_false]
              refine lv_iconst (v := 0) hx hb dX3_fits_77 (by decide) ?_
              subst hQ
              exact W.zret (v := 0) hx hb hr (by decide) (fun t ht hW => ⟨_, rfl, (by rw [q9]; rfl), ht⟩) (fun _ h => absurd h List.not_mem_nil) dX3_fits_78
    exact loop20 (b - a + 1) a (Nat.le_refl _) hab (by rw [Nat.sub_self]; rfl) (by omega) ls (lv_sub hl [1, 2, 3, 4, 5, 0] rfl)
  · skip
    rw [ti_le, pk_sub_toInt (by omega) (by omega), pk_sub_toInt (by omega) (by omega)] at c12_0
    have q0 : ¬ p0 + (b - a) ≤ nv := by omega
    have q9 : fitB fp fv nv cp a b p0 = false := by unfold fitB; rw [decide_eq_false q0]; rfl
    refine lv_iconst (v := 0) hx hb dX3_fits_15 (by decide) ?_
    subst hQ
    exact W.zret (v := 0) hx hb hr (by decide) (fun t ht hW => ⟨_, rfl, (by rw [q9]; rfl), ht⟩) (fun _ h => absurd h List.not_mem_nil) dX3_fits_16

abbrev rm_c_first : Room := { frames := 2, cells := 0, slots := 0, locals := 49 }
set_option maxHeartbeats 4000000 in
set_option maxRecDepth 100000 in
theorem c_first (l : Launch) (dC : Nat → ClassId) (dI : Nat → Nat → Nat) (g rv rk pt sp av ak ap a1 a2 : Nat) (kv kk kp k1 k2 : ClassId) (fv fk fp f1 f2 : Nat → Int32) (nv nk np ns : Nat) (hv : nv ≤ 100) (hk : nk ≤ 100) (hp : np ≤ 100) (hs : ns ≤ 100) (a b e0 : Nat) (cp : Int32) (hab : a ≤ b) (hbp : b ≤ np) (he0 : e0 ≤ 100) : Met l yX3_firstPlace (.code yX3_firstPlace cX3_firstPlace 7 (some (.int)) :: wsA) rm_c_first (va_Pc [.ref g, .int (nI a), .int (nI b), .int (nI e0), .int (cp)] (ro (dC, dI) [(g, .inr (3, [.ref rv, .ref rk, .ref pt, .ref sp])), (rv, .inr (1, [.ref av, .int (nI nv)])), (av, .inl (kv, 100, .inl fv)), (rk, .inr (1, [.ref ak, .int (nI nk)])), (ak, .inl (kk, 100, .inl fk)), (pt, .inr (0, [.ref ap, .int (nI np)])), (ap, .inl (kp, 100, .inl fp)), (sp, .inr (2, [.ref a1, .ref a2, .int (nI ns)])), (a1, .inl (k1, 100, .inl f1)), (a2, .inl (k2, 100, .inl f2))] [(kv, .int), (kk, .int), (kp, .int), (k1, .int), (k2, .int)])) (vp_Si (fun r => r = fpF fp fv nv cp a b e0)) 0 0 (fun _ => False) := by
  refine Met.ofW (cc := cX3_firstPlace) (maxL := 7) (ret := (some (.int))) (by decide) rfl ?_
  intro p e s m args below meth c s₁ B hml hv
  obtain ⟨hargs, hN, hP, hK⟩ := hv
  have hx := B.exec
  have hb := B.bytes
  have hr := B.returns
  have hw : ∀ w ∈ wsA, w.before args s = true := fun w h => atoms_spec (ws := (.code yX3_firstPlace cX3_firstPlace 7 (some (.int)) :: wsA)) B.pre w (List.mem_cons_of_mem _ h)
  have hown : s.vm.findClass "GlobDesk" = some m.cls := findClass_of_methodNamed B.named
  have hlocks := B.notSynchronized
  generalize hQ : MQ below _ args s _ _ _ = Q
  change W p l e rm_c_first s m args below meth c s.heap [] 0 0 Q (entryFrame m args 7)
  have hl := lv_entry ([.ref g, .int (nI a), .int (nI b), .int (nI e0), .int (cp)]) (n := 7) (Nat.le_of_ble_eq_true rfl)
  rw [show entryFrame m args 7 = entryFrame m ([.ref g, .int (nI a), .int (nI b), .int (nI e0), .int (cp)] : List Value).toArray 7 from by rw [hargs], lg_entry_eq]
  generalize (lg_sl ([.ref g, .int (nI a), .int (nI b), .int (nI e0), .int (cp)]) ++ List.replicate (7 - (lg_sl ([.ref g, .int (nI a), .int (nI b), .int (nI e0), .int (cp)])).length) Slot.unset).toArray = ls at hl ⊢
  have hl : lv_has ls 7 [(0, .ref g), (1, .int (nI a)), (2, .int (nI b)), (3, .int (nI e0)), (4, .int (cp))] := hl
  refine lv_aload_n hx hb dX3_firstPlace_0 rfl (lv_at hl 0 rfl) ?_
  refine va_get (D := (dC, dI)) (ci := 3) (v := .ref rv) (C := RX3) (T := TX3) (N := 4) hx hb hw inX3 hown hK hP 0 rfl rfl 0 (by decide) (hw _ mw77) (fun _ h9 => h9) rfl dX3_firstPlace_1 ?_
  refine va_getN (D := (dC, dI)) (ci := 1) (v := .int (nI nv)) (C := RX1) (T := TX1) (N := 2) hx hb hw inX1 hown hK hP 1 rfl rfl 1 (by decide) (va_Nw.use rfl hN.2.2.1) (fun _ h9 => h9) rfl dX3_firstPlace_4 ?_
  refine lv_iload_n hx hb dX3_firstPlace_7 rfl (lv_at hl 2 rfl) ?_
  refine lv_iload_n hx hb dX3_firstPlace_8 rfl (lv_at hl 1 rfl) ?_
  refine lv_isub hx hb dX3_firstPlace_9 ?_
  refine lv_isub hx hb dX3_firstPlace_10 ?_
  refine lv_istore (lv' := [(5, .int ((nI nv) - ((nI b) - (nI a)))), (0, .ref g), (1, .int (nI a)), (2, .int (nI b)), (3, .int (nI e0)), (4, .int (cp))]) hx hb dX3_firstPlace_11 hl (by decide) rfl (fun ls hl => ?_)
  refine lv_iload_n hx hb dX3_firstPlace_13 rfl (lv_at hl 4 rfl) ?_
  refine lv_istore (lv' := [(6, .int (nI e0)), (5, .int ((nI nv) - ((nI b) - (nI a)))), (0, .ref g), (1, .int (nI a)), (2, .int (nI b)), (3, .int (nI e0)), (4, .int (cp))]) hx hb dX3_firstPlace_14 hl (by decide) rfl (fun ls hl => ?_)
  have loop16 : ∀ (nn16 : Nat) (p0 : Nat) (hp0 : p0 ≤ 101) (e9 : fpA fp fv nv cp a b (nv + 1 - (b - a) - p0) p0 = fpF fp fv nv cp a b e0) (_ : 102 - p0 < nn16) (ls : Array Slot) (_ : lv_has ls 7 [(0, .ref g), (1, .int (nI a)), (2, .int (nI b)), (4, .int (cp)), (5, .int ((nI nv) - ((nI b) - (nI a)))), (6, .int (nI p0))]), W p l e rm_c_first s m args below meth c s.heap [] 0 0 Q (F0 m 16 ls []) := by
    intro nn16
    induction nn16 with
    | zero => intro p0 hp0 e9 hm16 ls hl; exact absurd hm16 (Nat.not_lt_zero _)
    | succ nn16 ih16 =>
      intro p0 hp0 e9 hm16 ls hl
      refine lv_iload hx hb dX3_firstPlace_16 (lv_at hl 5 rfl) ?_
      refine lv_iload hx hb dX3_firstPlace_18 (lv_at hl 4 rfl) ?_
      refine lv_icmp_gt (tgt := 45) hx hb dX3_firstPlace_20 (by decide) (fun c20_0 => ?_) (fun c20_0 => ?_)
      · skip
        rw [ti_lt, lat hab (by omega) hv, nI_toInt (by omega)] at c20_0
        have e8 : nv + 1 - (b - a) - p0 = 0 := by omega
        refine lv_iconst (v := -1) hx hb dX3_firstPlace_45 (by decide) ?_
        subst hQ
        exact W.iret (v := (-1)) hx hb hr (fun t ht hW => ⟨_, rfl, (by rw [← e9, e8]; rfl), ht⟩) (fun _ h => absurd h List.not_mem_nil) dX3_firstPlace_46
      · skip
        rw [ti_lt, lat hab (by omega) hv, nI_toInt (by omega)] at c20_0
        refine lv_aload_n hx hb dX3_firstPlace_23 rfl (lv_at hl 0 rfl) ?_
        refine lv_iload_n hx hb dX3_firstPlace_24 rfl (lv_at hl 1 rfl) ?_
        refine lv_iload_n hx hb dX3_firstPlace_25 rfl (lv_at hl 2 rfl) ?_
        refine lv_iload hx hb dX3_firstPlace_26 (lv_at hl 5 rfl) ?_
        refine lv_iload hx hb dX3_firstPlace_28 (lv_at hl 3 rfl) ?_
        refine vp_callSi (va_Run.run (va_runV (As := [.int (nI a), .int (nI b), .int (nI p0), .int (cp)]) (rest := []) ⟨hx, hb, hml, hown, hw⟩ (c_fits l dC dI g rv rk pt sp av ak ap a1 a2 kv kk kp k1 k2 fv fk fp f1 f2 nv nk np ns hv hk hp hs a b p0 cp hab hbp (by omega)) (cwV 4 hw (gV mw168 mw170 mw8 mw16 mw171) rfl rfl rfl (by decide +kernel) ⟨Nat.le_of_ble_eq_true rfl, Nat.le_of_ble_eq_true rfl⟩) (ro.V (q0 := 0) (ci := 3) hN (hK.sub (tys' := [(kv, .int), (kk, .int), (kp, .int), (k1, .int), (k2, .int)]) [0, 1, 2, 3, 4] rfl) (hP.sub (ws' := [(g, .inr (3, [.ref rv, .ref rk, .ref pt, .ref sp])), (rv, .inr (1, [.ref av, .int (nI nv)])), (av, .inl (kv, 100, .inl fv)), (rk, .inr (1, [.ref ak, .int (nI nk)])), (ak, .inl (kk, 100, .inl fk)), (pt, .inr (0, [.ref ap, .int (nI np)])), (ap, .inl (kp, 100, .inl fp)), (sp, .inr (2, [.ref a1, .ref a2, .int (nI ns)])), (a1, .inl (k1, 100, .inl f1)), (a2, .inl (k2, 100, .inl f2))]) [0, 1, 2, 3, 4, 5, 6, 7, 8, 9] rfl) rfl rfl) rfl rfl hl.1 rfl (lv_room (Nat.le_of_ble_eq_true rfl)) dX3_firstPlace_30 ⟨Nat.le_of_ble_eq_true rfl, Nat.le_of_ble_eq_true rfl⟩)) (fun r2 hr2 => ?_)
        subst hr2
        refine lv_if_eq (tgt := 39) hx hb dX3_firstPlace_33 (by decide) (fun c33_2 => ?_) (fun c33_2 => ?_)
        · skip
          have d1 := ifb0 c33_2
          refine lv_iinc (v := nI (p0 + 1)) (lv' := [(6, .int (nI (p0 + 1))), (0, .ref g), (1, .int (nI a)), (2, .int (nI b)), (4, .int (cp)), (5, .int ((nI nv) - ((nI b) - (nI a))))]) hx hb dX3_firstPlace_39 hl (k := 5) rfl (nI_inc p0) (by decide) rfl (fun ls hl => ?_)
          refine lv_goto (tgt := 16) hx hb dX3_firstPlace_42 (by decide) ?_
          exact ih16 (p0 + 1) (by omega) ((fpA_next (k := nv + 1 - (b - a) - p0) (by omega) d1).symm.trans e9) (by omega) ls (lv_sub hl [1, 2, 3, 4, 5, 0] rfl)
        · skip
          have d1 := ifb c33_2
          refine lv_iload hx hb dX3_firstPlace_36 (lv_at hl 5 rfl) ?_
          subst hQ
          exact W.iret (v := (nI p0)) hx hb hr (fun t ht hW => ⟨_, rfl, (by rw [← e9, fpA_hit (by omega) d1]), ht⟩) (fun _ h => absurd h List.not_mem_nil) dX3_firstPlace_38
  exact loop16 (102 - e0 + 1) e0 (by omega) rfl (by omega) ls (lv_sub hl [2, 3, 4, 6, 1, 0] rfl)

abbrev rm_c_stB : Room := { frames := 1, cells := 0, slots := 0, locals := 22 }
set_option maxHeartbeats 4000000 in
set_option maxRecDepth 100000 in
theorem c_stB (l : Launch) (dC : Nat → ClassId) (dI : Nat → Nat → Nat) (g rv rk pt sp av ak ap a1 a2 : Nat) (kv kk kp k1 k2 : ClassId) (fv fk fp f1 f2 : Nat → Int32) (nv nk np ns : Nat) (hv : nv ≤ 100) (hk : nk ≤ 100) (hp : np ≤ 100) (hs : ns ≤ 100) (cp : Int32) : Met l yX3_standingAsBytes (.code yX3_standingAsBytes cX3_standingAsBytes 5 (some (.int)) :: wsA) rm_c_stB (va_Pc [.ref g, .int (cp)] (ro (dC, dI) [(g, .inr (3, [.ref rv, .ref rk, .ref pt, .ref sp])), (rv, .inr (1, [.ref av, .int (nI nv)])), (av, .inl (kv, 100, .inl fv)), (rk, .inr (1, [.ref ak, .int (nI nk)])), (ak, .inl (kk, 100, .inl fk)), (pt, .inr (0, [.ref ap, .int (nI np)])), (ap, .inl (kp, 100, .inl fp)), (sp, .inr (2, [.ref a1, .ref a2, .int (nI ns)])), (a1, .inl (k1, 100, .inl f1)), (a2, .inl (k2, 100, .inl f2))] [(kv, .int), (kk, .int), (kp, .int), (k1, .int), (k2, .int)])) (vp_Si (fun r => r = sbF fv fk nv nk cp)) 0 0 (fun _ => False) := by
  refine Met.ofW (cc := cX3_standingAsBytes) (maxL := 5) (ret := (some (.int))) (by decide) rfl ?_
  intro p e s m args below meth c s₁ B hml hv
  obtain ⟨hargs, hN, hP, hK⟩ := hv
  have hx := B.exec
  have hb := B.bytes
  have hr := B.returns
  have hw : ∀ w ∈ wsA, w.before args s = true := fun w h => atoms_spec (ws := (.code yX3_standingAsBytes cX3_standingAsBytes 5 (some (.int)) :: wsA)) B.pre w (List.mem_cons_of_mem _ h)
  have hown : s.vm.findClass "GlobDesk" = some m.cls := findClass_of_methodNamed B.named
  have hlocks := B.notSynchronized
  generalize hQ : MQ below _ args s _ _ _ = Q
  change W p l e rm_c_stB s m args below meth c s.heap [] 0 0 Q (entryFrame m args 5)
  have hl := lv_entry ([.ref g, .int (cp)]) (n := 5) (Nat.le_of_ble_eq_true rfl)
  rw [show entryFrame m args 5 = entryFrame m ([.ref g, .int (cp)] : List Value).toArray 5 from by rw [hargs], lg_entry_eq]
  generalize (lg_sl ([.ref g, .int (cp)]) ++ List.replicate (5 - (lg_sl ([.ref g, .int (cp)])).length) Slot.unset).toArray = ls at hl ⊢
  have hl : lv_has ls 5 [(0, .ref g), (1, .int (cp))] := hl
  refine lv_aload_n hx hb dX3_standingAsBytes_0 rfl (lv_at hl 0 rfl) ?_
  refine va_get (D := (dC, dI)) (ci := 3) (v := .ref rv) (C := RX3) (T := TX3) (N := 4) hx hb hw inX3 hown hK hP 0 rfl rfl 0 (by decide) (hw _ mw77) (fun _ h9 => h9) rfl dX3_standingAsBytes_1 ?_
  refine va_getN (D := (dC, dI)) (ci := 1) (v := .int (nI nv)) (C := RX1) (T := TX1) (N := 2) hx hb hw inX1 hown hK hP 1 rfl rfl 1 (by decide) (va_Nw.use rfl hN.2.2.1) (fun _ h9 => h9) rfl dX3_standingAsBytes_4 ?_
  refine lv_aload_n hx hb dX3_standingAsBytes_7 rfl (lv_at hl 0 rfl) ?_
  refine va_get (D := (dC, dI)) (ci := 3) (v := .ref rk) (C := RX3) (T := TX3) (N := 4) hx hb hw inX3 hown hK hP 0 rfl rfl 1 (by decide) (hw _ mw78) (fun _ h9 => h9) rfl dX3_standingAsBytes_8 ?_
  refine va_getN (D := (dC, dI)) (ci := 1) (v := .int (nI nk)) (C := RX1) (T := TX1) (N := 2) hx hb hw inX1 hown hK hP 3 rfl rfl 1 (by decide) (va_Nw.use rfl hN.2.2.1) (fun _ h9 => h9) rfl dX3_standingAsBytes_11 ?_
  refine va_mmin hx hb (by rw [hml]; exact hl.1.symm) hown (hw _ mw145) (hw _ mw146) (hw _ mw21) (hw _ mw147) (Nat.le_of_ble_eq_true rfl) (Nat.le_of_ble_eq_true rfl) (Nat.le_of_ble_eq_true rfl) (Nat.le_of_ble_eq_true rfl) dX3_standingAsBytes_14 ?_
  refine lv_topi (fun x1 ex1 => ?_)
  obtain rfl : x1 = nI (min nv nk) := by rw [ex1]; exact min32 hv hk
  refine lv_istore_n (lv' := [(2, .int (nI (min nv nk))), (0, .ref g), (1, .int (cp))]) hx hb dX3_standingAsBytes_17 rfl hl (by decide) rfl (fun ls hl => ?_)
  refine lv_iconst (v := 0) hx hb dX3_standingAsBytes_18 (by decide) ?_
  refine lv_topi (fun x2 ex2 => ?_)
  obtain rfl : x2 = nI 0 := by rw [ex2]; exact nI_0.symm
  refine lv_istore_n (lv' := [(3, .int (nI 0)), (2, .int (nI (min nv nk))), (0, .ref g), (1, .int (cp))]) hx hb dX3_standingAsBytes_19 rfl hl (by decide) rfl (fun ls hl => ?_)
  have loop20 : ∀ (nn20 : Nat) (i : Nat) (hi : i ≤ min nv nk) (e9 : sbA fv fk nv nk cp (min nv nk - i) i = sbF fv fk nv nk cp) (_ : min nv nk - i < nn20) (ls : Array Slot) (_ : lv_has ls 5 [(0, .ref g), (1, .int (cp)), (2, .int (nI (min nv nk))), (3, .int (nI i))]), W p l e rm_c_stB s m args below meth c s.heap [] 0 0 Q (F0 m 20 ls []) := by
    intro nn20
    induction nn20 with
    | zero => intro i hi e9 hm20 ls hl; exact absurd hm20 (Nat.not_lt_zero _)
    | succ nn20 ih20 =>
      intro i hi e9 hm20 ls hl
      refine lv_iload_n hx hb dX3_standingAsBytes_20 rfl (lv_at hl 3 rfl) ?_
      refine lv_iload_n hx hb dX3_standingAsBytes_21 rfl (lv_at hl 2 rfl) ?_
      refine lv_icmp_ge (tgt := 68) hx hb dX3_standingAsBytes_22 (by decide) (fun c22_2 => ?_) (fun c22_2 => ?_)
      · skip
        rw [ti_le, nI_toInt (by omega), nI_toInt (by omega)] at c22_2
        have e8 : i = min nv nk := by omega
        refine lv_aload_n hx hb dX3_standingAsBytes_68 rfl (lv_at hl 0 rfl) ?_
        refine va_get (D := (dC, dI)) (ci := 3) (v := .ref rv) (C := RX3) (T := TX3) (N := 4) hx hb hw inX3 hown hK hP 0 rfl rfl 0 (by decide) (hw _ mw77) (fun _ h9 => h9) rfl dX3_standingAsBytes_69 ?_
        refine va_getN (D := (dC, dI)) (ci := 1) (v := .int (nI nv)) (C := RX1) (T := TX1) (N := 2) hx hb hw inX1 hown hK hP 1 rfl rfl 1 (by decide) (va_Nw.use rfl hN.2.2.1) (fun _ h9 => h9) rfl dX3_standingAsBytes_72 ?_
        refine lv_aload_n hx hb dX3_standingAsBytes_75 rfl (lv_at hl 0 rfl) ?_
        refine va_get (D := (dC, dI)) (ci := 3) (v := .ref rk) (C := RX3) (T := TX3) (N := 4) hx hb hw inX3 hown hK hP 0 rfl rfl 1 (by decide) (hw _ mw78) (fun _ h9 => h9) rfl dX3_standingAsBytes_76 ?_
        refine va_getN (D := (dC, dI)) (ci := 1) (v := .int (nI nk)) (C := RX1) (T := TX1) (N := 2) hx hb hw inX1 hown hK hP 3 rfl rfl 1 (by decide) (va_Nw.use rfl hN.2.2.1) (fun _ h9 => h9) rfl dX3_standingAsBytes_79 ?_
        refine vp_callSi (va_Run.run (va_runS (As := [.int (nI nv), .int (nI nk)]) (rest := []) ⟨hx, hb, hml, hown, hw⟩ (c_sign l (nI nv) (nI nk)) (cwS 2 hw (gS mw129 mw130 mw16 mw131) rfl rfl rfl (by decide +kernel) ⟨Nat.le_of_ble_eq_true rfl, Nat.le_of_ble_eq_true rfl⟩) st.S rfl rfl hl.1 rfl (lv_room (Nat.le_of_ble_eq_true rfl)) dX3_standingAsBytes_82 ⟨Nat.le_of_ble_eq_true rfl, Nat.le_of_ble_eq_true rfl⟩)) (fun r4 hr4 => ?_)
        subst hr4
        subst hQ
        exact W.iret (v := (sg (nI nv) (nI nk))) hx hb hr (fun t ht hW => ⟨_, rfl, (by rw [← e9, e8, Nat.sub_self]; rfl), ht⟩) (fun _ h => absurd h List.not_mem_nil) dX3_standingAsBytes_85
      · skip
        rw [ti_le, nI_toInt (by omega), nI_toInt (by omega)] at c22_2
        refine lv_aload_n hx hb dX3_standingAsBytes_25 rfl (lv_at hl 0 rfl) ?_
        refine va_get (D := (dC, dI)) (ci := 3) (v := .ref rv) (C := RX3) (T := TX3) (N := 4) hx hb hw inX3 hown hK hP 0 rfl rfl 0 (by decide) (hw _ mw77) (fun _ h9 => h9) rfl dX3_standingAsBytes_26 ?_
        refine lv_iload_n hx hb dX3_standingAsBytes_29 rfl (lv_at hl 3 rfl) ?_
        refine vp_callSi (va_Run.run (va_runV (As := [.int (nI i)]) (rest := []) ⟨hx, hb, hml, hown, hw⟩ (c_Row_at l dC dI rv av kv fv nv hv (nI i)) (cwV 1 hw (gV mw140 mw137 mw138 mw17 mw139) rfl rfl rfl (by decide +kernel) ⟨Nat.le_of_ble_eq_true rfl, Nat.le_of_ble_eq_true rfl⟩) (ro.V (q0 := 0) (ci := 1) hN (hK.sub (tys' := [(kv, .int)]) [0] rfl) (hP.sub (ws' := [(rv, .inr (1, [.ref av, .int (nI nv)])), (av, .inl (kv, 100, .inl fv))]) [1, 2] rfl) rfl rfl) rfl rfl hl.1 rfl (lv_room (Nat.le_of_ble_eq_true rfl)) dX3_standingAsBytes_30 ⟨Nat.le_of_ble_eq_true rfl, Nat.le_of_ble_eq_true rfl⟩)) (fun r5 hr5 => ?_)
        rw [ra_in (by omega) hv] at hr5
        subst hr5
        refine lv_iload_n hx hb dX3_standingAsBytes_33 rfl (lv_at hl 1 rfl) ?_
        refine vp_callSi (va_Run.run (va_runS (As := [.int (fv (i)), .int (cp)]) (rest := []) ⟨hx, hb, hml, hown, hw⟩ (c_fold l (fv (i)) (cp)) (cwS 2 hw (gS mw148 mw149 mw16 mw150) rfl rfl rfl (by decide +kernel) ⟨Nat.le_of_ble_eq_true rfl, Nat.le_of_ble_eq_true rfl⟩) st.S rfl rfl hl.1 rfl (lv_room (Nat.le_of_ble_eq_true rfl)) dX3_standingAsBytes_34 ⟨Nat.le_of_ble_eq_true rfl, Nat.le_of_ble_eq_true rfl⟩)) (fun r6 hr6 => ?_)
        subst hr6
        refine lv_aload_n hx hb dX3_standingAsBytes_37 rfl (lv_at hl 0 rfl) ?_
        refine va_get (D := (dC, dI)) (ci := 3) (v := .ref rk) (C := RX3) (T := TX3) (N := 4) hx hb hw inX3 hown hK hP 0 rfl rfl 1 (by decide) (hw _ mw78) (fun _ h9 => h9) rfl dX3_standingAsBytes_38 ?_
        refine lv_iload_n hx hb dX3_standingAsBytes_41 rfl (lv_at hl 3 rfl) ?_
        refine vp_callSi (va_Run.run (va_runV (As := [.int (nI i)]) (rest := [.int (fo (fv (i)) (cp))]) ⟨hx, hb, hml, hown, hw⟩ (c_Row_at l dC dI rk ak kk fk nk hk (nI i)) (cwV 1 hw (gV mw140 mw137 mw138 mw17 mw139) rfl rfl rfl (by decide +kernel) ⟨Nat.le_of_ble_eq_true rfl, Nat.le_of_ble_eq_true rfl⟩) (ro.V (q0 := 0) (ci := 1) hN (hK.sub (tys' := [(kk, .int)]) [1] rfl) (hP.sub (ws' := [(rk, .inr (1, [.ref ak, .int (nI nk)])), (ak, .inl (kk, 100, .inl fk))]) [3, 4] rfl) rfl rfl) rfl rfl hl.1 rfl (lv_room (Nat.le_of_ble_eq_true rfl)) dX3_standingAsBytes_42 ⟨Nat.le_of_ble_eq_true rfl, Nat.le_of_ble_eq_true rfl⟩)) (fun r7 hr7 => ?_)
        rw [ra_in (by omega) hk] at hr7
        subst hr7
        refine lv_iload_n hx hb dX3_standingAsBytes_45 rfl (lv_at hl 1 rfl) ?_
        refine vp_callSi (va_Run.run (va_runS (As := [.int (fk (i)), .int (cp)]) (rest := [.int (fo (fv (i)) (cp))]) ⟨hx, hb, hml, hown, hw⟩ (c_fold l (fk (i)) (cp)) (cwS 2 hw (gS mw148 mw149 mw16 mw150) rfl rfl rfl (by decide +kernel) ⟨Nat.le_of_ble_eq_true rfl, Nat.le_of_ble_eq_true rfl⟩) st.S rfl rfl hl.1 rfl (lv_room (Nat.le_of_ble_eq_true rfl)) dX3_standingAsBytes_46 ⟨Nat.le_of_ble_eq_true rfl, Nat.le_of_ble_eq_true rfl⟩)) (fun r8 hr8 => ?_)
        subst hr8
        refine vp_callSi (va_Run.run (va_runS (As := [.int (fo (fv (i)) (cp)), .int (fo (fk (i)) (cp))]) (rest := []) ⟨hx, hb, hml, hown, hw⟩ (c_sign l (fo (fv (i)) (cp)) (fo (fk (i)) (cp))) (cwS 2 hw (gS mw129 mw130 mw16 mw131) rfl rfl rfl (by decide +kernel) ⟨Nat.le_of_ble_eq_true rfl, Nat.le_of_ble_eq_true rfl⟩) st.S rfl rfl hl.1 rfl (lv_room (Nat.le_of_ble_eq_true rfl)) dX3_standingAsBytes_49 ⟨Nat.le_of_ble_eq_true rfl, Nat.le_of_ble_eq_true rfl⟩)) (fun r9 hr9 => ?_)
        subst hr9
        refine lv_istore (lv' := [(4, .int (sg (fo (fv (i)) (cp)) (fo (fk (i)) (cp)))), (0, .ref g), (1, .int (cp)), (2, .int (nI (min nv nk))), (3, .int (nI i))]) hx hb dX3_standingAsBytes_52 hl (by decide) rfl (fun ls hl => ?_)
        refine lv_iload hx hb dX3_standingAsBytes_54 (lv_at hl 0 rfl) ?_
        refine lv_if_eq (tgt := 62) hx hb dX3_standingAsBytes_56 (by decide) (fun c56_9 => ?_) (fun c56_9 => ?_)
        · skip
          have d1 := c56_9
          refine lv_iinc (v := nI (i + 1)) (lv' := [(3, .int (nI (i + 1))), (4, .int (sg (fo (fv (i)) (cp)) (fo (fk (i)) (cp)))), (0, .ref g), (1, .int (cp)), (2, .int (nI (min nv nk)))]) hx hb dX3_standingAsBytes_62 hl (k := 4) rfl (nI_inc i) (by decide) rfl (fun ls hl => ?_)
          refine lv_goto (tgt := 20) hx hb dX3_standingAsBytes_65 (by decide) ?_
          exact ih20 (i + 1) (by omega) ((sbA_next (r := min nv nk - i) (by omega) d1).symm.trans e9) (by omega) ls (lv_sub hl [2, 3, 4, 0] rfl)
        · skip
          have d1 := c56_9
          refine lv_iload hx hb dX3_standingAsBytes_59 (lv_at hl 0 rfl) ?_
          subst hQ
          exact W.iret (v := (sg (fo (fv (i)) (cp)) (fo (fk (i)) (cp)))) hx hb hr (fun t ht hW => ⟨_, rfl, (by rw [← e9, sbA_hit (by omega) d1]), ht⟩) (fun _ h => absurd h List.not_mem_nil) dX3_standingAsBytes_61
  exact loop20 (min nv nk + 1) 0 (Nat.zero_le _) rfl (by omega) ls (lv_sub hl [2, 3, 1, 0] rfl)
end
section
theorem cs_0 {m N : Int} (h : 0 ≤ m) : cs m N 0 = decide (N < m) := by
  unfold cs
  apply decide_eq_decide.mpr
  constructor
  · rintro ⟨_, h | h | h | h | h | h⟩ <;> first | exact h.2 | exact absurd h.1 (by decide)
  · intro q; exact ⟨h, Or.inl ⟨rfl, q⟩⟩
theorem cs_1 {m N : Int} (h : 0 ≤ m) : cs m N 1 = decide (N ≤ m) := by
  unfold cs
  apply decide_eq_decide.mpr
  constructor
  · rintro ⟨_, h | h | h | h | h | h⟩ <;> first | exact h.2 | exact absurd h.1 (by decide)
  · intro q; exact ⟨h, Or.inr (Or.inl ⟨rfl, q⟩)⟩
theorem cs_2 {m N : Int} (h : 0 ≤ m) : cs m N 2 = decide (m < N) := by
  unfold cs
  apply decide_eq_decide.mpr
  constructor
  · rintro ⟨_, h | h | h | h | h | h⟩ <;> first | exact h.2 | exact absurd h.1 (by decide)
  · intro q; exact ⟨h, Or.inr (Or.inr (Or.inl ⟨rfl, q⟩))⟩
theorem cs_3 {m N : Int} (h : 0 ≤ m) : cs m N 3 = decide (m ≤ N) := by
  unfold cs
  apply decide_eq_decide.mpr
  constructor
  · rintro ⟨_, h | h | h | h | h | h⟩ <;> first | exact h.2 | exact absurd h.1 (by decide)
  · intro q; exact ⟨h, Or.inr (Or.inr (Or.inr (Or.inl ⟨rfl, q⟩)))⟩
theorem cs_4 {m N : Int} (h : 0 ≤ m) : cs m N 4 = decide (m = N) := by
  unfold cs
  apply decide_eq_decide.mpr
  constructor
  · rintro ⟨_, h | h | h | h | h | h⟩ <;> first | exact h.2 | exact absurd h.1 (by decide)
  · intro q; exact ⟨h, Or.inr (Or.inr (Or.inr (Or.inr (Or.inl ⟨rfl, q⟩))))⟩
theorem cs_5 {m N : Int} (h : 0 ≤ m) : cs m N 5 = decide (m ≠ N) := by
  unfold cs
  apply decide_eq_decide.mpr
  constructor
  · rintro ⟨_, h | h | h | h | h | h⟩ <;> first | exact h.2 | exact absurd h.1 (by decide)
  · intro q; exact ⟨h, Or.inr (Or.inr (Or.inr (Or.inr (Or.inr (⟨rfl, q⟩)))))⟩
theorem cs_neg {m N : Int} {r : Int32} (h : ¬ 0 ≤ m) : cs m N r = false := decide_eq_false (fun q => h q.1)
theorem cs_out {m N : Int} {r : Int32} (h0 : ¬ r = 0) (h1 : ¬ r = 1) (h2 : ¬ r = 2) (h3 : ¬ r = 3) (h4 : ¬ r = 4) (h5 : ¬ r = 5) : cs m N r = false := decide_eq_false (by
  rintro ⟨_, h | h | h | h | h | h⟩
  · exact h0 h.1
  · exact h1 h.1
  · exact h2 h.1
  · exact h3 h.1
  · exact h4 h.1
  · exact h5 h.1)
theorem bf1 {p : Prop} {d : Decidable p} (h : p) : (1 : Int32) = if (@decide p d) = true then 1 else 0 := by rw [if_pos (decide_eq_true h)]
theorem bf0 {p : Prop} {d : Decidable p} (h : ¬ p) : (0 : Int32) = if (@decide p d) = true then 1 else 0 := by rw [if_neg (by rw [decide_eq_false h]; decide)]
theorem sn_next {v k : Nat → Int32} {r i j : Nat} (hr : 0 < r) : (if sg (v i) (k j) = 0 then snA v k (r - 1) (i + 1) (j + 1) else sg (v i) (k j)) = snA v k r i j := by
  by_cases q : sg (v i) (k j) = 0
  · rw [if_pos q, snA_next hr q]
  · rw [if_neg q, snA_hit hr q]
theorem sn_end {v k : Nat → Int32} {i j : Nat} {x : Int32} : x = if x = 0 then snA v k 0 i j else x := by
  by_cases q : x = 0
  · rw [if_pos q, q]; rfl
  · rw [if_neg q]
end
section
abbrev rm_c_stN : Room := { frames := 2, cells := 0, slots := 0, locals := 43 }
set_option maxHeartbeats 4000000 in
set_option maxRecDepth 100000 in
theorem c_stN (l : Launch) (dC : Nat → ClassId) (dI : Nat → Nat → Nat) (g rv rk pt sp av ak ap a1 a2 : Nat) (kv kk kp k1 k2 : ClassId) (fv fk fp f1 f2 : Nat → Int32) (nv nk np ns : Nat) (hv : nv ≤ 100) (hk : nk ≤ 100) (hp : np ≤ 100) (hs : ns ≤ 100) : Met l yX3_standingAsNumbers (.code yX3_standingAsNumbers cX3_standingAsNumbers 8 (some (.int)) :: wsA) rm_c_stN (va_Pc [.ref g] (ro (dC, dI) [(g, .inr (3, [.ref rv, .ref rk, .ref pt, .ref sp])), (rv, .inr (1, [.ref av, .int (nI nv)])), (av, .inl (kv, 100, .inl fv)), (rk, .inr (1, [.ref ak, .int (nI nk)])), (ak, .inl (kk, 100, .inl fk)), (pt, .inr (0, [.ref ap, .int (nI np)])), (ap, .inl (kp, 100, .inl fp)), (sp, .inr (2, [.ref a1, .ref a2, .int (nI ns)])), (a1, .inl (k1, 100, .inl f1)), (a2, .inl (k2, 100, .inl f2))] [(kv, .int), (kk, .int), (kp, .int), (k1, .int), (k2, .int)])) (vp_Si (fun r => r = snF fv fk nv nk)) 0 0 (fun _ => False) := by
  refine Met.ofW (cc := cX3_standingAsNumbers) (maxL := 8) (ret := (some (.int))) (by decide) rfl ?_
  intro p e s m args below meth c s₁ B hml hv
  obtain ⟨hargs, hN, hP, hK⟩ := hv
  have hx := B.exec
  have hb := B.bytes
  have hr := B.returns
  have hw : ∀ w ∈ wsA, w.before args s = true := fun w h => atoms_spec (ws := (.code yX3_standingAsNumbers cX3_standingAsNumbers 8 (some (.int)) :: wsA)) B.pre w (List.mem_cons_of_mem _ h)
  have hown : s.vm.findClass "GlobDesk" = some m.cls := findClass_of_methodNamed B.named
  have hlocks := B.notSynchronized
  generalize hQ : MQ below _ args s _ _ _ = Q
  change W p l e rm_c_stN s m args below meth c s.heap [] 0 0 Q (entryFrame m args 8)
  have hl := lv_entry ([.ref g]) (n := 8) (Nat.le_of_ble_eq_true rfl)
  rw [show entryFrame m args 8 = entryFrame m ([.ref g] : List Value).toArray 8 from by rw [hargs], lg_entry_eq]
  generalize (lg_sl ([.ref g]) ++ List.replicate (8 - (lg_sl ([.ref g])).length) Slot.unset).toArray = ls at hl ⊢
  have hl : lv_has ls 8 [(0, .ref g)] := hl
  have hdv := dg_le fv nv
  have hdk := dg_le fk nk
  have hzv := zr_le fv (dg fv nv)
  have hzk := zr_le fk (dg fk nk)
  refine lv_aload_n hx hb dX3_standingAsNumbers_0 rfl (lv_at hl 0 rfl) ?_
  refine va_get (D := (dC, dI)) (ci := 3) (v := .ref rv) (C := RX3) (T := TX3) (N := 4) hx hb hw inX3 hown hK hP 0 rfl rfl 0 (by decide) (hw _ mw77) (fun _ h9 => h9) rfl dX3_standingAsNumbers_1 ?_
  refine vp_callSi (va_Run.run (va_runV (As := []) (rest := []) ⟨hx, hb, hml, hown, hw⟩ (c_Row_digits l dC dI rv av kv fv nv hv) (cwV 0 hw (gV mw125 mw126 mw127 mw17 mw128) rfl rfl rfl (by decide +kernel) ⟨Nat.le_of_ble_eq_true rfl, Nat.le_of_ble_eq_true rfl⟩) (ro.V (q0 := 0) (ci := 1) hN (hK.sub (tys' := [(kv, .int)]) [0] rfl) (hP.sub (ws' := [(rv, .inr (1, [.ref av, .int (nI nv)])), (av, .inl (kv, 100, .inl fv))]) [1, 2] rfl) rfl rfl) rfl rfl hl.1 rfl (lv_room (Nat.le_of_ble_eq_true rfl)) dX3_standingAsNumbers_4 ⟨Nat.le_of_ble_eq_true rfl, Nat.le_of_ble_eq_true rfl⟩)) (fun r1 hr1 => ?_)
  subst hr1
  refine lv_istore_n (lv' := [(1, .int (nI (dg fv nv))), (0, .ref g)]) hx hb dX3_standingAsNumbers_7 rfl hl (by decide) rfl (fun ls hl => ?_)
  refine lv_aload_n hx hb dX3_standingAsNumbers_8 rfl (lv_at hl 1 rfl) ?_
  refine va_get (D := (dC, dI)) (ci := 3) (v := .ref rk) (C := RX3) (T := TX3) (N := 4) hx hb hw inX3 hown hK hP 0 rfl rfl 1 (by decide) (hw _ mw78) (fun _ h9 => h9) rfl dX3_standingAsNumbers_9 ?_
  refine vp_callSi (va_Run.run (va_runV (As := []) (rest := []) ⟨hx, hb, hml, hown, hw⟩ (c_Row_digits l dC dI rk ak kk fk nk hk) (cwV 0 hw (gV mw125 mw126 mw127 mw17 mw128) rfl rfl rfl (by decide +kernel) ⟨Nat.le_of_ble_eq_true rfl, Nat.le_of_ble_eq_true rfl⟩) (ro.V (q0 := 0) (ci := 1) hN (hK.sub (tys' := [(kk, .int)]) [1] rfl) (hP.sub (ws' := [(rk, .inr (1, [.ref ak, .int (nI nk)])), (ak, .inl (kk, 100, .inl fk))]) [3, 4] rfl) rfl rfl) rfl rfl hl.1 rfl (lv_room (Nat.le_of_ble_eq_true rfl)) dX3_standingAsNumbers_12 ⟨Nat.le_of_ble_eq_true rfl, Nat.le_of_ble_eq_true rfl⟩)) (fun r2 hr2 => ?_)
  subst hr2
  refine lv_istore_n (lv' := [(2, .int (nI (dg fk nk))), (1, .int (nI (dg fv nv))), (0, .ref g)]) hx hb dX3_standingAsNumbers_15 rfl hl (by decide) rfl (fun ls hl => ?_)
  refine lv_iload_n hx hb dX3_standingAsNumbers_16 rfl (lv_at hl 1 rfl) ?_
  refine lv_if_eq (tgt := 24) hx hb dX3_standingAsNumbers_17 (by decide) (fun c17_2 => ?_) (fun c17_2 => ?_)
  · skip
    have za : dg fv nv = 0 := by rw [ti_eq, nI_toInt (by omega), tc_0] at c17_2; omega
    refine lv_iload_n hx hb dX3_standingAsNumbers_24 rfl (lv_at hl 1 rfl) ?_
    refine lv_if_ne (tgt := 32) hx hb dX3_standingAsNumbers_25 (by decide) (fun c25_3 => ?_) (fun c25_3 => ?_)
    · skip
      exact absurd (by rw [ti_eq, nI_toInt (by omega), tc_0]; omega) c25_3
    · skip
      have za : dg fv nv = 0 := by rw [ti_eq, nI_toInt (by omega), tc_0] at c25_3; omega
      refine lv_iconst (v := 1) hx hb dX3_standingAsNumbers_28 (by decide) ?_
      refine lv_goto (tgt := 33) hx hb dX3_standingAsNumbers_29 (by decide) ?_
      refine lv_iload_n hx hb dX3_standingAsNumbers_33 rfl (lv_at hl 0 rfl) ?_
      refine lv_if_ne (tgt := 41) hx hb dX3_standingAsNumbers_34 (by decide) (fun c34_4 => ?_) (fun c34_4 => ?_)
      · skip
        have zb : ¬ dg fk nk = 0 := by rw [ti_eq, nI_toInt (by omega), tc_0] at c34_4; omega
        refine lv_iconst (v := 0) hx hb dX3_standingAsNumbers_41 (by decide) ?_
        refine vp_callSi (va_Run.run (va_runS (As := [.int (1), .int (0)]) (rest := []) ⟨hx, hb, hml, hown, hw⟩ (c_sign l (1) (0)) (cwS 2 hw (gS mw129 mw130 mw16 mw131) rfl rfl rfl (by decide +kernel) ⟨Nat.le_of_ble_eq_true rfl, Nat.le_of_ble_eq_true rfl⟩) st.S rfl rfl hl.1 rfl (lv_room (Nat.le_of_ble_eq_true rfl)) dX3_standingAsNumbers_42 ⟨Nat.le_of_ble_eq_true rfl, Nat.le_of_ble_eq_true rfl⟩)) (fun r6 hr6 => ?_)
        subst hr6
        subst hQ
        exact W.iret (v := (sg (1) (0))) hx hb hr (fun t ht hW => ⟨_, rfl, (by unfold snF; rw [if_pos (by omega)]; first | (rw [if_pos (by omega)]; decide) | (rw [if_neg (by omega), if_pos (by omega)]; decide) | (rw [if_neg (by omega), if_neg (by omega)]; decide)), ht⟩) (fun _ h => absurd h List.not_mem_nil) dX3_standingAsNumbers_45
      · skip
        have zb : dg fk nk = 0 := by rw [ti_eq, nI_toInt (by omega), tc_0] at c34_4; omega
        refine lv_iconst (v := 1) hx hb dX3_standingAsNumbers_37 (by decide) ?_
        refine lv_goto (tgt := 42) hx hb dX3_standingAsNumbers_38 (by decide) ?_
        refine vp_callSi (va_Run.run (va_runS (As := [.int (1), .int (1)]) (rest := []) ⟨hx, hb, hml, hown, hw⟩ (c_sign l (1) (1)) (cwS 2 hw (gS mw129 mw130 mw16 mw131) rfl rfl rfl (by decide +kernel) ⟨Nat.le_of_ble_eq_true rfl, Nat.le_of_ble_eq_true rfl⟩) st.S rfl rfl hl.1 rfl (lv_room (Nat.le_of_ble_eq_true rfl)) dX3_standingAsNumbers_42 ⟨Nat.le_of_ble_eq_true rfl, Nat.le_of_ble_eq_true rfl⟩)) (fun r7 hr7 => ?_)
        subst hr7
        subst hQ
        exact W.iret (v := (sg (1) (1))) hx hb hr (fun t ht hW => ⟨_, rfl, (by unfold snF; rw [if_pos (by omega)]; first | (rw [if_pos (by omega)]; decide) | (rw [if_neg (by omega), if_pos (by omega)]; decide) | (rw [if_neg (by omega), if_neg (by omega)]; decide)), ht⟩) (fun _ h => absurd h List.not_mem_nil) dX3_standingAsNumbers_45
  · skip
    have za : ¬ dg fv nv = 0 := by rw [ti_eq, nI_toInt (by omega), tc_0] at c17_2; omega
    refine lv_iload_n hx hb dX3_standingAsNumbers_20 rfl (lv_at hl 0 rfl) ?_
    refine lv_if_ne (tgt := 46) hx hb dX3_standingAsNumbers_21 (by decide) (fun c21_7 => ?_) (fun c21_7 => ?_)
    · skip
      have zb : ¬ dg fk nk = 0 := by rw [ti_eq, nI_toInt (by omega), tc_0] at c21_7; omega
      refine lv_aload_n hx hb dX3_standingAsNumbers_46 rfl (lv_at hl 2 rfl) ?_
      refine va_get (D := (dC, dI)) (ci := 3) (v := .ref rv) (C := RX3) (T := TX3) (N := 4) hx hb hw inX3 hown hK hP 0 rfl rfl 0 (by decide) (hw _ mw77) (fun _ h9 => h9) rfl dX3_standingAsNumbers_47 ?_
      refine lv_iload_n hx hb dX3_standingAsNumbers_50 rfl (lv_at hl 1 rfl) ?_
      refine vp_callSi (va_Run.run (va_runV (As := [.int (nI (dg fv nv))]) (rest := []) ⟨hx, hb, hml, hown, hw⟩ (c_Row_zeros l dC dI rv av kv fv nv hv (dg fv nv) (dg_le fv nv)) (cwV 1 hw (gV mw132 mw133 mw134 mw17 mw135) rfl rfl rfl (by decide +kernel) ⟨Nat.le_of_ble_eq_true rfl, Nat.le_of_ble_eq_true rfl⟩) (ro.V (q0 := 0) (ci := 1) hN (hK.sub (tys' := [(kv, .int)]) [0] rfl) (hP.sub (ws' := [(rv, .inr (1, [.ref av, .int (nI nv)])), (av, .inl (kv, 100, .inl fv))]) [1, 2] rfl) rfl rfl) rfl rfl hl.1 rfl (lv_room (Nat.le_of_ble_eq_true rfl)) dX3_standingAsNumbers_51 ⟨Nat.le_of_ble_eq_true rfl, Nat.le_of_ble_eq_true rfl⟩)) (fun r9 hr9 => ?_)
      subst hr9
      refine lv_istore_n (lv' := [(3, .int (nI (zr fv (dg fv nv)))), (2, .int (nI (dg fk nk))), (1, .int (nI (dg fv nv))), (0, .ref g)]) hx hb dX3_standingAsNumbers_54 rfl hl (by decide) rfl (fun ls hl => ?_)
      refine lv_aload_n hx hb dX3_standingAsNumbers_55 rfl (lv_at hl 3 rfl) ?_
      refine va_get (D := (dC, dI)) (ci := 3) (v := .ref rk) (C := RX3) (T := TX3) (N := 4) hx hb hw inX3 hown hK hP 0 rfl rfl 1 (by decide) (hw _ mw78) (fun _ h9 => h9) rfl dX3_standingAsNumbers_56 ?_
      refine lv_iload_n hx hb dX3_standingAsNumbers_59 rfl (lv_at hl 1 rfl) ?_
      refine vp_callSi (va_Run.run (va_runV (As := [.int (nI (dg fk nk))]) (rest := []) ⟨hx, hb, hml, hown, hw⟩ (c_Row_zeros l dC dI rk ak kk fk nk hk (dg fk nk) (dg_le fk nk)) (cwV 1 hw (gV mw132 mw133 mw134 mw17 mw135) rfl rfl rfl (by decide +kernel) ⟨Nat.le_of_ble_eq_true rfl, Nat.le_of_ble_eq_true rfl⟩) (ro.V (q0 := 0) (ci := 1) hN (hK.sub (tys' := [(kk, .int)]) [1] rfl) (hP.sub (ws' := [(rk, .inr (1, [.ref ak, .int (nI nk)])), (ak, .inl (kk, 100, .inl fk))]) [3, 4] rfl) rfl rfl) rfl rfl hl.1 rfl (lv_room (Nat.le_of_ble_eq_true rfl)) dX3_standingAsNumbers_60 ⟨Nat.le_of_ble_eq_true rfl, Nat.le_of_ble_eq_true rfl⟩)) (fun r10 hr10 => ?_)
      subst hr10
      refine lv_istore (lv' := [(4, .int (nI (zr fk (dg fk nk)))), (3, .int (nI (zr fv (dg fv nv)))), (2, .int (nI (dg fk nk))), (1, .int (nI (dg fv nv))), (0, .ref g)]) hx hb dX3_standingAsNumbers_63 hl (by decide) rfl (fun ls hl => ?_)
      refine lv_iload_n hx hb dX3_standingAsNumbers_65 rfl (lv_at hl 3 rfl) ?_
      refine lv_iload_n hx hb dX3_standingAsNumbers_66 rfl (lv_at hl 1 rfl) ?_
      refine lv_isub hx hb dX3_standingAsNumbers_67 ?_
      refine lv_topi (fun x11 ex11 => ?_)
      obtain rfl : x11 = nI (dg fv nv - zr fv (dg fv nv)) := by rw [ex11, pk_sub hzv]
      refine lv_istore (lv' := [(5, .int (nI (dg fv nv - zr fv (dg fv nv)))), (4, .int (nI (zr fk (dg fk nk)))), (3, .int (nI (zr fv (dg fv nv)))), (2, .int (nI (dg fk nk))), (1, .int (nI (dg fv nv))), (0, .ref g)]) hx hb dX3_standingAsNumbers_68 hl (by decide) rfl (fun ls hl => ?_)
      refine lv_iload hx hb dX3_standingAsNumbers_70 (lv_at hl 0 rfl) ?_
      refine lv_iload_n hx hb dX3_standingAsNumbers_72 rfl (lv_at hl 3 rfl) ?_
      refine lv_iload hx hb dX3_standingAsNumbers_73 (lv_at hl 1 rfl) ?_
      refine lv_isub hx hb dX3_standingAsNumbers_75 ?_
      refine lv_topi (fun x12 ex12 => ?_)
      obtain rfl : x12 = nI (dg fk nk - zr fk (dg fk nk)) := by rw [ex12, pk_sub hzk]
      refine vp_callSi (va_Run.run (va_runS (As := [.int (nI (dg fv nv - zr fv (dg fv nv))), .int (nI (dg fk nk - zr fk (dg fk nk)))]) (rest := []) ⟨hx, hb, hml, hown, hw⟩ (c_sign l (nI (dg fv nv - zr fv (dg fv nv))) (nI (dg fk nk - zr fk (dg fk nk)))) (cwS 2 hw (gS mw129 mw130 mw16 mw131) rfl rfl rfl (by decide +kernel) ⟨Nat.le_of_ble_eq_true rfl, Nat.le_of_ble_eq_true rfl⟩) st.S rfl rfl hl.1 rfl (lv_room (Nat.le_of_ble_eq_true rfl)) dX3_standingAsNumbers_76 ⟨Nat.le_of_ble_eq_true rfl, Nat.le_of_ble_eq_true rfl⟩)) (fun r13 hr13 => ?_)
      subst hr13
      refine lv_istore (lv' := [(6, .int (sg (nI (dg fv nv - zr fv (dg fv nv))) (nI (dg fk nk - zr fk (dg fk nk))))), (5, .int (nI (dg fv nv - zr fv (dg fv nv)))), (4, .int (nI (zr fk (dg fk nk)))), (3, .int (nI (zr fv (dg fv nv)))), (2, .int (nI (dg fk nk))), (1, .int (nI (dg fv nv))), (0, .ref g)]) hx hb dX3_standingAsNumbers_79 hl (by decide) rfl (fun ls hl => ?_)
      refine lv_iconst (v := 0) hx hb dX3_standingAsNumbers_81 (by decide) ?_
      refine lv_topi (fun x14 ex14 => ?_)
      obtain rfl : x14 = nI 0 := by rw [ex14]; exact nI_0.symm
      refine lv_istore (lv' := [(7, .int (nI 0)), (6, .int (sg (nI (dg fv nv - zr fv (dg fv nv))) (nI (dg fk nk - zr fk (dg fk nk))))), (5, .int (nI (dg fv nv - zr fv (dg fv nv)))), (4, .int (nI (zr fk (dg fk nk)))), (3, .int (nI (zr fv (dg fv nv)))), (2, .int (nI (dg fk nk))), (1, .int (nI (dg fv nv))), (0, .ref g)]) hx hb dX3_standingAsNumbers_82 hl (by decide) rfl (fun ls hl => ?_)
      have loop84 : ∀ (nn84 : Nat) (i : Nat) (x : Int32) (hi : i ≤ dg fv nv - zr fv (dg fv nv)) (hs0 : x = 0 → dg fv nv - zr fv (dg fv nv) = dg fk nk - zr fk (dg fk nk)) (e9 : (if x = 0 then snA fv fk (dg fv nv - zr fv (dg fv nv) - i) (zr fv (dg fv nv) + i) (zr fk (dg fk nk) + i) else x) = snF fv fk nv nk) (_ : dg fv nv - i < nn84) (ls : Array Slot) (_ : lv_has ls 8 [(0, .ref g), (3, .int (nI (zr fv (dg fv nv)))), (4, .int (nI (zr fk (dg fk nk)))), (5, .int (nI (dg fv nv - zr fv (dg fv nv)))), (6, .int (x)), (7, .int (nI i))]), W p l e rm_c_stN s m args below meth c s.heap [] 0 0 Q (F0 m 84 ls []) := by
        intro nn84
        induction nn84 with
        | zero => intro i x hi hs0 e9 hm84 ls hl; exact absurd hm84 (Nat.not_lt_zero _)
        | succ nn84 ih84 =>
          intro i x hi hs0 e9 hm84 ls hl
          refine lv_iload hx hb dX3_standingAsNumbers_84 (lv_at hl 5 rfl) ?_
          refine lv_iload hx hb dX3_standingAsNumbers_86 (lv_at hl 3 rfl) ?_
          refine lv_icmp_ge (tgt := 130) hx hb dX3_standingAsNumbers_88 (by decide) (fun c88_14 => ?_) (fun c88_14 => ?_)
          · skip
            rw [ti_le, nI_toInt (by omega), nI_toInt (by omega)] at c88_14
            have e8 : i = dg fv nv - zr fv (dg fv nv) := by omega
            refine lv_iload hx hb dX3_standingAsNumbers_130 (lv_at hl 4 rfl) ?_
            subst hQ
            exact W.iret (v := x) hx hb hr (fun t ht hW => ⟨_, rfl, (by rw [← e9]; first | (rw [if_neg d1]; done) | (rw [e8, Nat.sub_self]; exact sn_end)), ht⟩) (fun _ h => absurd h List.not_mem_nil) dX3_standingAsNumbers_132
          · skip
            rw [ti_le, nI_toInt (by omega), nI_toInt (by omega)] at c88_14
            refine lv_iload hx hb dX3_standingAsNumbers_91 (lv_at hl 4 rfl) ?_
            refine lv_if_ne (tgt := 130) hx hb dX3_standingAsNumbers_93 (by decide) (fun c93_15 => ?_) (fun c93_15 => ?_)
            · skip
              have d1 := c93_15
              refine lv_iload hx hb dX3_standingAsNumbers_130 (lv_at hl 4 rfl) ?_
              subst hQ
              exact W.iret (v := x) hx hb hr (fun t ht hW => ⟨_, rfl, (by rw [← e9]; first | (rw [if_neg d1]; done) | (rw [e8, Nat.sub_self]; exact sn_end)), ht⟩) (fun _ h => absurd h List.not_mem_nil) dX3_standingAsNumbers_132
            · skip
              have d1 := c93_15
              have d2 := hs0 d1
              refine lv_aload_n hx hb dX3_standingAsNumbers_96 rfl (lv_at hl 0 rfl) ?_
              refine va_get (D := (dC, dI)) (ci := 3) (v := .ref rv) (C := RX3) (T := TX3) (N := 4) hx hb hw inX3 hown hK hP 0 rfl rfl 0 (by decide) (hw _ mw77) (fun _ h9 => h9) rfl dX3_standingAsNumbers_97 ?_
              refine lv_iload_n hx hb dX3_standingAsNumbers_100 rfl (lv_at hl 1 rfl) ?_
              refine lv_iload hx hb dX3_standingAsNumbers_101 (lv_at hl 5 rfl) ?_
              refine lv_iadd hx hb dX3_standingAsNumbers_103 ?_
              refine lv_topi (fun x17 ex17 => ?_)
              obtain rfl : x17 = nI (zr fv (dg fv nv) + i) := by rw [ex17, nI_add]
              refine vp_callSi (va_Run.run (va_runV (As := [.int (nI (zr fv (dg fv nv) + i))]) (rest := []) ⟨hx, hb, hml, hown, hw⟩ (c_Row_at l dC dI rv av kv fv nv hv (nI (zr fv (dg fv nv) + i))) (cwV 1 hw (gV mw140 mw137 mw138 mw17 mw139) rfl rfl rfl (by decide +kernel) ⟨Nat.le_of_ble_eq_true rfl, Nat.le_of_ble_eq_true rfl⟩) (ro.V (q0 := 0) (ci := 1) hN (hK.sub (tys' := [(kv, .int)]) [0] rfl) (hP.sub (ws' := [(rv, .inr (1, [.ref av, .int (nI nv)])), (av, .inl (kv, 100, .inl fv))]) [1, 2] rfl) rfl rfl) rfl rfl hl.1 rfl (lv_room (Nat.le_of_ble_eq_true rfl)) dX3_standingAsNumbers_104 ⟨Nat.le_of_ble_eq_true rfl, Nat.le_of_ble_eq_true rfl⟩)) (fun r18 hr18 => ?_)
              rw [ra_in (by omega) hv] at hr18
              subst hr18
              refine lv_aload_n hx hb dX3_standingAsNumbers_107 rfl (lv_at hl 0 rfl) ?_
              refine va_get (D := (dC, dI)) (ci := 3) (v := .ref rk) (C := RX3) (T := TX3) (N := 4) hx hb hw inX3 hown hK hP 0 rfl rfl 1 (by decide) (hw _ mw78) (fun _ h9 => h9) rfl dX3_standingAsNumbers_108 ?_
              refine lv_iload hx hb dX3_standingAsNumbers_111 (lv_at hl 2 rfl) ?_
              refine lv_iload hx hb dX3_standingAsNumbers_113 (lv_at hl 5 rfl) ?_
              refine lv_iadd hx hb dX3_standingAsNumbers_115 ?_
              refine lv_topi (fun x19 ex19 => ?_)
              obtain rfl : x19 = nI (zr fk (dg fk nk) + i) := by rw [ex19, nI_add]
              refine vp_callSi (va_Run.run (va_runV (As := [.int (nI (zr fk (dg fk nk) + i))]) (rest := [.int (fv (zr fv (dg fv nv) + i))]) ⟨hx, hb, hml, hown, hw⟩ (c_Row_at l dC dI rk ak kk fk nk hk (nI (zr fk (dg fk nk) + i))) (cwV 1 hw (gV mw140 mw137 mw138 mw17 mw139) rfl rfl rfl (by decide +kernel) ⟨Nat.le_of_ble_eq_true rfl, Nat.le_of_ble_eq_true rfl⟩) (ro.V (q0 := 0) (ci := 1) hN (hK.sub (tys' := [(kk, .int)]) [1] rfl) (hP.sub (ws' := [(rk, .inr (1, [.ref ak, .int (nI nk)])), (ak, .inl (kk, 100, .inl fk))]) [3, 4] rfl) rfl rfl) rfl rfl hl.1 rfl (lv_room (Nat.le_of_ble_eq_true rfl)) dX3_standingAsNumbers_116 ⟨Nat.le_of_ble_eq_true rfl, Nat.le_of_ble_eq_true rfl⟩)) (fun r20 hr20 => ?_)
              rw [ra_in (by omega) hk] at hr20
              subst hr20
              refine vp_callSi (va_Run.run (va_runS (As := [.int (fv (zr fv (dg fv nv) + i)), .int (fk (zr fk (dg fk nk) + i))]) (rest := []) ⟨hx, hb, hml, hown, hw⟩ (c_sign l (fv (zr fv (dg fv nv) + i)) (fk (zr fk (dg fk nk) + i))) (cwS 2 hw (gS mw129 mw130 mw16 mw131) rfl rfl rfl (by decide +kernel) ⟨Nat.le_of_ble_eq_true rfl, Nat.le_of_ble_eq_true rfl⟩) st.S rfl rfl hl.1 rfl (lv_room (Nat.le_of_ble_eq_true rfl)) dX3_standingAsNumbers_119 ⟨Nat.le_of_ble_eq_true rfl, Nat.le_of_ble_eq_true rfl⟩)) (fun r21 hr21 => ?_)
              subst hr21
              refine lv_istore (lv' := [(6, .int (sg (fv (zr fv (dg fv nv) + i)) (fk (zr fk (dg fk nk) + i)))), (0, .ref g), (3, .int (nI (zr fv (dg fv nv)))), (4, .int (nI (zr fk (dg fk nk)))), (5, .int (nI (dg fv nv - zr fv (dg fv nv)))), (7, .int (nI i))]) hx hb dX3_standingAsNumbers_122 hl (by decide) rfl (fun ls hl => ?_)
              refine lv_iinc (v := nI (i + 1)) (lv' := [(7, .int (nI (i + 1))), (6, .int (sg (fv (zr fv (dg fv nv) + i)) (fk (zr fk (dg fk nk) + i)))), (0, .ref g), (3, .int (nI (zr fv (dg fv nv)))), (4, .int (nI (zr fk (dg fk nk)))), (5, .int (nI (dg fv nv - zr fv (dg fv nv))))]) hx hb dX3_standingAsNumbers_124 hl (k := 5) rfl (nI_inc i) (by decide) rfl (fun ls hl => ?_)
              refine lv_goto (tgt := 84) hx hb dX3_standingAsNumbers_127 (by decide) ?_
              exact ih84 (i + 1) _ (by omega) (fun _ => d2) (by rw [← e9, if_pos d1]; exact sn_next (r := dg fv nv - zr fv (dg fv nv) - i) (by omega)) (by omega) ls (lv_sub hl [2, 3, 4, 5, 1, 0] rfl)
      exact loop84 (dg fv nv + 1) 0 _ (Nat.zero_le _) (fun h => (nI_eq (by omega) (by omega)).mp (sg_0.mp h)) (by unfold snF; exact (if_neg (by omega)).symm) (by omega) ls (lv_sub hl [7, 4, 3, 2, 1, 0] rfl)
    · skip
      have zb : dg fk nk = 0 := by rw [ti_eq, nI_toInt (by omega), tc_0] at c21_7; omega
      refine lv_iload_n hx hb dX3_standingAsNumbers_24 rfl (lv_at hl 1 rfl) ?_
      refine lv_if_ne (tgt := 32) hx hb dX3_standingAsNumbers_25 (by decide) (fun c25_21 => ?_) (fun c25_21 => ?_)
      · skip
        have za : ¬ dg fv nv = 0 := by rw [ti_eq, nI_toInt (by omega), tc_0] at c25_21; omega
        refine lv_iconst (v := 0) hx hb dX3_standingAsNumbers_32 (by decide) ?_
        refine lv_iload_n hx hb dX3_standingAsNumbers_33 rfl (lv_at hl 0 rfl) ?_
        refine lv_if_ne (tgt := 41) hx hb dX3_standingAsNumbers_34 (by decide) (fun c34_22 => ?_) (fun c34_22 => ?_)
        · skip
          exact absurd (by rw [ti_eq, nI_toInt (by omega), tc_0]; omega) c34_22
        · skip
          have zb : dg fk nk = 0 := by rw [ti_eq, nI_toInt (by omega), tc_0] at c34_22; omega
          refine lv_iconst (v := 1) hx hb dX3_standingAsNumbers_37 (by decide) ?_
          refine lv_goto (tgt := 42) hx hb dX3_standingAsNumbers_38 (by decide) ?_
          refine vp_callSi (va_Run.run (va_runS (As := [.int (0), .int (1)]) (rest := []) ⟨hx, hb, hml, hown, hw⟩ (c_sign l (0) (1)) (cwS 2 hw (gS mw129 mw130 mw16 mw131) rfl rfl rfl (by decide +kernel) ⟨Nat.le_of_ble_eq_true rfl, Nat.le_of_ble_eq_true rfl⟩) st.S rfl rfl hl.1 rfl (lv_room (Nat.le_of_ble_eq_true rfl)) dX3_standingAsNumbers_42 ⟨Nat.le_of_ble_eq_true rfl, Nat.le_of_ble_eq_true rfl⟩)) (fun r24 hr24 => ?_)
          subst hr24
          subst hQ
          exact W.iret (v := (sg (0) (1))) hx hb hr (fun t ht hW => ⟨_, rfl, (by unfold snF; rw [if_pos (by omega)]; first | (rw [if_pos (by omega)]; decide) | (rw [if_neg (by omega), if_pos (by omega)]; decide) | (rw [if_neg (by omega), if_neg (by omega)]; decide)), ht⟩) (fun _ h => absurd h List.not_mem_nil) dX3_standingAsNumbers_45
      · skip
        exact absurd c25_21 (by rw [ti_eq, nI_toInt (by omega), tc_0]; omega)

abbrev rm_c_st : Room := { frames := 3, cells := 0, slots := 0, locals := 70 }
set_option maxHeartbeats 4000000 in
set_option maxRecDepth 100000 in
theorem c_st (l : Launch) (dC : Nat → ClassId) (dI : Nat → Nat → Nat) (g rv rk pt sp av ak ap a1 a2 : Nat) (kv kk kp k1 k2 : ClassId) (fv fk fp f1 f2 : Nat → Int32) (nv nk np ns : Nat) (hv : nv ≤ 100) (hk : nk ≤ 100) (hp : np ≤ 100) (hs : ns ≤ 100) (cp : Int32) : Met l yX3_standing (.code yX3_standing cX3_standing 2 (some (.int)) :: wsA) rm_c_st (va_Pc [.ref g, .int (cp)] (ro (dC, dI) [(g, .inr (3, [.ref rv, .ref rk, .ref pt, .ref sp])), (rv, .inr (1, [.ref av, .int (nI nv)])), (av, .inl (kv, 100, .inl fv)), (rk, .inr (1, [.ref ak, .int (nI nk)])), (ak, .inl (kk, 100, .inl fk)), (pt, .inr (0, [.ref ap, .int (nI np)])), (ap, .inl (kp, 100, .inl fp)), (sp, .inr (2, [.ref a1, .ref a2, .int (nI ns)])), (a1, .inl (k1, 100, .inl f1)), (a2, .inl (k2, 100, .inl f2))] [(kv, .int), (kk, .int), (kp, .int), (k1, .int), (k2, .int)])) (vp_Si (fun r => r = stF fv fk nv nk cp)) 0 0 (fun _ => False) := by
  refine Met.ofW (cc := cX3_standing) (maxL := 2) (ret := (some (.int))) (by decide) rfl ?_
  intro p e s m args below meth c s₁ B hml hv
  obtain ⟨hargs, hN, hP, hK⟩ := hv
  have hx := B.exec
  have hb := B.bytes
  have hr := B.returns
  have hw : ∀ w ∈ wsA, w.before args s = true := fun w h => atoms_spec (ws := (.code yX3_standing cX3_standing 2 (some (.int)) :: wsA)) B.pre w (List.mem_cons_of_mem _ h)
  have hown : s.vm.findClass "GlobDesk" = some m.cls := findClass_of_methodNamed B.named
  have hlocks := B.notSynchronized
  generalize hQ : MQ below _ args s _ _ _ = Q
  change W p l e rm_c_st s m args below meth c s.heap [] 0 0 Q (entryFrame m args 2)
  have hl := lv_entry ([.ref g, .int (cp)]) (n := 2) (Nat.le_of_ble_eq_true rfl)
  rw [show entryFrame m args 2 = entryFrame m ([.ref g, .int (cp)] : List Value).toArray 2 from by rw [hargs], lg_entry_eq]
  generalize (lg_sl ([.ref g, .int (cp)]) ++ List.replicate (2 - (lg_sl ([.ref g, .int (cp)])).length) Slot.unset).toArray = ls at hl ⊢
  have hl : lv_has ls 2 [(0, .ref g), (1, .int (cp))] := hl
  refine lv_iload_n hx hb dX3_standing_0 rfl (lv_at hl 1 rfl) ?_
  refine lv_iconst (v := 2) hx hb dX3_standing_1 (by decide) ?_
  refine lv_icmp_ne (tgt := 12) hx hb dX3_standing_2 (by decide) (fun c2_0 => ?_) (fun c2_0 => ?_)
  · skip
    have q1 := c2_0
    refine lv_aload_n hx hb dX3_standing_12 rfl (lv_at hl 0 rfl) ?_
    refine lv_iload_n hx hb dX3_standing_13 rfl (lv_at hl 1 rfl) ?_
    refine vp_callSi (va_Run.run (va_runV (As := [.int (cp)]) (rest := []) ⟨hx, hb, hml, hown, hw⟩ (c_stB l dC dI g rv rk pt sp av ak ap a1 a2 kv kk kp k1 k2 fv fk fp f1 f2 nv nk np ns hv hk hp hs cp) (cwV 1 hw (gV mw141 mw143 mw4 mw16 mw144) rfl rfl rfl (by decide +kernel) ⟨Nat.le_of_ble_eq_true rfl, Nat.le_of_ble_eq_true rfl⟩) (ro.V (q0 := 0) (ci := 3) hN (hK.sub (tys' := [(kv, .int), (kk, .int), (kp, .int), (k1, .int), (k2, .int)]) [0, 1, 2, 3, 4] rfl) (hP.sub (ws' := [(g, .inr (3, [.ref rv, .ref rk, .ref pt, .ref sp])), (rv, .inr (1, [.ref av, .int (nI nv)])), (av, .inl (kv, 100, .inl fv)), (rk, .inr (1, [.ref ak, .int (nI nk)])), (ak, .inl (kk, 100, .inl fk)), (pt, .inr (0, [.ref ap, .int (nI np)])), (ap, .inl (kp, 100, .inl fp)), (sp, .inr (2, [.ref a1, .ref a2, .int (nI ns)])), (a1, .inl (k1, 100, .inl f1)), (a2, .inl (k2, 100, .inl f2))]) [0, 1, 2, 3, 4, 5, 6, 7, 8, 9] rfl) rfl rfl) rfl rfl hl.1 rfl (lv_room (Nat.le_of_ble_eq_true rfl)) dX3_standing_14 ⟨Nat.le_of_ble_eq_true rfl, Nat.le_of_ble_eq_true rfl⟩)) (fun r2 hr2 => ?_)
    subst hr2
    subst hQ
    exact W.iret (v := (sbF fv fk nv nk cp)) hx hb hr (fun t ht hW => ⟨_, rfl, (by unfold stF; first | rw [if_pos q1] | rw [if_neg q1]), ht⟩) (fun _ h => absurd h List.not_mem_nil) dX3_standing_17
  · skip
    have q1 := c2_0
    refine lv_aload_n hx hb dX3_standing_5 rfl (lv_at hl 0 rfl) ?_
    refine vp_callSi (va_Run.run (va_runV (As := []) (rest := []) ⟨hx, hb, hml, hown, hw⟩ (c_stN l dC dI g rv rk pt sp av ak ap a1 a2 kv kk kp k1 k2 fv fk fp f1 f2 nv nk np ns hv hk hp hs) (cwV 0 hw (gV mw121 mw123 mw3 mw16 mw124) rfl rfl rfl (by decide +kernel) ⟨Nat.le_of_ble_eq_true rfl, Nat.le_of_ble_eq_true rfl⟩) (ro.V (q0 := 0) (ci := 3) hN (hK.sub (tys' := [(kv, .int), (kk, .int), (kp, .int), (k1, .int), (k2, .int)]) [0, 1, 2, 3, 4] rfl) (hP.sub (ws' := [(g, .inr (3, [.ref rv, .ref rk, .ref pt, .ref sp])), (rv, .inr (1, [.ref av, .int (nI nv)])), (av, .inl (kv, 100, .inl fv)), (rk, .inr (1, [.ref ak, .int (nI nk)])), (ak, .inl (kk, 100, .inl fk)), (pt, .inr (0, [.ref ap, .int (nI np)])), (ap, .inl (kp, 100, .inl fp)), (sp, .inr (2, [.ref a1, .ref a2, .int (nI ns)])), (a1, .inl (k1, 100, .inl f1)), (a2, .inl (k2, 100, .inl f2))]) [0, 1, 2, 3, 4, 5, 6, 7, 8, 9] rfl) rfl rfl) rfl rfl hl.1 rfl (lv_room (Nat.le_of_ble_eq_true rfl)) dX3_standing_6 ⟨Nat.le_of_ble_eq_true rfl, Nat.le_of_ble_eq_true rfl⟩)) (fun r3 hr3 => ?_)
    subst hr3
    refine lv_goto (tgt := 17) hx hb dX3_standing_9 (by decide) ?_
    subst hQ
    exact W.iret (v := (snF fv fk nv nk)) hx hb hr (fun t ht hW => ⟨_, rfl, (by unfold stF; first | rw [if_pos q1] | rw [if_neg q1]), ht⟩) (fun _ h => absurd h List.not_mem_nil) dX3_standing_17

abbrev rm_c_rowOf : Room := { frames := 0, cells := 0, slots := 0, locals := 0 }
set_option maxHeartbeats 4000000 in
set_option maxRecDepth 100000 in
theorem c_rowOf (l : Launch) (dC : Nat → ClassId) (dI : Nat → Nat → Nat) (g rv rk pt sp av ak ap a1 a2 : Nat) (kv kk kp k1 k2 : ClassId) (fv fk fp f1 f2 : Nat → Int32) (nv nk np ns : Nat) (hv : nv ≤ 100) (hk : nk ≤ 100) (hp : np ≤ 100) (hs : ns ≤ 100) (w : Int32) : Met l yX3_rowOf (.code yX3_rowOf cX3_rowOf 2 (some (.object "GlobDesk$Row")) :: wsA) rm_c_rowOf (va_Pc [.ref g, .int (w)] (ro (dC, dI) [(g, .inr (3, [.ref rv, .ref rk, .ref pt, .ref sp])), (rv, .inr (1, [.ref av, .int (nI nv)])), (av, .inl (kv, 100, .inl fv)), (rk, .inr (1, [.ref ak, .int (nI nk)])), (ak, .inl (kk, 100, .inl fk)), (pt, .inr (0, [.ref ap, .int (nI np)])), (ap, .inl (kp, 100, .inl fp)), (sp, .inr (2, [.ref a1, .ref a2, .int (nI ns)])), (a1, .inl (k1, 100, .inl f1)), (a2, .inl (k2, 100, .inl f2))] [(kv, .int), (kk, .int), (kp, .int), (k1, .int), (k2, .int)])) (va_Sq (fun r => r = if w = 0 then some rv else if w = 1 then some rk else none)) 0 0 (fun _ => False) := by
  refine Met.ofW (cc := cX3_rowOf) (maxL := 2) (ret := (some (.object "GlobDesk$Row"))) (by decide) rfl ?_
  intro p e s m args below meth c s₁ B hml hv
  obtain ⟨hargs, hN, hP, hK⟩ := hv
  have hx := B.exec
  have hb := B.bytes
  have hr := B.returns
  have hw : ∀ w ∈ wsA, w.before args s = true := fun w h => atoms_spec (ws := (.code yX3_rowOf cX3_rowOf 2 (some (.object "GlobDesk$Row")) :: wsA)) B.pre w (List.mem_cons_of_mem _ h)
  have hown : s.vm.findClass "GlobDesk" = some m.cls := findClass_of_methodNamed B.named
  have hlocks := B.notSynchronized
  generalize hQ : MQ below _ args s _ _ _ = Q
  change W p l e rm_c_rowOf s m args below meth c s.heap [] 0 0 Q (entryFrame m args 2)
  have hl := lv_entry ([.ref g, .int (w)]) (n := 2) (Nat.le_of_ble_eq_true rfl)
  rw [show entryFrame m args 2 = entryFrame m ([.ref g, .int (w)] : List Value).toArray 2 from by rw [hargs], lg_entry_eq]
  generalize (lg_sl ([.ref g, .int (w)]) ++ List.replicate (2 - (lg_sl ([.ref g, .int (w)])).length) Slot.unset).toArray = ls at hl ⊢
  have hl : lv_has ls 2 [(0, .ref g), (1, .int (w))] := hl
  refine lv_iload_n hx hb dX3_rowOf_0 rfl (lv_at hl 1 rfl) ?_
  refine lv_if_ne (tgt := 9) hx hb dX3_rowOf_1 (by decide) (fun c1_0 => ?_) (fun c1_0 => ?_)
  · skip
    have q1 := c1_0
    refine lv_iload_n hx hb dX3_rowOf_9 rfl (lv_at hl 1 rfl) ?_
    refine lv_iconst (v := 1) hx hb dX3_rowOf_10 (by decide) ?_
    refine lv_icmp_ne (tgt := 21) hx hb dX3_rowOf_11 (by decide) (fun c11_1 => ?_) (fun c11_1 => ?_)
    · skip
      have q2 := c11_1
      refine lv_null hx hb dX3_rowOf_21 ?_
      subst hQ
      exact W.aret (v := .null) hx hb hr (Or.inl ⟨_, rfl⟩) (Or.inl rfl) (fun t ht hW => ⟨none, rfl, (by first | rw [if_pos q1] | rw [if_neg q1, if_pos q2] | rw [if_neg q1, if_neg q2]), ht⟩) (fun _ h => absurd h List.not_mem_nil) dX3_rowOf_22
    · skip
      have q2 := c11_1
      refine lv_aload_n hx hb dX3_rowOf_14 rfl (lv_at hl 0 rfl) ?_
      refine va_get (D := (dC, dI)) (ci := 3) (v := .ref rk) (C := RX3) (T := TX3) (N := 4) hx hb hw inX3 hown hK hP 0 rfl rfl 1 (by decide) (hw _ mw78) (fun _ h9 => h9) rfl dX3_rowOf_15 ?_
      refine lv_goto (tgt := 22) hx hb dX3_rowOf_18 (by decide) ?_
      subst hQ
      exact W.aret (v := .ref rk) hx hb hr (Or.inl ⟨_, rfl⟩) (Or.inr ⟨_, rfl⟩) (fun t ht hW => ⟨some rk, rfl, (by first | rw [if_pos q1] | rw [if_neg q1, if_pos q2] | rw [if_neg q1, if_neg q2]), ht⟩) (fun _ h => absurd h List.not_mem_nil) dX3_rowOf_22
  · skip
    have q1 := c1_0
    refine lv_aload_n hx hb dX3_rowOf_4 rfl (lv_at hl 0 rfl) ?_
    refine va_get (D := (dC, dI)) (ci := 3) (v := .ref rv) (C := RX3) (T := TX3) (N := 4) hx hb hw inX3 hown hK hP 0 rfl rfl 0 (by decide) (hw _ mw77) (fun _ h9 => h9) rfl dX3_rowOf_5 ?_
    subst hQ
    exact W.aret (v := .ref rv) hx hb hr (Or.inl ⟨_, rfl⟩) (Or.inr ⟨_, rfl⟩) (fun t ht hW => ⟨some rv, rfl, (by first | rw [if_pos q1] | rw [if_neg q1, if_pos q2] | rw [if_neg q1, if_neg q2]), ht⟩) (fun _ h => absurd h List.not_mem_nil) dX3_rowOf_8

abbrev rm_c_spans : Room := { frames := 0, cells := 0, slots := 0, locals := 0 }
set_option maxHeartbeats 4000000 in
set_option maxRecDepth 100000 in
theorem c_spans (l : Launch) (dC : Nat → ClassId) (dI : Nat → Nat → Nat) (g rv rk pt sp av ak ap a1 a2 : Nat) (kv kk kp k1 k2 : ClassId) (fv fk fp f1 f2 : Nat → Int32) (nv nk np ns : Nat) (hv : nv ≤ 100) (hk : nk ≤ 100) (hp : np ≤ 100) (hs : ns ≤ 100) : Met l yX3_spans (.code yX3_spans cX3_spans 1 (some (.int)) :: wsA) rm_c_spans (va_Pc [.ref g] (ro (dC, dI) [(g, .inr (3, [.ref rv, .ref rk, .ref pt, .ref sp])), (rv, .inr (1, [.ref av, .int (nI nv)])), (av, .inl (kv, 100, .inl fv)), (rk, .inr (1, [.ref ak, .int (nI nk)])), (ak, .inl (kk, 100, .inl fk)), (pt, .inr (0, [.ref ap, .int (nI np)])), (ap, .inl (kp, 100, .inl fp)), (sp, .inr (2, [.ref a1, .ref a2, .int (nI ns)])), (a1, .inl (k1, 100, .inl f1)), (a2, .inl (k2, 100, .inl f2))] [(kv, .int), (kk, .int), (kp, .int), (k1, .int), (k2, .int)])) (vp_Si (fun r => r = nI ns)) 0 0 (fun _ => False) := by
  refine Met.ofW (cc := cX3_spans) (maxL := 1) (ret := (some (.int))) (by decide) rfl ?_
  intro p e s m args below meth c s₁ B hml hv
  obtain ⟨hargs, hN, hP, hK⟩ := hv
  have hx := B.exec
  have hb := B.bytes
  have hr := B.returns
  have hw : ∀ w ∈ wsA, w.before args s = true := fun w h => atoms_spec (ws := (.code yX3_spans cX3_spans 1 (some (.int)) :: wsA)) B.pre w (List.mem_cons_of_mem _ h)
  have hown : s.vm.findClass "GlobDesk" = some m.cls := findClass_of_methodNamed B.named
  have hlocks := B.notSynchronized
  generalize hQ : MQ below _ args s _ _ _ = Q
  change W p l e rm_c_spans s m args below meth c s.heap [] 0 0 Q (entryFrame m args 1)
  have hl := lv_entry ([.ref g]) (n := 1) (Nat.le_of_ble_eq_true rfl)
  rw [show entryFrame m args 1 = entryFrame m ([.ref g] : List Value).toArray 1 from by rw [hargs], lg_entry_eq]
  generalize (lg_sl ([.ref g]) ++ List.replicate (1 - (lg_sl ([.ref g])).length) Slot.unset).toArray = ls at hl ⊢
  have hl : lv_has ls 1 [(0, .ref g)] := hl
  refine lv_aload_n hx hb dX3_spans_0 rfl (lv_at hl 0 rfl) ?_
  refine va_get (D := (dC, dI)) (ci := 3) (v := .ref sp) (C := RX3) (T := TX3) (N := 4) hx hb hw inX3 hown hK hP 0 rfl rfl 3 (by decide) (hw _ mw80) (fun _ h9 => h9) rfl dX3_spans_1 ?_
  refine va_getN (D := (dC, dI)) (ci := 2) (v := .int (nI ns)) (C := RX2) (T := TX2) (N := 3) hx hb hw inX2 hown hK hP 7 rfl rfl 2 (by decide) (va_Nw.use rfl hN.2.2.2.2.2.2) (fun _ h9 => h9) rfl dX3_spans_4 ?_
  subst hQ
  exact W.iret (v := (nI ns)) hx hb hr (fun t ht hW => ⟨_, rfl, rfl, ht⟩) (fun _ h => absurd h List.not_mem_nil) dX3_spans_7

abbrev rm_c_span : Room := { frames := 1, cells := 0, slots := 0, locals := 21 }
set_option maxHeartbeats 4000000 in
set_option maxRecDepth 100000 in
theorem c_span (l : Launch) (dC : Nat → ClassId) (dI : Nat → Nat → Nat) (g rv rk pt sp av ak ap a1 a2 : Nat) (kv kk kp k1 k2 : ClassId) (fv fk fp f1 f2 : Nat → Int32) (nv nk np ns : Nat) (hv : nv ≤ 100) (hk : nk ≤ 100) (hp : np ≤ 100) (hs : ns ≤ 100) (i w : Int32) : Met l yX3_span (.code yX3_span cX3_span 3 (some (.int)) :: wsA) rm_c_span (va_Pc [.ref g, .int (i), .int (w)] (ro (dC, dI) [(g, .inr (3, [.ref rv, .ref rk, .ref pt, .ref sp])), (rv, .inr (1, [.ref av, .int (nI nv)])), (av, .inl (kv, 100, .inl fv)), (rk, .inr (1, [.ref ak, .int (nI nk)])), (ak, .inl (kk, 100, .inl fk)), (pt, .inr (0, [.ref ap, .int (nI np)])), (ap, .inl (kp, 100, .inl fp)), (sp, .inr (2, [.ref a1, .ref a2, .int (nI ns)])), (a1, .inl (k1, 100, .inl f1)), (a2, .inl (k2, 100, .inl f2))] [(kv, .int), (kk, .int), (kp, .int), (k1, .int), (k2, .int)])) (vp_Si (fun r => r = if w = 0 then ra f1 ns i else if w = 1 then ra f2 ns i else -1)) 0 0 (fun _ => False) := by
  refine Met.ofW (cc := cX3_span) (maxL := 3) (ret := (some (.int))) (by decide) rfl ?_
  intro p e s m args below meth c s₁ B hml hv
  obtain ⟨hargs, hN, hP, hK⟩ := hv
  have hx := B.exec
  have hb := B.bytes
  have hr := B.returns
  have hw : ∀ w ∈ wsA, w.before args s = true := fun w h => atoms_spec (ws := (.code yX3_span cX3_span 3 (some (.int)) :: wsA)) B.pre w (List.mem_cons_of_mem _ h)
  have hown : s.vm.findClass "GlobDesk" = some m.cls := findClass_of_methodNamed B.named
  have hlocks := B.notSynchronized
  generalize hQ : MQ below _ args s _ _ _ = Q
  change W p l e rm_c_span s m args below meth c s.heap [] 0 0 Q (entryFrame m args 3)
  have hl := lv_entry ([.ref g, .int (i), .int (w)]) (n := 3) (Nat.le_of_ble_eq_true rfl)
  rw [show entryFrame m args 3 = entryFrame m ([.ref g, .int (i), .int (w)] : List Value).toArray 3 from by rw [hargs], lg_entry_eq]
  generalize (lg_sl ([.ref g, .int (i), .int (w)]) ++ List.replicate (3 - (lg_sl ([.ref g, .int (i), .int (w)])).length) Slot.unset).toArray = ls at hl ⊢
  have hl : lv_has ls 3 [(0, .ref g), (1, .int (i)), (2, .int (w))] := hl
  refine lv_iload_n hx hb dX3_span_0 rfl (lv_at hl 2 rfl) ?_
  refine lv_if_ne (tgt := 13) hx hb dX3_span_1 (by decide) (fun c1_0 => ?_) (fun c1_0 => ?_)
  · skip
    have q1 := c1_0
    refine lv_iload_n hx hb dX3_span_13 rfl (lv_at hl 2 rfl) ?_
    refine lv_iconst (v := 1) hx hb dX3_span_14 (by decide) ?_
    refine lv_icmp_ne (tgt := 27) hx hb dX3_span_15 (by decide) (fun c15_1 => ?_) (fun c15_1 => ?_)
    · skip
      have q2 := c15_1
      refine lv_iconst (v := -1) hx hb dX3_span_27 (by decide) ?_
      subst hQ
      exact W.iret (v := (-1)) hx hb hr (fun t ht hW => ⟨_, rfl, (by first | rw [if_pos q1] | rw [if_neg q1, if_pos q2] | rw [if_neg q1, if_neg q2]), ht⟩) (fun _ h => absurd h List.not_mem_nil) dX3_span_28
    · skip
      have q2 := c15_1
      refine lv_aload_n hx hb dX3_span_18 rfl (lv_at hl 0 rfl) ?_
      refine va_get (D := (dC, dI)) (ci := 3) (v := .ref sp) (C := RX3) (T := TX3) (N := 4) hx hb hw inX3 hown hK hP 0 rfl rfl 3 (by decide) (hw _ mw80) (fun _ h9 => h9) rfl dX3_span_19 ?_
      refine lv_iload_n hx hb dX3_span_22 rfl (lv_at hl 1 rfl) ?_
      refine vp_callSi (va_Run.run (va_runV (As := [.int (i)]) (rest := []) ⟨hx, hb, hml, hown, hw⟩ (c_Sp_length l dC dI sp a1 a2 k1 k2 f1 f2 ns hs i) (cwV 1 hw (gV mw208 mw209 mw210 mw19 mw211) rfl rfl rfl (by decide +kernel) ⟨Nat.le_of_ble_eq_true rfl, Nat.le_of_ble_eq_true rfl⟩) (ro.V (q0 := 0) (ci := 2) hN (hK.sub (tys' := [(k1, .int), (k2, .int)]) [3, 4] rfl) (hP.sub (ws' := [(sp, .inr (2, [.ref a1, .ref a2, .int (nI ns)])), (a1, .inl (k1, 100, .inl f1)), (a2, .inl (k2, 100, .inl f2))]) [7, 8, 9] rfl) rfl rfl) rfl rfl hl.1 rfl (lv_room (Nat.le_of_ble_eq_true rfl)) dX3_span_23 ⟨Nat.le_of_ble_eq_true rfl, Nat.le_of_ble_eq_true rfl⟩)) (fun r3 hr3 => ?_)
      subst hr3
      subst hQ
      exact W.iret (v := (ra f2 ns i)) hx hb hr (fun t ht hW => ⟨_, rfl, (by first | rw [if_pos q1] | rw [if_neg q1, if_pos q2] | rw [if_neg q1, if_neg q2]), ht⟩) (fun _ h => absurd h List.not_mem_nil) dX3_span_26
  · skip
    have q1 := c1_0
    refine lv_aload_n hx hb dX3_span_4 rfl (lv_at hl 0 rfl) ?_
    refine va_get (D := (dC, dI)) (ci := 3) (v := .ref sp) (C := RX3) (T := TX3) (N := 4) hx hb hw inX3 hown hK hP 0 rfl rfl 3 (by decide) (hw _ mw80) (fun _ h9 => h9) rfl dX3_span_5 ?_
    refine lv_iload_n hx hb dX3_span_8 rfl (lv_at hl 1 rfl) ?_
    refine vp_callSi (va_Run.run (va_runV (As := [.int (i)]) (rest := []) ⟨hx, hb, hml, hown, hw⟩ (c_Sp_begin l dC dI sp a1 a2 k1 k2 f1 f2 ns hs i) (cwV 1 hw (gV mw204 mw205 mw206 mw19 mw207) rfl rfl rfl (by decide +kernel) ⟨Nat.le_of_ble_eq_true rfl, Nat.le_of_ble_eq_true rfl⟩) (ro.V (q0 := 0) (ci := 2) hN (hK.sub (tys' := [(k1, .int), (k2, .int)]) [3, 4] rfl) (hP.sub (ws' := [(sp, .inr (2, [.ref a1, .ref a2, .int (nI ns)])), (a1, .inl (k1, 100, .inl f1)), (a2, .inl (k2, 100, .inl f2))]) [7, 8, 9] rfl) rfl rfl) rfl rfl hl.1 rfl (lv_room (Nat.le_of_ble_eq_true rfl)) dX3_span_9 ⟨Nat.le_of_ble_eq_true rfl, Nat.le_of_ble_eq_true rfl⟩)) (fun r4 hr4 => ?_)
    subst hr4
    subst hQ
    exact W.iret (v := (ra f1 ns i)) hx hb hr (fun t ht hW => ⟨_, rfl, (by first | rw [if_pos q1] | rw [if_neg q1, if_pos q2] | rw [if_neg q1, if_neg q2]), ht⟩) (fun _ h => absurd h List.not_mem_nil) dX3_span_12

abbrev rm_c_order : Room := { frames := 4, cells := 0, slots := 0, locals := 91 }
set_option maxHeartbeats 4000000 in
set_option maxRecDepth 100000 in
theorem c_order (l : Launch) (dC : Nat → ClassId) (dI : Nat → Nat → Nat) (g rv rk pt sp av ak ap a1 a2 : Nat) (kv kk kp k1 k2 : ClassId) (fv fk fp f1 f2 : Nat → Int32) (nv nk np ns : Nat) (hv : nv ≤ 100) (hk : nk ≤ 100) (hp : np ≤ 100) (hs : ns ≤ 100) (cp : Int32) : Met l yX3_order (.code yX3_order cX3_order 2 (some (.int)) :: wsA) rm_c_order (va_Pc [.ref g, .int (cp)] (ro (dC, dI) [(g, .inr (3, [.ref rv, .ref rk, .ref pt, .ref sp])), (rv, .inr (1, [.ref av, .int (nI nv)])), (av, .inl (kv, 100, .inl fv)), (rk, .inr (1, [.ref ak, .int (nI nk)])), (ak, .inl (kk, 100, .inl fk)), (pt, .inr (0, [.ref ap, .int (nI np)])), (ap, .inl (kp, 100, .inl fp)), (sp, .inr (2, [.ref a1, .ref a2, .int (nI ns)])), (a1, .inl (k1, 100, .inl f1)), (a2, .inl (k2, 100, .inl f2))] [(kv, .int), (kk, .int), (kp, .int), (k1, .int), (k2, .int)])) (vp_Si (fun r => r = if 0 ≤ cp.toInt ∧ cp.toInt ≤ 2 then stF fv fk nv nk cp else -2)) 0 0 (fun _ => False) := by
  refine Met.ofW (cc := cX3_order) (maxL := 2) (ret := (some (.int))) (by decide) rfl ?_
  intro p e s m args below meth c s₁ B hml hv
  obtain ⟨hargs, hN, hP, hK⟩ := hv
  have hx := B.exec
  have hb := B.bytes
  have hr := B.returns
  have hw : ∀ w ∈ wsA, w.before args s = true := fun w h => atoms_spec (ws := (.code yX3_order cX3_order 2 (some (.int)) :: wsA)) B.pre w (List.mem_cons_of_mem _ h)
  have hown : s.vm.findClass "GlobDesk" = some m.cls := findClass_of_methodNamed B.named
  have hlocks := B.notSynchronized
  generalize hQ : MQ below _ args s _ _ _ = Q
  change W p l e rm_c_order s m args below meth c s.heap [] 0 0 Q (entryFrame m args 2)
  have hl := lv_entry ([.ref g, .int (cp)]) (n := 2) (Nat.le_of_ble_eq_true rfl)
  rw [show entryFrame m args 2 = entryFrame m ([.ref g, .int (cp)] : List Value).toArray 2 from by rw [hargs], lg_entry_eq]
  generalize (lg_sl ([.ref g, .int (cp)]) ++ List.replicate (2 - (lg_sl ([.ref g, .int (cp)])).length) Slot.unset).toArray = ls at hl ⊢
  have hl : lv_has ls 2 [(0, .ref g), (1, .int (cp))] := hl
  refine lv_iload_n hx hb dX3_order_0 rfl (lv_at hl 1 rfl) ?_
  refine vp_callSi (va_Run.run (va_runS (As := [.int (cp)]) (rest := []) ⟨hx, hb, hml, hown, hw⟩ (c_isCmp l (cp)) (cwS 1 hw (gS mw110 mw111 mw16 mw112) rfl rfl rfl (by decide +kernel) ⟨Nat.le_of_ble_eq_true rfl, Nat.le_of_ble_eq_true rfl⟩) st.S rfl rfl hl.1 rfl (lv_room (Nat.le_of_ble_eq_true rfl)) dX3_order_1 ⟨Nat.le_of_ble_eq_true rfl, Nat.le_of_ble_eq_true rfl⟩)) (fun r1 hr1 => ?_)
  subst hr1
  refine lv_if_ne (tgt := 10) hx hb dX3_order_4 (by decide) (fun c4_1 => ?_) (fun c4_1 => ?_)
  · skip
    have q1 : 0 ≤ cp.toInt ∧ cp.toInt ≤ 2 := Decidable.byContradiction (fun q => c4_1 (if_neg q))
    refine lv_aload_n hx hb dX3_order_10 rfl (lv_at hl 0 rfl) ?_
    refine lv_iload_n hx hb dX3_order_11 rfl (lv_at hl 1 rfl) ?_
    refine vp_callSi (va_Run.run (va_runV (As := [.int (cp)]) (rest := []) ⟨hx, hb, hml, hown, hw⟩ (c_st l dC dI g rv rk pt sp av ak ap a1 a2 kv kk kp k1 k2 fv fk fp f1 f2 nv nk np ns hv hk hp hs (cp)) (cwV 1 hw (gV mw117 mw119 mw2 mw16 mw120) rfl rfl rfl (by decide +kernel) ⟨Nat.le_of_ble_eq_true rfl, Nat.le_of_ble_eq_true rfl⟩) (ro.V (q0 := 0) (ci := 3) hN (hK.sub (tys' := [(kv, .int), (kk, .int), (kp, .int), (k1, .int), (k2, .int)]) [0, 1, 2, 3, 4] rfl) (hP.sub (ws' := [(g, .inr (3, [.ref rv, .ref rk, .ref pt, .ref sp])), (rv, .inr (1, [.ref av, .int (nI nv)])), (av, .inl (kv, 100, .inl fv)), (rk, .inr (1, [.ref ak, .int (nI nk)])), (ak, .inl (kk, 100, .inl fk)), (pt, .inr (0, [.ref ap, .int (nI np)])), (ap, .inl (kp, 100, .inl fp)), (sp, .inr (2, [.ref a1, .ref a2, .int (nI ns)])), (a1, .inl (k1, 100, .inl f1)), (a2, .inl (k2, 100, .inl f2))]) [0, 1, 2, 3, 4, 5, 6, 7, 8, 9] rfl) rfl rfl) rfl rfl hl.1 rfl (lv_room (Nat.le_of_ble_eq_true rfl)) dX3_order_12 ⟨Nat.le_of_ble_eq_true rfl, Nat.le_of_ble_eq_true rfl⟩)) (fun r3 hr3 => ?_)
    subst hr3
    subst hQ
    exact W.iret (v := (stF fv fk nv nk (cp))) hx hb hr (fun t ht hW => ⟨_, rfl, (by first | rw [if_pos q1] | rw [if_neg q1]), ht⟩) (fun _ h => absurd h List.not_mem_nil) dX3_order_15
  · skip
    have q1 : ¬ (0 ≤ cp.toInt ∧ cp.toInt ≤ 2) := fun q => absurd (by first | exact c4_1 | exact Decidable.not_not.mp c4_1) (by rw [if_pos q]; decide)
    refine lv_bipush (v := -2) hx hb dX3_order_7 (by decide) ?_
    subst hQ
    exact W.iret (v := (-2)) hx hb hr (fun t ht hW => ⟨_, rfl, (by first | rw [if_pos q1] | rw [if_neg q1]), ht⟩) (fun _ h => absurd h List.not_mem_nil) dX3_order_9

abbrev rm_c_byteAt : Room := { frames := 1, cells := 0, slots := 0, locals := 21 }
set_option maxHeartbeats 4000000 in
set_option maxRecDepth 100000 in
theorem c_byteAt (l : Launch) (dC : Nat → ClassId) (dI : Nat → Nat → Nat) (g rv rk pt sp av ak ap a1 a2 : Nat) (kv kk kp k1 k2 : ClassId) (fv fk fp f1 f2 : Nat → Int32) (nv nk np ns : Nat) (hv : nv ≤ 100) (hk : nk ≤ 100) (hp : np ≤ 100) (hs : ns ≤ 100) (w i : Int32) : Met l yX3_byteAt (.code yX3_byteAt cX3_byteAt 4 (some (.int)) :: wsA) rm_c_byteAt (va_Pc [.ref g, .int (w), .int (i)] (ro (dC, dI) [(g, .inr (3, [.ref rv, .ref rk, .ref pt, .ref sp])), (rv, .inr (1, [.ref av, .int (nI nv)])), (av, .inl (kv, 100, .inl fv)), (rk, .inr (1, [.ref ak, .int (nI nk)])), (ak, .inl (kk, 100, .inl fk)), (pt, .inr (0, [.ref ap, .int (nI np)])), (ap, .inl (kp, 100, .inl fp)), (sp, .inr (2, [.ref a1, .ref a2, .int (nI ns)])), (a1, .inl (k1, 100, .inl f1)), (a2, .inl (k2, 100, .inl f2))] [(kv, .int), (kk, .int), (kp, .int), (k1, .int), (k2, .int)])) (vp_Si (fun r => r = if w = 0 then ra fv nv i else if w = 1 then ra fk nk i else -1)) 0 0 (fun _ => False) := by
  refine Met.ofW (cc := cX3_byteAt) (maxL := 4) (ret := (some (.int))) (by decide) rfl ?_
  intro p e s m args below meth c s₁ B hml hv
  obtain ⟨hargs, hN, hP, hK⟩ := hv
  have hx := B.exec
  have hb := B.bytes
  have hr := B.returns
  have hw : ∀ w ∈ wsA, w.before args s = true := fun w h => atoms_spec (ws := (.code yX3_byteAt cX3_byteAt 4 (some (.int)) :: wsA)) B.pre w (List.mem_cons_of_mem _ h)
  have hown : s.vm.findClass "GlobDesk" = some m.cls := findClass_of_methodNamed B.named
  have hlocks := B.notSynchronized
  generalize hQ : MQ below _ args s _ _ _ = Q
  change W p l e rm_c_byteAt s m args below meth c s.heap [] 0 0 Q (entryFrame m args 4)
  have hl := lv_entry ([.ref g, .int (w), .int (i)]) (n := 4) (Nat.le_of_ble_eq_true rfl)
  rw [show entryFrame m args 4 = entryFrame m ([.ref g, .int (w), .int (i)] : List Value).toArray 4 from by rw [hargs], lg_entry_eq]
  generalize (lg_sl ([.ref g, .int (w), .int (i)]) ++ List.replicate (4 - (lg_sl ([.ref g, .int (w), .int (i)])).length) Slot.unset).toArray = ls at hl ⊢
  have hl : lv_has ls 4 [(0, .ref g), (1, .int (w)), (2, .int (i))] := hl
  refine lv_aload_n hx hb dX3_byteAt_0 rfl (lv_at hl 0 rfl) ?_
  refine lv_iload_n hx hb dX3_byteAt_1 rfl (lv_at hl 1 rfl) ?_
  refine va_csq (va_Run.run (va_runV (As := [.int (w)]) (rest := []) ⟨hx, hb, hml, hown, hw⟩ (c_rowOf l dC dI g rv rk pt sp av ak ap a1 a2 kv kk kp k1 k2 fv fk fp f1 f2 nv nk np ns hv hk hp hs (w)) (cwV 1 hw (gV mw94 mw96 mw0 mw16 mw97) rfl rfl rfl (by decide +kernel) ⟨Nat.le_of_ble_eq_true rfl, Nat.le_of_ble_eq_true rfl⟩) (ro.V (q0 := 0) (ci := 3) hN (hK.sub (tys' := [(kv, .int), (kk, .int), (kp, .int), (k1, .int), (k2, .int)]) [0, 1, 2, 3, 4] rfl) (hP.sub (ws' := [(g, .inr (3, [.ref rv, .ref rk, .ref pt, .ref sp])), (rv, .inr (1, [.ref av, .int (nI nv)])), (av, .inl (kv, 100, .inl fv)), (rk, .inr (1, [.ref ak, .int (nI nk)])), (ak, .inl (kk, 100, .inl fk)), (pt, .inr (0, [.ref ap, .int (nI np)])), (ap, .inl (kp, 100, .inl fp)), (sp, .inr (2, [.ref a1, .ref a2, .int (nI ns)])), (a1, .inl (k1, 100, .inl f1)), (a2, .inl (k2, 100, .inl f2))]) [0, 1, 2, 3, 4, 5, 6, 7, 8, 9] rfl) rfl rfl) rfl rfl hl.1 rfl (lv_room (Nat.le_of_ble_eq_true rfl)) dX3_byteAt_2 ⟨Nat.le_of_ble_eq_true rfl, Nat.le_of_ble_eq_true rfl⟩)) (fun r1 hr1 => ?_)
  by_cases w0 : w = 0
  · skip
    obtain rfl : r1 = some rv := by rw [hr1, if_pos w0]
    refine lv_astore_n (lv' := [(3, .ref rv), (0, .ref g), (1, .int (w)), (2, .int (i))]) hx hb dX3_byteAt_5 rfl hl (by decide) rfl (fun ls hl => ?_)
    refine lv_aload_n hx hb dX3_byteAt_6 rfl (lv_at hl 0 rfl) ?_
    refine lv_ifnonnull (tgt := 14) hx hb dX3_byteAt_7 (by decide) ?_
    refine lv_aload_n hx hb dX3_byteAt_14 rfl (lv_at hl 0 rfl) ?_
    refine lv_iload_n hx hb dX3_byteAt_15 rfl (lv_at hl 3 rfl) ?_
    refine vp_callSi (va_Run.run (va_runV (As := [.int (i)]) (rest := []) ⟨hx, hb, hml, hown, hw⟩ (c_Row_at l dC dI rv av kv fv nv hv i) (cwV 1 hw (gV mw140 mw137 mw138 mw17 mw139) rfl rfl rfl (by decide +kernel) ⟨Nat.le_of_ble_eq_true rfl, Nat.le_of_ble_eq_true rfl⟩) (ro.V (q0 := 0) (ci := 1) hN (hK.sub (tys' := [(kv, .int)]) [0] rfl) (hP.sub (ws' := [(rv, .inr (1, [.ref av, .int (nI nv)])), (av, .inl (kv, 100, .inl fv))]) [1, 2] rfl) rfl rfl) rfl rfl hl.1 rfl (lv_room (Nat.le_of_ble_eq_true rfl)) dX3_byteAt_16 ⟨Nat.le_of_ble_eq_true rfl, Nat.le_of_ble_eq_true rfl⟩)) (fun r2 hr2 => ?_)
    subst hr2
    subst hQ
    exact W.iret (v := (ra fv nv i)) hx hb hr (fun t ht hW => ⟨_, rfl, (by first | rw [if_pos w0] | rw [if_neg w0, if_pos w1] | rw [if_neg w0, if_neg w1]), ht⟩) (fun _ h => absurd h List.not_mem_nil) dX3_byteAt_19
  · skip
    by_cases w1 : w = 1
    · skip
      obtain rfl : r1 = some rk := by rw [hr1, if_neg w0, if_pos w1]
      refine lv_astore_n (lv' := [(3, .ref rk), (0, .ref g), (1, .int (w)), (2, .int (i))]) hx hb dX3_byteAt_5 rfl hl (by decide) rfl (fun ls hl => ?_)
      refine lv_aload_n hx hb dX3_byteAt_6 rfl (lv_at hl 0 rfl) ?_
      refine lv_ifnonnull (tgt := 14) hx hb dX3_byteAt_7 (by decide) ?_
      refine lv_aload_n hx hb dX3_byteAt_14 rfl (lv_at hl 0 rfl) ?_
      refine lv_iload_n hx hb dX3_byteAt_15 rfl (lv_at hl 3 rfl) ?_
      refine vp_callSi (va_Run.run (va_runV (As := [.int (i)]) (rest := []) ⟨hx, hb, hml, hown, hw⟩ (c_Row_at l dC dI rk ak kk fk nk hk i) (cwV 1 hw (gV mw140 mw137 mw138 mw17 mw139) rfl rfl rfl (by decide +kernel) ⟨Nat.le_of_ble_eq_true rfl, Nat.le_of_ble_eq_true rfl⟩) (ro.V (q0 := 0) (ci := 1) hN (hK.sub (tys' := [(kk, .int)]) [1] rfl) (hP.sub (ws' := [(rk, .inr (1, [.ref ak, .int (nI nk)])), (ak, .inl (kk, 100, .inl fk))]) [3, 4] rfl) rfl rfl) rfl rfl hl.1 rfl (lv_room (Nat.le_of_ble_eq_true rfl)) dX3_byteAt_16 ⟨Nat.le_of_ble_eq_true rfl, Nat.le_of_ble_eq_true rfl⟩)) (fun r3 hr3 => ?_)
      subst hr3
      subst hQ
      exact W.iret (v := (ra fk nk i)) hx hb hr (fun t ht hW => ⟨_, rfl, (by first | rw [if_pos w0] | rw [if_neg w0, if_pos w1] | rw [if_neg w0, if_neg w1]), ht⟩) (fun _ h => absurd h List.not_mem_nil) dX3_byteAt_19
    · skip
      obtain rfl : r1 = none := by rw [hr1, if_neg w0, if_neg w1]
      refine lv_astore_nN (lv' := [(3, .null), (0, .ref g), (1, .int (w)), (2, .int (i))]) hx hb dX3_byteAt_5 rfl hl (by decide) rfl (fun ls hl => ?_)
      refine lv_aload_nN hx hb dX3_byteAt_6 rfl (lv_at hl 0 rfl) ?_
      refine lv_ifnonnullN hx hb dX3_byteAt_7 ?_
      refine lv_iconst (v := -1) hx hb dX3_byteAt_10 (by decide) ?_
      refine lv_goto (tgt := 19) hx hb dX3_byteAt_11 (by decide) ?_
      subst hQ
      exact W.iret (v := (-1)) hx hb hr (fun t ht hW => ⟨_, rfl, (by first | rw [if_pos w0] | rw [if_neg w0, if_pos w1] | rw [if_neg w0, if_neg w1]), ht⟩) (fun _ h => absurd h List.not_mem_nil) dX3_byteAt_19

abbrev rm_c_size : Room := { frames := 1, cells := 0, slots := 0, locals := 21 }
set_option maxHeartbeats 4000000 in
set_option maxRecDepth 100000 in
theorem c_size (l : Launch) (dC : Nat → ClassId) (dI : Nat → Nat → Nat) (g rv rk pt sp av ak ap a1 a2 : Nat) (kv kk kp k1 k2 : ClassId) (fv fk fp f1 f2 : Nat → Int32) (nv nk np ns : Nat) (hv : nv ≤ 100) (hk : nk ≤ 100) (hp : np ≤ 100) (hs : ns ≤ 100) (w : Int32) : Met l yX3_size (.code yX3_size cX3_size 3 (some (.int)) :: wsA) rm_c_size (va_Pc [.ref g, .int (w)] (ro (dC, dI) [(g, .inr (3, [.ref rv, .ref rk, .ref pt, .ref sp])), (rv, .inr (1, [.ref av, .int (nI nv)])), (av, .inl (kv, 100, .inl fv)), (rk, .inr (1, [.ref ak, .int (nI nk)])), (ak, .inl (kk, 100, .inl fk)), (pt, .inr (0, [.ref ap, .int (nI np)])), (ap, .inl (kp, 100, .inl fp)), (sp, .inr (2, [.ref a1, .ref a2, .int (nI ns)])), (a1, .inl (k1, 100, .inl f1)), (a2, .inl (k2, 100, .inl f2))] [(kv, .int), (kk, .int), (kp, .int), (k1, .int), (k2, .int)])) (vp_Si (fun r => r = if w = 0 then nI nv else if w = 1 then nI nk else -1)) 0 0 (fun _ => False) := by
  refine Met.ofW (cc := cX3_size) (maxL := 3) (ret := (some (.int))) (by decide) rfl ?_
  intro p e s m args below meth c s₁ B hml hv
  obtain ⟨hargs, hN, hP, hK⟩ := hv
  have hx := B.exec
  have hb := B.bytes
  have hr := B.returns
  have hw : ∀ w ∈ wsA, w.before args s = true := fun w h => atoms_spec (ws := (.code yX3_size cX3_size 3 (some (.int)) :: wsA)) B.pre w (List.mem_cons_of_mem _ h)
  have hown : s.vm.findClass "GlobDesk" = some m.cls := findClass_of_methodNamed B.named
  have hlocks := B.notSynchronized
  generalize hQ : MQ below _ args s _ _ _ = Q
  change W p l e rm_c_size s m args below meth c s.heap [] 0 0 Q (entryFrame m args 3)
  have hl := lv_entry ([.ref g, .int (w)]) (n := 3) (Nat.le_of_ble_eq_true rfl)
  rw [show entryFrame m args 3 = entryFrame m ([.ref g, .int (w)] : List Value).toArray 3 from by rw [hargs], lg_entry_eq]
  generalize (lg_sl ([.ref g, .int (w)]) ++ List.replicate (3 - (lg_sl ([.ref g, .int (w)])).length) Slot.unset).toArray = ls at hl ⊢
  have hl : lv_has ls 3 [(0, .ref g), (1, .int (w))] := hl
  refine lv_aload_n hx hb dX3_size_0 rfl (lv_at hl 0 rfl) ?_
  refine lv_iload_n hx hb dX3_size_1 rfl (lv_at hl 1 rfl) ?_
  refine va_csq (va_Run.run (va_runV (As := [.int (w)]) (rest := []) ⟨hx, hb, hml, hown, hw⟩ (c_rowOf l dC dI g rv rk pt sp av ak ap a1 a2 kv kk kp k1 k2 fv fk fp f1 f2 nv nk np ns hv hk hp hs (w)) (cwV 1 hw (gV mw94 mw96 mw0 mw16 mw97) rfl rfl rfl (by decide +kernel) ⟨Nat.le_of_ble_eq_true rfl, Nat.le_of_ble_eq_true rfl⟩) (ro.V (q0 := 0) (ci := 3) hN (hK.sub (tys' := [(kv, .int), (kk, .int), (kp, .int), (k1, .int), (k2, .int)]) [0, 1, 2, 3, 4] rfl) (hP.sub (ws' := [(g, .inr (3, [.ref rv, .ref rk, .ref pt, .ref sp])), (rv, .inr (1, [.ref av, .int (nI nv)])), (av, .inl (kv, 100, .inl fv)), (rk, .inr (1, [.ref ak, .int (nI nk)])), (ak, .inl (kk, 100, .inl fk)), (pt, .inr (0, [.ref ap, .int (nI np)])), (ap, .inl (kp, 100, .inl fp)), (sp, .inr (2, [.ref a1, .ref a2, .int (nI ns)])), (a1, .inl (k1, 100, .inl f1)), (a2, .inl (k2, 100, .inl f2))]) [0, 1, 2, 3, 4, 5, 6, 7, 8, 9] rfl) rfl rfl) rfl rfl hl.1 rfl (lv_room (Nat.le_of_ble_eq_true rfl)) dX3_size_2 ⟨Nat.le_of_ble_eq_true rfl, Nat.le_of_ble_eq_true rfl⟩)) (fun r1 hr1 => ?_)
  by_cases w0 : w = 0
  · skip
    obtain rfl : r1 = some rv := by rw [hr1, if_pos w0]
    refine lv_astore_n (lv' := [(2, .ref rv), (0, .ref g), (1, .int (w))]) hx hb dX3_size_5 rfl hl (by decide) rfl (fun ls hl => ?_)
    refine lv_aload_n hx hb dX3_size_6 rfl (lv_at hl 0 rfl) ?_
    refine lv_ifnonnull (tgt := 14) hx hb dX3_size_7 (by decide) ?_
    refine lv_aload_n hx hb dX3_size_14 rfl (lv_at hl 0 rfl) ?_
    refine va_getN (D := (dC, dI)) (ci := 1) (v := .int (nI nv)) (C := RX1) (T := TX1) (N := 2) hx hb hw inX1 hown hK hP 1 rfl rfl 1 (by decide) (va_Nw.use rfl hN.2.2.1) (fun _ h9 => h9) rfl dX3_size_15 ?_
    subst hQ
    exact W.iret (v := (nI nv)) hx hb hr (fun t ht hW => ⟨_, rfl, (by first | rw [if_pos w0] | rw [if_neg w0, if_pos w1] | rw [if_neg w0, if_neg w1]), ht⟩) (fun _ h => absurd h List.not_mem_nil) dX3_size_18
  · skip
    by_cases w1 : w = 1
    · skip
      obtain rfl : r1 = some rk := by rw [hr1, if_neg w0, if_pos w1]
      refine lv_astore_n (lv' := [(2, .ref rk), (0, .ref g), (1, .int (w))]) hx hb dX3_size_5 rfl hl (by decide) rfl (fun ls hl => ?_)
      refine lv_aload_n hx hb dX3_size_6 rfl (lv_at hl 0 rfl) ?_
      refine lv_ifnonnull (tgt := 14) hx hb dX3_size_7 (by decide) ?_
      refine lv_aload_n hx hb dX3_size_14 rfl (lv_at hl 0 rfl) ?_
      refine va_getN (D := (dC, dI)) (ci := 1) (v := .int (nI nk)) (C := RX1) (T := TX1) (N := 2) hx hb hw inX1 hown hK hP 3 rfl rfl 1 (by decide) (va_Nw.use rfl hN.2.2.1) (fun _ h9 => h9) rfl dX3_size_15 ?_
      subst hQ
      exact W.iret (v := (nI nk)) hx hb hr (fun t ht hW => ⟨_, rfl, (by first | rw [if_pos w0] | rw [if_neg w0, if_pos w1] | rw [if_neg w0, if_neg w1]), ht⟩) (fun _ h => absurd h List.not_mem_nil) dX3_size_18
    · skip
      obtain rfl : r1 = none := by rw [hr1, if_neg w0, if_neg w1]
      refine lv_astore_nN (lv' := [(2, .null), (0, .ref g), (1, .int (w))]) hx hb dX3_size_5 rfl hl (by decide) rfl (fun ls hl => ?_)
      refine lv_aload_nN hx hb dX3_size_6 rfl (lv_at hl 0 rfl) ?_
      refine lv_ifnonnullN hx hb dX3_size_7 ?_
      refine lv_iconst (v := -1) hx hb dX3_size_10 (by decide) ?_
      refine lv_goto (tgt := 18) hx hb dX3_size_11 (by decide) ?_
      subst hQ
      exact W.iret (v := (-1)) hx hb hr (fun t ht hW => ⟨_, rfl, (by first | rw [if_pos w0] | rw [if_neg w0, if_pos w1] | rw [if_neg w0, if_neg w1]), ht⟩) (fun _ h => absurd h List.not_mem_nil) dX3_size_18

abbrev rm_c_counts : Room := { frames := 2, cells := 0, slots := 0, locals := 47 }
set_option maxHeartbeats 4000000 in
set_option maxRecDepth 100000 in
theorem c_counts (l : Launch) (dC : Nat → ClassId) (dI : Nat → Nat → Nat) (g rv rk pt sp av ak ap a1 a2 : Nat) (kv kk kp k1 k2 : ClassId) (fv fk fp f1 f2 : Nat → Int32) (nv nk np ns : Nat) (hv : nv ≤ 100) (hk : nk ≤ 100) (hp : np ≤ 100) (hs : ns ≤ 100) (mn rl : Int32) : Met l yX3_counts (.code yX3_counts cX3_counts 5 (some (.boolean)) :: wsA) rm_c_counts (va_Pc [.ref g, .int (mn), .int (rl)] (ro (dC, dI) [(g, .inr (3, [.ref rv, .ref rk, .ref pt, .ref sp])), (rv, .inr (1, [.ref av, .int (nI nv)])), (av, .inl (kv, 100, .inl fv)), (rk, .inr (1, [.ref ak, .int (nI nk)])), (ak, .inl (kk, 100, .inl fk)), (pt, .inr (0, [.ref ap, .int (nI np)])), (ap, .inl (kp, 100, .inl fp)), (sp, .inr (2, [.ref a1, .ref a2, .int (nI ns)])), (a1, .inl (k1, 100, .inl f1)), (a2, .inl (k2, 100, .inl f2))] [(kv, .int), (kk, .int), (kp, .int), (k1, .int), (k2, .int)])) (vp_Si (fun r => r = if cs mn.toInt (kn fk nk) rl = true then 1 else 0)) 0 0 (fun _ => False) := by
  refine Met.ofW (cc := cX3_counts) (maxL := 5) (ret := (some (.boolean))) (by decide) rfl ?_
  intro p e s m args below meth c s₁ B hml hv
  obtain ⟨hargs, hN, hP, hK⟩ := hv
  have hx := B.exec
  have hb := B.bytes
  have hr := B.returns
  have hw : ∀ w ∈ wsA, w.before args s = true := fun w h => atoms_spec (ws := (.code yX3_counts cX3_counts 5 (some (.boolean)) :: wsA)) B.pre w (List.mem_cons_of_mem _ h)
  have hown : s.vm.findClass "GlobDesk" = some m.cls := findClass_of_methodNamed B.named
  have hlocks := B.notSynchronized
  generalize hQ : MQ below _ args s _ _ _ = Q
  change W p l e rm_c_counts s m args below meth c s.heap [] 0 0 Q (entryFrame m args 5)
  have hl := lv_entry ([.ref g, .int (mn), .int (rl)]) (n := 5) (Nat.le_of_ble_eq_true rfl)
  rw [show entryFrame m args 5 = entryFrame m ([.ref g, .int (mn), .int (rl)] : List Value).toArray 5 from by rw [hargs], lg_entry_eq]
  generalize (lg_sl ([.ref g, .int (mn), .int (rl)]) ++ List.replicate (5 - (lg_sl ([.ref g, .int (mn), .int (rl)])).length) Slot.unset).toArray = ls at hl ⊢
  have hl : lv_has ls 5 [(0, .ref g), (1, .int (mn)), (2, .int (rl))] := hl
  have hkn := kn_le fk nk
  refine lv_iload_n hx hb dX3_counts_0 rfl (lv_at hl 1 rfl) ?_
  refine lv_if_ge (tgt := 6) hx hb dX3_counts_1 (by decide) (fun c1_0 => ?_) (fun c1_0 => ?_)
  · skip
    have q0 : 0 ≤ mn.toInt := by rw [ti_le, tc_0] at c1_0; exact c1_0
    refine lv_aload_n hx hb dX3_counts_6 rfl (lv_at hl 0 rfl) ?_
    refine va_get (D := (dC, dI)) (ci := 3) (v := .ref rk) (C := RX3) (T := TX3) (N := 4) hx hb hw inX3 hown hK hP 0 rfl rfl 1 (by decide) (hw _ mw78) (fun _ h9 => h9) rfl dX3_counts_7 ?_
    refine lv_ldc2 (v := 10000000000) hx hb hown (hw _ mw220) dX3_counts_10 ?_
    refine vp_callSl (va_Run.run (va_runV (As := [.long (10000000000)]) (rest := []) ⟨hx, hb, hml, hown, hw⟩ (c_Row_number l dC dI rk ak kk fk nk hk) (cwV 1 hw (gV mw221 mw222 mw223 mw17 mw224) rfl rfl rfl (by decide +kernel) ⟨Nat.le_of_ble_eq_true rfl, Nat.le_of_ble_eq_true rfl⟩) (ro.V (q0 := 0) (ci := 1) hN (hK.sub (tys' := [(kk, .int)]) [1] rfl) (hP.sub (ws' := [(rk, .inr (1, [.ref ak, .int (nI nk)])), (ak, .inl (kk, 100, .inl fk))]) [3, 4] rfl) rfl rfl) rfl rfl hl.1 rfl (lv_room (Nat.le_of_ble_eq_true rfl)) dX3_counts_13 ⟨Nat.le_of_ble_eq_true rfl, Nat.le_of_ble_eq_true rfl⟩)) (fun r2 hr2 => ?_)
    subst hr2
    refine lv_lstore_n (lv' := [(3, .long (lN (kn fk nk))), (0, .ref g), (1, .int (mn)), (2, .int (rl))]) hx hb dX3_counts_16 rfl hl (by decide) rfl (fun ls hl => ?_)
    refine lv_iload_n hx hb dX3_counts_17 rfl (lv_at hl 3 rfl) ?_
    by_cases sw18_0 : rl = 0
    · skip
      refine lv_tableIn (off := 38) (tgt := 56) hx hb dX3_counts_18 (by rw [sw18_0]; decide) (by rw [sw18_0]; decide) (by rw [sw18_0]; decide) (by decide) ?_
      refine lv_iload_n hx hb dX3_counts_56 rfl (lv_at hl 2 rfl) ?_
      refine lv_i2l hx hb dX3_counts_57 rfl ?_
      refine lv_lload_n hx hb dX3_counts_58 rfl (lv_at hl 0 rfl) ?_
      refine W.lcmp hx hb dX3_counts_59 ?_
      refine lv_if_le (tgt := 67) hx hb dX3_counts_60 (by decide) (fun c60_2 => ?_) (fun c60_2 => ?_)
      · skip
        rw [lg_cmp_le, tl_le] at c60_2
        rw [i64, pk_lT (by omega)] at c60_2
        refine lv_iconst (v := 0) hx hb dX3_counts_67 (by decide) ?_
        subst hQ
        exact W.zret (v := 0) hx hb hr (by decide) (fun t ht hW => ⟨_, rfl, (by rw [sw18_0, cs_0 q0]; exact bf0 (by omega)), ht⟩) (fun _ h => absurd h List.not_mem_nil) dX3_counts_68
      · skip
        rw [lg_cmp_le, tl_le] at c60_2
        rw [i64, pk_lT (by omega)] at c60_2
        refine lv_iconst (v := 1) hx hb dX3_counts_63 (by decide) ?_
        refine lv_goto (tgt := 68) hx hb dX3_counts_64 (by decide) ?_
        subst hQ
        exact W.zret (v := 1) hx hb hr (by decide) (fun t ht hW => ⟨_, rfl, (by rw [sw18_0, cs_0 q0]; exact bf1 (by omega)), ht⟩) (fun _ h => absurd h List.not_mem_nil) dX3_counts_68
    · skip
      by_cases sw18_1 : rl = 1
      · skip
        refine lv_tableIn (off := 51) (tgt := 69) hx hb dX3_counts_18 (by rw [sw18_1]; decide) (by rw [sw18_1]; decide) (by rw [sw18_1]; decide) (by decide) ?_
        refine lv_iload_n hx hb dX3_counts_69 rfl (lv_at hl 2 rfl) ?_
        refine lv_i2l hx hb dX3_counts_70 rfl ?_
        refine lv_lload_n hx hb dX3_counts_71 rfl (lv_at hl 0 rfl) ?_
        refine W.lcmp hx hb dX3_counts_72 ?_
        refine lv_if_lt (tgt := 80) hx hb dX3_counts_73 (by decide) (fun c73_3 => ?_) (fun c73_3 => ?_)
        · skip
          rw [lg_cmp_lt, tl_lt] at c73_3
          rw [i64, pk_lT (by omega)] at c73_3
          refine lv_iconst (v := 0) hx hb dX3_counts_80 (by decide) ?_
          subst hQ
          exact W.zret (v := 0) hx hb hr (by decide) (fun t ht hW => ⟨_, rfl, (by rw [sw18_1, cs_1 q0]; exact bf0 (by omega)), ht⟩) (fun _ h => absurd h List.not_mem_nil) dX3_counts_81
        · skip
          rw [lg_cmp_lt, tl_lt] at c73_3
          rw [i64, pk_lT (by omega)] at c73_3
          refine lv_iconst (v := 1) hx hb dX3_counts_76 (by decide) ?_
          refine lv_goto (tgt := 81) hx hb dX3_counts_77 (by decide) ?_
          subst hQ
          exact W.zret (v := 1) hx hb hr (by decide) (fun t ht hW => ⟨_, rfl, (by rw [sw18_1, cs_1 q0]; exact bf1 (by omega)), ht⟩) (fun _ h => absurd h List.not_mem_nil) dX3_counts_81
      · skip
        by_cases sw18_2 : rl = 2
        · skip
          refine lv_tableIn (off := 64) (tgt := 82) hx hb dX3_counts_18 (by rw [sw18_2]; decide) (by rw [sw18_2]; decide) (by rw [sw18_2]; decide) (by decide) ?_
          refine lv_iload_n hx hb dX3_counts_82 rfl (lv_at hl 2 rfl) ?_
          refine lv_i2l hx hb dX3_counts_83 rfl ?_
          refine lv_lload_n hx hb dX3_counts_84 rfl (lv_at hl 0 rfl) ?_
          refine W.lcmp hx hb dX3_counts_85 ?_
          refine lv_if_ge (tgt := 93) hx hb dX3_counts_86 (by decide) (fun c86_4 => ?_) (fun c86_4 => ?_)
          · skip
            rw [lg_cmp_ge, tl_le] at c86_4
            rw [i64, pk_lT (by omega)] at c86_4
            refine lv_iconst (v := 0) hx hb dX3_counts_93 (by decide) ?_
            subst hQ
            exact W.zret (v := 0) hx hb hr (by decide) (fun t ht hW => ⟨_, rfl, (by rw [sw18_2, cs_2 q0]; exact bf0 (by omega)), ht⟩) (fun _ h => absurd h List.not_mem_nil) dX3_counts_94
          · skip
            rw [lg_cmp_ge, tl_le] at c86_4
            rw [i64, pk_lT (by omega)] at c86_4
            refine lv_iconst (v := 1) hx hb dX3_counts_89 (by decide) ?_
            refine lv_goto (tgt := 94) hx hb dX3_counts_90 (by decide) ?_
            subst hQ
            exact W.zret (v := 1) hx hb hr (by decide) (fun t ht hW => ⟨_, rfl, (by rw [sw18_2, cs_2 q0]; exact bf1 (by omega)), ht⟩) (fun _ h => absurd h List.not_mem_nil) dX3_counts_94
        · skip
          by_cases sw18_3 : rl = 3
          · skip
            refine lv_tableIn (off := 77) (tgt := 95) hx hb dX3_counts_18 (by rw [sw18_3]; decide) (by rw [sw18_3]; decide) (by rw [sw18_3]; decide) (by decide) ?_
            refine lv_iload_n hx hb dX3_counts_95 rfl (lv_at hl 2 rfl) ?_
            refine lv_i2l hx hb dX3_counts_96 rfl ?_
            refine lv_lload_n hx hb dX3_counts_97 rfl (lv_at hl 0 rfl) ?_
            refine W.lcmp hx hb dX3_counts_98 ?_
            refine lv_if_gt (tgt := 106) hx hb dX3_counts_99 (by decide) (fun c99_5 => ?_) (fun c99_5 => ?_)
            · skip
              rw [lg_cmp_gt, tl_lt] at c99_5
              rw [i64, pk_lT (by omega)] at c99_5
              refine lv_iconst (v := 0) hx hb dX3_counts_106 (by decide) ?_
              subst hQ
              exact W.zret (v := 0) hx hb hr (by decide) (fun t ht hW => ⟨_, rfl, (by rw [sw18_3, cs_3 q0]; exact bf0 (by omega)), ht⟩) (fun _ h => absurd h List.not_mem_nil) dX3_counts_107
            · skip
              rw [lg_cmp_gt, tl_lt] at c99_5
              rw [i64, pk_lT (by omega)] at c99_5
              refine lv_iconst (v := 1) hx hb dX3_counts_102 (by decide) ?_
              refine lv_goto (tgt := 107) hx hb dX3_counts_103 (by decide) ?_
              subst hQ
              exact W.zret (v := 1) hx hb hr (by decide) (fun t ht hW => ⟨_, rfl, (by rw [sw18_3, cs_3 q0]; exact bf1 (by omega)), ht⟩) (fun _ h => absurd h List.not_mem_nil) dX3_counts_107
          · skip
            by_cases sw18_4 : rl = 4
            · skip
              refine lv_tableIn (off := 90) (tgt := 108) hx hb dX3_counts_18 (by rw [sw18_4]; decide) (by rw [sw18_4]; decide) (by rw [sw18_4]; decide) (by decide) ?_
              refine lv_iload_n hx hb dX3_counts_108 rfl (lv_at hl 2 rfl) ?_
              refine lv_i2l hx hb dX3_counts_109 rfl ?_
              refine lv_lload_n hx hb dX3_counts_110 rfl (lv_at hl 0 rfl) ?_
              refine W.lcmp hx hb dX3_counts_111 ?_
              refine lv_if_ne (tgt := 119) hx hb dX3_counts_112 (by decide) (fun c112_6 => ?_) (fun c112_6 => ?_)
              · skip
                rw [lg_cmp_eq, tl_eq] at c112_6
                rw [i64, pk_lT (by omega)] at c112_6
                refine lv_iconst (v := 0) hx hb dX3_counts_119 (by decide) ?_
                subst hQ
                exact W.zret (v := 0) hx hb hr (by decide) (fun t ht hW => ⟨_, rfl, (by rw [sw18_4, cs_4 q0]; exact bf0 (by omega)), ht⟩) (fun _ h => absurd h List.not_mem_nil) dX3_counts_120
              · skip
                rw [lg_cmp_eq, tl_eq] at c112_6
                rw [i64, pk_lT (by omega)] at c112_6
                refine lv_iconst (v := 1) hx hb dX3_counts_115 (by decide) ?_
                refine lv_goto (tgt := 120) hx hb dX3_counts_116 (by decide) ?_
                subst hQ
                exact W.zret (v := 1) hx hb hr (by decide) (fun t ht hW => ⟨_, rfl, (by rw [sw18_4, cs_4 q0]; exact bf1 (by omega)), ht⟩) (fun _ h => absurd h List.not_mem_nil) dX3_counts_120
            · skip
              by_cases sw18_5 : rl = 5
              · skip
                refine lv_tableIn (off := 103) (tgt := 121) hx hb dX3_counts_18 (by rw [sw18_5]; decide) (by rw [sw18_5]; decide) (by rw [sw18_5]; decide) (by decide) ?_
                refine lv_iload_n hx hb dX3_counts_121 rfl (lv_at hl 2 rfl) ?_
                refine lv_i2l hx hb dX3_counts_122 rfl ?_
                refine lv_lload_n hx hb dX3_counts_123 rfl (lv_at hl 0 rfl) ?_
                refine W.lcmp hx hb dX3_counts_124 ?_
                refine lv_if_eq (tgt := 132) hx hb dX3_counts_125 (by decide) (fun c125_7 => ?_) (fun c125_7 => ?_)
                · skip
                  rw [lg_cmp_eq, tl_eq] at c125_7
                  rw [i64, pk_lT (by omega)] at c125_7
                  refine lv_iconst (v := 0) hx hb dX3_counts_132 (by decide) ?_
                  subst hQ
                  exact W.zret (v := 0) hx hb hr (by decide) (fun t ht hW => ⟨_, rfl, (by rw [sw18_5, cs_5 q0]; exact bf0 (by omega)), ht⟩) (fun _ h => absurd h List.not_mem_nil) dX3_counts_133
                · skip
                  rw [lg_cmp_eq, tl_eq] at c125_7
                  rw [i64, pk_lT (by omega)] at c125_7
                  refine lv_iconst (v := 1) hx hb dX3_counts_128 (by decide) ?_
                  refine lv_goto (tgt := 133) hx hb dX3_counts_129 (by decide) ?_
                  subst hQ
                  exact W.zret (v := 1) hx hb hr (by decide) (fun t ht hW => ⟨_, rfl, (by rw [sw18_5, cs_5 q0]; exact bf1 (by omega)), ht⟩) (fun _ h => absurd h List.not_mem_nil) dX3_counts_133
              · skip
                have tsw18_0 := lv_neT (a := 0) sw18_0 (by decide)
                have tsw18_1 := lv_neT (a := 1) sw18_1 (by decide)
                have tsw18_2 := lv_neT (a := 2) sw18_2 (by decide)
                have tsw18_3 := lv_neT (a := 3) sw18_3 (by decide)
                have tsw18_4 := lv_neT (a := 4) sw18_4 (by decide)
                have tsw18_5 := lv_neT (a := 5) sw18_5 (by decide)
                refine lv_tableOut (tgt := 134) hx hb dX3_counts_18 (by omega) (by decide) ?_
                refine lv_iconst (v := 0) hx hb dX3_counts_134 (by decide) ?_
                subst hQ
                exact W.zret (v := 0) hx hb hr (by decide) (fun t ht hW => ⟨_, rfl, (by rw [cs_out sw18_0 sw18_1 sw18_2 sw18_3 sw18_4 sw18_5]; rfl), ht⟩) (fun _ h => absurd h List.not_mem_nil) dX3_counts_135
  · skip
    have q0 : ¬ 0 ≤ mn.toInt := by rw [ti_le, tc_0] at c1_0; exact c1_0
    refine lv_iconst (v := 0) hx hb dX3_counts_4 (by decide) ?_
    subst hQ
    exact W.zret (v := 0) hx hb hr (by decide) (fun t ht hW => ⟨_, rfl, (by rw [cs_neg q0]; rfl), ht⟩) (fun _ h => absurd h List.not_mem_nil) dX3_counts_5
end
section
/-- byte i of v -/
def btv (v : Int64) (i : Nat) : Int32 := (((v).toUInt64 >>> (((8) * (nI i)).toInt64.toUInt64 &&& Int64.toUInt64 63)).toInt64).toInt32 &&& (255)
/-- the lowest k bytes of v, the highest first, from n on -/
def apA (v : Int64) : Nat → (Nat → Int32) → Nat → (Nat → Int32)
  | 0, f, _ => f
  | k + 1, f, n => apA v k (upd f n (btv v k)) (n + 1)
/-- whether a put is taken -/
def apOk (n : Nat) (c : Int32) : Prop := 1 ≤ c.toInt ∧ c.toInt ≤ 8 ∧ c.toInt + n ≤ 100
def apF (f : Nat → Int32) (n : Nat) (v : Int64) (c : Int32) : (Nat → Int32) × Nat := if 1 ≤ c.toInt ∧ c.toInt ≤ 8 ∧ c.toInt + n ≤ 100 then (apA v c.toInt.toNat f n, n + c.toInt.toNat) else (f, n)
def apR (n : Nat) (c : Int32) : Int32 := if 1 ≤ c.toInt ∧ c.toInt ≤ 8 ∧ c.toInt + n ≤ 100 then 1 else 0
theorem apF_le {f : Nat → Int32} {n : Nat} {v : Int64} {c : Int32} (hn : n ≤ 100) : (apF f n v c).2 ≤ 100 := by
  unfold apF
  split
  · show n + c.toInt.toNat ≤ 100; omega
  · exact hn
theorem and255 (x : Int32) : 0 ≤ (x &&& 255).toInt ∧ (x &&& 255).toInt ≤ 255 := by
  obtain ⟨j, h1, h2⟩ := pk_andE x (m := 255) 8 rfl
  rw [h2, nI_toInt (by omega)]; omega
theorem apA_rng (v : Int64) : ∀ k f n, (∀ j, j < n → 0 ≤ (f j).toInt ∧ (f j).toInt ≤ 255) → ∀ j, j < n + k → 0 ≤ (apA v k f n j).toInt ∧ (apA v k f n j).toInt ≤ 255
  | 0, f, n, h => h
  | k + 1, f, n, h => by
    intro j hj
    refine apA_rng v k _ (n + 1) ?_ j (by omega)
    intro i hi
    by_cases e : i = n
    · subst e; rw [pk_us]; exact and255 _
    · rw [pk_un e]; exact h i (by omega)
theorem apF_rng {f : Nat → Int32} {n : Nat} {v : Int64} {c : Int32} (h : ∀ j, j < n → 0 ≤ (f j).toInt ∧ (f j).toInt ≤ 255) : ∀ j, j < (apF f n v c).2 → 0 ≤ ((apF f n v c).1 j).toInt ∧ ((apF f n v c).1 j).toInt ≤ 255 := by
  unfold apF
  split
  · exact apA_rng v _ f n h
  · exact h
theorem nI_dec (k : Nat) : nI k + Int32.ofInt (-1) = nI k - 1 := by rw [Int32.sub_eq_add_neg]; rfl
theorem nI_m1_neg {k : Nat} (hk : k ≤ 100) (h : nI k - 1 < 0) : k = 0 := by
  cases k with
  | zero => rfl
  | succ k => rw [nI_pred, ti_lt, nI_toInt (by omega), tc_0] at h; omega
theorem nI_m1_pos {k : Nat} (h : ¬ nI k - 1 < 0) : ∃ j, k = j + 1 := by
  cases k with
  | zero => exact absurd (by decide) h
  | succ k => exact ⟨k, rfl⟩
/-- a pattern's marks out of a key -/
def mkL (k : Nat → Int32) (nk : Nat) : Nat → Nat → List Int32
  | 0, _ => []
  | r + 1, i => if i < nk then (if k i = 92 ∧ i + 1 < nk then k (i + 1) :: mkL k nk r (i + 2) else (if k i = 42 then 257 else if k i = 63 then 256 else k i) :: mkL k nk r (i + 1)) else []
theorem mkL_end {k : Nat → Int32} {nk r i : Nat} (h : nk ≤ i) : mkL k nk r i = [] := by
  cases r with
  | zero => rfl
  | succ r => unfold mkL; rw [if_neg (by omega)]
theorem mkL_esc {k : Nat → Int32} {nk r i : Nat} (h : k i = 92) (h2 : i + 1 < nk) (hr : nk ≤ r + i) : mkL k nk r i = k (i + 1) :: mkL k nk (r - 1) (i + 2) := by
  cases r with
  | zero => omega
  | succ r => conv => lhs; unfold mkL
              rw [if_pos (by omega), if_pos ⟨h, h2⟩]; rfl
theorem mkL_one {k : Nat → Int32} {nk r i : Nat} (h : ¬ (k i = 92 ∧ i + 1 < nk)) (h2 : i < nk) (hr : nk ≤ r + i) : mkL k nk r i = (if k i = 42 then 257 else if k i = 63 then 256 else k i) :: mkL k nk (r - 1) (i + 1) := by
  cases r with
  | zero => omega
  | succ r => conv => lhs; unfold mkL
              rw [if_pos h2, if_neg h]; rfl
/-- the places of f hold the list -/
def hlds (f : Nat → Int32) (l : List Int32) : Prop := ∀ j, j < l.length → f j = l.getD j 0
theorem hlds_0 {f : Nat → Int32} : hlds f [] := fun j h => absurd h (Nat.not_lt_zero _)
theorem hlds_add {f : Nat → Int32} {l : List Int32} {n : Nat} {x : Int32} (h : hlds f l) (hn : n = l.length) : hlds (upd f n x) (l ++ [x]) := by
  intro j hj
  rw [List.length_append, List.length_singleton] at hj
  subst hn
  by_cases e : j = l.length
  · subst e; rw [pk_us]; simp
  · rw [pk_un e, h j (by omega)]
    have : j < l.length := by omega
    simp [List.getElem?_append_left this]
end
section
abbrev rm_c_Row_append : Room := { frames := 0, cells := 0, slots := 0, locals := 0 }
set_option maxHeartbeats 4000000 in
set_option maxRecDepth 100000 in
theorem c_Row_append (l : Launch) (dC : Nat → ClassId) (dI : Nat → Nat → Nat) (sz : Nat) (h0 q : Nat) (k : ClassId) (f : Nat → Int32) (n : Nat) (hn : n ≤ 100) (v : Int64) (ct : Int32) : Met l yX1_append (.code yX1_append cX1_append 5 (some (.boolean)) :: wsA) rm_c_Row_append (va_Pc [.ref h0, .long (v), .int (ct)] (wr (dC, dI) [(h0, .inr (1, [.ref q, .int (nI n)])), (q, .inl (k, 100, .inl f))] [(k, .int)] sz)) (va_Qi (fun (r : Int32) (u : (Nat → Int32) × Nat) => r = apR n ct ∧ u = apF f n v ct) (wB (dC, dI) (va_A [(h0, .inr (1, [.ref q, .int (nI n)])), (q, .inl (k, 100, .inl f))] sz) (fun u : (Nat → Int32) × Nat => [(h0, .inr (1, [.ref q, .int (nI u.2)])), (q, .inl (k, 100, .inl (u.1)))])) (va_A [(h0, .inr (1, [.ref q, .int (nI n)])), (q, .inl (k, 100, .inl f))] sz)) 0 0 (va_A [(h0, .inr (1, [.ref q, .int (nI n)])), (q, .inl (k, 100, .inl f))] sz) := by
  refine Met.ofW (cc := cX1_append) (maxL := 5) (ret := (some (.boolean))) (by decide) rfl ?_
  intro p e s m args below meth c s₁ B hml hv
  obtain ⟨hargs, hsz, hN, hP, hK, hD0⟩ := hv
  have hx := B.exec
  have hb := B.bytes
  have hr := B.returns
  have hw : ∀ w ∈ wsA, w.before args s = true := fun w h => atoms_spec (ws := (.code yX1_append cX1_append 5 (some (.boolean)) :: wsA)) B.pre w (List.mem_cons_of_mem _ h)
  have hown : s.vm.findClass "GlobDesk$Row" = some m.cls := findClass_of_methodNamed B.named
  have hlocks := B.notSynchronized
  subst hsz
  have hD := hD0.self (sz := s.heap.size)
  generalize hAe : va_A [(h0, .inr (1, [.ref q, .int (nI n)])), (q, .inl (k, 100, .inl f))] s.heap.size = A at hD ⊢
  have hA : ∀ q : Nat, s.heap.size ≤ q → A q := fun q h => by rw [← hAe]; exact Or.inr h
  have hS : va_S A s.heap s.heap [] := va_S.rf
  generalize hQ : MQ below _ args s _ _ _ = Q
  change W p l e rm_c_Row_append s m args below meth c s.heap [] 0 0 Q (entryFrame m args 5)
  have hl := lv_entry ([.ref h0, .long (v), .int (ct)]) (n := 5) (Nat.le_of_ble_eq_true rfl)
  rw [show entryFrame m args 5 = entryFrame m ([.ref h0, .long (v), .int (ct)] : List Value).toArray 5 from by rw [hargs], lg_entry_eq]
  generalize (lg_sl ([.ref h0, .long (v), .int (ct)]) ++ List.replicate (5 - (lg_sl ([.ref h0, .long (v), .int (ct)])).length) Slot.unset).toArray = ls at hl ⊢
  have hl : lv_has ls 5 [(0, .ref h0), (1, .long (v)), (3, .int (ct))] := hl
  refine lv_iload_n hx hb dX1_append_0 rfl (lv_at hl 2 rfl) ?_
  refine lv_iconst (v := 1) hx hb dX1_append_1 (by decide) ?_
  refine lv_icmp_lt (tgt := 25) hx hb dX1_append_2 (by decide) (fun c2_0 => ?_) (fun c2_0 => ?_)
  · skip
    rw [ti_lt, tc_1] at c2_0
    have q0 : ¬ (1 ≤ ct.toInt ∧ ct.toInt ≤ 8 ∧ ct.toInt + n ≤ 100) := by omega
    refine lv_iconst (v := 0) hx hb dX1_append_25 (by decide) ?_
    subst hQ
    exact W.zret (v := 0) hx hb hr (by decide) (fun t ht hW => ⟨⟨_, (f, n), rfl, ⟨(if_neg q0).symm, (if_neg q0).symm⟩, by rw [ht]; exact hP, hD⟩, hS.F ht⟩) hS.2.2 dX1_append_26
  · skip
    rw [ti_lt, tc_1] at c2_0
    refine lv_iload_n hx hb dX1_append_5 rfl (lv_at hl 2 rfl) ?_
    refine lv_bipush (v := 8) hx hb dX1_append_6 (by decide) ?_
    refine lv_icmp_gt (tgt := 25) hx hb dX1_append_8 (by decide) (fun c8_1 => ?_) (fun c8_1 => ?_)
    · skip
      rw [ti_lt, tc_8] at c8_1
      have q0 : ¬ (1 ≤ ct.toInt ∧ ct.toInt ≤ 8 ∧ ct.toInt + n ≤ 100) := by omega
      refine lv_iconst (v := 0) hx hb dX1_append_25 (by decide) ?_
      subst hQ
      exact W.zret (v := 0) hx hb hr (by decide) (fun t ht hW => ⟨⟨_, (f, n), rfl, ⟨(if_neg q0).symm, (if_neg q0).symm⟩, by rw [ht]; exact hP, hD⟩, hS.F ht⟩) hS.2.2 dX1_append_26
    · skip
      rw [ti_lt, tc_8] at c8_1
      refine lv_iload_n hx hb dX1_append_11 rfl (lv_at hl 2 rfl) ?_
      refine lv_aload_n hx hb dX1_append_12 rfl (lv_at hl 0 rfl) ?_
      refine va_get (D := (dC, dI)) (ci := 1) (v := .ref q) (C := RX1) (T := TX1) (N := 2) hx hb hw inX1 hown hK hP 0 rfl rfl 0 (by decide) (hw _ mw36) (fun _ h9 => h9) rfl dX1_append_13 ?_
      refine va_alen (v := 100) hx hb hK hP 1 0 rfl rfl rfl dX1_append_16 ?_
      refine lv_aload_n hx hb dX1_append_17 rfl (lv_at hl 0 rfl) ?_
      refine va_get (D := (dC, dI)) (ci := 1) (v := .int (nI n)) (C := RX1) (T := TX1) (N := 2) hx hb hw inX1 hown hK hP 0 rfl rfl 1 (by decide) (hw _ mw37) (fun _ h9 => h9) rfl dX1_append_18 ?_
      refine lv_isub hx hb dX1_append_21 ?_
      refine lv_topi (fun x3 ex3 => ?_)
      obtain rfl : x3 = nI (100 - n) := by rw [ex3]; exact pk_sub hn
      refine lv_icmp_le (tgt := 27) hx hb dX1_append_22 (by decide) (fun c22_3 => ?_) (fun c22_3 => ?_)
      · skip
        rw [ti_le, nI_toInt (by omega)] at c22_3
        have q0 : 1 ≤ ct.toInt ∧ ct.toInt ≤ 8 ∧ ct.toInt + n ≤ 100 := by omega
        refine lv_iload_n hx hb dX1_append_27 rfl (lv_at hl 2 rfl) ?_
        refine lv_iconst (v := 1) hx hb dX1_append_28 (by decide) ?_
        refine lv_isub hx hb dX1_append_29 ?_
        refine lv_topi (fun x5 ex5 => ?_)
        obtain rfl : x5 = (nI ct.toInt.toNat) - (1) := by rw [ex5]; exact congrArg (fun z : Int32 => z - 1) (Int32.toInt_inj.mp (by rw [nI_toInt (by omega)]; omega))
        refine lv_istore (lv' := [(4, .int ((nI ct.toInt.toNat) - (1))), (0, .ref h0), (1, .long (v)), (3, .int (ct))]) hx hb dX1_append_30 hl (by decide) rfl (fun ls hl => ?_)
        have loop32 : ∀ (nn32 : Nat) (i n1 : Nat) (f1 : Nat → Int32) (hi : n1 + i = n + ct.toInt.toNat) (hn1 : n ≤ n1) (e9 : apA v i f1 n1 = apA v ct.toInt.toNat f n) (_ : i < nn32) (H : Heap) (locs : List Loc) (_ : va_P (dC, dI) cl5 [(h0, .inr (1, [.ref q, .int (nI n1)])), (q, .inl (k, 100, .inl f1))] H) (_ : va_D A [(h0, .inr (1, [.ref q, .int (nI n1)])), (q, .inl (k, 100, .inl f1))]) (_ : va_S A s.heap H locs) (ls : Array Slot) (_ : lv_has ls 5 [(0, .ref h0), (1, .long (v)), (4, .int ((nI i) - (1)))]), W p l e rm_c_Row_append s m args below meth c H locs 0 0 Q (F0 m 32 ls []) := by
          intro nn32
          induction nn32 with
          | zero => intro i n1 f1 hi hn1 e9 hm32 H locs hP hD hS ls hl; exact absurd hm32 (Nat.not_lt_zero _)
          | succ nn32 ih32 =>
            intro i n1 f1 hi hn1 e9 hm32 H locs hP hD hS ls hl
            refine lv_iload hx hb dX1_append_32 (lv_at hl 2 rfl) ?_
            refine lv_if_lt (tgt := 74) hx hb dX1_append_34 (by decide) (fun c34_5 => ?_) (fun c34_5 => ?_)
            · skip
              have e8 := nI_m1_neg (by omega) c34_5
              refine lv_iconst (v := 1) hx hb dX1_append_74 (by decide) ?_
              subst hQ
              exact W.zret (v := 1) hx hb hr (by decide) (fun t ht hW => ⟨⟨_, (f1, n1), rfl, ⟨(if_pos q0).symm, by unfold apF; rw [if_pos q0, ← e9, e8, show n1 = n + ct.toInt.toNat from by omega]; rfl⟩, by rw [ht]; exact hP, hD⟩, hS.F ht⟩) hS.2.2 dX1_append_75
            · skip
              obtain ⟨j, rfl⟩ := nI_m1_pos c34_5
              rw [nI_pred] at hl
              refine lv_aload_n hx hb dX1_append_37 rfl (lv_at hl 0 rfl) ?_
              refine va_get (D := (dC, dI)) (ci := 1) (v := .ref q) (C := RX1) (T := TX1) (N := 2) hx hb hw inX1 hown hK hP 0 rfl rfl 0 (by decide) (hw _ mw36) (fun _ h9 => h9) rfl dX1_append_38 ?_
              refine lv_aload_n hx hb dX1_append_41 rfl (lv_at hl 0 rfl) ?_
              refine va_get (D := (dC, dI)) (ci := 1) (v := .int (nI n1)) (C := RX1) (T := TX1) (N := 2) hx hb hw inX1 hown hK hP 0 rfl rfl 1 (by decide) (hw _ mw37) (fun _ h9 => h9) rfl dX1_append_42 ?_
              refine lv_lload_n hx hb dX1_append_45 rfl (lv_at hl 1 rfl) ?_
              refine lv_bipush (v := 8) hx hb dX1_append_46 (by decide) ?_
              refine lv_iload hx hb dX1_append_48 (lv_at hl 2 rfl) ?_
              refine lv_imul hx hb dX1_append_50 ?_
              refine lv_lushr hx hb dX1_append_51 rfl ?_
              refine lv_l2i hx hb dX1_append_52 rfl ?_
              refine lv_sipush (v := 255) hx hb dX1_append_53 (by decide) ?_
              refine lv_iand hx hb dX1_append_56 ?_
              refine lv_topi (fun x7 ex7 => ?_)
              obtain rfl : x7 = btv v j := by rw [ex7]; rfl
              refine va_iast hx hb hK hP hD hS 1 0 rfl rfl (i := (nI n1)) (vp_in_nI (by omega) (by omega)) dX1_append_57 (fun H locs hP hD hS => ?_)
              rw [nI_clamp (show n1 < 2 ^ 31 by omega)] at hP hD
              have hP : va_P (dC, dI) cl5 [(h0, .inr (1, [.ref q, .int (nI n1)])), (q, .inl (k, 100, .inl (upd f1 n1 (btv v j))))] H := hP
              have hD : va_D A [(h0, .inr (1, [.ref q, .int (nI n1)])), (q, .inl (k, 100, .inl (upd f1 n1 (btv v j))))] := hD
              refine lv_aload_n hx hb dX1_append_58 rfl (lv_at hl 0 rfl) ?_
              refine lv_dup hx hb dX1_append_59 rfl ?_
              refine va_get (D := (dC, dI)) (ci := 1) (v := .int (nI n1)) (C := RX1) (T := TX1) (N := 2) hx hb hw inX1 hown hK hP 0 rfl rfl 1 (by decide) (hw _ mw37) (fun _ h9 => h9) rfl dX1_append_60 ?_
              refine lv_iconst (v := 1) hx hb dX1_append_63 (by decide) ?_
              refine lv_iadd hx hb dX1_append_64 ?_
              refine lv_topi (fun x8 ex8 => ?_)
              obtain rfl : x8 = nI (n1 + 1) := by rw [ex8]; exact nI_1 n1
              refine va_put (D := (dC, dI)) (ci := 1) (v := .int (nI (n1 + 1))) (ty := .int) (C := RX1) (T := TX1) (N := 2) hx hb hw inX1 tyX1 tyX1_ok nmX1 hown hK hP hD hS 0 rfl rfl 1 (by decide) (hw _ mw37) (fun _ h9 => h9) rfl (by decide +kernel) rfl rfl (Nat.le_of_ble_eq_true rfl) dX1_append_65 (fun H locs hP hD hS => ?_)
              have hP : va_P (dC, dI) cl5 [(h0, .inr (1, [.ref q, .int (nI (n1 + 1))])), (q, .inl (k, 100, .inl (upd f1 n1 (btv v j))))] H := hP
              have hD : va_D A [(h0, .inr (1, [.ref q, .int (nI (n1 + 1))])), (q, .inl (k, 100, .inl (upd f1 n1 (btv v j))))] := hD
              refine lv_iinc (v := (nI j) - (1)) (lv' := [(4, .int ((nI j) - (1))), (0, .ref h0), (1, .long (v))]) hx hb dX1_append_68 hl (k := 2) rfl (nI_dec j) (by decide) rfl (fun ls hl => ?_)
              refine lv_goto (tgt := 32) hx hb dX1_append_71 (by decide) ?_
              exact ih32 j (n1 + 1) (upd f1 n1 (btv v j)) (by omega) (by omega) e9 (by omega) H locs hP hD hS ls (lv_sub hl [1, 2, 0] rfl)
        exact loop32 (ct.toInt.toNat + 1) ct.toInt.toNat n f rfl (Nat.le_refl _) rfl (by omega) s.heap [] hP hD hS ls (lv_sub hl [1, 2, 0] rfl)
      · skip
        rw [ti_le, nI_toInt (by omega)] at c22_3
        have q0 : ¬ (1 ≤ ct.toInt ∧ ct.toInt ≤ 8 ∧ ct.toInt + n ≤ 100) := by omega
        refine lv_iconst (v := 0) hx hb dX1_append_25 (by decide) ?_
        subst hQ
        exact W.zret (v := 0) hx hb hr (by decide) (fun t ht hW => ⟨⟨_, (f, n), rfl, ⟨(if_neg q0).symm, (if_neg q0).symm⟩, by rw [ht]; exact hP, hD⟩, hS.F ht⟩) hS.2.2 dX1_append_26

abbrev rm_c_Pat_append : Room := { frames := 0, cells := 0, slots := 0, locals := 0 }
set_option maxHeartbeats 4000000 in
set_option maxRecDepth 100000 in
theorem c_Pat_append (l : Launch) (dC : Nat → ClassId) (dI : Nat → Nat → Nat) (sz : Nat) (h0 q : Nat) (k : ClassId) (f : Nat → Int32) (n : Nat) (hn : n < 100) (x : Int32) : Met l yX0_append (.code yX0_append cX0_append 2 none :: wsA) rm_c_Pat_append (va_Pc [.ref h0, .int (x)] (wr (dC, dI) [(h0, .inr (0, [.ref q, .int (nI n)])), (q, .inl (k, 100, .inl f))] [(k, .int)] sz)) (va_Qv (fun (u : (Nat → Int32) × Nat) => u = (upd f n x, n + 1)) (wB (dC, dI) (va_A [(h0, .inr (0, [.ref q, .int (nI n)])), (q, .inl (k, 100, .inl f))] sz) (fun u : (Nat → Int32) × Nat => [(h0, .inr (0, [.ref q, .int (nI u.2)])), (q, .inl (k, 100, .inl (u.1)))])) (va_A [(h0, .inr (0, [.ref q, .int (nI n)])), (q, .inl (k, 100, .inl f))] sz)) 0 0 (va_A [(h0, .inr (0, [.ref q, .int (nI n)])), (q, .inl (k, 100, .inl f))] sz) := by
  refine Met.ofW (cc := cX0_append) (maxL := 2) (ret := none) (by decide) rfl ?_
  intro p e s m args below meth c s₁ B hml hv
  obtain ⟨hargs, hsz, hN, hP, hK, hD0⟩ := hv
  have hx := B.exec
  have hb := B.bytes
  have hr := B.returns
  have hw : ∀ w ∈ wsA, w.before args s = true := fun w h => atoms_spec (ws := (.code yX0_append cX0_append 2 none :: wsA)) B.pre w (List.mem_cons_of_mem _ h)
  have hown : s.vm.findClass "GlobDesk$Pattern" = some m.cls := findClass_of_methodNamed B.named
  have hlocks := B.notSynchronized
  subst hsz
  have hD := hD0.self (sz := s.heap.size)
  generalize hAe : va_A [(h0, .inr (0, [.ref q, .int (nI n)])), (q, .inl (k, 100, .inl f))] s.heap.size = A at hD ⊢
  have hA : ∀ q : Nat, s.heap.size ≤ q → A q := fun q h => by rw [← hAe]; exact Or.inr h
  have hS : va_S A s.heap s.heap [] := va_S.rf
  generalize hQ : MQ below _ args s _ _ _ = Q
  change W p l e rm_c_Pat_append s m args below meth c s.heap [] 0 0 Q (entryFrame m args 2)
  have hl := lv_entry ([.ref h0, .int (x)]) (n := 2) (Nat.le_of_ble_eq_true rfl)
  rw [show entryFrame m args 2 = entryFrame m ([.ref h0, .int (x)] : List Value).toArray 2 from by rw [hargs], lg_entry_eq]
  generalize (lg_sl ([.ref h0, .int (x)]) ++ List.replicate (2 - (lg_sl ([.ref h0, .int (x)])).length) Slot.unset).toArray = ls at hl ⊢
  have hl : lv_has ls 2 [(0, .ref h0), (1, .int (x))] := hl
  refine lv_aload_n hx hb dX0_append_0 rfl (lv_at hl 0 rfl) ?_
  refine va_get (D := (dC, dI)) (ci := 0) (v := .int (nI n)) (C := RX0) (T := TX0) (N := 2) hx hb hw inX0 hown hK hP 0 rfl rfl 1 (by decide) (hw _ mw53) (fun _ h9 => h9) rfl dX0_append_1 ?_
  refine lv_aload_n hx hb dX0_append_4 rfl (lv_at hl 0 rfl) ?_
  refine va_get (D := (dC, dI)) (ci := 0) (v := .ref q) (C := RX0) (T := TX0) (N := 2) hx hb hw inX0 hown hK hP 0 rfl rfl 0 (by decide) (hw _ mw52) (fun _ h9 => h9) rfl dX0_append_5 ?_
  refine va_alen (v := 100) hx hb hK hP 1 0 rfl rfl rfl dX0_append_8 ?_
  refine lv_icmp_ge (tgt := 32) hx hb dX0_append_9 (by decide) (fun c9_0 => ?_) (fun c9_0 => ?_)
  · skip
    exact absurd c9_0 (by rw [ti_le, nI_toInt (by omega), tc_100]; omega)
  · skip
    refine lv_aload_n hx hb dX0_append_12 rfl (lv_at hl 0 rfl) ?_
    refine va_get (D := (dC, dI)) (ci := 0) (v := .ref q) (C := RX0) (T := TX0) (N := 2) hx hb hw inX0 hown hK hP 0 rfl rfl 0 (by decide) (hw _ mw52) (fun _ h9 => h9) rfl dX0_append_13 ?_
    refine lv_aload_n hx hb dX0_append_16 rfl (lv_at hl 0 rfl) ?_
    refine va_get (D := (dC, dI)) (ci := 0) (v := .int (nI n)) (C := RX0) (T := TX0) (N := 2) hx hb hw inX0 hown hK hP 0 rfl rfl 1 (by decide) (hw _ mw53) (fun _ h9 => h9) rfl dX0_append_17 ?_
    refine lv_iload_n hx hb dX0_append_20 rfl (lv_at hl 1 rfl) ?_
    refine va_iast hx hb hK hP hD hS 1 0 rfl rfl (i := (nI n)) (vp_in_nI (by omega) (by omega)) dX0_append_21 (fun H locs hP hD hS => ?_)
    rw [nI_clamp (show n < 2 ^ 31 by omega)] at hP hD
    have hP : va_P (dC, dI) cl5 [(h0, .inr (0, [.ref q, .int (nI n)])), (q, .inl (k, 100, .inl (upd f n (x))))] H := hP
    have hD : va_D A [(h0, .inr (0, [.ref q, .int (nI n)])), (q, .inl (k, 100, .inl (upd f n (x))))] := hD
    refine lv_aload_n hx hb dX0_append_22 rfl (lv_at hl 0 rfl) ?_
    refine lv_dup hx hb dX0_append_23 rfl ?_
    refine va_get (D := (dC, dI)) (ci := 0) (v := .int (nI n)) (C := RX0) (T := TX0) (N := 2) hx hb hw inX0 hown hK hP 0 rfl rfl 1 (by decide) (hw _ mw53) (fun _ h9 => h9) rfl dX0_append_24 ?_
    refine lv_iconst (v := 1) hx hb dX0_append_27 (by decide) ?_
    refine lv_iadd hx hb dX0_append_28 ?_
    refine lv_topi (fun x2 ex2 => ?_)
    obtain rfl : x2 = nI (n + 1) := by rw [ex2]; exact nI_1 n
    refine va_put (D := (dC, dI)) (ci := 0) (v := .int (nI (n + 1))) (ty := .int) (C := RX0) (T := TX0) (N := 2) hx hb hw inX0 tyX0 tyX0_ok nmX0 hown hK hP hD hS 0 rfl rfl 1 (by decide) (hw _ mw53) (fun _ h9 => h9) rfl (by decide +kernel) rfl rfl (Nat.le_of_ble_eq_true rfl) dX0_append_29 (fun H locs hP hD hS => ?_)
    have hP : va_P (dC, dI) cl5 [(h0, .inr (0, [.ref q, .int (nI (n + 1))])), (q, .inl (k, 100, .inl (upd f n (x))))] H := hP
    have hD : va_D A [(h0, .inr (0, [.ref q, .int (nI (n + 1))])), (q, .inl (k, 100, .inl (upd f n (x))))] := hD
    subst hQ
    exact W.vret hx hb hr (fun t ht hW => ⟨⟨(upd f n x, n + 1), rfl, rfl, by rw [ht]; exact hP, hD⟩, hS.F ht⟩) hS.2.2 dX0_append_32

abbrev rm_c_Sp_append : Room := { frames := 0, cells := 0, slots := 0, locals := 0 }
set_option maxHeartbeats 4000000 in
set_option maxRecDepth 100000 in
theorem c_Sp_append (l : Launch) (dC : Nat → ClassId) (dI : Nat → Nat → Nat) (sz : Nat) (h0 q1 q2 : Nat) (k1 k2 : ClassId) (f g : Nat → Int32) (n : Nat) (hn : n < 100) (x y : Int32) : Met l yX2_append (.code yX2_append cX2_append 3 none :: wsA) rm_c_Sp_append (va_Pc [.ref h0, .int (x), .int (y)] (wr (dC, dI) [(h0, .inr (2, [.ref q1, .ref q2, .int (nI n)])), (q1, .inl (k1, 100, .inl f)), (q2, .inl (k2, 100, .inl g))] [(k1, .int), (k2, .int)] sz)) (va_Qv (fun (u : (Nat → Int32) × (Nat → Int32) × Nat) => u = (upd f n x, upd g n y, n + 1)) (wB (dC, dI) (va_A [(h0, .inr (2, [.ref q1, .ref q2, .int (nI n)])), (q1, .inl (k1, 100, .inl f)), (q2, .inl (k2, 100, .inl g))] sz) (fun u : (Nat → Int32) × (Nat → Int32) × Nat => [(h0, .inr (2, [.ref q1, .ref q2, .int (nI u.2.2)])), (q1, .inl (k1, 100, .inl (u.1))), (q2, .inl (k2, 100, .inl (u.2.1)))])) (va_A [(h0, .inr (2, [.ref q1, .ref q2, .int (nI n)])), (q1, .inl (k1, 100, .inl f)), (q2, .inl (k2, 100, .inl g))] sz)) 0 0 (va_A [(h0, .inr (2, [.ref q1, .ref q2, .int (nI n)])), (q1, .inl (k1, 100, .inl f)), (q2, .inl (k2, 100, .inl g))] sz) := by
  refine Met.ofW (cc := cX2_append) (maxL := 3) (ret := none) (by decide) rfl ?_
  intro p e s m args below meth c s₁ B hml hv
  obtain ⟨hargs, hsz, hN, hP, hK, hD0⟩ := hv
  have hx := B.exec
  have hb := B.bytes
  have hr := B.returns
  have hw : ∀ w ∈ wsA, w.before args s = true := fun w h => atoms_spec (ws := (.code yX2_append cX2_append 3 none :: wsA)) B.pre w (List.mem_cons_of_mem _ h)
  have hown : s.vm.findClass "GlobDesk$Spans" = some m.cls := findClass_of_methodNamed B.named
  have hlocks := B.notSynchronized
  subst hsz
  have hD := hD0.self (sz := s.heap.size)
  generalize hAe : va_A [(h0, .inr (2, [.ref q1, .ref q2, .int (nI n)])), (q1, .inl (k1, 100, .inl f)), (q2, .inl (k2, 100, .inl g))] s.heap.size = A at hD ⊢
  have hA : ∀ q : Nat, s.heap.size ≤ q → A q := fun q h => by rw [← hAe]; exact Or.inr h
  have hS : va_S A s.heap s.heap [] := va_S.rf
  generalize hQ : MQ below _ args s _ _ _ = Q
  change W p l e rm_c_Sp_append s m args below meth c s.heap [] 0 0 Q (entryFrame m args 3)
  have hl := lv_entry ([.ref h0, .int (x), .int (y)]) (n := 3) (Nat.le_of_ble_eq_true rfl)
  rw [show entryFrame m args 3 = entryFrame m ([.ref h0, .int (x), .int (y)] : List Value).toArray 3 from by rw [hargs], lg_entry_eq]
  generalize (lg_sl ([.ref h0, .int (x), .int (y)]) ++ List.replicate (3 - (lg_sl ([.ref h0, .int (x), .int (y)])).length) Slot.unset).toArray = ls at hl ⊢
  have hl : lv_has ls 3 [(0, .ref h0), (1, .int (x)), (2, .int (y))] := hl
  refine lv_aload_n hx hb dX2_append_0 rfl (lv_at hl 0 rfl) ?_
  refine va_get (D := (dC, dI)) (ci := 2) (v := .int (nI n)) (C := RX2) (T := TX2) (N := 3) hx hb hw inX2 hown hK hP 0 rfl rfl 2 (by decide) (hw _ mw68) (fun _ h9 => h9) rfl dX2_append_1 ?_
  refine lv_aload_n hx hb dX2_append_4 rfl (lv_at hl 0 rfl) ?_
  refine va_get (D := (dC, dI)) (ci := 2) (v := .ref q1) (C := RX2) (T := TX2) (N := 3) hx hb hw inX2 hown hK hP 0 rfl rfl 0 (by decide) (hw _ mw66) (fun _ h9 => h9) rfl dX2_append_5 ?_
  refine va_alen (v := 100) hx hb hK hP 1 0 rfl rfl rfl dX2_append_8 ?_
  refine lv_icmp_ge (tgt := 42) hx hb dX2_append_9 (by decide) (fun c9_0 => ?_) (fun c9_0 => ?_)
  · skip
    exact absurd c9_0 (by rw [ti_le, nI_toInt (by omega), tc_100]; omega)
  · skip
    refine lv_aload_n hx hb dX2_append_12 rfl (lv_at hl 0 rfl) ?_
    refine va_get (D := (dC, dI)) (ci := 2) (v := .ref q1) (C := RX2) (T := TX2) (N := 3) hx hb hw inX2 hown hK hP 0 rfl rfl 0 (by decide) (hw _ mw66) (fun _ h9 => h9) rfl dX2_append_13 ?_
    refine lv_aload_n hx hb dX2_append_16 rfl (lv_at hl 0 rfl) ?_
    refine va_get (D := (dC, dI)) (ci := 2) (v := .int (nI n)) (C := RX2) (T := TX2) (N := 3) hx hb hw inX2 hown hK hP 0 rfl rfl 2 (by decide) (hw _ mw68) (fun _ h9 => h9) rfl dX2_append_17 ?_
    refine lv_iload_n hx hb dX2_append_20 rfl (lv_at hl 1 rfl) ?_
    refine va_iast hx hb hK hP hD hS 1 0 rfl rfl (i := (nI n)) (vp_in_nI (by omega) (by omega)) dX2_append_21 (fun H locs hP hD hS => ?_)
    rw [nI_clamp (show n < 2 ^ 31 by omega)] at hP hD
    have hP : va_P (dC, dI) cl5 [(h0, .inr (2, [.ref q1, .ref q2, .int (nI n)])), (q1, .inl (k1, 100, .inl (upd f n (x)))), (q2, .inl (k2, 100, .inl g))] H := hP
    have hD : va_D A [(h0, .inr (2, [.ref q1, .ref q2, .int (nI n)])), (q1, .inl (k1, 100, .inl (upd f n (x)))), (q2, .inl (k2, 100, .inl g))] := hD
    refine lv_aload_n hx hb dX2_append_22 rfl (lv_at hl 0 rfl) ?_
    refine va_get (D := (dC, dI)) (ci := 2) (v := .ref q2) (C := RX2) (T := TX2) (N := 3) hx hb hw inX2 hown hK hP 0 rfl rfl 1 (by decide) (hw _ mw67) (fun _ h9 => h9) rfl dX2_append_23 ?_
    refine lv_aload_n hx hb dX2_append_26 rfl (lv_at hl 0 rfl) ?_
    refine va_get (D := (dC, dI)) (ci := 2) (v := .int (nI n)) (C := RX2) (T := TX2) (N := 3) hx hb hw inX2 hown hK hP 0 rfl rfl 2 (by decide) (hw _ mw68) (fun _ h9 => h9) rfl dX2_append_27 ?_
    refine lv_iload_n hx hb dX2_append_30 rfl (lv_at hl 2 rfl) ?_
    refine va_iast hx hb hK hP hD hS 2 1 rfl rfl (i := (nI n)) (vp_in_nI (by omega) (by omega)) dX2_append_31 (fun H locs hP hD hS => ?_)
    rw [nI_clamp (show n < 2 ^ 31 by omega)] at hP hD
    have hP : va_P (dC, dI) cl5 [(h0, .inr (2, [.ref q1, .ref q2, .int (nI n)])), (q1, .inl (k1, 100, .inl (upd f n (x)))), (q2, .inl (k2, 100, .inl (upd g n (y))))] H := hP
    have hD : va_D A [(h0, .inr (2, [.ref q1, .ref q2, .int (nI n)])), (q1, .inl (k1, 100, .inl (upd f n (x)))), (q2, .inl (k2, 100, .inl (upd g n (y))))] := hD
    refine lv_aload_n hx hb dX2_append_32 rfl (lv_at hl 0 rfl) ?_
    refine lv_dup hx hb dX2_append_33 rfl ?_
    refine va_get (D := (dC, dI)) (ci := 2) (v := .int (nI n)) (C := RX2) (T := TX2) (N := 3) hx hb hw inX2 hown hK hP 0 rfl rfl 2 (by decide) (hw _ mw68) (fun _ h9 => h9) rfl dX2_append_34 ?_
    refine lv_iconst (v := 1) hx hb dX2_append_37 (by decide) ?_
    refine lv_iadd hx hb dX2_append_38 ?_
    refine lv_topi (fun x2 ex2 => ?_)
    obtain rfl : x2 = nI (n + 1) := by rw [ex2]; exact nI_1 n
    refine va_put (D := (dC, dI)) (ci := 2) (v := .int (nI (n + 1))) (ty := .int) (C := RX2) (T := TX2) (N := 3) hx hb hw inX2 tyX2 tyX2_ok nmX2 hown hK hP hD hS 0 rfl rfl 2 (by decide) (hw _ mw68) (fun _ h9 => h9) rfl (by decide +kernel) rfl rfl (Nat.le_of_ble_eq_true rfl) dX2_append_39 (fun H locs hP hD hS => ?_)
    have hP : va_P (dC, dI) cl5 [(h0, .inr (2, [.ref q1, .ref q2, .int (nI (n + 1))])), (q1, .inl (k1, 100, .inl (upd f n (x)))), (q2, .inl (k2, 100, .inl (upd g n (y))))] H := hP
    have hD : va_D A [(h0, .inr (2, [.ref q1, .ref q2, .int (nI (n + 1))])), (q1, .inl (k1, 100, .inl (upd f n (x)))), (q2, .inl (k2, 100, .inl (upd g n (y))))] := hD
    subst hQ
    exact W.vret hx hb hr (fun t ht hW => ⟨⟨(upd f n x, upd g n y, n + 1), rfl, rfl, by rw [ht]; exact hP, hD⟩, hS.F ht⟩) hS.2.2 dX2_append_42

abbrev rm_c_Pat_plain : Room := { frames := 1, cells := 0, slots := 0, locals := 21 }
set_option maxHeartbeats 4000000 in
set_option maxRecDepth 100000 in
theorem c_Pat_plain (l : Launch) (dC : Nat → ClassId) (dI : Nat → Nat → Nat) (sz : Nat) (h0 q : Nat) (k : ClassId) (f : Nat → Int32) (n : Nat) (h1 q1 : Nat) (k1 : ClassId) (f1 : Nat → Int32) (n1 : Nat) (hn1 : n1 ≤ 100) : Met l yX0_readPlain (.code yX0_readPlain cX0_readPlain 3 none :: wsA) rm_c_Pat_plain (va_Pc [.ref h0, .ref h1] (wr (dC, dI) [(h0, .inr (0, [.ref q, .int (nI n)])), (q, .inl (k, 100, .inl f)), (h1, .inr (1, [.ref q1, .int (nI n1)])), (q1, .inl (k1, 100, .inl f1))] [(k, .int), (k1, .int)] sz)) (va_Qv (fun (u : (Nat → Int32) × Nat) => u.2 = n1 ∧ ∀ j, j < n1 → u.1 j = f1 j) (wB (dC, dI) (va_A [(h0, .inr (0, [.ref q, .int (nI n)])), (q, .inl (k, 100, .inl f)), (h1, .inr (1, [.ref q1, .int (nI n1)])), (q1, .inl (k1, 100, .inl f1))] sz) (fun u : (Nat → Int32) × Nat => [(h0, .inr (0, [.ref q, .int (nI u.2)])), (q, .inl (k, 100, .inl (u.1))), (h1, .inr (1, [.ref q1, .int (nI n1)])), (q1, .inl (k1, 100, .inl f1))])) (va_A [(h0, .inr (0, [.ref q, .int (nI n)])), (q, .inl (k, 100, .inl f)), (h1, .inr (1, [.ref q1, .int (nI n1)])), (q1, .inl (k1, 100, .inl f1))] sz)) 0 0 (va_A [(h0, .inr (0, [.ref q, .int (nI n)])), (q, .inl (k, 100, .inl f)), (h1, .inr (1, [.ref q1, .int (nI n1)])), (q1, .inl (k1, 100, .inl f1))] sz) := by
  refine Met.ofW (cc := cX0_readPlain) (maxL := 3) (ret := none) (by decide) rfl ?_
  intro p e s m args below meth c s₁ B hml hv
  obtain ⟨hargs, hsz, hN, hP, hK, hD0⟩ := hv
  have hx := B.exec
  have hb := B.bytes
  have hr := B.returns
  have hw : ∀ w ∈ wsA, w.before args s = true := fun w h => atoms_spec (ws := (.code yX0_readPlain cX0_readPlain 3 none :: wsA)) B.pre w (List.mem_cons_of_mem _ h)
  have hown : s.vm.findClass "GlobDesk$Pattern" = some m.cls := findClass_of_methodNamed B.named
  have hlocks := B.notSynchronized
  subst hsz
  have hD := hD0.self (sz := s.heap.size)
  generalize hAe : va_A [(h0, .inr (0, [.ref q, .int (nI n)])), (q, .inl (k, 100, .inl f)), (h1, .inr (1, [.ref q1, .int (nI n1)])), (q1, .inl (k1, 100, .inl f1))] s.heap.size = A at hD ⊢
  have hA : ∀ q : Nat, s.heap.size ≤ q → A q := fun q h => by rw [← hAe]; exact Or.inr h
  have hS : va_S A s.heap s.heap [] := va_S.rf
  generalize hQ : MQ below _ args s _ _ _ = Q
  change W p l e rm_c_Pat_plain s m args below meth c s.heap [] 0 0 Q (entryFrame m args 3)
  have hl := lv_entry ([.ref h0, .ref h1]) (n := 3) (Nat.le_of_ble_eq_true rfl)
  rw [show entryFrame m args 3 = entryFrame m ([.ref h0, .ref h1] : List Value).toArray 3 from by rw [hargs], lg_entry_eq]
  generalize (lg_sl ([.ref h0, .ref h1]) ++ List.replicate (3 - (lg_sl ([.ref h0, .ref h1])).length) Slot.unset).toArray = ls at hl ⊢
  have hl : lv_has ls 3 [(0, .ref h0), (1, .ref h1)] := hl
  refine lv_aload_n hx hb dX0_readPlain_0 rfl (lv_at hl 0 rfl) ?_
  refine lv_iconst (v := 0) hx hb dX0_readPlain_1 (by decide) ?_
  refine lv_topi (fun x1 ex1 => ?_)
  obtain rfl : x1 = nI 0 := by rw [ex1]; exact nI_0.symm
  refine va_put (D := (dC, dI)) (ci := 0) (v := .int (nI 0)) (ty := .int) (C := RX0) (T := TX0) (N := 2) hx hb hw inX0 tyX0 tyX0_ok nmX0 hown hK hP hD hS 0 rfl rfl 1 (by decide) (hw _ mw53) (fun _ h9 => h9) rfl (by decide +kernel) rfl rfl (Nat.le_of_ble_eq_true rfl) dX0_readPlain_2 (fun H locs hP hD hS => ?_)
  have hP : va_P (dC, dI) cl5 [(h0, .inr (0, [.ref q, .int (nI 0)])), (q, .inl (k, 100, .inl f)), (h1, .inr (1, [.ref q1, .int (nI n1)])), (q1, .inl (k1, 100, .inl f1))] H := hP
  have hD : va_D A [(h0, .inr (0, [.ref q, .int (nI 0)])), (q, .inl (k, 100, .inl f)), (h1, .inr (1, [.ref q1, .int (nI n1)])), (q1, .inl (k1, 100, .inl f1))] := hD
  refine lv_iconst (v := 0) hx hb dX0_readPlain_5 (by decide) ?_
  refine lv_topi (fun x2 ex2 => ?_)
  obtain rfl : x2 = nI 0 := by rw [ex2]; exact nI_0.symm
  refine lv_istore_n (lv' := [(2, .int (nI 0)), (0, .ref h0), (1, .ref h1)]) hx hb dX0_readPlain_6 rfl hl (by decide) rfl (fun ls hl => ?_)
  have loop7 : ∀ (nn7 : Nat) (i : Nat) (w : Nat → Int32) (hi : i ≤ n1) (e9 : ∀ j, j < i → w j = f1 j) (_ : n1 - i < nn7) (H : Heap) (locs : List Loc) (_ : va_P (dC, dI) cl5 [(h0, .inr (0, [.ref q, .int (nI i)])), (q, .inl (k, 100, .inl w)), (h1, .inr (1, [.ref q1, .int (nI n1)])), (q1, .inl (k1, 100, .inl f1))] H) (_ : va_D A [(h0, .inr (0, [.ref q, .int (nI i)])), (q, .inl (k, 100, .inl w)), (h1, .inr (1, [.ref q1, .int (nI n1)])), (q1, .inl (k1, 100, .inl f1))]) (_ : va_S A s.heap H locs) (ls : Array Slot) (_ : lv_has ls 3 [(0, .ref h0), (1, .ref h1), (2, .int (nI i))]), W p l e rm_c_Pat_plain s m args below meth c H locs 0 0 Q (F0 m 7 ls []) := by
    intro nn7
    induction nn7 with
    | zero => intro i w hi e9 hm7 H locs hP hD hS ls hl; exact absurd hm7 (Nat.not_lt_zero _)
    | succ nn7 ih7 =>
      intro i w hi e9 hm7 H locs hP hD hS ls hl
      refine lv_iload_n hx hb dX0_readPlain_7 rfl (lv_at hl 2 rfl) ?_
      refine lv_aload_n hx hb dX0_readPlain_8 rfl (lv_at hl 1 rfl) ?_
      refine va_getN (D := (dC, dI)) (ci := 1) (v := .int (nI n1)) (C := RX1) (T := TX1) (N := 2) hx hb hw inX1 hown hK hP 2 rfl rfl 1 (by decide) (va_Nw.use rfl hN.2.1) (fun _ h9 => h9) rfl dX0_readPlain_9 ?_
      refine lv_icmp_ge (tgt := 30) hx hb dX0_readPlain_12 (by decide) (fun c12_2 => ?_) (fun c12_2 => ?_)
      · skip
        rw [ti_le, nI_toInt (by omega), nI_toInt (by omega)] at c12_2
        have e8 : i = n1 := by omega
        subst hQ
        exact W.vret hx hb hr (fun t ht hW => ⟨⟨(w, i), rfl, ⟨e8, fun j hj => e9 j (by omega)⟩, by rw [ht]; exact hP, hD⟩, hS.F ht⟩) hS.2.2 dX0_readPlain_30
      · skip
        rw [ti_le, nI_toInt (by omega), nI_toInt (by omega)] at c12_2
        refine lv_aload_n hx hb dX0_readPlain_15 rfl (lv_at hl 0 rfl) ?_
        refine lv_aload_n hx hb dX0_readPlain_16 rfl (lv_at hl 1 rfl) ?_
        refine lv_iload_n hx hb dX0_readPlain_17 rfl (lv_at hl 2 rfl) ?_
        refine vp_callSi (va_Run.run (va_runV (As := [.int (nI i)]) (rest := [.ref h0]) ⟨hx, hb, hml, hown, hw⟩ (c_Row_at l dC dI h1 q1 k1 f1 n1 hn1 (nI i)) (cwV 1 hw (gV mw159 mw137 mw138 mw17 mw139) rfl rfl rfl (by decide +kernel) ⟨Nat.le_of_ble_eq_true rfl, Nat.le_of_ble_eq_true rfl⟩) (ro.V (q0 := 0) (ci := 1) hN (hK.sub (tys' := [(k1, .int)]) [1] rfl) (hP.sub (ws' := [(h1, .inr (1, [.ref q1, .int (nI n1)])), (q1, .inl (k1, 100, .inl f1))]) [2, 3] rfl) rfl rfl) rfl rfl hl.1 rfl (lv_room (Nat.le_of_ble_eq_true rfl)) dX0_readPlain_18 ⟨Nat.le_of_ble_eq_true rfl, Nat.le_of_ble_eq_true rfl⟩)) (fun r4 hr4 => ?_)
        rw [ra_in (by omega) hn1] at hr4
        subst hr4
        have hPc := hP.sub (ws' := [(h0, .inr (0, [.ref q, .int (nI i)])), (q, .inl (k, 100, .inl w))]) [0, 1] rfl
        have hDc := hD.sub (ws' := [(h0, .inr (0, [.ref q, .int (nI i)])), (q, .inl (k, 100, .inl w))]) [0, 1] (by decide) rfl
        have hKc := hK.sub (tys' := [(k, .int)]) [0] rfl
        have hFc := va_free (wc := [(h0, .inr (0, [.ref q, .int (nI i)])), (q, .inl (k, 100, .inl w))]) hD hS hA [0, 1] rfl
        refine va_callv (va_runV (As := [.int (f1 (i))]) (rest := []) ⟨hx, hb, hml, hown, hw⟩ (c_Pat_append l dC dI H.size h0 q k w i (by omega) (f1 (i))) (cwV 1 hw (gV mw160 mw162 mw6 mw18 mw163) rfl rfl rfl (by decide +kernel) ⟨Nat.le_of_ble_eq_true rfl, Nat.le_of_ble_eq_true rfl⟩) (wr.V (q0 := 0) (ci := 0) hN hKc hPc hDc rfl rfl) rfl rfl hl.1 rfl (lv_room (Nat.le_of_ble_eq_true rfl)) dX0_readPlain_21 ⟨Nat.le_of_ble_eq_true rfl, Nat.le_of_ble_eq_true rfl⟩) hS (fun q _ h => hFc q h) hFc (fun ur5 t H1 locs ht hvm hr5 hB hz1 hk1 hS => ?_)
        subst hr5
        obtain ⟨hP1, hD1⟩ := hB
        rw [ht] at hP1
        obtain ⟨hP, hD⟩ := va_join (wr := [(h1, .inr (1, [.ref q1, .int (nI n1)])), (q1, .inl (k1, 100, .inl f1))]) (w1 := [(h0, .inr (0, [.ref q, .int (nI (i + 1))])), (q, .inl (k, 100, .inl (upd w i (f1 (i)))))]) hP hD [0, 1] [2, 3] rfl rfl (by decide) (by decide) hk1 hFc hP1 hD1
        generalize H1 = H at hP hS ⊢
        have hP : va_P (dC, dI) cl5 [(h0, .inr (0, [.ref q, .int (nI (i + 1))])), (q, .inl (k, 100, .inl (upd w i (f1 (i))))), (h1, .inr (1, [.ref q1, .int (nI n1)])), (q1, .inl (k1, 100, .inl f1))] H := hP.sub [2, 3, 0, 1] rfl
        have hD : va_D A [(h0, .inr (0, [.ref q, .int (nI (i + 1))])), (q, .inl (k, 100, .inl (upd w i (f1 (i))))), (h1, .inr (1, [.ref q1, .int (nI n1)])), (q1, .inl (k1, 100, .inl f1))] := hD.sub [2, 3, 0, 1] (by decide) rfl
        refine lv_iinc (v := nI (i + 1)) (lv' := [(2, .int (nI (i + 1))), (0, .ref h0), (1, .ref h1)]) hx hb dX0_readPlain_24 hl (k := 2) rfl (nI_inc i) (by decide) rfl (fun ls hl => ?_)
        refine lv_goto (tgt := 7) hx hb dX0_readPlain_27 (by decide) ?_
        exact ih7 (i + 1) _ (by omega) (fun j hj => by by_cases e : j = i <;> first | (subst e; exact pk_us) | (rw [pk_un e]; exact e9 j (by omega))) (by omega) H locs hP hD hS ls (lv_sub hl [1, 2, 0] rfl)
  exact loop7 (n1 + 1) 0 f (Nat.zero_le _) (fun j h => absurd h (Nat.not_lt_zero _)) (by omega) H locs hP hD hS ls (lv_sub hl [1, 2, 0] rfl)

abbrev rm_c_Pat_stars : Room := { frames := 1, cells := 0, slots := 0, locals := 21 }
set_option maxHeartbeats 4000000 in
set_option maxRecDepth 100000 in
theorem c_Pat_stars (l : Launch) (dC : Nat → ClassId) (dI : Nat → Nat → Nat) (sz : Nat) (h0 q : Nat) (k : ClassId) (f : Nat → Int32) (n : Nat) (h1 q1 : Nat) (k1 : ClassId) (f1 : Nat → Int32) (n1 : Nat) (hn1 : n1 ≤ 100) : Met l yX0_readStars (.code yX0_readStars cX0_readStars 4 none :: wsA) rm_c_Pat_stars (va_Pc [.ref h0, .ref h1] (wr (dC, dI) [(h0, .inr (0, [.ref q, .int (nI n)])), (q, .inl (k, 100, .inl f)), (h1, .inr (1, [.ref q1, .int (nI n1)])), (q1, .inl (k1, 100, .inl f1))] [(k, .int), (k1, .int)] sz)) (va_Qv (fun (u : (Nat → Int32) × Nat) => u.2 = (mkL f1 n1 n1 0).length ∧ u.2 ≤ n1 ∧ hlds u.1 (mkL f1 n1 n1 0)) (wB (dC, dI) (va_A [(h0, .inr (0, [.ref q, .int (nI n)])), (q, .inl (k, 100, .inl f)), (h1, .inr (1, [.ref q1, .int (nI n1)])), (q1, .inl (k1, 100, .inl f1))] sz) (fun u : (Nat → Int32) × Nat => [(h0, .inr (0, [.ref q, .int (nI u.2)])), (q, .inl (k, 100, .inl (u.1))), (h1, .inr (1, [.ref q1, .int (nI n1)])), (q1, .inl (k1, 100, .inl f1))])) (va_A [(h0, .inr (0, [.ref q, .int (nI n)])), (q, .inl (k, 100, .inl f)), (h1, .inr (1, [.ref q1, .int (nI n1)])), (q1, .inl (k1, 100, .inl f1))] sz)) 0 0 (va_A [(h0, .inr (0, [.ref q, .int (nI n)])), (q, .inl (k, 100, .inl f)), (h1, .inr (1, [.ref q1, .int (nI n1)])), (q1, .inl (k1, 100, .inl f1))] sz) := by
  refine Met.ofW (cc := cX0_readStars) (maxL := 4) (ret := none) (by decide) rfl ?_
  intro p e s m args below meth c s₁ B hml hv
  obtain ⟨hargs, hsz, hN, hP, hK, hD0⟩ := hv
  have hx := B.exec
  have hb := B.bytes
  have hr := B.returns
  have hw : ∀ w ∈ wsA, w.before args s = true := fun w h => atoms_spec (ws := (.code yX0_readStars cX0_readStars 4 none :: wsA)) B.pre w (List.mem_cons_of_mem _ h)
  have hown : s.vm.findClass "GlobDesk$Pattern" = some m.cls := findClass_of_methodNamed B.named
  have hlocks := B.notSynchronized
  subst hsz
  have hD := hD0.self (sz := s.heap.size)
  generalize hAe : va_A [(h0, .inr (0, [.ref q, .int (nI n)])), (q, .inl (k, 100, .inl f)), (h1, .inr (1, [.ref q1, .int (nI n1)])), (q1, .inl (k1, 100, .inl f1))] s.heap.size = A at hD ⊢
  have hA : ∀ q : Nat, s.heap.size ≤ q → A q := fun q h => by rw [← hAe]; exact Or.inr h
  have hS : va_S A s.heap s.heap [] := va_S.rf
  generalize hQ : MQ below _ args s _ _ _ = Q
  change W p l e rm_c_Pat_stars s m args below meth c s.heap [] 0 0 Q (entryFrame m args 4)
  have hl := lv_entry ([.ref h0, .ref h1]) (n := 4) (Nat.le_of_ble_eq_true rfl)
  rw [show entryFrame m args 4 = entryFrame m ([.ref h0, .ref h1] : List Value).toArray 4 from by rw [hargs], lg_entry_eq]
  generalize (lg_sl ([.ref h0, .ref h1]) ++ List.replicate (4 - (lg_sl ([.ref h0, .ref h1])).length) Slot.unset).toArray = ls at hl ⊢
  have hl : lv_has ls 4 [(0, .ref h0), (1, .ref h1)] := hl
  refine lv_aload_n hx hb dX0_readStars_0 rfl (lv_at hl 0 rfl) ?_
  refine lv_iconst (v := 0) hx hb dX0_readStars_1 (by decide) ?_
  refine lv_topi (fun x1 ex1 => ?_)
  obtain rfl : x1 = nI 0 := by rw [ex1]; exact nI_0.symm
  refine va_put (D := (dC, dI)) (ci := 0) (v := .int (nI 0)) (ty := .int) (C := RX0) (T := TX0) (N := 2) hx hb hw inX0 tyX0 tyX0_ok nmX0 hown hK hP hD hS 0 rfl rfl 1 (by decide) (hw _ mw53) (fun _ h9 => h9) rfl (by decide +kernel) rfl rfl (Nat.le_of_ble_eq_true rfl) dX0_readStars_2 (fun H locs hP hD hS => ?_)
  have hP : va_P (dC, dI) cl5 [(h0, .inr (0, [.ref q, .int (nI 0)])), (q, .inl (k, 100, .inl f)), (h1, .inr (1, [.ref q1, .int (nI n1)])), (q1, .inl (k1, 100, .inl f1))] H := hP
  have hD : va_D A [(h0, .inr (0, [.ref q, .int (nI 0)])), (q, .inl (k, 100, .inl f)), (h1, .inr (1, [.ref q1, .int (nI n1)])), (q1, .inl (k1, 100, .inl f1))] := hD
  refine lv_iconst (v := 0) hx hb dX0_readStars_5 (by decide) ?_
  refine lv_topi (fun x2 ex2 => ?_)
  obtain rfl : x2 = nI 0 := by rw [ex2]; exact nI_0.symm
  refine lv_istore_n (lv' := [(2, .int (nI 0)), (0, .ref h0), (1, .ref h1)]) hx hb dX0_readStars_6 rfl hl (by decide) rfl (fun ls hl => ?_)
  have loop7 : ∀ (nn7 : Nat) (i r p1 : Nat) (acc : List Int32) (w : Nat → Int32) (hr9 : n1 ≤ r + i) (hp9 : p1 = acc.length) (e9 : acc ++ mkL f1 n1 r i = mkL f1 n1 n1 0) (e7 : hlds w acc) (hpi : p1 ≤ i) (hpi2 : i ≤ n1) (_ : n1 - i < nn7) (H : Heap) (locs : List Loc) (_ : va_P (dC, dI) cl5 [(h0, .inr (0, [.ref q, .int (nI p1)])), (q, .inl (k, 100, .inl w)), (h1, .inr (1, [.ref q1, .int (nI n1)])), (q1, .inl (k1, 100, .inl f1))] H) (_ : va_D A [(h0, .inr (0, [.ref q, .int (nI p1)])), (q, .inl (k, 100, .inl w)), (h1, .inr (1, [.ref q1, .int (nI n1)])), (q1, .inl (k1, 100, .inl f1))]) (_ : va_S A s.heap H locs) (ls : Array Slot) (_ : lv_has ls 4 [(0, .ref h0), (1, .ref h1), (2, .int (nI i))]), W p l e rm_c_Pat_stars s m args below meth c H locs 0 0 Q (F0 m 7 ls []) := by
    intro nn7
    induction nn7 with
    | zero => intro i r p1 acc w hr9 hp9 e9 e7 hpi hpi2 hm7 H locs hP hD hS ls hl; exact absurd hm7 (Nat.not_lt_zero _)
    | succ nn7 ih7 =>
      intro i r p1 acc w hr9 hp9 e9 e7 hpi hpi2 hm7 H locs hP hD hS ls hl
      refine lv_iload_n hx hb dX0_readStars_7 rfl (lv_at hl 2 rfl) ?_
      refine lv_aload_n hx hb dX0_readStars_8 rfl (lv_at hl 1 rfl) ?_
      refine va_getN (D := (dC, dI)) (ci := 1) (v := .int (nI n1)) (C := RX1) (T := TX1) (N := 2) hx hb hw inX1 hown hK hP 2 rfl rfl 1 (by decide) (va_Nw.use rfl hN.2.1) (fun _ h9 => h9) rfl dX0_readStars_9 ?_
      refine lv_icmp_ge (tgt := 91) hx hb dX0_readStars_12 (by decide) (fun c12_2 => ?_) (fun c12_2 => ?_)
      · skip
        rw [ti_le, nI_toInt (by omega), nI_toInt (by omega)] at c12_2
        subst hQ
        exact W.vret hx hb hr (fun t ht hW => ⟨⟨(w, p1), rfl, by rw [mkL_end (by omega), List.append_nil] at e9; subst e9; exact ⟨hp9, by show p1 ≤ n1; omega, e7⟩, by rw [ht]; exact hP, hD⟩, hS.F ht⟩) hS.2.2 dX0_readStars_91
      · skip
        rw [ti_le, nI_toInt (by omega), nI_toInt (by omega)] at c12_2
        refine lv_aload_n hx hb dX0_readStars_15 rfl (lv_at hl 1 rfl) ?_
        refine lv_iload_n hx hb dX0_readStars_16 rfl (lv_at hl 2 rfl) ?_
        refine vp_callSi (va_Run.run (va_runV (As := [.int (nI i)]) (rest := []) ⟨hx, hb, hml, hown, hw⟩ (c_Row_at l dC dI h1 q1 k1 f1 n1 hn1 (nI i)) (cwV 1 hw (gV mw159 mw137 mw138 mw17 mw139) rfl rfl rfl (by decide +kernel) ⟨Nat.le_of_ble_eq_true rfl, Nat.le_of_ble_eq_true rfl⟩) (ro.V (q0 := 0) (ci := 1) hN (hK.sub (tys' := [(k1, .int)]) [1] rfl) (hP.sub (ws' := [(h1, .inr (1, [.ref q1, .int (nI n1)])), (q1, .inl (k1, 100, .inl f1))]) [2, 3] rfl) rfl rfl) rfl rfl hl.1 rfl (lv_room (Nat.le_of_ble_eq_true rfl)) dX0_readStars_17 ⟨Nat.le_of_ble_eq_true rfl, Nat.le_of_ble_eq_true rfl⟩)) (fun r4 hr4 => ?_)
        rw [ra_in (by omega) hn1] at hr4
        subst hr4
        refine lv_istore_n (lv' := [(3, .int (f1 (i))), (0, .ref h0), (1, .ref h1), (2, .int (nI i))]) hx hb dX0_readStars_20 rfl hl (by decide) rfl (fun ls hl => ?_)
        refine lv_iload_n hx hb dX0_readStars_21 rfl (lv_at hl 0 rfl) ?_
        refine lv_bipush (v := 92) hx hb dX0_readStars_22 (by decide) ?_
        refine lv_icmp_ne (tgt := 52) hx hb dX0_readStars_24 (by decide) (fun c24_4 => ?_) (fun c24_4 => ?_)
        · skip
          have z0 : ¬ (f1 i = 92 ∧ i + 1 < n1) := fun q => c24_4 q.1
          refine lv_iload_n hx hb dX0_readStars_52 rfl (lv_at hl 0 rfl) ?_
          refine lv_bipush (v := 42) hx hb dX0_readStars_53 (by decide) ?_
          refine lv_icmp_ne (tgt := 68) hx hb dX0_readStars_55 (by decide) (fun c55_5 => ?_) (fun c55_5 => ?_)
          · skip
            have z2 := c55_5
            refine lv_aload_n hx hb dX0_readStars_68 rfl (lv_at hl 1 rfl) ?_
            refine lv_iload_n hx hb dX0_readStars_69 rfl (lv_at hl 0 rfl) ?_
            refine lv_bipush (v := 63) hx hb dX0_readStars_70 (by decide) ?_
            refine lv_icmp_ne (tgt := 81) hx hb dX0_readStars_72 (by decide) (fun c72_6 => ?_) (fun c72_6 => ?_)
            · skip
              have z3 := c72_6
              refine lv_iload_n hx hb dX0_readStars_81 rfl (lv_at hl 0 rfl) ?_
              have hPc := hP.sub (ws' := [(h0, .inr (0, [.ref q, .int (nI p1)])), (q, .inl (k, 100, .inl w))]) [0, 1] rfl
              have hDc := hD.sub (ws' := [(h0, .inr (0, [.ref q, .int (nI p1)])), (q, .inl (k, 100, .inl w))]) [0, 1] (by decide) rfl
              have hKc := hK.sub (tys' := [(k, .int)]) [0] rfl
              have hFc := va_free (wc := [(h0, .inr (0, [.ref q, .int (nI p1)])), (q, .inl (k, 100, .inl w))]) hD hS hA [0, 1] rfl
              refine va_callv (va_runV (As := [.int (f1 (i))]) (rest := []) ⟨hx, hb, hml, hown, hw⟩ (c_Pat_append l dC dI H.size h0 q k w p1 (by omega) (f1 (i))) (cwV 1 hw (gV mw160 mw162 mw6 mw18 mw163) rfl rfl rfl (by decide +kernel) ⟨Nat.le_of_ble_eq_true rfl, Nat.le_of_ble_eq_true rfl⟩) (wr.V (q0 := 0) (ci := 0) hN hKc hPc hDc rfl rfl) rfl rfl hl.1 rfl (lv_room (Nat.le_of_ble_eq_true rfl)) dX0_readStars_82 ⟨Nat.le_of_ble_eq_true rfl, Nat.le_of_ble_eq_true rfl⟩) hS (fun q _ h => hFc q h) hFc (fun ur8 t H1 locs ht hvm hr8 hB hz1 hk1 hS => ?_)
              subst hr8
              obtain ⟨hP1, hD1⟩ := hB
              rw [ht] at hP1
              obtain ⟨hP, hD⟩ := va_join (wr := [(h1, .inr (1, [.ref q1, .int (nI n1)])), (q1, .inl (k1, 100, .inl f1))]) (w1 := [(h0, .inr (0, [.ref q, .int (nI (p1 + 1))])), (q, .inl (k, 100, .inl (upd w p1 (f1 (i)))))]) hP hD [0, 1] [2, 3] rfl rfl (by decide) (by decide) hk1 hFc hP1 hD1
              generalize H1 = H at hP hS ⊢
              have hP : va_P (dC, dI) cl5 [(h0, .inr (0, [.ref q, .int (nI (p1 + 1))])), (q, .inl (k, 100, .inl (upd w p1 (f1 (i))))), (h1, .inr (1, [.ref q1, .int (nI n1)])), (q1, .inl (k1, 100, .inl f1))] H := hP.sub [2, 3, 0, 1] rfl
              have hD : va_D A [(h0, .inr (0, [.ref q, .int (nI (p1 + 1))])), (q, .inl (k, 100, .inl (upd w p1 (f1 (i))))), (h1, .inr (1, [.ref q1, .int (nI n1)])), (q1, .inl (k1, 100, .inl f1))] := hD.sub [2, 3, 0, 1] (by decide) rfl
              refine lv_iinc (v := nI (i + 1)) (lv' := [(2, .int (nI (i + 1))), (3, .int (f1 (i))), (0, .ref h0), (1, .ref h1)]) hx hb dX0_readStars_85 hl (k := 3) rfl (nI_inc i) (by decide) rfl (fun ls hl => ?_)
              refine lv_goto (tgt := 7) hx hb dX0_readStars_88 (by decide) ?_
              exact ih7 (i + 1) (r - 1) (p1 + 1) (acc ++ [f1 i]) _ (by omega) (by rw [List.length_append, List.length_singleton, hp9]) (by rw [List.append_assoc, ← e9, mkL_one z0 (by omega) hr9, if_neg z2, if_neg z3]; rfl) (hlds_add e7 hp9) (by omega) (by omega) (by omega) H locs hP hD hS ls (lv_sub hl [2, 3, 0] rfl)
            · skip
              have z3 := c72_6
              refine lv_sipush (v := 256) hx hb dX0_readStars_75 (by decide) ?_
              refine lv_goto (tgt := 82) hx hb dX0_readStars_78 (by decide) ?_
              have hPc := hP.sub (ws' := [(h0, .inr (0, [.ref q, .int (nI p1)])), (q, .inl (k, 100, .inl w))]) [0, 1] rfl
              have hDc := hD.sub (ws' := [(h0, .inr (0, [.ref q, .int (nI p1)])), (q, .inl (k, 100, .inl w))]) [0, 1] (by decide) rfl
              have hKc := hK.sub (tys' := [(k, .int)]) [0] rfl
              have hFc := va_free (wc := [(h0, .inr (0, [.ref q, .int (nI p1)])), (q, .inl (k, 100, .inl w))]) hD hS hA [0, 1] rfl
              refine va_callv (va_runV (As := [.int (256)]) (rest := []) ⟨hx, hb, hml, hown, hw⟩ (c_Pat_append l dC dI H.size h0 q k w p1 (by omega) (256)) (cwV 1 hw (gV mw160 mw162 mw6 mw18 mw163) rfl rfl rfl (by decide +kernel) ⟨Nat.le_of_ble_eq_true rfl, Nat.le_of_ble_eq_true rfl⟩) (wr.V (q0 := 0) (ci := 0) hN hKc hPc hDc rfl rfl) rfl rfl hl.1 rfl (lv_room (Nat.le_of_ble_eq_true rfl)) dX0_readStars_82 ⟨Nat.le_of_ble_eq_true rfl, Nat.le_of_ble_eq_true rfl⟩) hS (fun q _ h => hFc q h) hFc (fun ur9 t H1 locs ht hvm hr9 hB hz1 hk1 hS => ?_)
              subst hr9
              obtain ⟨hP1, hD1⟩ := hB
              rw [ht] at hP1
              obtain ⟨hP, hD⟩ := va_join (wr := [(h1, .inr (1, [.ref q1, .int (nI n1)])), (q1, .inl (k1, 100, .inl f1))]) (w1 := [(h0, .inr (0, [.ref q, .int (nI (p1 + 1))])), (q, .inl (k, 100, .inl (upd w p1 (256))))]) hP hD [0, 1] [2, 3] rfl rfl (by decide) (by decide) hk1 hFc hP1 hD1
              generalize H1 = H at hP hS ⊢
              have hP : va_P (dC, dI) cl5 [(h0, .inr (0, [.ref q, .int (nI (p1 + 1))])), (q, .inl (k, 100, .inl (upd w p1 (256)))), (h1, .inr (1, [.ref q1, .int (nI n1)])), (q1, .inl (k1, 100, .inl f1))] H := hP.sub [2, 3, 0, 1] rfl
              have hD : va_D A [(h0, .inr (0, [.ref q, .int (nI (p1 + 1))])), (q, .inl (k, 100, .inl (upd w p1 (256)))), (h1, .inr (1, [.ref q1, .int (nI n1)])), (q1, .inl (k1, 100, .inl f1))] := hD.sub [2, 3, 0, 1] (by decide) rfl
              refine lv_iinc (v := nI (i + 1)) (lv' := [(2, .int (nI (i + 1))), (3, .int (f1 (i))), (0, .ref h0), (1, .ref h1)]) hx hb dX0_readStars_85 hl (k := 3) rfl (nI_inc i) (by decide) rfl (fun ls hl => ?_)
              refine lv_goto (tgt := 7) hx hb dX0_readStars_88 (by decide) ?_
              exact ih7 (i + 1) (r - 1) (p1 + 1) (acc ++ [256]) _ (by omega) (by rw [List.length_append, List.length_singleton, hp9]) (by rw [List.append_assoc, ← e9, mkL_one z0 (by omega) hr9, if_neg z2, if_pos z3]; rfl) (hlds_add e7 hp9) (by omega) (by omega) (by omega) H locs hP hD hS ls (lv_sub hl [2, 3, 0] rfl)
          · skip
            have z2 := c55_5
            refine lv_aload_n hx hb dX0_readStars_58 rfl (lv_at hl 1 rfl) ?_
            refine lv_sipush (v := 257) hx hb dX0_readStars_59 (by decide) ?_
            have hPc := hP.sub (ws' := [(h0, .inr (0, [.ref q, .int (nI p1)])), (q, .inl (k, 100, .inl w))]) [0, 1] rfl
            have hDc := hD.sub (ws' := [(h0, .inr (0, [.ref q, .int (nI p1)])), (q, .inl (k, 100, .inl w))]) [0, 1] (by decide) rfl
            have hKc := hK.sub (tys' := [(k, .int)]) [0] rfl
            have hFc := va_free (wc := [(h0, .inr (0, [.ref q, .int (nI p1)])), (q, .inl (k, 100, .inl w))]) hD hS hA [0, 1] rfl
            refine va_callv (va_runV (As := [.int (257)]) (rest := []) ⟨hx, hb, hml, hown, hw⟩ (c_Pat_append l dC dI H.size h0 q k w p1 (by omega) (257)) (cwV 1 hw (gV mw160 mw162 mw6 mw18 mw163) rfl rfl rfl (by decide +kernel) ⟨Nat.le_of_ble_eq_true rfl, Nat.le_of_ble_eq_true rfl⟩) (wr.V (q0 := 0) (ci := 0) hN hKc hPc hDc rfl rfl) rfl rfl hl.1 rfl (lv_room (Nat.le_of_ble_eq_true rfl)) dX0_readStars_62 ⟨Nat.le_of_ble_eq_true rfl, Nat.le_of_ble_eq_true rfl⟩) hS (fun q _ h => hFc q h) hFc (fun ur10 t H1 locs ht hvm hr10 hB hz1 hk1 hS => ?_)
            subst hr10
            obtain ⟨hP1, hD1⟩ := hB
            rw [ht] at hP1
            obtain ⟨hP, hD⟩ := va_join (wr := [(h1, .inr (1, [.ref q1, .int (nI n1)])), (q1, .inl (k1, 100, .inl f1))]) (w1 := [(h0, .inr (0, [.ref q, .int (nI (p1 + 1))])), (q, .inl (k, 100, .inl (upd w p1 (257))))]) hP hD [0, 1] [2, 3] rfl rfl (by decide) (by decide) hk1 hFc hP1 hD1
            generalize H1 = H at hP hS ⊢
            have hP : va_P (dC, dI) cl5 [(h0, .inr (0, [.ref q, .int (nI (p1 + 1))])), (q, .inl (k, 100, .inl (upd w p1 (257)))), (h1, .inr (1, [.ref q1, .int (nI n1)])), (q1, .inl (k1, 100, .inl f1))] H := hP.sub [2, 3, 0, 1] rfl
            have hD : va_D A [(h0, .inr (0, [.ref q, .int (nI (p1 + 1))])), (q, .inl (k, 100, .inl (upd w p1 (257)))), (h1, .inr (1, [.ref q1, .int (nI n1)])), (q1, .inl (k1, 100, .inl f1))] := hD.sub [2, 3, 0, 1] (by decide) rfl
            refine lv_goto (tgt := 85) hx hb dX0_readStars_65 (by decide) ?_
            refine lv_iinc (v := nI (i + 1)) (lv' := [(2, .int (nI (i + 1))), (3, .int (f1 (i))), (0, .ref h0), (1, .ref h1)]) hx hb dX0_readStars_85 hl (k := 3) rfl (nI_inc i) (by decide) rfl (fun ls hl => ?_)
            refine lv_goto (tgt := 7) hx hb dX0_readStars_88 (by decide) ?_
            exact ih7 (i + 1) (r - 1) (p1 + 1) (acc ++ [257]) _ (by omega) (by rw [List.length_append, List.length_singleton, hp9]) (by rw [List.append_assoc, ← e9, mkL_one z0 (by omega) hr9, if_pos z2]; rfl) (hlds_add e7 hp9) (by omega) (by omega) (by omega) H locs hP hD hS ls (lv_sub hl [2, 3, 0] rfl)
        · skip
          have z1 := c24_4
          refine lv_iload_n hx hb dX0_readStars_27 rfl (lv_at hl 3 rfl) ?_
          refine lv_iconst (v := 1) hx hb dX0_readStars_28 (by decide) ?_
          refine lv_iadd hx hb dX0_readStars_29 ?_
          refine lv_topi (fun x11 ex11 => ?_)
          obtain rfl : x11 = nI (i + 1) := by rw [ex11]; exact nI_1 i
          refine lv_aload_n hx hb dX0_readStars_30 rfl (lv_at hl 2 rfl) ?_
          refine va_getN (D := (dC, dI)) (ci := 1) (v := .int (nI n1)) (C := RX1) (T := TX1) (N := 2) hx hb hw inX1 hown hK hP 2 rfl rfl 1 (by decide) (va_Nw.use rfl hN.2.1) (fun _ h9 => h9) rfl dX0_readStars_31 ?_
          refine lv_icmp_ge (tgt := 52) hx hb dX0_readStars_34 (by decide) (fun c34_11 => ?_) (fun c34_11 => ?_)
          · skip
            rw [ti_le, nI_toInt (by omega), nI_toInt (by omega)] at c34_11
            have z0 : ¬ (f1 i = 92 ∧ i + 1 < n1) := fun q => by omega
            refine lv_iload_n hx hb dX0_readStars_52 rfl (lv_at hl 0 rfl) ?_
            refine lv_bipush (v := 42) hx hb dX0_readStars_53 (by decide) ?_
            refine lv_icmp_ne (tgt := 68) hx hb dX0_readStars_55 (by decide) (fun c55_12 => ?_) (fun c55_12 => ?_)
            · skip
              have z2 := c55_12
              refine lv_aload_n hx hb dX0_readStars_68 rfl (lv_at hl 1 rfl) ?_
              refine lv_iload_n hx hb dX0_readStars_69 rfl (lv_at hl 0 rfl) ?_
              refine lv_bipush (v := 63) hx hb dX0_readStars_70 (by decide) ?_
              refine lv_icmp_ne (tgt := 81) hx hb dX0_readStars_72 (by decide) (fun c72_13 => ?_) (fun c72_13 => ?_)
              · skip
                have z3 := c72_13
                refine lv_iload_n hx hb dX0_readStars_81 rfl (lv_at hl 0 rfl) ?_
                have hPc := hP.sub (ws' := [(h0, .inr (0, [.ref q, .int (nI p1)])), (q, .inl (k, 100, .inl w))]) [0, 1] rfl
                have hDc := hD.sub (ws' := [(h0, .inr (0, [.ref q, .int (nI p1)])), (q, .inl (k, 100, .inl w))]) [0, 1] (by decide) rfl
                have hKc := hK.sub (tys' := [(k, .int)]) [0] rfl
                have hFc := va_free (wc := [(h0, .inr (0, [.ref q, .int (nI p1)])), (q, .inl (k, 100, .inl w))]) hD hS hA [0, 1] rfl
                refine va_callv (va_runV (As := [.int (f1 (i))]) (rest := []) ⟨hx, hb, hml, hown, hw⟩ (c_Pat_append l dC dI H.size h0 q k w p1 (by omega) (f1 (i))) (cwV 1 hw (gV mw160 mw162 mw6 mw18 mw163) rfl rfl rfl (by decide +kernel) ⟨Nat.le_of_ble_eq_true rfl, Nat.le_of_ble_eq_true rfl⟩) (wr.V (q0 := 0) (ci := 0) hN hKc hPc hDc rfl rfl) rfl rfl hl.1 rfl (lv_room (Nat.le_of_ble_eq_true rfl)) dX0_readStars_82 ⟨Nat.le_of_ble_eq_true rfl, Nat.le_of_ble_eq_true rfl⟩) hS (fun q _ h => hFc q h) hFc (fun ur15 t H1 locs ht hvm hr15 hB hz1 hk1 hS => ?_)
                subst hr15
                obtain ⟨hP1, hD1⟩ := hB
                rw [ht] at hP1
                obtain ⟨hP, hD⟩ := va_join (wr := [(h1, .inr (1, [.ref q1, .int (nI n1)])), (q1, .inl (k1, 100, .inl f1))]) (w1 := [(h0, .inr (0, [.ref q, .int (nI (p1 + 1))])), (q, .inl (k, 100, .inl (upd w p1 (f1 (i)))))]) hP hD [0, 1] [2, 3] rfl rfl (by decide) (by decide) hk1 hFc hP1 hD1
                generalize H1 = H at hP hS ⊢
                have hP : va_P (dC, dI) cl5 [(h0, .inr (0, [.ref q, .int (nI (p1 + 1))])), (q, .inl (k, 100, .inl (upd w p1 (f1 (i))))), (h1, .inr (1, [.ref q1, .int (nI n1)])), (q1, .inl (k1, 100, .inl f1))] H := hP.sub [2, 3, 0, 1] rfl
                have hD : va_D A [(h0, .inr (0, [.ref q, .int (nI (p1 + 1))])), (q, .inl (k, 100, .inl (upd w p1 (f1 (i))))), (h1, .inr (1, [.ref q1, .int (nI n1)])), (q1, .inl (k1, 100, .inl f1))] := hD.sub [2, 3, 0, 1] (by decide) rfl
                refine lv_iinc (v := nI (i + 1)) (lv' := [(2, .int (nI (i + 1))), (3, .int (f1 (i))), (0, .ref h0), (1, .ref h1)]) hx hb dX0_readStars_85 hl (k := 3) rfl (nI_inc i) (by decide) rfl (fun ls hl => ?_)
                refine lv_goto (tgt := 7) hx hb dX0_readStars_88 (by decide) ?_
                exact ih7 (i + 1) (r - 1) (p1 + 1) (acc ++ [f1 i]) _ (by omega) (by rw [List.length_append, List.length_singleton, hp9]) (by rw [List.append_assoc, ← e9, mkL_one z0 (by omega) hr9, if_neg z2, if_neg z3]; rfl) (hlds_add e7 hp9) (by omega) (by omega) (by omega) H locs hP hD hS ls (lv_sub hl [2, 3, 0] rfl)
              · skip
                have z3 := c72_13
                refine lv_sipush (v := 256) hx hb dX0_readStars_75 (by decide) ?_
                refine lv_goto (tgt := 82) hx hb dX0_readStars_78 (by decide) ?_
                have hPc := hP.sub (ws' := [(h0, .inr (0, [.ref q, .int (nI p1)])), (q, .inl (k, 100, .inl w))]) [0, 1] rfl
                have hDc := hD.sub (ws' := [(h0, .inr (0, [.ref q, .int (nI p1)])), (q, .inl (k, 100, .inl w))]) [0, 1] (by decide) rfl
                have hKc := hK.sub (tys' := [(k, .int)]) [0] rfl
                have hFc := va_free (wc := [(h0, .inr (0, [.ref q, .int (nI p1)])), (q, .inl (k, 100, .inl w))]) hD hS hA [0, 1] rfl
                refine va_callv (va_runV (As := [.int (256)]) (rest := []) ⟨hx, hb, hml, hown, hw⟩ (c_Pat_append l dC dI H.size h0 q k w p1 (by omega) (256)) (cwV 1 hw (gV mw160 mw162 mw6 mw18 mw163) rfl rfl rfl (by decide +kernel) ⟨Nat.le_of_ble_eq_true rfl, Nat.le_of_ble_eq_true rfl⟩) (wr.V (q0 := 0) (ci := 0) hN hKc hPc hDc rfl rfl) rfl rfl hl.1 rfl (lv_room (Nat.le_of_ble_eq_true rfl)) dX0_readStars_82 ⟨Nat.le_of_ble_eq_true rfl, Nat.le_of_ble_eq_true rfl⟩) hS (fun q _ h => hFc q h) hFc (fun ur16 t H1 locs ht hvm hr16 hB hz1 hk1 hS => ?_)
                subst hr16
                obtain ⟨hP1, hD1⟩ := hB
                rw [ht] at hP1
                obtain ⟨hP, hD⟩ := va_join (wr := [(h1, .inr (1, [.ref q1, .int (nI n1)])), (q1, .inl (k1, 100, .inl f1))]) (w1 := [(h0, .inr (0, [.ref q, .int (nI (p1 + 1))])), (q, .inl (k, 100, .inl (upd w p1 (256))))]) hP hD [0, 1] [2, 3] rfl rfl (by decide) (by decide) hk1 hFc hP1 hD1
                generalize H1 = H at hP hS ⊢
                have hP : va_P (dC, dI) cl5 [(h0, .inr (0, [.ref q, .int (nI (p1 + 1))])), (q, .inl (k, 100, .inl (upd w p1 (256)))), (h1, .inr (1, [.ref q1, .int (nI n1)])), (q1, .inl (k1, 100, .inl f1))] H := hP.sub [2, 3, 0, 1] rfl
                have hD : va_D A [(h0, .inr (0, [.ref q, .int (nI (p1 + 1))])), (q, .inl (k, 100, .inl (upd w p1 (256)))), (h1, .inr (1, [.ref q1, .int (nI n1)])), (q1, .inl (k1, 100, .inl f1))] := hD.sub [2, 3, 0, 1] (by decide) rfl
                refine lv_iinc (v := nI (i + 1)) (lv' := [(2, .int (nI (i + 1))), (3, .int (f1 (i))), (0, .ref h0), (1, .ref h1)]) hx hb dX0_readStars_85 hl (k := 3) rfl (nI_inc i) (by decide) rfl (fun ls hl => ?_)
                refine lv_goto (tgt := 7) hx hb dX0_readStars_88 (by decide) ?_
                exact ih7 (i + 1) (r - 1) (p1 + 1) (acc ++ [256]) _ (by omega) (by rw [List.length_append, List.length_singleton, hp9]) (by rw [List.append_assoc, ← e9, mkL_one z0 (by omega) hr9, if_neg z2, if_pos z3]; rfl) (hlds_add e7 hp9) (by omega) (by omega) (by omega) H locs hP hD hS ls (lv_sub hl [2, 3, 0] rfl)
            · skip
              have z2 := c55_12
              refine lv_aload_n hx hb dX0_readStars_58 rfl (lv_at hl 1 rfl) ?_
              refine lv_sipush (v := 257) hx hb dX0_readStars_59 (by decide) ?_
              have hPc := hP.sub (ws' := [(h0, .inr (0, [.ref q, .int (nI p1)])), (q, .inl (k, 100, .inl w))]) [0, 1] rfl
              have hDc := hD.sub (ws' := [(h0, .inr (0, [.ref q, .int (nI p1)])), (q, .inl (k, 100, .inl w))]) [0, 1] (by decide) rfl
              have hKc := hK.sub (tys' := [(k, .int)]) [0] rfl
              have hFc := va_free (wc := [(h0, .inr (0, [.ref q, .int (nI p1)])), (q, .inl (k, 100, .inl w))]) hD hS hA [0, 1] rfl
              refine va_callv (va_runV (As := [.int (257)]) (rest := []) ⟨hx, hb, hml, hown, hw⟩ (c_Pat_append l dC dI H.size h0 q k w p1 (by omega) (257)) (cwV 1 hw (gV mw160 mw162 mw6 mw18 mw163) rfl rfl rfl (by decide +kernel) ⟨Nat.le_of_ble_eq_true rfl, Nat.le_of_ble_eq_true rfl⟩) (wr.V (q0 := 0) (ci := 0) hN hKc hPc hDc rfl rfl) rfl rfl hl.1 rfl (lv_room (Nat.le_of_ble_eq_true rfl)) dX0_readStars_62 ⟨Nat.le_of_ble_eq_true rfl, Nat.le_of_ble_eq_true rfl⟩) hS (fun q _ h => hFc q h) hFc (fun ur17 t H1 locs ht hvm hr17 hB hz1 hk1 hS => ?_)
              subst hr17
              obtain ⟨hP1, hD1⟩ := hB
              rw [ht] at hP1
              obtain ⟨hP, hD⟩ := va_join (wr := [(h1, .inr (1, [.ref q1, .int (nI n1)])), (q1, .inl (k1, 100, .inl f1))]) (w1 := [(h0, .inr (0, [.ref q, .int (nI (p1 + 1))])), (q, .inl (k, 100, .inl (upd w p1 (257))))]) hP hD [0, 1] [2, 3] rfl rfl (by decide) (by decide) hk1 hFc hP1 hD1
              generalize H1 = H at hP hS ⊢
              have hP : va_P (dC, dI) cl5 [(h0, .inr (0, [.ref q, .int (nI (p1 + 1))])), (q, .inl (k, 100, .inl (upd w p1 (257)))), (h1, .inr (1, [.ref q1, .int (nI n1)])), (q1, .inl (k1, 100, .inl f1))] H := hP.sub [2, 3, 0, 1] rfl
              have hD : va_D A [(h0, .inr (0, [.ref q, .int (nI (p1 + 1))])), (q, .inl (k, 100, .inl (upd w p1 (257)))), (h1, .inr (1, [.ref q1, .int (nI n1)])), (q1, .inl (k1, 100, .inl f1))] := hD.sub [2, 3, 0, 1] (by decide) rfl
              refine lv_goto (tgt := 85) hx hb dX0_readStars_65 (by decide) ?_
              refine lv_iinc (v := nI (i + 1)) (lv' := [(2, .int (nI (i + 1))), (3, .int (f1 (i))), (0, .ref h0), (1, .ref h1)]) hx hb dX0_readStars_85 hl (k := 3) rfl (nI_inc i) (by decide) rfl (fun ls hl => ?_)
              refine lv_goto (tgt := 7) hx hb dX0_readStars_88 (by decide) ?_
              exact ih7 (i + 1) (r - 1) (p1 + 1) (acc ++ [257]) _ (by omega) (by rw [List.length_append, List.length_singleton, hp9]) (by rw [List.append_assoc, ← e9, mkL_one z0 (by omega) hr9, if_pos z2]; rfl) (hlds_add e7 hp9) (by omega) (by omega) (by omega) H locs hP hD hS ls (lv_sub hl [2, 3, 0] rfl)
          · skip
            rw [ti_le, nI_toInt (by omega), nI_toInt (by omega)] at c34_11
            have z0 : i + 1 < n1 := by omega
            refine lv_iinc (v := nI (i + 1)) (lv' := [(2, .int (nI (i + 1))), (3, .int (f1 (i))), (0, .ref h0), (1, .ref h1)]) hx hb dX0_readStars_37 hl (k := 3) rfl (nI_inc i) (by decide) rfl (fun ls hl => ?_)
            refine lv_aload_n hx hb dX0_readStars_40 rfl (lv_at hl 2 rfl) ?_
            refine lv_aload_n hx hb dX0_readStars_41 rfl (lv_at hl 3 rfl) ?_
            refine lv_iload_n hx hb dX0_readStars_42 rfl (lv_at hl 0 rfl) ?_
            refine vp_callSi (va_Run.run (va_runV (As := [.int (nI (i + 1))]) (rest := [.ref h0]) ⟨hx, hb, hml, hown, hw⟩ (c_Row_at l dC dI h1 q1 k1 f1 n1 hn1 (nI (i + 1))) (cwV 1 hw (gV mw159 mw137 mw138 mw17 mw139) rfl rfl rfl (by decide +kernel) ⟨Nat.le_of_ble_eq_true rfl, Nat.le_of_ble_eq_true rfl⟩) (ro.V (q0 := 0) (ci := 1) hN (hK.sub (tys' := [(k1, .int)]) [1] rfl) (hP.sub (ws' := [(h1, .inr (1, [.ref q1, .int (nI n1)])), (q1, .inl (k1, 100, .inl f1))]) [2, 3] rfl) rfl rfl) rfl rfl hl.1 rfl (lv_room (Nat.le_of_ble_eq_true rfl)) dX0_readStars_43 ⟨Nat.le_of_ble_eq_true rfl, Nat.le_of_ble_eq_true rfl⟩)) (fun r18 hr18 => ?_)
            rw [ra_in (by omega) hn1] at hr18
            subst hr18
            have hPc := hP.sub (ws' := [(h0, .inr (0, [.ref q, .int (nI p1)])), (q, .inl (k, 100, .inl w))]) [0, 1] rfl
            have hDc := hD.sub (ws' := [(h0, .inr (0, [.ref q, .int (nI p1)])), (q, .inl (k, 100, .inl w))]) [0, 1] (by decide) rfl
            have hKc := hK.sub (tys' := [(k, .int)]) [0] rfl
            have hFc := va_free (wc := [(h0, .inr (0, [.ref q, .int (nI p1)])), (q, .inl (k, 100, .inl w))]) hD hS hA [0, 1] rfl
            refine va_callv (va_runV (As := [.int (f1 (i + 1))]) (rest := []) ⟨hx, hb, hml, hown, hw⟩ (c_Pat_append l dC dI H.size h0 q k w p1 (by omega) (f1 (i + 1))) (cwV 1 hw (gV mw160 mw162 mw6 mw18 mw163) rfl rfl rfl (by decide +kernel) ⟨Nat.le_of_ble_eq_true rfl, Nat.le_of_ble_eq_true rfl⟩) (wr.V (q0 := 0) (ci := 0) hN hKc hPc hDc rfl rfl) rfl rfl hl.1 rfl (lv_room (Nat.le_of_ble_eq_true rfl)) dX0_readStars_46 ⟨Nat.le_of_ble_eq_true rfl, Nat.le_of_ble_eq_true rfl⟩) hS (fun q _ h => hFc q h) hFc (fun ur19 t H1 locs ht hvm hr19 hB hz1 hk1 hS => ?_)
            subst hr19
            obtain ⟨hP1, hD1⟩ := hB
            rw [ht] at hP1
            obtain ⟨hP, hD⟩ := va_join (wr := [(h1, .inr (1, [.ref q1, .int (nI n1)])), (q1, .inl (k1, 100, .inl f1))]) (w1 := [(h0, .inr (0, [.ref q, .int (nI (p1 + 1))])), (q, .inl (k, 100, .inl (upd w p1 (f1 (i + 1)))))]) hP hD [0, 1] [2, 3] rfl rfl (by decide) (by decide) hk1 hFc hP1 hD1
            generalize H1 = H at hP hS ⊢
            have hP : va_P (dC, dI) cl5 [(h0, .inr (0, [.ref q, .int (nI (p1 + 1))])), (q, .inl (k, 100, .inl (upd w p1 (f1 (i + 1))))), (h1, .inr (1, [.ref q1, .int (nI n1)])), (q1, .inl (k1, 100, .inl f1))] H := hP.sub [2, 3, 0, 1] rfl
            have hD : va_D A [(h0, .inr (0, [.ref q, .int (nI (p1 + 1))])), (q, .inl (k, 100, .inl (upd w p1 (f1 (i + 1))))), (h1, .inr (1, [.ref q1, .int (nI n1)])), (q1, .inl (k1, 100, .inl f1))] := hD.sub [2, 3, 0, 1] (by decide) rfl
            refine lv_goto (tgt := 85) hx hb dX0_readStars_49 (by decide) ?_
            refine lv_iinc (v := nI (i + 1 + 1)) (lv' := [(2, .int (nI (i + 1 + 1))), (3, .int (f1 (i))), (0, .ref h0), (1, .ref h1)]) hx hb dX0_readStars_85 hl (k := 0) rfl (nI_inc (i + 1)) (by decide) rfl (fun ls hl => ?_)
            refine lv_goto (tgt := 7) hx hb dX0_readStars_88 (by decide) ?_
            exact ih7 (i + 1 + 1) (r - 1) (p1 + 1) (acc ++ [f1 (i + 1)]) _ (by omega) (by rw [List.length_append, List.length_singleton, hp9]) (by rw [List.append_assoc, ← e9, mkL_esc z1 z0 hr9]; rfl) (hlds_add e7 hp9) (by omega) (by omega) (by omega) H locs hP hD hS ls (lv_sub hl [2, 3, 0] rfl)
  exact loop7 (n1 + 1) 0 n1 0 [] f (by omega) rfl rfl hlds_0 (Nat.le_refl _) (Nat.zero_le _) (by omega) H locs hP hD hS ls (lv_sub hl [1, 2, 0] rfl)
end
section
/-- the marks from np - r on match the bytes from j on -/
def mt (m v : Nat → Int32) (np nv : Nat) (c : Int32) : Nat → Nat → Prop
  | 0, j => j = nv
  | r + 1, j => if m (np - (r + 1)) = 257 then ∃ k, j ≤ k ∧ k ≤ nv ∧ mt m v np nv c r k else j < nv ∧ mok (m (np - (r + 1))) (v j) c = true ∧ mt m v np nv c r (j + 1)
def mtI (m v : Nat → Int32) (np nv : Nat) (c : Int32) (i j : Nat) : Prop := mt m v np nv c (np - i) j
/-- L: what the stars from np - r on stand for, the first one the fewest, then the next -/
def spR (m v : Nat → Int32) (np nv : Nat) (c : Int32) : Nat → Nat → List (Nat × Nat) → Prop
  | 0, _, L => L = []
  | r + 1, j, L => if m (np - (r + 1)) = 257 then ∃ k L', L = (j, k - j) :: L' ∧ j ≤ k ∧ mt m v np nv c r k ∧ (∀ i, j ≤ i → i < k → ¬ mt m v np nv c r i) ∧ spR m v np nv c r k L' else spR m v np nv c r (j + 1) L
def spI (m v : Nat → Int32) (np nv : Nat) (c : Int32) (i j : Nat) (L : List (Nat × Nat)) : Prop := spR m v np nv c (np - i) j L
section GL
variable {m v : Nat → Int32} {np nv : Nat} {c : Int32}
theorem spR_one : ∀ r j L L', spR m v np nv c r j L → spR m v np nv c r j L' → L = L'
  | 0, _, _, _, h, h' => by unfold spR at h h'; rw [h, h']
  | r + 1, j, L, L', h, h' => by
    unfold spR at h h'
    split at h
    · rename_i q
      rw [if_pos q] at h'
      obtain ⟨k, K, rfl, h1, h2, h3, h4⟩ := h
      obtain ⟨k', K', rfl, g1, g2, g3, g4⟩ := h'
      have e : k = k' := by
        rcases Nat.lt_trichotomy k k' with z | z | z
        · exact absurd h2 (g3 k h1 z)
        · exact z
        · exact absurd g2 (h3 k' g1 z)
      subst e
      rw [spR_one r k K K' h4 g4]
    · rename_i q
      rw [if_neg q] at h'
      exact spR_one r (j + 1) L L' h h'
theorem mt_le : ∀ r j, mt m v np nv c r j → j ≤ nv
  | 0, j, h => by unfold mt at h; omega
  | r + 1, j, h => by
    unfold mt at h
    split at h
    · obtain ⟨k, h1, h2, -⟩ := h; omega
    · omega
theorem mtI_end {j : Nat} : mtI m v np nv c np j ↔ j = nv := by unfold mtI; rw [Nat.sub_self]; rfl
theorem mtI_star {i j : Nat} (hi : i < np) (h : m i = 257) : mtI m v np nv c i j ↔ ∃ k, j ≤ k ∧ k ≤ nv ∧ mtI m v np nv c (i + 1) k := by
  unfold mtI
  obtain ⟨r, hr⟩ : ∃ r, np - i = r + 1 := ⟨np - i - 1, by omega⟩
  have e : np - (i + 1) = r := by omega
  have e2 : np - (r + 1) = i := by omega
  rw [hr, e]
  conv => lhs; unfold mt
  rw [e2, if_pos h]
theorem mtI_one {i j : Nat} (hi : i < np) (h : ¬ m i = 257) : mtI m v np nv c i j ↔ j < nv ∧ mok (m i) (v j) c = true ∧ mtI m v np nv c (i + 1) (j + 1) := by
  unfold mtI
  obtain ⟨r, hr⟩ : ∃ r, np - i = r + 1 := ⟨np - i - 1, by omega⟩
  have e : np - (i + 1) = r := by omega
  have e2 : np - (r + 1) = i := by omega
  rw [hr, e]
  conv => lhs; unfold mt
  rw [e2, if_neg h]
theorem spI_end {j : Nat} {L : List (Nat × Nat)} : spI m v np nv c np j L ↔ L = [] := by unfold spI; rw [Nat.sub_self]; rfl
theorem spI_star {i j : Nat} {L : List (Nat × Nat)} (hi : i < np) (h : m i = 257) : spI m v np nv c i j L ↔ ∃ k L', L = (j, k - j) :: L' ∧ j ≤ k ∧ mtI m v np nv c (i + 1) k ∧ (∀ x, j ≤ x → x < k → ¬ mtI m v np nv c (i + 1) x) ∧ spI m v np nv c (i + 1) k L' := by
  unfold spI mtI
  obtain ⟨r, hr⟩ : ∃ r, np - i = r + 1 := ⟨np - i - 1, by omega⟩
  have e : np - (i + 1) = r := by omega
  have e2 : np - (r + 1) = i := by omega
  rw [hr, e]
  conv => lhs; unfold spR
  rw [e2, if_pos h]
theorem spI_one {i j : Nat} {L : List (Nat × Nat)} (hi : i < np) (h : ¬ m i = 257) : spI m v np nv c i j L ↔ spI m v np nv c (i + 1) (j + 1) L := by
  unfold spI
  obtain ⟨r, hr⟩ : ∃ r, np - i = r + 1 := ⟨np - i - 1, by omega⟩
  have e : np - (i + 1) = r := by omega
  have e2 : np - (r + 1) = i := by omega
  rw [hr, e]
  conv => lhs; unfold spR
  rw [e2, if_neg h]
theorem seg : ∀ k a j, (∀ i, a ≤ i → i < a + k → ¬ m i = 257) → a + k ≤ np → (mtI m v np nv c a j ↔ fitA m v c k a j = true ∧ mtI m v np nv c (a + k) (j + k))
  | 0, a, j, _, _ => by simp [fitA]
  | k + 1, a, j, h, hk => by
    rw [mtI_one (by omega) (h a (Nat.le_refl _) (by omega)), seg k (a + 1) (j + 1) (fun i h1 h2 => h i (by omega) (by omega)) (by omega)]
    rw [show a + 1 + k = a + (k + 1) from by omega, show j + 1 + k = j + (k + 1) from by omega]
    rw [show fitA m v c (k + 1) a j = (mok (m a) (v j) c && fitA m v c k (a + 1) (j + 1)) from rfl, Bool.and_eq_true]
    constructor
    · rintro ⟨_, h1, h2, h3⟩; exact ⟨⟨h1, h2⟩, h3⟩
    · rintro ⟨⟨h1, h2⟩, h3⟩
      have := mt_le _ _ h3
      exact ⟨by omega, h1, h2, h3⟩
theorem segS : ∀ k a j L, (∀ i, a ≤ i → i < a + k → ¬ m i = 257) → a + k ≤ np → (spI m v np nv c a j L ↔ spI m v np nv c (a + k) (j + k) L)
  | 0, a, j, L, _, _ => Iff.rfl
  | k + 1, a, j, L, h, hk => by
    rw [spI_one (by omega) (h a (Nat.le_refl _) (by omega)), segS k (a + 1) (j + 1) L (fun i h1 h2 => h i (by omega) (by omega)) (by omega)]
    rw [show a + 1 + k = a + (k + 1) from by omega, show j + 1 + k = j + (k + 1) from by omega]
theorem segB {a b j : Nat} (hab : a ≤ b) (h : ∀ i, a ≤ i → i < b → ¬ m i = 257) (hb : b ≤ np) : mtI m v np nv c a j ↔ fitB m v nv c a b j = true ∧ mtI m v np nv c b (j + (b - a)) := by
  have q := seg (m := m) (v := v) (np := np) (nv := nv) (c := c) (b - a) a j (fun i h1 h2 => h i h1 (by omega)) (by omega)
  rw [show a + (b - a) = b from by omega] at q
  rw [q]
  unfold fitB
  rw [Bool.and_eq_true, decide_eq_true_iff]
  constructor
  · rintro ⟨h1, h2⟩; exact ⟨⟨mt_le _ _ h2, h1⟩, h2⟩
  · rintro ⟨⟨_, h1⟩, h2⟩; exact ⟨h1, h2⟩
theorem segSB {a b j : Nat} {L : List (Nat × Nat)} (hab : a ≤ b) (h : ∀ i, a ≤ i → i < b → ¬ m i = 257) (hb : b ≤ np) : spI m v np nv c a j L ↔ spI m v np nv c b (j + (b - a)) L := by
  have q := segS (m := m) (v := v) (np := np) (nv := nv) (c := c) (b - a) a j L (fun i h1 h2 => h i h1 (by omega)) (by omega)
  rwa [show a + (b - a) = b from by omega] at q
theorem nI_nm1 {p : Nat} (h : p ≤ 1000) : ¬ nI p = -1 := by rw [ti_eq, nI_toInt (by omega), tc_m1]; omega
theorem fpA_none {a b : Nat} : ∀ k p, p + k ≤ 1000 → fpA m v nv c a b k p = -1 → ∀ x, p ≤ x → x < p + k → fitB m v nv c a b x = false
  | 0, p, _, _, x, h1, h2 => by omega
  | k + 1, p, hp, h, x, h1, h2 => by
    unfold fpA at h
    split at h
    · exact absurd h (nI_nm1 (by omega))
    · rename_i q
      by_cases e : x = p
      · subst e; simpa using q
      · exact fpA_none k (p + 1) (by omega) h x (by omega) (by omega)
theorem fpA_some {a b : Nat} : ∀ k p, ¬ fpA m v nv c a b k p = -1 → ∃ x, fpA m v nv c a b k p = nI x ∧ p ≤ x ∧ x < p + k ∧ fitB m v nv c a b x = true ∧ ∀ y, p ≤ y → y < x → fitB m v nv c a b y = false
  | 0, p, h => absurd rfl h
  | k + 1, p, h => by
    unfold fpA at h ⊢
    split
    · rename_i q; exact ⟨p, rfl, Nat.le_refl _, by omega, q, fun y h1 h2 => by omega⟩
    · rename_i q
      rw [if_neg q] at h
      obtain ⟨x, h1, h2, h3, h4, h5⟩ := fpA_some k (p + 1) h
      refine ⟨x, h1, by omega, by omega, h4, fun y g1 g2 => ?_⟩
      by_cases e : y = p
      · subst e; simpa using q
      · exact h5 y (by omega) g2
theorem fitB_len {a b x : Nat} (h : fitB m v nv c a b x = true) : x + (b - a) ≤ nv := by
  unfold fitB at h; rw [Bool.and_eq_true, decide_eq_true_iff] at h; exact h.1
theorem fp_none {a b e0 : Nat} (hv : nv ≤ 100) (he : e0 ≤ 100) (h : fpF m v nv c a b e0 = -1) : ∀ x, e0 ≤ x → ¬ fitB m v nv c a b x = true := by
  intro x hx q
  have h1 := fitB_len q
  have h2 := fpA_none _ _ (by omega) h x hx (by omega)
  rw [h2] at q; exact absurd q (by decide)
theorem fp_some {a b e0 : Nat} (h : ¬ fpF m v nv c a b e0 = -1) : ∃ x, fpF m v nv c a b e0 = nI x ∧ e0 ≤ x ∧ x + (b - a) ≤ nv ∧ fitB m v nv c a b x = true ∧ ∀ y, e0 ≤ y → y < x → ¬ fitB m v nv c a b y = true := by
  obtain ⟨x, h1, h2, h3, h4, h5⟩ := fpA_some _ _ h
  exact ⟨x, h1, h2, fitB_len h4, h4, fun y g1 g2 q => by rw [h5 y g1 g2] at q; exact absurd q (by decide)⟩
/-- the next star from b on, or the end -/
def nst (m : Nat → Int32) (np b : Nat) : Nat := cnt (fun j => decide (m j ≠ 257)) (np - b) b
theorem cnt_end (p : Nat → Bool) : ∀ k i, cnt p k i < i + k → p (cnt p k i) = false
  | 0, i, h => by simp [cnt] at h
  | k + 1, i, h => by
    unfold cnt at h ⊢
    split at h
    · rename_i q; rw [if_pos q]; exact cnt_end p k (i + 1) (by omega)
    · rename_i q; rw [if_neg q]; simpa using q
theorem nst_ge {b : Nat} : b ≤ nst m np b := (cnt_le _ _ _).1
theorem nst_le {b : Nat} (h : b ≤ np) : nst m np b ≤ np := by
  have := (cnt_le (fun j => decide (m j ≠ 257)) (np - b) b).2
  unfold nst; omega
theorem nst_no {b i : Nat} (h1 : b ≤ i) (h2 : i < nst m np b) : ¬ m i = 257 := of_decide_eq_true (cnt_in (fun j => decide (m j ≠ 257)) (np - b) b i h1 h2)
theorem nst_at {b : Nat} (hb : b ≤ np) (h : nst m np b < np) : m (nst m np b) = 257 := by
  have := cnt_end (fun j => decide (m j ≠ 257)) (np - b) b (by unfold nst at h; omega)
  exact Decidable.not_not.mp (of_decide_eq_false this)
/-- from where on the bytes behind a star are sought -/
def ear (np nv p a b : Nat) : Nat := if b = np then max p (nv - (b - a)) else p
theorem gr_none {e p : Nat} (he : e < np) (hs : m e = 257) (hv : nv ≤ 100) (hp : p ≤ nv) (h : fpF m v nv c (e + 1) (nst m np (e + 1)) (ear np nv p (e + 1) (nst m np (e + 1))) = -1) : ¬ mtI m v np nv c e p := by
  rw [mtI_star he hs]
  rintro ⟨k, h1, h2, h3⟩
  rw [segB nst_ge (fun i a b => nst_no a b) (nst_le (by omega))] at h3
  refine fp_none hv ?_ h k ?_ h3.1
  · unfold ear; split <;> omega
  · unfold ear
    split
    · rename_i q
      rw [q, mtI_end] at h3
      rw [q]; omega
    · exact h1
theorem gr_some {e p k0 : Nat} (he : e < np) (hs : m e = 257) (h1 : ear np nv p (e + 1) (nst m np (e + 1)) ≤ k0) (h2 : k0 + (nst m np (e + 1) - (e + 1)) ≤ nv) (h3 : fitB m v nv c (e + 1) (nst m np (e + 1)) k0 = true)
    (h4 : ∀ y, ear np nv p (e + 1) (nst m np (e + 1)) ≤ y → y < k0 → ¬ fitB m v nv c (e + 1) (nst m np (e + 1)) y = true) :
    p ≤ k0 ∧ (mtI m v np nv c e p ↔ mtI m v np nv c (nst m np (e + 1)) (k0 + (nst m np (e + 1) - (e + 1)))) ∧
    (mtI m v np nv c (nst m np (e + 1)) (k0 + (nst m np (e + 1) - (e + 1))) → ∀ L, spI m v np nv c (nst m np (e + 1)) (k0 + (nst m np (e + 1) - (e + 1))) L → spI m v np nv c e p ((p, k0 - p) :: L)) := by
  have hle : nst m np (e + 1) ≤ np := nst_le (by omega)
  have hge : e + 1 ≤ nst m np (e + 1) := nst_ge
  have hpk : p ≤ k0 := by
    unfold ear at h1; split at h1 <;> omega
  have hsg : ∀ j, mtI m v np nv c (e + 1) j ↔ _ := fun j => segB (v := v) (nv := nv) (c := c) (j := j) nst_ge (fun i a b => nst_no (m := m) (np := np) a b) hle
  have hmin : ∀ x, p ≤ x → x < k0 → ¬ mtI m v np nv c (e + 1) x := by
    intro x g1 g2 g3
    rw [hsg] at g3
    by_cases q : nst m np (e + 1) = np
    · rw [q, mtI_end] at g3
      rw [q] at h2; omega
    · exact h4 x (by unfold ear; rw [if_neg q]; exact g1) g2 g3.1
  refine ⟨hpk, ?_, ?_⟩
  · rw [mtI_star he hs]
    constructor
    · rintro ⟨k, g1, g2, g3⟩
      have hk : k0 ≤ k := Nat.not_lt.mp (fun z => hmin k g1 z g3)
      rw [hsg] at g3
      by_cases q : nst m np (e + 1) = np
      · rw [q, mtI_end] at g3 ⊢
        have h1' := h1
        unfold ear at h1'
        rw [if_pos q] at h1'
        rw [q] at h1' h2; omega
      · have hst := nst_at (m := m) (np := np) (b := e + 1) (by omega) (by omega)
        have g4 := g3.2
        rw [mtI_star (by omega) hst] at g4 ⊢
        obtain ⟨y, y1, y2, y3⟩ := g4
        exact ⟨y, by omega, y2, y3⟩
    · intro g
      exact ⟨k0, hpk, by omega, (hsg k0).mpr ⟨h3, g⟩⟩
  · intro g L hL
    rw [spI_star he hs]
    exact ⟨k0, L, rfl, hpk, (hsg k0).mpr ⟨h3, g⟩, hmin, (segSB nst_ge (fun i a b => nst_no a b) hle).mpr hL⟩
end GL
/-- the spans that two rows hold -/
def spIs (f g : Nat → Int32) (n : Nat) (L : List (Nat × Nat)) : Prop := n = L.length ∧ ∀ j, j < n → f j = nI (L.getD j (0, 0)).1 ∧ g j = nI (L.getD j (0, 0)).2
theorem spIs_0 {f g : Nat → Int32} : spIs f g 0 [] := ⟨rfl, fun j h => absurd h (Nat.not_lt_zero _)⟩
theorem spIs_add {f g : Nat → Int32} {n : Nat} {L : List (Nat × Nat)} {x y : Nat} (h : spIs f g n L) : spIs (upd f n (nI x)) (upd g n (nI y)) (n + 1) (L ++ [(x, y)]) := by
  obtain ⟨h1, h2⟩ := h
  refine ⟨by rw [List.length_append, List.length_singleton, h1], fun j hj => ?_⟩
  by_cases e : j = n
  · subst e; rw [pk_us, pk_us, h1]; simp
  · rw [pk_un e, pk_un e]
    have := h2 j (by omega)
    have hl : j < L.length := by omega
    simpa [List.getElem?_append_left hl] using this
end
section
theorem mt_congr {m w v : Nat → Int32} {np nv : Nat} {c : Int32} (h : ∀ i, i < np → m i = w i) : ∀ r j, r ≤ np → (mt m v np nv c r j ↔ mt w v np nv c r j)
  | 0, j, _ => Iff.rfl
  | r + 1, j, hr => by
    unfold mt
    rw [h (np - (r + 1)) (by omega)]
    split
    · constructor
      · rintro ⟨k, h1, h2, h3⟩; exact ⟨k, h1, h2, (mt_congr h r k (by omega)).mp h3⟩
      · rintro ⟨k, h1, h2, h3⟩; exact ⟨k, h1, h2, (mt_congr h r k (by omega)).mpr h3⟩
    · rw [mt_congr h r (j + 1) (by omega)]
theorem spR_congr {m w v : Nat → Int32} {np nv : Nat} {c : Int32} (h : ∀ i, i < np → m i = w i) : ∀ r j L, r ≤ np → spR m v np nv c r j L → spR w v np nv c r j L
  | 0, j, L, _, q => q
  | r + 1, j, L, hr, q => by
    unfold spR at q ⊢
    rw [h (np - (r + 1)) (by omega)] at q
    split at q
    · rename_i z
      rw [if_pos z]
      obtain ⟨k, L', h1, h2, h3, h4, h5⟩ := q
      exact ⟨k, L', h1, h2, (mt_congr h r k (by omega)).mp h3, fun i g1 g2 g3 => h4 i g1 g2 ((mt_congr h r i (by omega)).mpr g3), spR_congr h r k L' (by omega) h5⟩
    · rename_i z
      rw [if_neg z]
      exact spR_congr h r (j + 1) L (by omega) q
theorem fitA_congr {m w v : Nat → Int32} {c : Int32} : ∀ k i p, (∀ j, i ≤ j → j < i + k → m j = w j) → fitA m v c k i p = fitA w v c k i p
  | 0, _, _, _ => rfl
  | k + 1, i, p, h => by
    unfold fitA
    rw [h i (Nat.le_refl _) (by omega), fitA_congr k (i + 1) (p + 1) (fun j h1 h2 => h j (by omega) (by omega))]
theorem fpA_congr {m w v : Nat → Int32} {nv : Nat} {c : Int32} {a b : Nat} (h : ∀ j, a ≤ j → j < b → m j = w j) : ∀ k p, fpA m v nv c a b k p = fpA w v nv c a b k p
  | 0, _ => rfl
  | k + 1, p => by
    unfold fpA fitB
    rw [fitA_congr (w := w) (b - a) a p (fun j h1 h2 => h j h1 (by omega)), fpA_congr h k (p + 1)]
/-- the marks of a key, how many -/
def mkF (k : Nat → Int32) (nk : Nat) : Nat → Int32 := fun j => (mkL k nk nk 0).getD j 0
def mkN (k : Nat → Int32) (nk : Nat) : Nat := (mkL k nk nk 0).length
/-- like, with the spans L -/
def sLike (v k : Nat → Int32) (nv nk : Nat) (c : Int32) (L : List (Nat × Nat)) : Prop := mtI (mkF k nk) v (mkN k nk) nv c 0 0 ∧ spI (mkF k nk) v (mkN k nk) nv c 0 0 L
/-- contains, with the spans L -/
def sCon (v k : Nat → Int32) (nv nk : Nat) (c : Int32) (L : List (Nat × Nat)) : Prop := ∃ x, x ≤ 100 ∧ fpF k v nv c 0 nk 0 = nI x ∧ L = [(x, nk)]
/-- a match, with the spans L -/
def sMat (v k : Nat → Int32) (nv nk : Nat) (mm c : Int32) (L : List (Nat × Nat)) : Prop := (mm = 0 ∧ stF v k nv nk c = 0 ∧ L = []) ∨ (mm = 1 ∧ ¬ c = 2 ∧ sCon v k nv nk c L) ∨ (mm = 2 ∧ ¬ c = 2 ∧ sLike v k nv nk c L)
/-- an answer and the spans beside it -/
def mres (S : List (Nat × Nat) → Prop) (r : Int32) (f g : Nat → Int32) (n : Nat) : Prop := (r = 1 ∧ ∃ L, S L ∧ spIs f g n L) ∨ (r = 0 ∧ ∀ L, ¬ S L)
theorem lk_yes {v k w : Nat → Int32} {nv nk p1 : Nat} {c : Int32} {L : List (Nat × Nat)} (hp : p1 = (mkL k nk nk 0).length) (hw : hlds w (mkL k nk nk 0)) (h1 : mtI w v p1 nv c 0 0) (h2 : spI w v p1 nv c 0 0 L) : sLike v k nv nk c L := by
  subst hp
  exact ⟨(mt_congr (fun i hi => hw i hi) _ _ (Nat.sub_le _ _)).mp h1, spR_congr (fun i hi => hw i hi) _ _ _ (Nat.sub_le _ _) h2⟩
theorem lk_no {v k w : Nat → Int32} {nv nk p1 : Nat} {c : Int32} (hp : p1 = (mkL k nk nk 0).length) (hw : hlds w (mkL k nk nk 0)) (h1 : ¬ mtI w v p1 nv c 0 0) : ∀ L, ¬ sLike v k nv nk c L := by
  subst hp
  exact fun L q => h1 ((mt_congr (fun i hi => hw i hi) _ _ (Nat.sub_le _ _)).mpr q.1)
theorem ear_last {p1 nv p a b : Nat} (h1 : p1 ≤ 100) (h2 : nv ≤ 100) (h3 : p ≤ 100) (hab : a ≤ b) (hb : b = p1) : (if nI p < nI nv - (nI b - nI a) then nI nv - (nI b - nI a) else nI p) = nI (ear p1 nv p a b) := by
  unfold ear
  rw [if_pos hb, pk_sub hab]
  by_cases q : b - a ≤ nv
  · rw [pk_sub q, max32 h3 (by omega)]
  · rw [if_neg (by rw [ti_lt, pk_sub_toInt (by omega) (by omega), nI_toInt (by omega)]; omega), Nat.max_eq_left (by omega)]
theorem con_no {v k : Nat → Int32} {nv nk : Nat} {c : Int32} (h : fpF k v nv c 0 nk 0 = -1) : ∀ L, ¬ sCon v k nv nk c L := by
  rintro L ⟨x, h1, h2, -⟩
  rw [h] at h2; exact nI_nm1 (by omega) h2.symm
theorem lk_end {v k w : Nat → Int32} {nv nk p1 e1 p0 : Nat} {c : Int32} {acc : List (Nat × Nat)} (hp : p1 = (mkL k nk nk 0).length) (hw : hlds w (mkL k nk nk 0)) (e8 : e1 = p1) (z8 : p0 = nv)
    (i1 : mtI w v p1 nv c 0 0 ↔ mtI w v p1 nv c e1 p0) (i2 : mtI w v p1 nv c e1 p0 → ∀ L, spI w v p1 nv c e1 p0 L → spI w v p1 nv c 0 0 (acc ++ L)) : sLike v k nv nk c acc := by
  subst e8 z8
  have hm : mtI w v e1 p0 c e1 p0 := mtI_end.mpr rfl
  have hs := i2 hm [] (spI_end.mpr rfl)
  rw [List.append_nil] at hs
  exact lk_yes hp hw (i1.mpr hm) hs
theorem lk_fail {v k w : Nat → Int32} {nv nk p1 e1 p0 : Nat} {c : Int32} (hp : p1 = (mkL k nk nk 0).length) (hw : hlds w (mkL k nk nk 0)) (e8 : e1 = p1) (z8 : ¬ p0 = nv)
    (i1 : mtI w v p1 nv c 0 0 ↔ mtI w v p1 nv c e1 p0) : ∀ L, ¬ sLike v k nv nk c L := by
  subst e8
  exact lk_no hp hw (fun q => z8 (mtI_end.mp (i1.mp q)))
end
section
abbrev rm_c_con : Room := { frames := 3, cells := 0, slots := 0, locals := 75 }
set_option maxHeartbeats 4000000 in
set_option maxRecDepth 100000 in
theorem c_con (l : Launch) (dC : Nat → ClassId) (dI : Nat → Nat → Nat) (sz : Nat) (g rv rk pt sp av ak ap a1 a2 : Nat) (kv kk kp k1 k2 : ClassId) (fv fk fp f1 f2 : Nat → Int32) (nv nk np : Nat) (hv : nv ≤ 100) (hk : nk ≤ 100) (hp : np ≤ 100) (cp : Int32) : Met l yX3_containsKey (.code yX3_containsKey cX3_containsKey 3 (some (.boolean)) :: wsA) rm_c_con (va_Pc [.ref g, .int (cp)] (wr (dC, dI) [(g, .inr (3, [.ref rv, .ref rk, .ref pt, .ref sp])), (rv, .inr (1, [.ref av, .int (nI nv)])), (av, .inl (kv, 100, .inl fv)), (rk, .inr (1, [.ref ak, .int (nI nk)])), (ak, .inl (kk, 100, .inl fk)), (pt, .inr (0, [.ref ap, .int (nI np)])), (ap, .inl (kp, 100, .inl fp)), (sp, .inr (2, [.ref a1, .ref a2, .int (nI 0)])), (a1, .inl (k1, 100, .inl f1)), (a2, .inl (k2, 100, .inl f2))] [(kv, .int), (kk, .int), (kp, .int), (k1, .int), (k2, .int)] sz)) (va_Qi (fun (r : Int32) (u : (Nat → Int32) × Nat × (Nat → Int32) × (Nat → Int32) × Nat) => u.2.1 ≤ 100 ∧ u.2.2.2.2 ≤ 100 ∧ mres (sCon fv fk nv nk cp) r u.2.2.1 u.2.2.2.1 u.2.2.2.2) (wB (dC, dI) (va_A [(g, .inr (3, [.ref rv, .ref rk, .ref pt, .ref sp])), (rv, .inr (1, [.ref av, .int (nI nv)])), (av, .inl (kv, 100, .inl fv)), (rk, .inr (1, [.ref ak, .int (nI nk)])), (ak, .inl (kk, 100, .inl fk)), (pt, .inr (0, [.ref ap, .int (nI np)])), (ap, .inl (kp, 100, .inl fp)), (sp, .inr (2, [.ref a1, .ref a2, .int (nI 0)])), (a1, .inl (k1, 100, .inl f1)), (a2, .inl (k2, 100, .inl f2))] sz) (fun u : (Nat → Int32) × Nat × (Nat → Int32) × (Nat → Int32) × Nat => [(g, .inr (3, [.ref rv, .ref rk, .ref pt, .ref sp])), (rv, .inr (1, [.ref av, .int (nI nv)])), (av, .inl (kv, 100, .inl fv)), (rk, .inr (1, [.ref ak, .int (nI nk)])), (ak, .inl (kk, 100, .inl fk)), (pt, .inr (0, [.ref ap, .int (nI u.2.1)])), (ap, .inl (kp, 100, .inl (u.1))), (sp, .inr (2, [.ref a1, .ref a2, .int (nI u.2.2.2.2)])), (a1, .inl (k1, 100, .inl (u.2.2.1))), (a2, .inl (k2, 100, .inl (u.2.2.2.1)))])) (va_A [(g, .inr (3, [.ref rv, .ref rk, .ref pt, .ref sp])), (rv, .inr (1, [.ref av, .int (nI nv)])), (av, .inl (kv, 100, .inl fv)), (rk, .inr (1, [.ref ak, .int (nI nk)])), (ak, .inl (kk, 100, .inl fk)), (pt, .inr (0, [.ref ap, .int (nI np)])), (ap, .inl (kp, 100, .inl fp)), (sp, .inr (2, [.ref a1, .ref a2, .int (nI 0)])), (a1, .inl (k1, 100, .inl f1)), (a2, .inl (k2, 100, .inl f2))] sz)) 0 0 (va_A [(g, .inr (3, [.ref rv, .ref rk, .ref pt, .ref sp])), (rv, .inr (1, [.ref av, .int (nI nv)])), (av, .inl (kv, 100, .inl fv)), (rk, .inr (1, [.ref ak, .int (nI nk)])), (ak, .inl (kk, 100, .inl fk)), (pt, .inr (0, [.ref ap, .int (nI np)])), (ap, .inl (kp, 100, .inl fp)), (sp, .inr (2, [.ref a1, .ref a2, .int (nI 0)])), (a1, .inl (k1, 100, .inl f1)), (a2, .inl (k2, 100, .inl f2))] sz) := by
  refine Met.ofW (cc := cX3_containsKey) (maxL := 3) (ret := (some (.boolean))) (by decide) rfl ?_
  intro p e s m args below meth c s₁ B hml hv
  obtain ⟨hargs, hsz, hN, hP, hK, hD0⟩ := hv
  have hx := B.exec
  have hb := B.bytes
  have hr := B.returns
  have hw : ∀ w ∈ wsA, w.before args s = true := fun w h => atoms_spec (ws := (.code yX3_containsKey cX3_containsKey 3 (some (.boolean)) :: wsA)) B.pre w (List.mem_cons_of_mem _ h)
  have hown : s.vm.findClass "GlobDesk" = some m.cls := findClass_of_methodNamed B.named
  have hlocks := B.notSynchronized
  subst hsz
  have hD := hD0.self (sz := s.heap.size)
  generalize hAe : va_A [(g, .inr (3, [.ref rv, .ref rk, .ref pt, .ref sp])), (rv, .inr (1, [.ref av, .int (nI nv)])), (av, .inl (kv, 100, .inl fv)), (rk, .inr (1, [.ref ak, .int (nI nk)])), (ak, .inl (kk, 100, .inl fk)), (pt, .inr (0, [.ref ap, .int (nI np)])), (ap, .inl (kp, 100, .inl fp)), (sp, .inr (2, [.ref a1, .ref a2, .int (nI 0)])), (a1, .inl (k1, 100, .inl f1)), (a2, .inl (k2, 100, .inl f2))] s.heap.size = A at hD ⊢
  have hA : ∀ q : Nat, s.heap.size ≤ q → A q := fun q h => by rw [← hAe]; exact Or.inr h
  have hS : va_S A s.heap s.heap [] := va_S.rf
  generalize hQ : MQ below _ args s _ _ _ = Q
  change W p l e rm_c_con s m args below meth c s.heap [] 0 0 Q (entryFrame m args 3)
  have hl := lv_entry ([.ref g, .int (cp)]) (n := 3) (Nat.le_of_ble_eq_true rfl)
  rw [show entryFrame m args 3 = entryFrame m ([.ref g, .int (cp)] : List Value).toArray 3 from by rw [hargs], lg_entry_eq]
  generalize (lg_sl ([.ref g, .int (cp)]) ++ List.replicate (3 - (lg_sl ([.ref g, .int (cp)])).length) Slot.unset).toArray = ls at hl ⊢
  have hl : lv_has ls 3 [(0, .ref g), (1, .int (cp))] := hl
  refine lv_aload_n hx hb dX3_containsKey_0 rfl (lv_at hl 0 rfl) ?_
  refine va_get (D := (dC, dI)) (ci := 3) (v := .ref pt) (C := RX3) (T := TX3) (N := 4) hx hb hw inX3 hown hK hP 0 rfl rfl 2 (by decide) (hw _ mw79) (fun _ h9 => h9) rfl dX3_containsKey_1 ?_
  refine lv_aload_n hx hb dX3_containsKey_4 rfl (lv_at hl 0 rfl) ?_
  refine va_get (D := (dC, dI)) (ci := 3) (v := .ref rk) (C := RX3) (T := TX3) (N := 4) hx hb hw inX3 hown hK hP 0 rfl rfl 1 (by decide) (hw _ mw78) (fun _ h9 => h9) rfl dX3_containsKey_5 ?_
  have hPc := hP.sub (ws' := [(pt, .inr (0, [.ref ap, .int (nI np)])), (ap, .inl (kp, 100, .inl fp)), (rk, .inr (1, [.ref ak, .int (nI nk)])), (ak, .inl (kk, 100, .inl fk))]) [5, 6, 3, 4] rfl
  have hDc := hD.sub (ws' := [(pt, .inr (0, [.ref ap, .int (nI np)])), (ap, .inl (kp, 100, .inl fp)), (rk, .inr (1, [.ref ak, .int (nI nk)])), (ak, .inl (kk, 100, .inl fk))]) [5, 6, 3, 4] (by decide) rfl
  have hKc := hK.sub (tys' := [(kp, .int), (kk, .int)]) [2, 1] rfl
  have hFc := va_free (wc := [(pt, .inr (0, [.ref ap, .int (nI np)])), (ap, .inl (kp, 100, .inl fp)), (rk, .inr (1, [.ref ak, .int (nI nk)])), (ak, .inl (kk, 100, .inl fk))]) hD hS hA [5, 6, 3, 4] rfl
  refine va_callv (va_runV (As := [.ref rk]) (rest := []) ⟨hx, hb, hml, hown, hw⟩ (c_Pat_plain l dC dI s.heap.size pt ap kp fp np rk ak kk fk nk hk) (cwV 1 hw (gV mw155 mw156 mw157 mw18 mw158) rfl rfl rfl (by decide +kernel) ⟨Nat.le_of_ble_eq_true rfl, Nat.le_of_ble_eq_true rfl⟩) (wr.V (q0 := 0) (ci := 0) hN hKc hPc hDc rfl rfl) rfl rfl hl.1 rfl (lv_room (Nat.le_of_ble_eq_true rfl)) dX3_containsKey_8 ⟨Nat.le_of_ble_eq_true rfl, Nat.le_of_ble_eq_true rfl⟩) hS (fun q _ h => hFc q h) hFc (fun ur1 t H1 locs ht hvm hr1 hB hz1 hk1 hS => ?_)
  obtain ⟨w, p1⟩ := ur1
  obtain ⟨hpl, hw9⟩ := hr1
  dsimp only at hpl hw9
  rw [hpl] at hB
  have hfe : fpF w fv nv cp 0 nk 0 = fpF fk fv nv cp 0 nk 0 := fpA_congr (fun j _ h => hw9 j h) _ _
  obtain ⟨hP1, hD1⟩ := hB
  rw [ht] at hP1
  obtain ⟨hP, hD⟩ := va_join (wr := [(g, .inr (3, [.ref rv, .ref rk, .ref pt, .ref sp])), (rv, .inr (1, [.ref av, .int (nI nv)])), (av, .inl (kv, 100, .inl fv)), (sp, .inr (2, [.ref a1, .ref a2, .int (nI 0)])), (a1, .inl (k1, 100, .inl f1)), (a2, .inl (k2, 100, .inl f2))]) (w1 := [(pt, .inr (0, [.ref ap, .int (nI nk)])), (ap, .inl (kp, 100, .inl w)), (rk, .inr (1, [.ref ak, .int (nI nk)])), (ak, .inl (kk, 100, .inl fk))]) hP hD [5, 6, 3, 4] [0, 1, 2, 7, 8, 9] rfl rfl (by decide) (by decide) hk1 hFc hP1 hD1
  generalize H1 = H at hP hS ⊢
  have hP : va_P (dC, dI) cl5 [(g, .inr (3, [.ref rv, .ref rk, .ref pt, .ref sp])), (rv, .inr (1, [.ref av, .int (nI nv)])), (av, .inl (kv, 100, .inl fv)), (rk, .inr (1, [.ref ak, .int (nI nk)])), (ak, .inl (kk, 100, .inl fk)), (pt, .inr (0, [.ref ap, .int (nI nk)])), (ap, .inl (kp, 100, .inl w)), (sp, .inr (2, [.ref a1, .ref a2, .int (nI 0)])), (a1, .inl (k1, 100, .inl f1)), (a2, .inl (k2, 100, .inl f2))] H := hP.sub [0, 1, 2, 8, 9, 6, 7, 3, 4, 5] rfl
  have hD : va_D A [(g, .inr (3, [.ref rv, .ref rk, .ref pt, .ref sp])), (rv, .inr (1, [.ref av, .int (nI nv)])), (av, .inl (kv, 100, .inl fv)), (rk, .inr (1, [.ref ak, .int (nI nk)])), (ak, .inl (kk, 100, .inl fk)), (pt, .inr (0, [.ref ap, .int (nI nk)])), (ap, .inl (kp, 100, .inl w)), (sp, .inr (2, [.ref a1, .ref a2, .int (nI 0)])), (a1, .inl (k1, 100, .inl f1)), (a2, .inl (k2, 100, .inl f2))] := hD.sub [0, 1, 2, 8, 9, 6, 7, 3, 4, 5] (by decide) rfl
  refine lv_aload_n hx hb dX3_containsKey_11 rfl (lv_at hl 0 rfl) ?_
  refine lv_iconst (v := 0) hx hb dX3_containsKey_12 (by decide) ?_
  refine lv_topi (fun x2 ex2 => ?_)
  obtain rfl : x2 = nI 0 := by rw [ex2]; exact nI_0.symm
  refine lv_aload_n hx hb dX3_containsKey_13 rfl (lv_at hl 0 rfl) ?_
  refine va_get (D := (dC, dI)) (ci := 3) (v := .ref pt) (C := RX3) (T := TX3) (N := 4) hx hb hw inX3 hown hK hP 0 rfl rfl 2 (by decide) (hw _ mw79) (fun _ h9 => h9) rfl dX3_containsKey_14 ?_
  refine va_getN (D := (dC, dI)) (ci := 0) (v := .int (nI nk)) (C := RX0) (T := TX0) (N := 2) hx hb hw inX0 hown hK hP 5 rfl rfl 1 (by decide) (va_Nw.use rfl hN.2.2.2.2.1) (fun _ h9 => h9) rfl dX3_containsKey_17 ?_
  refine lv_iconst (v := 0) hx hb dX3_containsKey_20 (by decide) ?_
  refine lv_topi (fun x3 ex3 => ?_)
  obtain rfl : x3 = nI 0 := by rw [ex3]; exact nI_0.symm
  refine lv_iload_n hx hb dX3_containsKey_21 rfl (lv_at hl 1 rfl) ?_
  refine vp_callSi (va_Run.run (va_runV (As := [.int (nI 0), .int (nI nk), .int (nI 0), .int (cp)]) (rest := []) ⟨hx, hb, hml, hown, hw⟩ (c_first l dC dI g rv rk pt sp av ak ap a1 a2 kv kk kp k1 k2 fv fk w f1 f2 nv nk nk 0 hv hk hk (Nat.zero_le _) 0 nk 0 cp (Nat.zero_le _) (Nat.le_refl _) (Nat.zero_le _)) (cwV 4 hw (gV mw164 mw166 mw7 mw16 mw167) rfl rfl rfl (by decide +kernel) ⟨Nat.le_of_ble_eq_true rfl, Nat.le_of_ble_eq_true rfl⟩) (ro.V (q0 := 0) (ci := 3) hN (hK.sub (tys' := [(kv, .int), (kk, .int), (kp, .int), (k1, .int), (k2, .int)]) [0, 1, 2, 3, 4] rfl) (hP.sub (ws' := [(g, .inr (3, [.ref rv, .ref rk, .ref pt, .ref sp])), (rv, .inr (1, [.ref av, .int (nI nv)])), (av, .inl (kv, 100, .inl fv)), (rk, .inr (1, [.ref ak, .int (nI nk)])), (ak, .inl (kk, 100, .inl fk)), (pt, .inr (0, [.ref ap, .int (nI nk)])), (ap, .inl (kp, 100, .inl w)), (sp, .inr (2, [.ref a1, .ref a2, .int (nI 0)])), (a1, .inl (k1, 100, .inl f1)), (a2, .inl (k2, 100, .inl f2))]) [0, 1, 2, 3, 4, 5, 6, 7, 8, 9] rfl) rfl rfl) rfl rfl hl.1 rfl (lv_room (Nat.le_of_ble_eq_true rfl)) dX3_containsKey_22 ⟨Nat.le_of_ble_eq_true rfl, Nat.le_of_ble_eq_true rfl⟩)) (fun r4 hr4 => ?_)
  rw [hfe] at hr4
  subst hr4
  refine lv_istore_n (lv' := [(2, .int (fpF fk fv nv cp 0 nk 0)), (0, .ref g), (1, .int (cp))]) hx hb dX3_containsKey_25 rfl hl (by decide) rfl (fun ls hl => ?_)
  refine lv_iload_n hx hb dX3_containsKey_26 rfl (lv_at hl 0 rfl) ?_
  refine lv_iconst (v := -1) hx hb dX3_containsKey_27 (by decide) ?_
  refine lv_icmp_ne (tgt := 33) hx hb dX3_containsKey_28 (by decide) (fun c28_4 => ?_) (fun c28_4 => ?_)
  · skip
    obtain ⟨x0, ex0, gx1, gx2, -, -⟩ := fp_some c28_4
    rw [ex0] at hl
    refine lv_aload_n hx hb dX3_containsKey_33 rfl (lv_at hl 1 rfl) ?_
    refine va_get (D := (dC, dI)) (ci := 3) (v := .ref sp) (C := RX3) (T := TX3) (N := 4) hx hb hw inX3 hown hK hP 0 rfl rfl 3 (by decide) (hw _ mw80) (fun _ h9 => h9) rfl dX3_containsKey_34 ?_
    refine lv_iload_n hx hb dX3_containsKey_37 rfl (lv_at hl 0 rfl) ?_
    refine lv_aload_n hx hb dX3_containsKey_38 rfl (lv_at hl 1 rfl) ?_
    refine va_get (D := (dC, dI)) (ci := 3) (v := .ref pt) (C := RX3) (T := TX3) (N := 4) hx hb hw inX3 hown hK hP 0 rfl rfl 2 (by decide) (hw _ mw79) (fun _ h9 => h9) rfl dX3_containsKey_39 ?_
    refine va_getN (D := (dC, dI)) (ci := 0) (v := .int (nI nk)) (C := RX0) (T := TX0) (N := 2) hx hb hw inX0 hown hK hP 5 rfl rfl 1 (by decide) (va_Nw.use rfl hN.2.2.2.2.1) (fun _ h9 => h9) rfl dX3_containsKey_42 ?_
    have hPc := hP.sub (ws' := [(sp, .inr (2, [.ref a1, .ref a2, .int (nI 0)])), (a1, .inl (k1, 100, .inl f1)), (a2, .inl (k2, 100, .inl f2))]) [7, 8, 9] rfl
    have hDc := hD.sub (ws' := [(sp, .inr (2, [.ref a1, .ref a2, .int (nI 0)])), (a1, .inl (k1, 100, .inl f1)), (a2, .inl (k2, 100, .inl f2))]) [7, 8, 9] (by decide) rfl
    have hKc := hK.sub (tys' := [(k1, .int), (k2, .int)]) [3, 4] rfl
    have hFc := va_free (wc := [(sp, .inr (2, [.ref a1, .ref a2, .int (nI 0)])), (a1, .inl (k1, 100, .inl f1)), (a2, .inl (k2, 100, .inl f2))]) hD hS hA [7, 8, 9] rfl
    refine va_callv (va_runV (As := [.int (nI x0), .int (nI nk)]) (rest := []) ⟨hx, hb, hml, hown, hw⟩ (c_Sp_append l dC dI H.size sp a1 a2 k1 k2 f1 f2 0 (by omega) (nI x0) (nI nk)) (cwV 2 hw (gV mw176 mw177 mw178 mw19 mw179) rfl rfl rfl (by decide +kernel) ⟨Nat.le_of_ble_eq_true rfl, Nat.le_of_ble_eq_true rfl⟩) (wr.V (q0 := 0) (ci := 2) hN hKc hPc hDc rfl rfl) rfl rfl hl.1 rfl (lv_room (Nat.le_of_ble_eq_true rfl)) dX3_containsKey_45 ⟨Nat.le_of_ble_eq_true rfl, Nat.le_of_ble_eq_true rfl⟩) hS (fun q _ h => hFc q h) hFc (fun ur6 t H1 locs ht hvm hr6 hB hz1 hk1 hS => ?_)
    subst hr6
    obtain ⟨hP1, hD1⟩ := hB
    rw [ht] at hP1
    obtain ⟨hP, hD⟩ := va_join (wr := [(g, .inr (3, [.ref rv, .ref rk, .ref pt, .ref sp])), (rv, .inr (1, [.ref av, .int (nI nv)])), (av, .inl (kv, 100, .inl fv)), (rk, .inr (1, [.ref ak, .int (nI nk)])), (ak, .inl (kk, 100, .inl fk)), (pt, .inr (0, [.ref ap, .int (nI nk)])), (ap, .inl (kp, 100, .inl w))]) (w1 := [(sp, .inr (2, [.ref a1, .ref a2, .int (nI (0 + 1))])), (a1, .inl (k1, 100, .inl (upd f1 0 (nI x0)))), (a2, .inl (k2, 100, .inl (upd f2 0 (nI nk))))]) hP hD [7, 8, 9] [0, 1, 2, 3, 4, 5, 6] rfl rfl (by decide) (by decide) hk1 hFc hP1 hD1
    generalize H1 = H at hP hS ⊢
    have hP : va_P (dC, dI) cl5 [(g, .inr (3, [.ref rv, .ref rk, .ref pt, .ref sp])), (rv, .inr (1, [.ref av, .int (nI nv)])), (av, .inl (kv, 100, .inl fv)), (rk, .inr (1, [.ref ak, .int (nI nk)])), (ak, .inl (kk, 100, .inl fk)), (pt, .inr (0, [.ref ap, .int (nI nk)])), (ap, .inl (kp, 100, .inl w)), (sp, .inr (2, [.ref a1, .ref a2, .int (nI (0 + 1))])), (a1, .inl (k1, 100, .inl (upd f1 0 (nI x0)))), (a2, .inl (k2, 100, .inl (upd f2 0 (nI nk))))] H := hP.sub [0, 1, 2, 3, 4, 5, 6, 7, 8, 9] rfl
    have hD : va_D A [(g, .inr (3, [.ref rv, .ref rk, .ref pt, .ref sp])), (rv, .inr (1, [.ref av, .int (nI nv)])), (av, .inl (kv, 100, .inl fv)), (rk, .inr (1, [.ref ak, .int (nI nk)])), (ak, .inl (kk, 100, .inl fk)), (pt, .inr (0, [.ref ap, .int (nI nk)])), (ap, .inl (kp, 100, .inl w)), (sp, .inr (2, [.ref a1, .ref a2, .int (nI (0 + 1))])), (a1, .inl (k1, 100, .inl (upd f1 0 (nI x0)))), (a2, .inl (k2, 100, .inl (upd f2 0 (nI nk))))] := hD.sub [0, 1, 2, 3, 4, 5, 6, 7, 8, 9] (by decide) rfl
    refine lv_iconst (v := 1) hx hb dX3_containsKey_48 (by decide) ?_
    subst hQ
    exact W.zret (v := 1) hx hb hr (by decide) (fun t ht hW => ⟨⟨_, (w, nk, upd f1 0 (nI x0), upd f2 0 (nI nk), 0 + 1), rfl, ⟨hk, by show 0 + 1 ≤ 100; omega, Or.inl ⟨rfl, [(x0, nk)], ⟨x0, by omega, ex0, rfl⟩, spIs_add spIs_0⟩⟩, by rw [ht]; exact hP, hD⟩, hS.F ht⟩) hS.2.2 dX3_containsKey_49
  · skip
    have q1 := c28_4
    refine lv_iconst (v := 0) hx hb dX3_containsKey_31 (by decide) ?_
    subst hQ
    exact W.zret (v := 0) hx hb hr (by decide) (fun t ht hW => ⟨⟨_, (w, nk, f1, f2, 0), rfl, ⟨hk, Nat.zero_le _, Or.inr ⟨rfl, con_no (by first | exact q1 | exact Decidable.not_not.mp q1)⟩⟩, by rw [ht]; exact hP, hD⟩, hS.F ht⟩) hS.2.2 dX3_containsKey_32

abbrev rm_c_like : Room := { frames := 3, cells := 0, slots := 0, locals := 75 }
set_option maxHeartbeats 4000000 in
set_option maxRecDepth 100000 in
theorem c_like (l : Launch) (dC : Nat → ClassId) (dI : Nat → Nat → Nat) (sz : Nat) (g rv rk pt sp av ak ap a1 a2 : Nat) (kv kk kp k1 k2 : ClassId) (fv fk fp f1 f2 : Nat → Int32) (nv nk np : Nat) (hv : nv ≤ 100) (hk : nk ≤ 100) (hp : np ≤ 100) (cp : Int32) : Met l yX3_isLikeKey (.code yX3_isLikeKey cX3_isLikeKey 9 (some (.boolean)) :: wsA) rm_c_like (va_Pc [.ref g, .int (cp)] (wr (dC, dI) [(g, .inr (3, [.ref rv, .ref rk, .ref pt, .ref sp])), (rv, .inr (1, [.ref av, .int (nI nv)])), (av, .inl (kv, 100, .inl fv)), (rk, .inr (1, [.ref ak, .int (nI nk)])), (ak, .inl (kk, 100, .inl fk)), (pt, .inr (0, [.ref ap, .int (nI np)])), (ap, .inl (kp, 100, .inl fp)), (sp, .inr (2, [.ref a1, .ref a2, .int (nI 0)])), (a1, .inl (k1, 100, .inl f1)), (a2, .inl (k2, 100, .inl f2))] [(kv, .int), (kk, .int), (kp, .int), (k1, .int), (k2, .int)] sz)) (va_Qi (fun (r : Int32) (u : (Nat → Int32) × Nat × (Nat → Int32) × (Nat → Int32) × Nat) => u.2.1 ≤ 100 ∧ u.2.2.2.2 ≤ 100 ∧ mres (sLike fv fk nv nk cp) r u.2.2.1 u.2.2.2.1 u.2.2.2.2) (wB (dC, dI) (va_A [(g, .inr (3, [.ref rv, .ref rk, .ref pt, .ref sp])), (rv, .inr (1, [.ref av, .int (nI nv)])), (av, .inl (kv, 100, .inl fv)), (rk, .inr (1, [.ref ak, .int (nI nk)])), (ak, .inl (kk, 100, .inl fk)), (pt, .inr (0, [.ref ap, .int (nI np)])), (ap, .inl (kp, 100, .inl fp)), (sp, .inr (2, [.ref a1, .ref a2, .int (nI 0)])), (a1, .inl (k1, 100, .inl f1)), (a2, .inl (k2, 100, .inl f2))] sz) (fun u : (Nat → Int32) × Nat × (Nat → Int32) × (Nat → Int32) × Nat => [(g, .inr (3, [.ref rv, .ref rk, .ref pt, .ref sp])), (rv, .inr (1, [.ref av, .int (nI nv)])), (av, .inl (kv, 100, .inl fv)), (rk, .inr (1, [.ref ak, .int (nI nk)])), (ak, .inl (kk, 100, .inl fk)), (pt, .inr (0, [.ref ap, .int (nI u.2.1)])), (ap, .inl (kp, 100, .inl (u.1))), (sp, .inr (2, [.ref a1, .ref a2, .int (nI u.2.2.2.2)])), (a1, .inl (k1, 100, .inl (u.2.2.1))), (a2, .inl (k2, 100, .inl (u.2.2.2.1)))])) (va_A [(g, .inr (3, [.ref rv, .ref rk, .ref pt, .ref sp])), (rv, .inr (1, [.ref av, .int (nI nv)])), (av, .inl (kv, 100, .inl fv)), (rk, .inr (1, [.ref ak, .int (nI nk)])), (ak, .inl (kk, 100, .inl fk)), (pt, .inr (0, [.ref ap, .int (nI np)])), (ap, .inl (kp, 100, .inl fp)), (sp, .inr (2, [.ref a1, .ref a2, .int (nI 0)])), (a1, .inl (k1, 100, .inl f1)), (a2, .inl (k2, 100, .inl f2))] sz)) 0 0 (va_A [(g, .inr (3, [.ref rv, .ref rk, .ref pt, .ref sp])), (rv, .inr (1, [.ref av, .int (nI nv)])), (av, .inl (kv, 100, .inl fv)), (rk, .inr (1, [.ref ak, .int (nI nk)])), (ak, .inl (kk, 100, .inl fk)), (pt, .inr (0, [.ref ap, .int (nI np)])), (ap, .inl (kp, 100, .inl fp)), (sp, .inr (2, [.ref a1, .ref a2, .int (nI 0)])), (a1, .inl (k1, 100, .inl f1)), (a2, .inl (k2, 100, .inl f2))] sz) := by
  refine Met.ofW (cc := cX3_isLikeKey) (maxL := 9) (ret := (some (.boolean))) (by decide) rfl ?_
  intro p e s m args below meth c s₁ B hml hv
  obtain ⟨hargs, hsz, hN, hP, hK, hD0⟩ := hv
  have hx := B.exec
  have hb := B.bytes
  have hr := B.returns
  have hw : ∀ w ∈ wsA, w.before args s = true := fun w h => atoms_spec (ws := (.code yX3_isLikeKey cX3_isLikeKey 9 (some (.boolean)) :: wsA)) B.pre w (List.mem_cons_of_mem _ h)
  have hown : s.vm.findClass "GlobDesk" = some m.cls := findClass_of_methodNamed B.named
  have hlocks := B.notSynchronized
  subst hsz
  have hD := hD0.self (sz := s.heap.size)
  generalize hAe : va_A [(g, .inr (3, [.ref rv, .ref rk, .ref pt, .ref sp])), (rv, .inr (1, [.ref av, .int (nI nv)])), (av, .inl (kv, 100, .inl fv)), (rk, .inr (1, [.ref ak, .int (nI nk)])), (ak, .inl (kk, 100, .inl fk)), (pt, .inr (0, [.ref ap, .int (nI np)])), (ap, .inl (kp, 100, .inl fp)), (sp, .inr (2, [.ref a1, .ref a2, .int (nI 0)])), (a1, .inl (k1, 100, .inl f1)), (a2, .inl (k2, 100, .inl f2))] s.heap.size = A at hD ⊢
  have hA : ∀ q : Nat, s.heap.size ≤ q → A q := fun q h => by rw [← hAe]; exact Or.inr h
  have hS : va_S A s.heap s.heap [] := va_S.rf
  generalize hQ : MQ below _ args s _ _ _ = Q
  change W p l e rm_c_like s m args below meth c s.heap [] 0 0 Q (entryFrame m args 9)
  have hl := lv_entry ([.ref g, .int (cp)]) (n := 9) (Nat.le_of_ble_eq_true rfl)
  rw [show entryFrame m args 9 = entryFrame m ([.ref g, .int (cp)] : List Value).toArray 9 from by rw [hargs], lg_entry_eq]
  generalize (lg_sl ([.ref g, .int (cp)]) ++ List.replicate (9 - (lg_sl ([.ref g, .int (cp)])).length) Slot.unset).toArray = ls at hl ⊢
  have hl : lv_has ls 9 [(0, .ref g), (1, .int (cp))] := hl
  refine lv_aload_n hx hb dX3_isLikeKey_0 rfl (lv_at hl 0 rfl) ?_
  refine va_get (D := (dC, dI)) (ci := 3) (v := .ref pt) (C := RX3) (T := TX3) (N := 4) hx hb hw inX3 hown hK hP 0 rfl rfl 2 (by decide) (hw _ mw79) (fun _ h9 => h9) rfl dX3_isLikeKey_1 ?_
  refine lv_aload_n hx hb dX3_isLikeKey_4 rfl (lv_at hl 0 rfl) ?_
  refine va_get (D := (dC, dI)) (ci := 3) (v := .ref rk) (C := RX3) (T := TX3) (N := 4) hx hb hw inX3 hown hK hP 0 rfl rfl 1 (by decide) (hw _ mw78) (fun _ h9 => h9) rfl dX3_isLikeKey_5 ?_
  have hPc := hP.sub (ws' := [(pt, .inr (0, [.ref ap, .int (nI np)])), (ap, .inl (kp, 100, .inl fp)), (rk, .inr (1, [.ref ak, .int (nI nk)])), (ak, .inl (kk, 100, .inl fk))]) [5, 6, 3, 4] rfl
  have hDc := hD.sub (ws' := [(pt, .inr (0, [.ref ap, .int (nI np)])), (ap, .inl (kp, 100, .inl fp)), (rk, .inr (1, [.ref ak, .int (nI nk)])), (ak, .inl (kk, 100, .inl fk))]) [5, 6, 3, 4] (by decide) rfl
  have hKc := hK.sub (tys' := [(kp, .int), (kk, .int)]) [2, 1] rfl
  have hFc := va_free (wc := [(pt, .inr (0, [.ref ap, .int (nI np)])), (ap, .inl (kp, 100, .inl fp)), (rk, .inr (1, [.ref ak, .int (nI nk)])), (ak, .inl (kk, 100, .inl fk))]) hD hS hA [5, 6, 3, 4] rfl
  refine va_callv (va_runV (As := [.ref rk]) (rest := []) ⟨hx, hb, hml, hown, hw⟩ (c_Pat_stars l dC dI s.heap.size pt ap kp fp np rk ak kk fk nk hk) (cwV 1 hw (gV mw184 mw185 mw186 mw18 mw187) rfl rfl rfl (by decide +kernel) ⟨Nat.le_of_ble_eq_true rfl, Nat.le_of_ble_eq_true rfl⟩) (wr.V (q0 := 0) (ci := 0) hN hKc hPc hDc rfl rfl) rfl rfl hl.1 rfl (lv_room (Nat.le_of_ble_eq_true rfl)) dX3_isLikeKey_8 ⟨Nat.le_of_ble_eq_true rfl, Nat.le_of_ble_eq_true rfl⟩) hS (fun q _ h => hFc q h) hFc (fun ur1 t H1 locs ht hvm hr1 hB hz1 hk1 hS => ?_)
  obtain ⟨w, p1⟩ := ur1
  obtain ⟨hpl, hple, hw9⟩ := hr1
  dsimp only at hpl hple hw9
  have hp1 : p1 ≤ 100 := by omega
  obtain ⟨hP1, hD1⟩ := hB
  rw [ht] at hP1
  obtain ⟨hP, hD⟩ := va_join (wr := [(g, .inr (3, [.ref rv, .ref rk, .ref pt, .ref sp])), (rv, .inr (1, [.ref av, .int (nI nv)])), (av, .inl (kv, 100, .inl fv)), (sp, .inr (2, [.ref a1, .ref a2, .int (nI 0)])), (a1, .inl (k1, 100, .inl f1)), (a2, .inl (k2, 100, .inl f2))]) (w1 := [(pt, .inr (0, [.ref ap, .int (nI p1)])), (ap, .inl (kp, 100, .inl w)), (rk, .inr (1, [.ref ak, .int (nI nk)])), (ak, .inl (kk, 100, .inl fk))]) hP hD [5, 6, 3, 4] [0, 1, 2, 7, 8, 9] rfl rfl (by decide) (by decide) hk1 hFc hP1 hD1
  generalize H1 = H at hP hS ⊢
  have hP : va_P (dC, dI) cl5 [(g, .inr (3, [.ref rv, .ref rk, .ref pt, .ref sp])), (rv, .inr (1, [.ref av, .int (nI nv)])), (av, .inl (kv, 100, .inl fv)), (rk, .inr (1, [.ref ak, .int (nI nk)])), (ak, .inl (kk, 100, .inl fk)), (pt, .inr (0, [.ref ap, .int (nI p1)])), (ap, .inl (kp, 100, .inl w)), (sp, .inr (2, [.ref a1, .ref a2, .int (nI 0)])), (a1, .inl (k1, 100, .inl f1)), (a2, .inl (k2, 100, .inl f2))] H := hP.sub [0, 1, 2, 8, 9, 6, 7, 3, 4, 5] rfl
  have hD : va_D A [(g, .inr (3, [.ref rv, .ref rk, .ref pt, .ref sp])), (rv, .inr (1, [.ref av, .int (nI nv)])), (av, .inl (kv, 100, .inl fv)), (rk, .inr (1, [.ref ak, .int (nI nk)])), (ak, .inl (kk, 100, .inl fk)), (pt, .inr (0, [.ref ap, .int (nI p1)])), (ap, .inl (kp, 100, .inl w)), (sp, .inr (2, [.ref a1, .ref a2, .int (nI 0)])), (a1, .inl (k1, 100, .inl f1)), (a2, .inl (k2, 100, .inl f2))] := hD.sub [0, 1, 2, 8, 9, 6, 7, 3, 4, 5] (by decide) rfl
  refine lv_aload_n hx hb dX3_isLikeKey_11 rfl (lv_at hl 0 rfl) ?_
  refine va_get (D := (dC, dI)) (ci := 3) (v := .ref pt) (C := RX3) (T := TX3) (N := 4) hx hb hw inX3 hown hK hP 0 rfl rfl 2 (by decide) (hw _ mw79) (fun _ h9 => h9) rfl dX3_isLikeKey_12 ?_
  refine lv_iconst (v := 0) hx hb dX3_isLikeKey_15 (by decide) ?_
  refine lv_topi (fun x2 ex2 => ?_)
  obtain rfl : x2 = nI 0 := by rw [ex2]; exact nI_0.symm
  refine vp_callSi (va_Run.run (va_runV (As := [.int (nI 0)]) (rest := []) ⟨hx, hb, hml, hown, hw⟩ (c_Pat_star l dC dI pt ap kp w p1 hp1 0 (by omega)) (cwV 1 hw (gV mw188 mw189 mw190 mw18 mw191) rfl rfl rfl (by decide +kernel) ⟨Nat.le_of_ble_eq_true rfl, Nat.le_of_ble_eq_true rfl⟩) (ro.V (q0 := 0) (ci := 0) hN (hK.sub (tys' := [(kp, .int)]) [2] rfl) (hP.sub (ws' := [(pt, .inr (0, [.ref ap, .int (nI p1)])), (ap, .inl (kp, 100, .inl w))]) [5, 6] rfl) rfl rfl) rfl rfl hl.1 rfl (lv_room (Nat.le_of_ble_eq_true rfl)) dX3_isLikeKey_16 ⟨Nat.le_of_ble_eq_true rfl, Nat.le_of_ble_eq_true rfl⟩)) (fun r3 hr3 => ?_)
  obtain rfl : r3 = nI (nst w p1 0) := hr3
  refine lv_istore_n (lv' := [(2, .int (nI (nst w p1 0))), (0, .ref g), (1, .int (cp))]) hx hb dX3_isLikeKey_19 rfl hl (by decide) rfl (fun ls hl => ?_)
  refine lv_aload_n hx hb dX3_isLikeKey_20 rfl (lv_at hl 1 rfl) ?_
  refine lv_iconst (v := 0) hx hb dX3_isLikeKey_21 (by decide) ?_
  refine lv_topi (fun x4 ex4 => ?_)
  obtain rfl : x4 = nI 0 := by rw [ex4]; exact nI_0.symm
  refine lv_iload_n hx hb dX3_isLikeKey_22 rfl (lv_at hl 0 rfl) ?_
  refine lv_iconst (v := 0) hx hb dX3_isLikeKey_23 (by decide) ?_
  refine lv_topi (fun x5 ex5 => ?_)
  obtain rfl : x5 = nI 0 := by rw [ex5]; exact nI_0.symm
  refine lv_iload_n hx hb dX3_isLikeKey_24 rfl (lv_at hl 2 rfl) ?_
  refine vp_callSi (va_Run.run (va_runV (As := [.int (nI 0), .int (nI (nst w p1 0)), .int (nI 0), .int (cp)]) (rest := []) ⟨hx, hb, hml, hown, hw⟩ (c_fits l dC dI g rv rk pt sp av ak ap a1 a2 kv kk kp k1 k2 fv fk w f1 f2 nv nk p1 0 hv hk hp1 (Nat.zero_le _) 0 (nst w p1 0) 0 cp (Nat.zero_le _) (nst_le (Nat.zero_le _)) (Nat.zero_le _)) (cwV 4 hw (gV mw168 mw170 mw8 mw16 mw171) rfl rfl rfl (by decide +kernel) ⟨Nat.le_of_ble_eq_true rfl, Nat.le_of_ble_eq_true rfl⟩) (ro.V (q0 := 0) (ci := 3) hN (hK.sub (tys' := [(kv, .int), (kk, .int), (kp, .int), (k1, .int), (k2, .int)]) [0, 1, 2, 3, 4] rfl) (hP.sub (ws' := [(g, .inr (3, [.ref rv, .ref rk, .ref pt, .ref sp])), (rv, .inr (1, [.ref av, .int (nI nv)])), (av, .inl (kv, 100, .inl fv)), (rk, .inr (1, [.ref ak, .int (nI nk)])), (ak, .inl (kk, 100, .inl fk)), (pt, .inr (0, [.ref ap, .int (nI p1)])), (ap, .inl (kp, 100, .inl w)), (sp, .inr (2, [.ref a1, .ref a2, .int (nI 0)])), (a1, .inl (k1, 100, .inl f1)), (a2, .inl (k2, 100, .inl f2))]) [0, 1, 2, 3, 4, 5, 6, 7, 8, 9] rfl) rfl rfl) rfl rfl hl.1 rfl (lv_room (Nat.le_of_ble_eq_true rfl)) dX3_isLikeKey_25 ⟨Nat.le_of_ble_eq_true rfl, Nat.le_of_ble_eq_true rfl⟩)) (fun r6 hr6 => ?_)
  subst hr6
  refine lv_if_ne (tgt := 33) hx hb dX3_isLikeKey_28 (by decide) (fun c28_6 => ?_) (fun c28_6 => ?_)
  · skip
    have z0 := ifb c28_6
    have hE : nst w p1 0 ≤ p1 := nst_le (Nat.zero_le _)
    have hEv := fitB_len z0
    refine lv_iload_n hx hb dX3_isLikeKey_33 rfl (lv_at hl 0 rfl) ?_
    refine lv_istore_n (lv' := [(3, .int (nI (nst w p1 0))), (2, .int (nI (nst w p1 0))), (0, .ref g), (1, .int (cp))]) hx hb dX3_isLikeKey_34 rfl hl (by decide) rfl (fun ls hl => ?_)
    refine lv_iconst (v := 0) hx hb dX3_isLikeKey_35 (by decide) ?_
    refine lv_topi (fun x8 ex8 => ?_)
    obtain rfl : x8 = nI 0 := by rw [ex8]; exact nI_0.symm
    refine lv_istore (lv' := [(4, .int (nI 0)), (3, .int (nI (nst w p1 0))), (2, .int (nI (nst w p1 0))), (0, .ref g), (1, .int (cp))]) hx hb dX3_isLikeKey_36 hl (by decide) rfl (fun ls hl => ?_)
    have loop38 : ∀ (nn38 : Nat) (e1 p0 n2 : Nat) (s1 s2 : Nat → Int32) (acc : List (Nat × Nat)) (he : e1 ≤ p1) (hst : e1 < p1 → w e1 = 257) (hpv : p0 ≤ nv) (hn2 : n2 ≤ e1) (i1 : mtI w fv p1 nv cp 0 0 ↔ mtI w fv p1 nv cp e1 p0) (i2 : mtI w fv p1 nv cp e1 p0 → ∀ L, spI w fv p1 nv cp e1 p0 L → spI w fv p1 nv cp 0 0 (acc ++ L)) (i3 : spIs s1 s2 n2 acc) (_ : p1 - e1 < nn38) (H : Heap) (locs : List Loc) (_ : va_P (dC, dI) cl5 [(g, .inr (3, [.ref rv, .ref rk, .ref pt, .ref sp])), (rv, .inr (1, [.ref av, .int (nI nv)])), (av, .inl (kv, 100, .inl fv)), (rk, .inr (1, [.ref ak, .int (nI nk)])), (ak, .inl (kk, 100, .inl fk)), (pt, .inr (0, [.ref ap, .int (nI p1)])), (ap, .inl (kp, 100, .inl w)), (sp, .inr (2, [.ref a1, .ref a2, .int (nI n2)])), (a1, .inl (k1, 100, .inl s1)), (a2, .inl (k2, 100, .inl s2))] H) (_ : va_D A [(g, .inr (3, [.ref rv, .ref rk, .ref pt, .ref sp])), (rv, .inr (1, [.ref av, .int (nI nv)])), (av, .inl (kv, 100, .inl fv)), (rk, .inr (1, [.ref ak, .int (nI nk)])), (ak, .inl (kk, 100, .inl fk)), (pt, .inr (0, [.ref ap, .int (nI p1)])), (ap, .inl (kp, 100, .inl w)), (sp, .inr (2, [.ref a1, .ref a2, .int (nI n2)])), (a1, .inl (k1, 100, .inl s1)), (a2, .inl (k2, 100, .inl s2))]) (_ : va_S A s.heap H locs) (ls : Array Slot) (_ : lv_has ls 9 [(0, .ref g), (1, .int (cp)), (2, .int (nI e1)), (3, .int (nI p0)), (4, .int (nI n2))]), W p l e rm_c_like s m args below meth c H locs 0 0 Q (F0 m 38 ls []) := by
      intro nn38
      induction nn38 with
      | zero => intro e1 p0 n2 s1 s2 acc he hst hpv hn2 i1 i2 i3 hm38 H locs hP hD hS ls hl; exact absurd hm38 (Nat.not_lt_zero _)
      | succ nn38 ih38 =>
        intro e1 p0 n2 s1 s2 acc he hst hpv hn2 i1 i2 i3 hm38 H locs hP hD hS ls hl
        refine lv_iload hx hb dX3_isLikeKey_38 (lv_at hl 4 rfl) ?_
        refine lv_bipush (v := 100) hx hb dX3_isLikeKey_40 (by decide) ?_
        refine lv_icmp_ge (tgt := 162) hx hb dX3_isLikeKey_42 (by decide) (fun c42_8 => ?_) (fun c42_8 => ?_)
        · skip
          rw [ti_le, nI_toInt (by omega), tc_100] at c42_8
          have e8 : e1 = p1 := by omega
          refine lv_iload_n hx hb dX3_isLikeKey_162 rfl (lv_at hl 3 rfl) ?_
          refine lv_aload_n hx hb dX3_isLikeKey_163 rfl (lv_at hl 0 rfl) ?_
          refine va_get (D := (dC, dI)) (ci := 3) (v := .ref rv) (C := RX3) (T := TX3) (N := 4) hx hb hw inX3 hown hK hP 0 rfl rfl 0 (by decide) (hw _ mw77) (fun _ h9 => h9) rfl dX3_isLikeKey_164 ?_
          refine va_getN (D := (dC, dI)) (ci := 1) (v := .int (nI nv)) (C := RX1) (T := TX1) (N := 2) hx hb hw inX1 hown hK hP 1 rfl rfl 1 (by decide) (va_Nw.use rfl hN.2.2.1) (fun _ h9 => h9) rfl dX3_isLikeKey_167 ?_
          refine lv_icmp_ne (tgt := 177) hx hb dX3_isLikeKey_170 (by decide) (fun c170_9 => ?_) (fun c170_9 => ?_)
          · skip
            have z8 : ¬ p0 = nv := fun q => c170_9 (by rw [q])
            refine lv_iconst (v := 0) hx hb dX3_isLikeKey_177 (by decide) ?_
            subst hQ
            exact W.zret (v := 0) hx hb hr (by decide) (fun t ht hW => ⟨⟨_, (w, p1, s1, s2, n2), rfl, ⟨hp1, by show n2 ≤ 100; omega, Or.inr ⟨rfl, by first | exact lk_fail hpl hw9 e8 z8 i1 | exact lk_no hpl hw9 (fun q => gr_none hlt (hst hlt) hv hpv (by first | exact z9 | exact Decidable.not_not.mp z9) (i1.mp q))⟩⟩, by rw [ht]; exact hP, hD⟩, hS.F ht⟩) hS.2.2 dX3_isLikeKey_178
          · skip
            have z8 : p0 = nv := (nI_eq (by omega) (by omega)).mp (by first | exact c170_9 | exact Decidable.not_not.mp c170_9)
            refine lv_iconst (v := 1) hx hb dX3_isLikeKey_173 (by decide) ?_
            refine lv_goto (tgt := 178) hx hb dX3_isLikeKey_174 (by decide) ?_
            subst hQ
            exact W.zret (v := 1) hx hb hr (by decide) (fun t ht hW => ⟨⟨_, (w, p1, s1, s2, n2), rfl, ⟨hp1, by show n2 ≤ 100; omega, Or.inl ⟨rfl, acc, lk_end hpl hw9 e8 z8 i1 i2, i3⟩⟩, by rw [ht]; exact hP, hD⟩, hS.F ht⟩) hS.2.2 dX3_isLikeKey_178
        · skip
          rw [ti_le, nI_toInt (by omega), tc_100] at c42_8
          refine lv_iload_n hx hb dX3_isLikeKey_45 rfl (lv_at hl 2 rfl) ?_
          refine lv_aload_n hx hb dX3_isLikeKey_46 rfl (lv_at hl 0 rfl) ?_
          refine va_get (D := (dC, dI)) (ci := 3) (v := .ref pt) (C := RX3) (T := TX3) (N := 4) hx hb hw inX3 hown hK hP 0 rfl rfl 2 (by decide) (hw _ mw79) (fun _ h9 => h9) rfl dX3_isLikeKey_47 ?_
          refine va_getN (D := (dC, dI)) (ci := 0) (v := .int (nI p1)) (C := RX0) (T := TX0) (N := 2) hx hb hw inX0 hown hK hP 5 rfl rfl 1 (by decide) (va_Nw.use rfl hN.2.2.2.2.1) (fun _ h9 => h9) rfl dX3_isLikeKey_50 ?_
          refine lv_icmp_ge (tgt := 162) hx hb dX3_isLikeKey_53 (by decide) (fun c53_10 => ?_) (fun c53_10 => ?_)
          · skip
            rw [ti_le, nI_toInt (by omega), nI_toInt (by omega)] at c53_10
            have e8 : e1 = p1 := by omega
            refine lv_iload_n hx hb dX3_isLikeKey_162 rfl (lv_at hl 3 rfl) ?_
            refine lv_aload_n hx hb dX3_isLikeKey_163 rfl (lv_at hl 0 rfl) ?_
            refine va_get (D := (dC, dI)) (ci := 3) (v := .ref rv) (C := RX3) (T := TX3) (N := 4) hx hb hw inX3 hown hK hP 0 rfl rfl 0 (by decide) (hw _ mw77) (fun _ h9 => h9) rfl dX3_isLikeKey_164 ?_
            refine va_getN (D := (dC, dI)) (ci := 1) (v := .int (nI nv)) (C := RX1) (T := TX1) (N := 2) hx hb hw inX1 hown hK hP 1 rfl rfl 1 (by decide) (va_Nw.use rfl hN.2.2.1) (fun _ h9 => h9) rfl dX3_isLikeKey_167 ?_
            refine lv_icmp_ne (tgt := 177) hx hb dX3_isLikeKey_170 (by decide) (fun c170_11 => ?_) (fun c170_11 => ?_)
            · skip
              have z8 : ¬ p0 = nv := fun q => c170_11 (by rw [q])
              refine lv_iconst (v := 0) hx hb dX3_isLikeKey_177 (by decide) ?_
              subst hQ
              exact W.zret (v := 0) hx hb hr (by decide) (fun t ht hW => ⟨⟨_, (w, p1, s1, s2, n2), rfl, ⟨hp1, by show n2 ≤ 100; omega, Or.inr ⟨rfl, by first | exact lk_fail hpl hw9 e8 z8 i1 | exact lk_no hpl hw9 (fun q => gr_none hlt (hst hlt) hv hpv (by first | exact z9 | exact Decidable.not_not.mp z9) (i1.mp q))⟩⟩, by rw [ht]; exact hP, hD⟩, hS.F ht⟩) hS.2.2 dX3_isLikeKey_178
            · skip
              have z8 : p0 = nv := (nI_eq (by omega) (by omega)).mp (by first | exact c170_11 | exact Decidable.not_not.mp c170_11)
              refine lv_iconst (v := 1) hx hb dX3_isLikeKey_173 (by decide) ?_
              refine lv_goto (tgt := 178) hx hb dX3_isLikeKey_174 (by decide) ?_
              subst hQ
              exact W.zret (v := 1) hx hb hr (by decide) (fun t ht hW => ⟨⟨_, (w, p1, s1, s2, n2), rfl, ⟨hp1, by show n2 ≤ 100; omega, Or.inl ⟨rfl, acc, lk_end hpl hw9 e8 z8 i1 i2, i3⟩⟩, by rw [ht]; exact hP, hD⟩, hS.F ht⟩) hS.2.2 dX3_isLikeKey_178
          · skip
            rw [ti_le, nI_toInt (by omega), nI_toInt (by omega)] at c53_10
            have hlt : e1 < p1 := by omega
            have hE2 : nst w p1 (e1 + 1) ≤ p1 := nst_le (by omega)
            have hE3 : e1 + 1 ≤ nst w p1 (e1 + 1) := nst_ge
            have hear : ear p1 nv p0 (e1 + 1) (nst w p1 (e1 + 1)) ≤ 100 := by unfold ear; split <;> omega
            refine lv_iload_n hx hb dX3_isLikeKey_56 rfl (lv_at hl 2 rfl) ?_
            refine lv_iconst (v := 1) hx hb dX3_isLikeKey_57 (by decide) ?_
            refine lv_iadd hx hb dX3_isLikeKey_58 ?_
            refine lv_topi (fun x13 ex13 => ?_)
            obtain rfl : x13 = nI (e1 + 1) := by rw [ex13]; exact nI_1 e1
            refine lv_istore (lv' := [(5, .int (nI (e1 + 1))), (0, .ref g), (1, .int (cp)), (2, .int (nI e1)), (3, .int (nI p0)), (4, .int (nI n2))]) hx hb dX3_isLikeKey_59 hl (by decide) rfl (fun ls hl => ?_)
            refine lv_aload_n hx hb dX3_isLikeKey_61 rfl (lv_at hl 1 rfl) ?_
            refine va_get (D := (dC, dI)) (ci := 3) (v := .ref pt) (C := RX3) (T := TX3) (N := 4) hx hb hw inX3 hown hK hP 0 rfl rfl 2 (by decide) (hw _ mw79) (fun _ h9 => h9) rfl dX3_isLikeKey_62 ?_
            refine lv_iload hx hb dX3_isLikeKey_65 (lv_at hl 0 rfl) ?_
            refine vp_callSi (va_Run.run (va_runV (As := [.int (nI (e1 + 1))]) (rest := []) ⟨hx, hb, hml, hown, hw⟩ (c_Pat_star l dC dI pt ap kp w p1 hp1 (e1 + 1) (by omega)) (cwV 1 hw (gV mw188 mw189 mw190 mw18 mw191) rfl rfl rfl (by decide +kernel) ⟨Nat.le_of_ble_eq_true rfl, Nat.le_of_ble_eq_true rfl⟩) (ro.V (q0 := 0) (ci := 0) hN (hK.sub (tys' := [(kp, .int)]) [2] rfl) (hP.sub (ws' := [(pt, .inr (0, [.ref ap, .int (nI p1)])), (ap, .inl (kp, 100, .inl w))]) [5, 6] rfl) rfl rfl) rfl rfl hl.1 rfl (lv_room (Nat.le_of_ble_eq_true rfl)) dX3_isLikeKey_67 ⟨Nat.le_of_ble_eq_true rfl, Nat.le_of_ble_eq_true rfl⟩)) (fun r14 hr14 => ?_)
            obtain rfl : r14 = nI (nst w p1 (e1 + 1)) := hr14
            refine lv_istore_n (lv' := [(2, .int (nI (nst w p1 (e1 + 1)))), (5, .int (nI (e1 + 1))), (0, .ref g), (1, .int (cp)), (3, .int (nI p0)), (4, .int (nI n2))]) hx hb dX3_isLikeKey_70 rfl hl (by decide) rfl (fun ls hl => ?_)
            refine lv_iload_n hx hb dX3_isLikeKey_71 rfl (lv_at hl 0 rfl) ?_
            refine lv_aload_n hx hb dX3_isLikeKey_72 rfl (lv_at hl 2 rfl) ?_
            refine va_get (D := (dC, dI)) (ci := 3) (v := .ref pt) (C := RX3) (T := TX3) (N := 4) hx hb hw inX3 hown hK hP 0 rfl rfl 2 (by decide) (hw _ mw79) (fun _ h9 => h9) rfl dX3_isLikeKey_73 ?_
            refine va_getN (D := (dC, dI)) (ci := 0) (v := .int (nI p1)) (C := RX0) (T := TX0) (N := 2) hx hb hw inX0 hown hK hP 5 rfl rfl 1 (by decide) (va_Nw.use rfl hN.2.2.2.2.1) (fun _ h9 => h9) rfl dX3_isLikeKey_76 ?_
            refine lv_icmp_ne (tgt := 86) hx hb dX3_isLikeKey_79 (by decide) (fun c79_14 => ?_) (fun c79_14 => ?_)
            · skip
              have zl : ¬ nst w p1 (e1 + 1) = p1 := fun q => c79_14 (by rw [q])
              refine lv_iconst (v := 0) hx hb dX3_isLikeKey_86 (by decide) ?_
              refine lv_istore (lv' := [(6, .int (0)), (2, .int (nI (nst w p1 (e1 + 1)))), (5, .int (nI (e1 + 1))), (0, .ref g), (1, .int (cp)), (3, .int (nI p0)), (4, .int (nI n2))]) hx hb dX3_isLikeKey_87 hl (by decide) rfl (fun ls hl => ?_)
              refine lv_iload hx hb dX3_isLikeKey_89 (lv_at hl 0 rfl) ?_
              refine lv_if_eq (tgt := 113) hx hb dX3_isLikeKey_91 (by decide) (fun c91_15 => ?_) (fun c91_15 => ?_)
              · skip
                refine lv_iload_n hx hb dX3_isLikeKey_113 rfl (lv_at hl 5 rfl) ?_
                refine lv_topi (fun x17 ex17 => ?_)
                obtain rfl : x17 = nI (ear p1 nv p0 (e1 + 1) (nst w p1 (e1 + 1))) := by rw [ex17]; unfold ear; rw [if_neg zl]
                refine lv_istore (lv' := [(7, .int (nI (ear p1 nv p0 (e1 + 1) (nst w p1 (e1 + 1))))), (6, .int (0)), (2, .int (nI (nst w p1 (e1 + 1)))), (5, .int (nI (e1 + 1))), (0, .ref g), (1, .int (cp)), (3, .int (nI p0)), (4, .int (nI n2))]) hx hb dX3_isLikeKey_114 hl (by decide) rfl (fun ls hl => ?_)
                refine lv_aload_n hx hb dX3_isLikeKey_116 rfl (lv_at hl 4 rfl) ?_
                refine lv_iload hx hb dX3_isLikeKey_117 (lv_at hl 3 rfl) ?_
                refine lv_iload_n hx hb dX3_isLikeKey_119 rfl (lv_at hl 2 rfl) ?_
                refine lv_iload hx hb dX3_isLikeKey_120 (lv_at hl 0 rfl) ?_
                refine lv_iload_n hx hb dX3_isLikeKey_122 rfl (lv_at hl 5 rfl) ?_
                refine vp_callSi (va_Run.run (va_runV (As := [.int (nI (e1 + 1)), .int (nI (nst w p1 (e1 + 1))), .int (nI (ear p1 nv p0 (e1 + 1) (nst w p1 (e1 + 1)))), .int (cp)]) (rest := []) ⟨hx, hb, hml, hown, hw⟩ (c_first l dC dI g rv rk pt sp av ak ap a1 a2 kv kk kp k1 k2 fv fk w s1 s2 nv nk p1 n2 hv hk hp1 (by omega) (e1 + 1) (nst w p1 (e1 + 1)) (ear p1 nv p0 (e1 + 1) (nst w p1 (e1 + 1))) cp nst_ge (nst_le (by omega)) hear) (cwV 4 hw (gV mw164 mw166 mw7 mw16 mw167) rfl rfl rfl (by decide +kernel) ⟨Nat.le_of_ble_eq_true rfl, Nat.le_of_ble_eq_true rfl⟩) (ro.V (q0 := 0) (ci := 3) hN (hK.sub (tys' := [(kv, .int), (kk, .int), (kp, .int), (k1, .int), (k2, .int)]) [0, 1, 2, 3, 4] rfl) (hP.sub (ws' := [(g, .inr (3, [.ref rv, .ref rk, .ref pt, .ref sp])), (rv, .inr (1, [.ref av, .int (nI nv)])), (av, .inl (kv, 100, .inl fv)), (rk, .inr (1, [.ref ak, .int (nI nk)])), (ak, .inl (kk, 100, .inl fk)), (pt, .inr (0, [.ref ap, .int (nI p1)])), (ap, .inl (kp, 100, .inl w)), (sp, .inr (2, [.ref a1, .ref a2, .int (nI n2)])), (a1, .inl (k1, 100, .inl s1)), (a2, .inl (k2, 100, .inl s2))]) [0, 1, 2, 3, 4, 5, 6, 7, 8, 9] rfl) rfl rfl) rfl rfl hl.1 rfl (lv_room (Nat.le_of_ble_eq_true rfl)) dX3_isLikeKey_123 ⟨Nat.le_of_ble_eq_true rfl, Nat.le_of_ble_eq_true rfl⟩)) (fun r18 hr18 => ?_)
                subst hr18
                refine lv_istore (lv' := [(8, .int (fpF w fv nv cp (e1 + 1) (nst w p1 (e1 + 1)) (ear p1 nv p0 (e1 + 1) (nst w p1 (e1 + 1))))), (7, .int (nI (ear p1 nv p0 (e1 + 1) (nst w p1 (e1 + 1))))), (6, .int (0)), (2, .int (nI (nst w p1 (e1 + 1)))), (5, .int (nI (e1 + 1))), (0, .ref g), (1, .int (cp)), (3, .int (nI p0)), (4, .int (nI n2))]) hx hb dX3_isLikeKey_126 hl (by decide) rfl (fun ls hl => ?_)
                refine lv_iload hx hb dX3_isLikeKey_128 (lv_at hl 0 rfl) ?_
                refine lv_iconst (v := -1) hx hb dX3_isLikeKey_130 (by decide) ?_
                refine lv_icmp_ne (tgt := 136) hx hb dX3_isLikeKey_131 (by decide) (fun c131_18 => ?_) (fun c131_18 => ?_)
                · skip
                  obtain ⟨k0, ek0, g1, g2, g3, g4⟩ := fp_some c131_18
                  rw [ek0] at hl
                  obtain ⟨g5, g6, g7⟩ := gr_some hlt (hst hlt) g1 g2 g3 g4
                  refine lv_aload_n hx hb dX3_isLikeKey_136 rfl (lv_at hl 5 rfl) ?_
                  refine va_get (D := (dC, dI)) (ci := 3) (v := .ref sp) (C := RX3) (T := TX3) (N := 4) hx hb hw inX3 hown hK hP 0 rfl rfl 3 (by decide) (hw _ mw80) (fun _ h9 => h9) rfl dX3_isLikeKey_137 ?_
                  refine lv_iload_n hx hb dX3_isLikeKey_140 rfl (lv_at hl 7 rfl) ?_
                  refine lv_iload hx hb dX3_isLikeKey_141 (lv_at hl 0 rfl) ?_
                  refine lv_iload_n hx hb dX3_isLikeKey_143 rfl (lv_at hl 7 rfl) ?_
                  refine lv_isub hx hb dX3_isLikeKey_144 ?_
                  refine lv_topi (fun x20 ex20 => ?_)
                  obtain rfl : x20 = nI (k0 - p0) := by rw [ex20]; exact pk_sub g5
                  have hPc := hP.sub (ws' := [(sp, .inr (2, [.ref a1, .ref a2, .int (nI n2)])), (a1, .inl (k1, 100, .inl s1)), (a2, .inl (k2, 100, .inl s2))]) [7, 8, 9] rfl
                  have hDc := hD.sub (ws' := [(sp, .inr (2, [.ref a1, .ref a2, .int (nI n2)])), (a1, .inl (k1, 100, .inl s1)), (a2, .inl (k2, 100, .inl s2))]) [7, 8, 9] (by decide) rfl
                  have hKc := hK.sub (tys' := [(k1, .int), (k2, .int)]) [3, 4] rfl
                  have hFc := va_free (wc := [(sp, .inr (2, [.ref a1, .ref a2, .int (nI n2)])), (a1, .inl (k1, 100, .inl s1)), (a2, .inl (k2, 100, .inl s2))]) hD hS hA [7, 8, 9] rfl
                  refine va_callv (va_runV (As := [.int (nI p0), .int (nI (k0 - p0))]) (rest := []) ⟨hx, hb, hml, hown, hw⟩ (c_Sp_append l dC dI H.size sp a1 a2 k1 k2 s1 s2 n2 (by omega) (nI p0) (nI (k0 - p0))) (cwV 2 hw (gV mw176 mw177 mw178 mw19 mw179) rfl rfl rfl (by decide +kernel) ⟨Nat.le_of_ble_eq_true rfl, Nat.le_of_ble_eq_true rfl⟩) (wr.V (q0 := 0) (ci := 2) hN hKc hPc hDc rfl rfl) rfl rfl hl.1 rfl (lv_room (Nat.le_of_ble_eq_true rfl)) dX3_isLikeKey_145 ⟨Nat.le_of_ble_eq_true rfl, Nat.le_of_ble_eq_true rfl⟩) hS (fun q _ h => hFc q h) hFc (fun ur21 t H1 locs ht hvm hr21 hB hz1 hk1 hS => ?_)
                  subst hr21
                  obtain ⟨hP1, hD1⟩ := hB
                  rw [ht] at hP1
                  obtain ⟨hP, hD⟩ := va_join (wr := [(g, .inr (3, [.ref rv, .ref rk, .ref pt, .ref sp])), (rv, .inr (1, [.ref av, .int (nI nv)])), (av, .inl (kv, 100, .inl fv)), (rk, .inr (1, [.ref ak, .int (nI nk)])), (ak, .inl (kk, 100, .inl fk)), (pt, .inr (0, [.ref ap, .int (nI p1)])), (ap, .inl (kp, 100, .inl w))]) (w1 := [(sp, .inr (2, [.ref a1, .ref a2, .int (nI (n2 + 1))])), (a1, .inl (k1, 100, .inl (upd s1 n2 (nI p0)))), (a2, .inl (k2, 100, .inl (upd s2 n2 (nI (k0 - p0)))))]) hP hD [7, 8, 9] [0, 1, 2, 3, 4, 5, 6] rfl rfl (by decide) (by decide) hk1 hFc hP1 hD1
                  generalize H1 = H at hP hS ⊢
                  have hP : va_P (dC, dI) cl5 [(g, .inr (3, [.ref rv, .ref rk, .ref pt, .ref sp])), (rv, .inr (1, [.ref av, .int (nI nv)])), (av, .inl (kv, 100, .inl fv)), (rk, .inr (1, [.ref ak, .int (nI nk)])), (ak, .inl (kk, 100, .inl fk)), (pt, .inr (0, [.ref ap, .int (nI p1)])), (ap, .inl (kp, 100, .inl w)), (sp, .inr (2, [.ref a1, .ref a2, .int (nI (n2 + 1))])), (a1, .inl (k1, 100, .inl (upd s1 n2 (nI p0)))), (a2, .inl (k2, 100, .inl (upd s2 n2 (nI (k0 - p0)))))] H := hP.sub [0, 1, 2, 3, 4, 5, 6, 7, 8, 9] rfl
                  have hD : va_D A [(g, .inr (3, [.ref rv, .ref rk, .ref pt, .ref sp])), (rv, .inr (1, [.ref av, .int (nI nv)])), (av, .inl (kv, 100, .inl fv)), (rk, .inr (1, [.ref ak, .int (nI nk)])), (ak, .inl (kk, 100, .inl fk)), (pt, .inr (0, [.ref ap, .int (nI p1)])), (ap, .inl (kp, 100, .inl w)), (sp, .inr (2, [.ref a1, .ref a2, .int (nI (n2 + 1))])), (a1, .inl (k1, 100, .inl (upd s1 n2 (nI p0)))), (a2, .inl (k2, 100, .inl (upd s2 n2 (nI (k0 - p0)))))] := hD.sub [0, 1, 2, 3, 4, 5, 6, 7, 8, 9] (by decide) rfl
                  refine lv_iload hx hb dX3_isLikeKey_148 (lv_at hl 0 rfl) ?_
                  refine lv_iload_n hx hb dX3_isLikeKey_150 rfl (lv_at hl 3 rfl) ?_
                  refine lv_iload hx hb dX3_isLikeKey_151 (lv_at hl 4 rfl) ?_
                  refine lv_isub hx hb dX3_isLikeKey_153 ?_
                  refine lv_topi (fun x22 ex22 => ?_)
                  obtain rfl : x22 = nI (nst w p1 (e1 + 1) - (e1 + 1)) := by rw [ex22]; exact pk_sub nst_ge
                  refine lv_iadd hx hb dX3_isLikeKey_154 ?_
                  refine lv_topi (fun x23 ex23 => ?_)
                  obtain rfl : x23 = nI (k0 + (nst w p1 (e1 + 1) - (e1 + 1))) := by rw [ex23]; exact nI_add _ _
                  refine lv_istore_n (lv' := [(3, .int (nI (k0 + (nst w p1 (e1 + 1) - (e1 + 1))))), (8, .int (nI k0)), (7, .int (nI (ear p1 nv p0 (e1 + 1) (nst w p1 (e1 + 1))))), (6, .int (0)), (2, .int (nI (nst w p1 (e1 + 1)))), (5, .int (nI (e1 + 1))), (0, .ref g), (1, .int (cp)), (4, .int (nI n2))]) hx hb dX3_isLikeKey_155 rfl hl (by decide) rfl (fun ls hl => ?_)
                  refine lv_iinc (v := nI (n2 + 1)) (lv' := [(4, .int (nI (n2 + 1))), (3, .int (nI (k0 + (nst w p1 (e1 + 1) - (e1 + 1))))), (8, .int (nI k0)), (7, .int (nI (ear p1 nv p0 (e1 + 1) (nst w p1 (e1 + 1))))), (6, .int (0)), (2, .int (nI (nst w p1 (e1 + 1)))), (5, .int (nI (e1 + 1))), (0, .ref g), (1, .int (cp))]) hx hb dX3_isLikeKey_156 hl (k := 8) rfl (nI_inc n2) (by decide) rfl (fun ls hl => ?_)
                  refine lv_goto (tgt := 38) hx hb dX3_isLikeKey_159 (by decide) ?_
                  exact ih38 (nst w p1 (e1 + 1)) (k0 + (nst w p1 (e1 + 1) - (e1 + 1))) (n2 + 1) _ _ (acc ++ [(p0, k0 - p0)]) hE2 (fun h => nst_at (by omega) h) g2 (by omega) (i1.trans g6) (fun hm L hL => by rw [List.append_assoc]; exact i2 (g6.mpr hm) _ (g7 hm L hL)) (spIs_add i3) (by omega) H locs hP hD hS ls (lv_sub hl [7, 8, 5, 1, 0] rfl)
                · skip
                  have z9 := c131_18
                  refine lv_iconst (v := 0) hx hb dX3_isLikeKey_134 (by decide) ?_
                  subst hQ
                  exact W.zret (v := 0) hx hb hr (by decide) (fun t ht hW => ⟨⟨_, (w, p1, s1, s2, n2), rfl, ⟨hp1, by show n2 ≤ 100; omega, Or.inr ⟨rfl, by first | exact lk_fail hpl hw9 e8 z8 i1 | exact lk_no hpl hw9 (fun q => gr_none hlt (hst hlt) hv hpv (by first | exact z9 | exact Decidable.not_not.mp z9) (i1.mp q))⟩⟩, by rw [ht]; exact hP, hD⟩, hS.F ht⟩) hS.2.2 dX3_isLikeKey_135
              · skip
                exact absurd rfl c91_15
            · skip
              have zl : nst w p1 (e1 + 1) = p1 := (nI_eq (by omega) (by omega)).mp (by first | exact c79_14 | exact Decidable.not_not.mp c79_14)
              refine lv_iconst (v := 1) hx hb dX3_isLikeKey_82 (by decide) ?_
              refine lv_goto (tgt := 87) hx hb dX3_isLikeKey_83 (by decide) ?_
              refine lv_istore (lv' := [(6, .int (1)), (2, .int (nI (nst w p1 (e1 + 1)))), (5, .int (nI (e1 + 1))), (0, .ref g), (1, .int (cp)), (3, .int (nI p0)), (4, .int (nI n2))]) hx hb dX3_isLikeKey_87 hl (by decide) rfl (fun ls hl => ?_)
              refine lv_iload hx hb dX3_isLikeKey_89 (lv_at hl 0 rfl) ?_
              refine lv_if_eq (tgt := 113) hx hb dX3_isLikeKey_91 (by decide) (fun c91_23 => ?_) (fun c91_23 => ?_)
              · skip
                exact absurd c91_23 (by decide)
              · skip
                refine lv_iload_n hx hb dX3_isLikeKey_94 rfl (lv_at hl 5 rfl) ?_
                refine lv_aload_n hx hb dX3_isLikeKey_95 rfl (lv_at hl 3 rfl) ?_
                refine va_get (D := (dC, dI)) (ci := 3) (v := .ref rv) (C := RX3) (T := TX3) (N := 4) hx hb hw inX3 hown hK hP 0 rfl rfl 0 (by decide) (hw _ mw77) (fun _ h9 => h9) rfl dX3_isLikeKey_96 ?_
                refine va_getN (D := (dC, dI)) (ci := 1) (v := .int (nI nv)) (C := RX1) (T := TX1) (N := 2) hx hb hw inX1 hown hK hP 1 rfl rfl 1 (by decide) (va_Nw.use rfl hN.2.2.1) (fun _ h9 => h9) rfl dX3_isLikeKey_99 ?_
                refine lv_iload_n hx hb dX3_isLikeKey_102 rfl (lv_at hl 1 rfl) ?_
                refine lv_iload hx hb dX3_isLikeKey_103 (lv_at hl 2 rfl) ?_
                refine lv_isub hx hb dX3_isLikeKey_105 ?_
                refine lv_isub hx hb dX3_isLikeKey_106 ?_
                refine va_mmax hx hb (by rw [hml]; exact hl.1.symm) hown (hw _ mw193) (hw _ mw194) (hw _ mw21) (hw _ mw195) (Nat.le_of_ble_eq_true rfl) (Nat.le_of_ble_eq_true rfl) (Nat.le_of_ble_eq_true rfl) (Nat.le_of_ble_eq_true rfl) dX3_isLikeKey_107 ?_
                refine lv_topi (fun x25 ex25 => ?_)
                obtain rfl : x25 = nI (ear p1 nv p0 (e1 + 1) (nst w p1 (e1 + 1))) := by rw [ex25]; exact ear_last hp1 hv (by omega) nst_ge zl
                refine lv_goto (tgt := 114) hx hb dX3_isLikeKey_110 (by decide) ?_
                refine lv_istore (lv' := [(7, .int (nI (ear p1 nv p0 (e1 + 1) (nst w p1 (e1 + 1))))), (6, .int (1)), (2, .int (nI (nst w p1 (e1 + 1)))), (5, .int (nI (e1 + 1))), (0, .ref g), (1, .int (cp)), (3, .int (nI p0)), (4, .int (nI n2))]) hx hb dX3_isLikeKey_114 hl (by decide) rfl (fun ls hl => ?_)
                refine lv_aload_n hx hb dX3_isLikeKey_116 rfl (lv_at hl 4 rfl) ?_
                refine lv_iload hx hb dX3_isLikeKey_117 (lv_at hl 3 rfl) ?_
                refine lv_iload_n hx hb dX3_isLikeKey_119 rfl (lv_at hl 2 rfl) ?_
                refine lv_iload hx hb dX3_isLikeKey_120 (lv_at hl 0 rfl) ?_
                refine lv_iload_n hx hb dX3_isLikeKey_122 rfl (lv_at hl 5 rfl) ?_
                refine vp_callSi (va_Run.run (va_runV (As := [.int (nI (e1 + 1)), .int (nI (nst w p1 (e1 + 1))), .int (nI (ear p1 nv p0 (e1 + 1) (nst w p1 (e1 + 1)))), .int (cp)]) (rest := []) ⟨hx, hb, hml, hown, hw⟩ (c_first l dC dI g rv rk pt sp av ak ap a1 a2 kv kk kp k1 k2 fv fk w s1 s2 nv nk p1 n2 hv hk hp1 (by omega) (e1 + 1) (nst w p1 (e1 + 1)) (ear p1 nv p0 (e1 + 1) (nst w p1 (e1 + 1))) cp nst_ge (nst_le (by omega)) hear) (cwV 4 hw (gV mw164 mw166 mw7 mw16 mw167) rfl rfl rfl (by decide +kernel) ⟨Nat.le_of_ble_eq_true rfl, Nat.le_of_ble_eq_true rfl⟩) (ro.V (q0 := 0) (ci := 3) hN (hK.sub (tys' := [(kv, .int), (kk, .int), (kp, .int), (k1, .int), (k2, .int)]) [0, 1, 2, 3, 4] rfl) (hP.sub (ws' := [(g, .inr (3, [.ref rv, .ref rk, .ref pt, .ref sp])), (rv, .inr (1, [.ref av, .int (nI nv)])), (av, .inl (kv, 100, .inl fv)), (rk, .inr (1, [.ref ak, .int (nI nk)])), (ak, .inl (kk, 100, .inl fk)), (pt, .inr (0, [.ref ap, .int (nI p1)])), (ap, .inl (kp, 100, .inl w)), (sp, .inr (2, [.ref a1, .ref a2, .int (nI n2)])), (a1, .inl (k1, 100, .inl s1)), (a2, .inl (k2, 100, .inl s2))]) [0, 1, 2, 3, 4, 5, 6, 7, 8, 9] rfl) rfl rfl) rfl rfl hl.1 rfl (lv_room (Nat.le_of_ble_eq_true rfl)) dX3_isLikeKey_123 ⟨Nat.le_of_ble_eq_true rfl, Nat.le_of_ble_eq_true rfl⟩)) (fun r26 hr26 => ?_)
                subst hr26
                refine lv_istore (lv' := [(8, .int (fpF w fv nv cp (e1 + 1) (nst w p1 (e1 + 1)) (ear p1 nv p0 (e1 + 1) (nst w p1 (e1 + 1))))), (7, .int (nI (ear p1 nv p0 (e1 + 1) (nst w p1 (e1 + 1))))), (6, .int (1)), (2, .int (nI (nst w p1 (e1 + 1)))), (5, .int (nI (e1 + 1))), (0, .ref g), (1, .int (cp)), (3, .int (nI p0)), (4, .int (nI n2))]) hx hb dX3_isLikeKey_126 hl (by decide) rfl (fun ls hl => ?_)
                refine lv_iload hx hb dX3_isLikeKey_128 (lv_at hl 0 rfl) ?_
                refine lv_iconst (v := -1) hx hb dX3_isLikeKey_130 (by decide) ?_
                refine lv_icmp_ne (tgt := 136) hx hb dX3_isLikeKey_131 (by decide) (fun c131_26 => ?_) (fun c131_26 => ?_)
                · skip
                  obtain ⟨k0, ek0, g1, g2, g3, g4⟩ := fp_some c131_26
                  rw [ek0] at hl
                  obtain ⟨g5, g6, g7⟩ := gr_some hlt (hst hlt) g1 g2 g3 g4
                  refine lv_aload_n hx hb dX3_isLikeKey_136 rfl (lv_at hl 5 rfl) ?_
                  refine va_get (D := (dC, dI)) (ci := 3) (v := .ref sp) (C := RX3) (T := TX3) (N := 4) hx hb hw inX3 hown hK hP 0 rfl rfl 3 (by decide) (hw _ mw80) (fun _ h9 => h9) rfl dX3_isLikeKey_137 ?_
                  refine lv_iload_n hx hb dX3_isLikeKey_140 rfl (lv_at hl 7 rfl) ?_
                  refine lv_iload hx hb dX3_isLikeKey_141 (lv_at hl 0 rfl) ?_
                  refine lv_iload_n hx hb dX3_isLikeKey_143 rfl (lv_at hl 7 rfl) ?_
                  refine lv_isub hx hb dX3_isLikeKey_144 ?_
                  refine lv_topi (fun x28 ex28 => ?_)
                  obtain rfl : x28 = nI (k0 - p0) := by rw [ex28]; exact pk_sub g5
                  have hPc := hP.sub (ws' := [(sp, .inr (2, [.ref a1, .ref a2, .int (nI n2)])), (a1, .inl (k1, 100, .inl s1)), (a2, .inl (k2, 100, .inl s2))]) [7, 8, 9] rfl
                  have hDc := hD.sub (ws' := [(sp, .inr (2, [.ref a1, .ref a2, .int (nI n2)])), (a1, .inl (k1, 100, .inl s1)), (a2, .inl (k2, 100, .inl s2))]) [7, 8, 9] (by decide) rfl
                  have hKc := hK.sub (tys' := [(k1, .int), (k2, .int)]) [3, 4] rfl
                  have hFc := va_free (wc := [(sp, .inr (2, [.ref a1, .ref a2, .int (nI n2)])), (a1, .inl (k1, 100, .inl s1)), (a2, .inl (k2, 100, .inl s2))]) hD hS hA [7, 8, 9] rfl
                  refine va_callv (va_runV (As := [.int (nI p0), .int (nI (k0 - p0))]) (rest := []) ⟨hx, hb, hml, hown, hw⟩ (c_Sp_append l dC dI H.size sp a1 a2 k1 k2 s1 s2 n2 (by omega) (nI p0) (nI (k0 - p0))) (cwV 2 hw (gV mw176 mw177 mw178 mw19 mw179) rfl rfl rfl (by decide +kernel) ⟨Nat.le_of_ble_eq_true rfl, Nat.le_of_ble_eq_true rfl⟩) (wr.V (q0 := 0) (ci := 2) hN hKc hPc hDc rfl rfl) rfl rfl hl.1 rfl (lv_room (Nat.le_of_ble_eq_true rfl)) dX3_isLikeKey_145 ⟨Nat.le_of_ble_eq_true rfl, Nat.le_of_ble_eq_true rfl⟩) hS (fun q _ h => hFc q h) hFc (fun ur29 t H1 locs ht hvm hr29 hB hz1 hk1 hS => ?_)
                  subst hr29
                  obtain ⟨hP1, hD1⟩ := hB
                  rw [ht] at hP1
                  obtain ⟨hP, hD⟩ := va_join (wr := [(g, .inr (3, [.ref rv, .ref rk, .ref pt, .ref sp])), (rv, .inr (1, [.ref av, .int (nI nv)])), (av, .inl (kv, 100, .inl fv)), (rk, .inr (1, [.ref ak, .int (nI nk)])), (ak, .inl (kk, 100, .inl fk)), (pt, .inr (0, [.ref ap, .int (nI p1)])), (ap, .inl (kp, 100, .inl w))]) (w1 := [(sp, .inr (2, [.ref a1, .ref a2, .int (nI (n2 + 1))])), (a1, .inl (k1, 100, .inl (upd s1 n2 (nI p0)))), (a2, .inl (k2, 100, .inl (upd s2 n2 (nI (k0 - p0)))))]) hP hD [7, 8, 9] [0, 1, 2, 3, 4, 5, 6] rfl rfl (by decide) (by decide) hk1 hFc hP1 hD1
                  generalize H1 = H at hP hS ⊢
                  have hP : va_P (dC, dI) cl5 [(g, .inr (3, [.ref rv, .ref rk, .ref pt, .ref sp])), (rv, .inr (1, [.ref av, .int (nI nv)])), (av, .inl (kv, 100, .inl fv)), (rk, .inr (1, [.ref ak, .int (nI nk)])), (ak, .inl (kk, 100, .inl fk)), (pt, .inr (0, [.ref ap, .int (nI p1)])), (ap, .inl (kp, 100, .inl w)), (sp, .inr (2, [.ref a1, .ref a2, .int (nI (n2 + 1))])), (a1, .inl (k1, 100, .inl (upd s1 n2 (nI p0)))), (a2, .inl (k2, 100, .inl (upd s2 n2 (nI (k0 - p0)))))] H := hP.sub [0, 1, 2, 3, 4, 5, 6, 7, 8, 9] rfl
                  have hD : va_D A [(g, .inr (3, [.ref rv, .ref rk, .ref pt, .ref sp])), (rv, .inr (1, [.ref av, .int (nI nv)])), (av, .inl (kv, 100, .inl fv)), (rk, .inr (1, [.ref ak, .int (nI nk)])), (ak, .inl (kk, 100, .inl fk)), (pt, .inr (0, [.ref ap, .int (nI p1)])), (ap, .inl (kp, 100, .inl w)), (sp, .inr (2, [.ref a1, .ref a2, .int (nI (n2 + 1))])), (a1, .inl (k1, 100, .inl (upd s1 n2 (nI p0)))), (a2, .inl (k2, 100, .inl (upd s2 n2 (nI (k0 - p0)))))] := hD.sub [0, 1, 2, 3, 4, 5, 6, 7, 8, 9] (by decide) rfl
                  refine lv_iload hx hb dX3_isLikeKey_148 (lv_at hl 0 rfl) ?_
                  refine lv_iload_n hx hb dX3_isLikeKey_150 rfl (lv_at hl 3 rfl) ?_
                  refine lv_iload hx hb dX3_isLikeKey_151 (lv_at hl 4 rfl) ?_
                  refine lv_isub hx hb dX3_isLikeKey_153 ?_
                  refine lv_topi (fun x30 ex30 => ?_)
                  obtain rfl : x30 = nI (nst w p1 (e1 + 1) - (e1 + 1)) := by rw [ex30]; exact pk_sub nst_ge
                  refine lv_iadd hx hb dX3_isLikeKey_154 ?_
                  refine lv_topi (fun x31 ex31 => ?_)
                  obtain rfl : x31 = nI (k0 + (nst w p1 (e1 + 1) - (e1 + 1))) := by rw [ex31]; exact nI_add _ _
                  refine lv_istore_n (lv' := [(3, .int (nI (k0 + (nst w p1 (e1 + 1) - (e1 + 1))))), (8, .int (nI k0)), (7, .int (nI (ear p1 nv p0 (e1 + 1) (nst w p1 (e1 + 1))))), (6, .int (1)), (2, .int (nI (nst w p1 (e1 + 1)))), (5, .int (nI (e1 + 1))), (0, .ref g), (1, .int (cp)), (4, .int (nI n2))]) hx hb dX3_isLikeKey_155 rfl hl (by decide) rfl (fun ls hl => ?_)
                  refine lv_iinc (v := nI (n2 + 1)) (lv' := [(4, .int (nI (n2 + 1))), (3, .int (nI (k0 + (nst w p1 (e1 + 1) - (e1 + 1))))), (8, .int (nI k0)), (7, .int (nI (ear p1 nv p0 (e1 + 1) (nst w p1 (e1 + 1))))), (6, .int (1)), (2, .int (nI (nst w p1 (e1 + 1)))), (5, .int (nI (e1 + 1))), (0, .ref g), (1, .int (cp))]) hx hb dX3_isLikeKey_156 hl (k := 8) rfl (nI_inc n2) (by decide) rfl (fun ls hl => ?_)
                  refine lv_goto (tgt := 38) hx hb dX3_isLikeKey_159 (by decide) ?_
                  exact ih38 (nst w p1 (e1 + 1)) (k0 + (nst w p1 (e1 + 1) - (e1 + 1))) (n2 + 1) _ _ (acc ++ [(p0, k0 - p0)]) hE2 (fun h => nst_at (by omega) h) g2 (by omega) (i1.trans g6) (fun hm L hL => by rw [List.append_assoc]; exact i2 (g6.mpr hm) _ (g7 hm L hL)) (spIs_add i3) (by omega) H locs hP hD hS ls (lv_sub hl [7, 8, 5, 1, 0] rfl)
                · skip
                  have z9 := c131_26
                  refine lv_iconst (v := 0) hx hb dX3_isLikeKey_134 (by decide) ?_
                  subst hQ
                  exact W.zret (v := 0) hx hb hr (by decide) (fun t ht hW => ⟨⟨_, (w, p1, s1, s2, n2), rfl, ⟨hp1, by show n2 ≤ 100; omega, Or.inr ⟨rfl, by first | exact lk_fail hpl hw9 e8 z8 i1 | exact lk_no hpl hw9 (fun q => gr_none hlt (hst hlt) hv hpv (by first | exact z9 | exact Decidable.not_not.mp z9) (i1.mp q))⟩⟩, by rw [ht]; exact hP, hD⟩, hS.F ht⟩) hS.2.2 dX3_isLikeKey_135
    exact loop38 (p1 + 1) (nst w p1 0) (nst w p1 0) 0 f1 f2 [] hE (fun h => nst_at (Nat.zero_le _) h) (by omega) (Nat.zero_le _) ((segB (Nat.zero_le _) (fun i a b => nst_no a b) hE).trans ⟨fun q => by have := q.2; rwa [Nat.zero_add, Nat.sub_zero] at this, fun q => ⟨z0, by rwa [Nat.zero_add, Nat.sub_zero]⟩⟩) (fun _ L hL => (segSB (Nat.zero_le _) (fun i a b => nst_no a b) hE).mpr (by rwa [Nat.zero_add, Nat.sub_zero])) spIs_0 (by omega) H locs hP hD hS ls (lv_sub hl [3, 4, 2, 1, 0] rfl)
  · skip
    have z0 := ifb0 (by first | exact c28_6 | exact Decidable.not_not.mp c28_6)
    refine lv_iconst (v := 0) hx hb dX3_isLikeKey_31 (by decide) ?_
    subst hQ
    exact W.zret (v := 0) hx hb hr (by decide) (fun t ht hW => ⟨⟨_, (w, p1, f1, f2, 0), rfl, ⟨hp1, Nat.zero_le _, Or.inr ⟨rfl, lk_no hpl hw9 (fun q => by rw [segB (Nat.zero_le _) (fun i a b => nst_no a b) (nst_le (Nat.zero_le _)), z0] at q; exact absurd q.1 (by decide))⟩⟩, by rw [ht]; exact hP, hD⟩, hS.F ht⟩) hS.2.2 dX3_isLikeKey_32
end
section
theorem mres_b {S : List (Nat × Nat) → Prop} {r : Int32} {f g : Nat → Int32} {n : Nat} (h : mres S r f g n) : narrow .boolean (.int r) = .int r := by
  rcases h with ⟨h, -⟩ | ⟨h, -⟩ <;> rw [h] <;> decide
theorem mres_mono {S T : List (Nat × Nat) → Prop} {r : Int32} {f g : Nat → Int32} {n : Nat} (e : ∀ L, S L ↔ T L) (h : mres S r f g n) : mres T r f g n := by
  rcases h with ⟨h1, L, h2, h3⟩ | ⟨h1, h2⟩
  · exact Or.inl ⟨h1, L, (e L).mp h2, h3⟩
  · exact Or.inr ⟨h1, fun L q => h2 L ((e L).mpr q)⟩
theorem sMat_0 {v k : Nat → Int32} {nv nk : Nat} {mm c : Int32} (h : mm = 0) (L : List (Nat × Nat)) : (stF v k nv nk c = 0 ∧ L = []) ↔ sMat v k nv nk mm c L := by
  unfold sMat; subst h
  constructor
  · exact fun q => Or.inl ⟨rfl, q⟩
  · rintro (q | q | q)
    · exact q.2
    · exact absurd q.1 (by decide)
    · exact absurd q.1 (by decide)
theorem sMat_1 {v k : Nat → Int32} {nv nk : Nat} {mm c : Int32} (h : mm = 1) (hc : ¬ c = 2) (L : List (Nat × Nat)) : sCon v k nv nk c L ↔ sMat v k nv nk mm c L := by
  unfold sMat; subst h
  constructor
  · exact fun q => Or.inr (Or.inl ⟨rfl, hc, q⟩)
  · rintro (q | q | q)
    · exact absurd q.1 (by decide)
    · exact q.2.2
    · exact absurd q.1 (by decide)
theorem sMat_2 {v k : Nat → Int32} {nv nk : Nat} {mm c : Int32} (h : mm = 2) (hc : ¬ c = 2) (L : List (Nat × Nat)) : sLike v k nv nk c L ↔ sMat v k nv nk mm c L := by
  unfold sMat; subst h
  constructor
  · exact fun q => Or.inr (Or.inr ⟨rfl, hc, q⟩)
  · rintro (q | q | q)
    · exact absurd q.1 (by decide)
    · exact absurd q.1 (by decide)
    · exact q.2.2
theorem sMat_c {v k : Nat → Int32} {nv nk : Nat} {mm c : Int32} (h : ¬ mm = 0) (hc : c = 2) (L : List (Nat × Nat)) : ¬ sMat v k nv nk mm c L := by
  rintro (q | q | q)
  · exact h q.1
  · exact q.2.1 hc
  · exact q.2.1 hc
theorem two32 {x : Int32} (h1 : 0 ≤ x.toInt) (h2 : x.toInt ≤ 2) (h3 : ¬ x = 0) (h4 : ¬ x = 1) : x = 2 := by
  rw [ti_eq, tc_0] at h3; rw [ti_eq, tc_1] at h4; rw [ti_eq, tc_2]; omega
/-- what a match leaves: its answer and the spans -/
def mOk (mm c : Int32) : Prop := 0 ≤ mm.toInt ∧ mm.toInt ≤ 2 ∧ 0 ≤ c.toInt ∧ c.toInt ≤ 2
def mfin (v k : Nat → Int32) (nv nk : Nat) (mm c : Int32) (f g : Nat → Int32) (n : Nat) (r : Int32) (f' g' : Nat → Int32) (n' : Nat) : Prop :=
  (mOk mm c ∧ ((r = 1 ∧ ∃ L, sMat v k nv nk mm c L ∧ spIs f' g' n' L) ∨ (r = 0 ∧ (∀ L, ¬ sMat v k nv nk mm c L) ∧ n' = 0))) ∨ (¬ mOk mm c ∧ r = -1 ∧ f' = f ∧ g' = g ∧ n' = n)
theorem apR_1 {n : Nat} {c : Int32} (h : ¬ apR n c = 0) : apR n c = 1 := by
  unfold apR at h ⊢
  split
  · rfl
  · rename_i q; exact absurd (if_neg q) h
end
section
abbrev rm_c_matches : Room := { frames := 4, cells := 0, slots := 0, locals := 103 }
set_option maxHeartbeats 4000000 in
set_option maxRecDepth 100000 in
theorem c_matches (l : Launch) (dC : Nat → ClassId) (dI : Nat → Nat → Nat) (sz : Nat) (g rv rk pt sp av ak ap a1 a2 : Nat) (kv kk kp k1 k2 : ClassId) (fv fk fp f1 f2 : Nat → Int32) (nv nk np : Nat) (hv : nv ≤ 100) (hk : nk ≤ 100) (hp : np ≤ 100) (mm cp : Int32) (hm0 : 0 ≤ mm.toInt) (hm2 : mm.toInt ≤ 2) : Met l yX3_matches (.code yX3_matches cX3_matches 3 (some (.boolean)) :: wsA) rm_c_matches (va_Pc [.ref g, .int (mm), .int (cp)] (wr (dC, dI) [(g, .inr (3, [.ref rv, .ref rk, .ref pt, .ref sp])), (rv, .inr (1, [.ref av, .int (nI nv)])), (av, .inl (kv, 100, .inl fv)), (rk, .inr (1, [.ref ak, .int (nI nk)])), (ak, .inl (kk, 100, .inl fk)), (pt, .inr (0, [.ref ap, .int (nI np)])), (ap, .inl (kp, 100, .inl fp)), (sp, .inr (2, [.ref a1, .ref a2, .int (nI 0)])), (a1, .inl (k1, 100, .inl f1)), (a2, .inl (k2, 100, .inl f2))] [(kv, .int), (kk, .int), (kp, .int), (k1, .int), (k2, .int)] sz)) (va_Qi (fun (r : Int32) (u : (Nat → Int32) × Nat × (Nat → Int32) × (Nat → Int32) × Nat) => u.2.1 ≤ 100 ∧ u.2.2.2.2 ≤ 100 ∧ mres (sMat fv fk nv nk mm cp) r u.2.2.1 u.2.2.2.1 u.2.2.2.2) (wB (dC, dI) (va_A [(g, .inr (3, [.ref rv, .ref rk, .ref pt, .ref sp])), (rv, .inr (1, [.ref av, .int (nI nv)])), (av, .inl (kv, 100, .inl fv)), (rk, .inr (1, [.ref ak, .int (nI nk)])), (ak, .inl (kk, 100, .inl fk)), (pt, .inr (0, [.ref ap, .int (nI np)])), (ap, .inl (kp, 100, .inl fp)), (sp, .inr (2, [.ref a1, .ref a2, .int (nI 0)])), (a1, .inl (k1, 100, .inl f1)), (a2, .inl (k2, 100, .inl f2))] sz) (fun u : (Nat → Int32) × Nat × (Nat → Int32) × (Nat → Int32) × Nat => [(g, .inr (3, [.ref rv, .ref rk, .ref pt, .ref sp])), (rv, .inr (1, [.ref av, .int (nI nv)])), (av, .inl (kv, 100, .inl fv)), (rk, .inr (1, [.ref ak, .int (nI nk)])), (ak, .inl (kk, 100, .inl fk)), (pt, .inr (0, [.ref ap, .int (nI u.2.1)])), (ap, .inl (kp, 100, .inl (u.1))), (sp, .inr (2, [.ref a1, .ref a2, .int (nI u.2.2.2.2)])), (a1, .inl (k1, 100, .inl (u.2.2.1))), (a2, .inl (k2, 100, .inl (u.2.2.2.1)))])) (va_A [(g, .inr (3, [.ref rv, .ref rk, .ref pt, .ref sp])), (rv, .inr (1, [.ref av, .int (nI nv)])), (av, .inl (kv, 100, .inl fv)), (rk, .inr (1, [.ref ak, .int (nI nk)])), (ak, .inl (kk, 100, .inl fk)), (pt, .inr (0, [.ref ap, .int (nI np)])), (ap, .inl (kp, 100, .inl fp)), (sp, .inr (2, [.ref a1, .ref a2, .int (nI 0)])), (a1, .inl (k1, 100, .inl f1)), (a2, .inl (k2, 100, .inl f2))] sz)) 0 0 (va_A [(g, .inr (3, [.ref rv, .ref rk, .ref pt, .ref sp])), (rv, .inr (1, [.ref av, .int (nI nv)])), (av, .inl (kv, 100, .inl fv)), (rk, .inr (1, [.ref ak, .int (nI nk)])), (ak, .inl (kk, 100, .inl fk)), (pt, .inr (0, [.ref ap, .int (nI np)])), (ap, .inl (kp, 100, .inl fp)), (sp, .inr (2, [.ref a1, .ref a2, .int (nI 0)])), (a1, .inl (k1, 100, .inl f1)), (a2, .inl (k2, 100, .inl f2))] sz) := by
  refine Met.ofW (cc := cX3_matches) (maxL := 3) (ret := (some (.boolean))) (by decide) rfl ?_
  intro p e s m args below meth c s₁ B hml hv
  obtain ⟨hargs, hsz, hN, hP, hK, hD0⟩ := hv
  have hx := B.exec
  have hb := B.bytes
  have hr := B.returns
  have hw : ∀ w ∈ wsA, w.before args s = true := fun w h => atoms_spec (ws := (.code yX3_matches cX3_matches 3 (some (.boolean)) :: wsA)) B.pre w (List.mem_cons_of_mem _ h)
  have hown : s.vm.findClass "GlobDesk" = some m.cls := findClass_of_methodNamed B.named
  have hlocks := B.notSynchronized
  subst hsz
  have hD := hD0.self (sz := s.heap.size)
  generalize hAe : va_A [(g, .inr (3, [.ref rv, .ref rk, .ref pt, .ref sp])), (rv, .inr (1, [.ref av, .int (nI nv)])), (av, .inl (kv, 100, .inl fv)), (rk, .inr (1, [.ref ak, .int (nI nk)])), (ak, .inl (kk, 100, .inl fk)), (pt, .inr (0, [.ref ap, .int (nI np)])), (ap, .inl (kp, 100, .inl fp)), (sp, .inr (2, [.ref a1, .ref a2, .int (nI 0)])), (a1, .inl (k1, 100, .inl f1)), (a2, .inl (k2, 100, .inl f2))] s.heap.size = A at hD ⊢
  have hA : ∀ q : Nat, s.heap.size ≤ q → A q := fun q h => by rw [← hAe]; exact Or.inr h
  have hS : va_S A s.heap s.heap [] := va_S.rf
  generalize hQ : MQ below _ args s _ _ _ = Q
  change W p l e rm_c_matches s m args below meth c s.heap [] 0 0 Q (entryFrame m args 3)
  have hl := lv_entry ([.ref g, .int (mm), .int (cp)]) (n := 3) (Nat.le_of_ble_eq_true rfl)
  rw [show entryFrame m args 3 = entryFrame m ([.ref g, .int (mm), .int (cp)] : List Value).toArray 3 from by rw [hargs], lg_entry_eq]
  generalize (lg_sl ([.ref g, .int (mm), .int (cp)]) ++ List.replicate (3 - (lg_sl ([.ref g, .int (mm), .int (cp)])).length) Slot.unset).toArray = ls at hl ⊢
  have hl : lv_has ls 3 [(0, .ref g), (1, .int (mm)), (2, .int (cp))] := hl
  refine lv_iload_n hx hb dX3_matches_0 rfl (lv_at hl 1 rfl) ?_
  refine lv_if_ne (tgt := 18) hx hb dX3_matches_1 (by decide) (fun c1_0 => ?_) (fun c1_0 => ?_)
  · skip
    have z0 : ¬ mm = 0 := c1_0
    refine lv_iload_n hx hb dX3_matches_18 rfl (lv_at hl 2 rfl) ?_
    refine lv_iconst (v := 2) hx hb dX3_matches_19 (by decide) ?_
    refine lv_icmp_ne (tgt := 25) hx hb dX3_matches_20 (by decide) (fun c20_1 => ?_) (fun c20_1 => ?_)
    · skip
      have z2 : ¬ cp = 2 := c20_1
      refine lv_iload_n hx hb dX3_matches_25 rfl (lv_at hl 1 rfl) ?_
      refine lv_iconst (v := 1) hx hb dX3_matches_26 (by decide) ?_
      refine lv_icmp_ne (tgt := 38) hx hb dX3_matches_27 (by decide) (fun c27_2 => ?_) (fun c27_2 => ?_)
      · skip
        have z3 : ¬ mm = 1 := c27_2
        refine lv_aload_n hx hb dX3_matches_38 rfl (lv_at hl 0 rfl) ?_
        refine lv_iload_n hx hb dX3_matches_39 rfl (lv_at hl 2 rfl) ?_
        have hPc := hP.sub (ws' := [(g, .inr (3, [.ref rv, .ref rk, .ref pt, .ref sp])), (rv, .inr (1, [.ref av, .int (nI nv)])), (av, .inl (kv, 100, .inl fv)), (rk, .inr (1, [.ref ak, .int (nI nk)])), (ak, .inl (kk, 100, .inl fk)), (pt, .inr (0, [.ref ap, .int (nI np)])), (ap, .inl (kp, 100, .inl fp)), (sp, .inr (2, [.ref a1, .ref a2, .int (nI 0)])), (a1, .inl (k1, 100, .inl f1)), (a2, .inl (k2, 100, .inl f2))]) [0, 1, 2, 3, 4, 5, 6, 7, 8, 9] rfl
        have hDc := hD.sub (ws' := [(g, .inr (3, [.ref rv, .ref rk, .ref pt, .ref sp])), (rv, .inr (1, [.ref av, .int (nI nv)])), (av, .inl (kv, 100, .inl fv)), (rk, .inr (1, [.ref ak, .int (nI nk)])), (ak, .inl (kk, 100, .inl fk)), (pt, .inr (0, [.ref ap, .int (nI np)])), (ap, .inl (kp, 100, .inl fp)), (sp, .inr (2, [.ref a1, .ref a2, .int (nI 0)])), (a1, .inl (k1, 100, .inl f1)), (a2, .inl (k2, 100, .inl f2))]) [0, 1, 2, 3, 4, 5, 6, 7, 8, 9] (by decide) rfl
        have hKc := hK.sub (tys' := [(kv, .int), (kk, .int), (kp, .int), (k1, .int), (k2, .int)]) [0, 1, 2, 3, 4] rfl
        have hFc := va_free (wc := [(g, .inr (3, [.ref rv, .ref rk, .ref pt, .ref sp])), (rv, .inr (1, [.ref av, .int (nI nv)])), (av, .inl (kv, 100, .inl fv)), (rk, .inr (1, [.ref ak, .int (nI nk)])), (ak, .inl (kk, 100, .inl fk)), (pt, .inr (0, [.ref ap, .int (nI np)])), (ap, .inl (kp, 100, .inl fp)), (sp, .inr (2, [.ref a1, .ref a2, .int (nI 0)])), (a1, .inl (k1, 100, .inl f1)), (a2, .inl (k2, 100, .inl f2))]) hD hS hA [0, 1, 2, 3, 4, 5, 6, 7, 8, 9] rfl
        refine va_calli (va_runV (As := [.int (cp)]) (rest := []) ⟨hx, hb, hml, hown, hw⟩ (c_like l dC dI s.heap.size g rv rk pt sp av ak ap a1 a2 kv kk kp k1 k2 fv fk fp f1 f2 nv nk np hv hk hp cp) (cwV 1 hw (gV mw180 mw182 mw9 mw16 mw183) rfl rfl rfl (by decide +kernel) ⟨Nat.le_of_ble_eq_true rfl, Nat.le_of_ble_eq_true rfl⟩) (wr.V (q0 := 0) (ci := 3) hN hKc hPc hDc rfl rfl) rfl rfl hl.1 rfl (lv_room (Nat.le_of_ble_eq_true rfl)) dX3_matches_40 ⟨Nat.le_of_ble_eq_true rfl, Nat.le_of_ble_eq_true rfl⟩) hS (fun q _ h => hFc q h) hFc (fun r4 ur4 t H1 locs ht hvm hr4 hB hz1 hk1 hS => ?_)
        obtain ⟨w, p1, s1, s2, n2⟩ := ur4
        obtain ⟨hp1, hs1, hmr⟩ := hr4
        dsimp only at hp1 hs1 hmr
        obtain ⟨hP1, hD1⟩ := hB
        rw [ht] at hP1
        obtain ⟨hP, hD⟩ := va_join (wr := []) (w1 := [(g, .inr (3, [.ref rv, .ref rk, .ref pt, .ref sp])), (rv, .inr (1, [.ref av, .int (nI nv)])), (av, .inl (kv, 100, .inl fv)), (rk, .inr (1, [.ref ak, .int (nI nk)])), (ak, .inl (kk, 100, .inl fk)), (pt, .inr (0, [.ref ap, .int (nI p1)])), (ap, .inl (kp, 100, .inl w)), (sp, .inr (2, [.ref a1, .ref a2, .int (nI n2)])), (a1, .inl (k1, 100, .inl s1)), (a2, .inl (k2, 100, .inl s2))]) hP hD [0, 1, 2, 3, 4, 5, 6, 7, 8, 9] [] rfl rfl (by decide) (by decide) hk1 hFc hP1 hD1
        generalize H1 = H at hP hS ⊢
        have hP : va_P (dC, dI) cl5 [(g, .inr (3, [.ref rv, .ref rk, .ref pt, .ref sp])), (rv, .inr (1, [.ref av, .int (nI nv)])), (av, .inl (kv, 100, .inl fv)), (rk, .inr (1, [.ref ak, .int (nI nk)])), (ak, .inl (kk, 100, .inl fk)), (pt, .inr (0, [.ref ap, .int (nI p1)])), (ap, .inl (kp, 100, .inl w)), (sp, .inr (2, [.ref a1, .ref a2, .int (nI n2)])), (a1, .inl (k1, 100, .inl s1)), (a2, .inl (k2, 100, .inl s2))] H := hP.sub [0, 1, 2, 3, 4, 5, 6, 7, 8, 9] rfl
        have hD : va_D A [(g, .inr (3, [.ref rv, .ref rk, .ref pt, .ref sp])), (rv, .inr (1, [.ref av, .int (nI nv)])), (av, .inl (kv, 100, .inl fv)), (rk, .inr (1, [.ref ak, .int (nI nk)])), (ak, .inl (kk, 100, .inl fk)), (pt, .inr (0, [.ref ap, .int (nI p1)])), (ap, .inl (kp, 100, .inl w)), (sp, .inr (2, [.ref a1, .ref a2, .int (nI n2)])), (a1, .inl (k1, 100, .inl s1)), (a2, .inl (k2, 100, .inl s2))] := hD.sub [0, 1, 2, 3, 4, 5, 6, 7, 8, 9] (by decide) rfl
        subst hQ
        exact W.zret (v := r4) hx hb hr (mres_b hmr) (fun t ht hW => ⟨⟨_, (w, p1, s1, s2, n2), rfl, ⟨hp1, hs1, by first | exact mres_mono (sMat_1 z3 z2) hmr | exact mres_mono (sMat_2 (two32 hm0 hm2 z0 z3) z2) hmr⟩, by rw [ht]; exact hP, hD⟩, hS.F ht⟩) hS.2.2 dX3_matches_43
      · skip
        have z3 : mm = 1 := (by first | exact c27_2 | exact Decidable.not_not.mp c27_2)
        refine lv_aload_n hx hb dX3_matches_30 rfl (lv_at hl 0 rfl) ?_
        refine lv_iload_n hx hb dX3_matches_31 rfl (lv_at hl 2 rfl) ?_
        have hPc := hP.sub (ws' := [(g, .inr (3, [.ref rv, .ref rk, .ref pt, .ref sp])), (rv, .inr (1, [.ref av, .int (nI nv)])), (av, .inl (kv, 100, .inl fv)), (rk, .inr (1, [.ref ak, .int (nI nk)])), (ak, .inl (kk, 100, .inl fk)), (pt, .inr (0, [.ref ap, .int (nI np)])), (ap, .inl (kp, 100, .inl fp)), (sp, .inr (2, [.ref a1, .ref a2, .int (nI 0)])), (a1, .inl (k1, 100, .inl f1)), (a2, .inl (k2, 100, .inl f2))]) [0, 1, 2, 3, 4, 5, 6, 7, 8, 9] rfl
        have hDc := hD.sub (ws' := [(g, .inr (3, [.ref rv, .ref rk, .ref pt, .ref sp])), (rv, .inr (1, [.ref av, .int (nI nv)])), (av, .inl (kv, 100, .inl fv)), (rk, .inr (1, [.ref ak, .int (nI nk)])), (ak, .inl (kk, 100, .inl fk)), (pt, .inr (0, [.ref ap, .int (nI np)])), (ap, .inl (kp, 100, .inl fp)), (sp, .inr (2, [.ref a1, .ref a2, .int (nI 0)])), (a1, .inl (k1, 100, .inl f1)), (a2, .inl (k2, 100, .inl f2))]) [0, 1, 2, 3, 4, 5, 6, 7, 8, 9] (by decide) rfl
        have hKc := hK.sub (tys' := [(kv, .int), (kk, .int), (kp, .int), (k1, .int), (k2, .int)]) [0, 1, 2, 3, 4] rfl
        have hFc := va_free (wc := [(g, .inr (3, [.ref rv, .ref rk, .ref pt, .ref sp])), (rv, .inr (1, [.ref av, .int (nI nv)])), (av, .inl (kv, 100, .inl fv)), (rk, .inr (1, [.ref ak, .int (nI nk)])), (ak, .inl (kk, 100, .inl fk)), (pt, .inr (0, [.ref ap, .int (nI np)])), (ap, .inl (kp, 100, .inl fp)), (sp, .inr (2, [.ref a1, .ref a2, .int (nI 0)])), (a1, .inl (k1, 100, .inl f1)), (a2, .inl (k2, 100, .inl f2))]) hD hS hA [0, 1, 2, 3, 4, 5, 6, 7, 8, 9] rfl
        refine va_calli (va_runV (As := [.int (cp)]) (rest := []) ⟨hx, hb, hml, hown, hw⟩ (c_con l dC dI s.heap.size g rv rk pt sp av ak ap a1 a2 kv kk kp k1 k2 fv fk fp f1 f2 nv nk np hv hk hp cp) (cwV 1 hw (gV mw151 mw153 mw5 mw16 mw154) rfl rfl rfl (by decide +kernel) ⟨Nat.le_of_ble_eq_true rfl, Nat.le_of_ble_eq_true rfl⟩) (wr.V (q0 := 0) (ci := 3) hN hKc hPc hDc rfl rfl) rfl rfl hl.1 rfl (lv_room (Nat.le_of_ble_eq_true rfl)) dX3_matches_32 ⟨Nat.le_of_ble_eq_true rfl, Nat.le_of_ble_eq_true rfl⟩) hS (fun q _ h => hFc q h) hFc (fun r5 ur5 t H1 locs ht hvm hr5 hB hz1 hk1 hS => ?_)
        obtain ⟨w, p1, s1, s2, n2⟩ := ur5
        obtain ⟨hp1, hs1, hmr⟩ := hr5
        dsimp only at hp1 hs1 hmr
        obtain ⟨hP1, hD1⟩ := hB
        rw [ht] at hP1
        obtain ⟨hP, hD⟩ := va_join (wr := []) (w1 := [(g, .inr (3, [.ref rv, .ref rk, .ref pt, .ref sp])), (rv, .inr (1, [.ref av, .int (nI nv)])), (av, .inl (kv, 100, .inl fv)), (rk, .inr (1, [.ref ak, .int (nI nk)])), (ak, .inl (kk, 100, .inl fk)), (pt, .inr (0, [.ref ap, .int (nI p1)])), (ap, .inl (kp, 100, .inl w)), (sp, .inr (2, [.ref a1, .ref a2, .int (nI n2)])), (a1, .inl (k1, 100, .inl s1)), (a2, .inl (k2, 100, .inl s2))]) hP hD [0, 1, 2, 3, 4, 5, 6, 7, 8, 9] [] rfl rfl (by decide) (by decide) hk1 hFc hP1 hD1
        generalize H1 = H at hP hS ⊢
        have hP : va_P (dC, dI) cl5 [(g, .inr (3, [.ref rv, .ref rk, .ref pt, .ref sp])), (rv, .inr (1, [.ref av, .int (nI nv)])), (av, .inl (kv, 100, .inl fv)), (rk, .inr (1, [.ref ak, .int (nI nk)])), (ak, .inl (kk, 100, .inl fk)), (pt, .inr (0, [.ref ap, .int (nI p1)])), (ap, .inl (kp, 100, .inl w)), (sp, .inr (2, [.ref a1, .ref a2, .int (nI n2)])), (a1, .inl (k1, 100, .inl s1)), (a2, .inl (k2, 100, .inl s2))] H := hP.sub [0, 1, 2, 3, 4, 5, 6, 7, 8, 9] rfl
        have hD : va_D A [(g, .inr (3, [.ref rv, .ref rk, .ref pt, .ref sp])), (rv, .inr (1, [.ref av, .int (nI nv)])), (av, .inl (kv, 100, .inl fv)), (rk, .inr (1, [.ref ak, .int (nI nk)])), (ak, .inl (kk, 100, .inl fk)), (pt, .inr (0, [.ref ap, .int (nI p1)])), (ap, .inl (kp, 100, .inl w)), (sp, .inr (2, [.ref a1, .ref a2, .int (nI n2)])), (a1, .inl (k1, 100, .inl s1)), (a2, .inl (k2, 100, .inl s2))] := hD.sub [0, 1, 2, 3, 4, 5, 6, 7, 8, 9] (by decide) rfl
        refine lv_goto (tgt := 43) hx hb dX3_matches_35 (by decide) ?_
        subst hQ
        exact W.zret (v := r5) hx hb hr (mres_b hmr) (fun t ht hW => ⟨⟨_, (w, p1, s1, s2, n2), rfl, ⟨hp1, hs1, by first | exact mres_mono (sMat_1 z3 z2) hmr | exact mres_mono (sMat_2 (two32 hm0 hm2 z0 z3) z2) hmr⟩, by rw [ht]; exact hP, hD⟩, hS.F ht⟩) hS.2.2 dX3_matches_43
    · skip
      have z2 : cp = 2 := (by first | exact c20_1 | exact Decidable.not_not.mp c20_1)
      refine lv_iconst (v := 0) hx hb dX3_matches_23 (by decide) ?_
      subst hQ
      exact W.zret (v := 0) hx hb hr (by decide) (fun t ht hW => ⟨⟨_, (fp, np, f1, f2, 0), rfl, ⟨hp, Nat.zero_le _, Or.inr ⟨rfl, by first | exact sMat_c z0 z2 | exact (fun L q => z1 ((sMat_0 z0 L).mpr q).1)⟩⟩, by rw [ht]; exact hP, hD⟩, hS.F ht⟩) hS.2.2 dX3_matches_24
  · skip
    have z0 : mm = 0 := (by first | exact c1_0 | exact Decidable.not_not.mp c1_0)
    refine lv_aload_n hx hb dX3_matches_4 rfl (lv_at hl 0 rfl) ?_
    refine lv_iload_n hx hb dX3_matches_5 rfl (lv_at hl 2 rfl) ?_
    refine vp_callSi (va_Run.run (va_runV (As := [.int (cp)]) (rest := []) ⟨hx, hb, hml, hown, hw⟩ (c_st l dC dI g rv rk pt sp av ak ap a1 a2 kv kk kp k1 k2 fv fk fp f1 f2 nv nk np 0 hv hk hp (Nat.zero_le _) cp) (cwV 1 hw (gV mw117 mw119 mw2 mw16 mw120) rfl rfl rfl (by decide +kernel) ⟨Nat.le_of_ble_eq_true rfl, Nat.le_of_ble_eq_true rfl⟩) (ro.V (q0 := 0) (ci := 3) hN (hK.sub (tys' := [(kv, .int), (kk, .int), (kp, .int), (k1, .int), (k2, .int)]) [0, 1, 2, 3, 4] rfl) (hP.sub (ws' := [(g, .inr (3, [.ref rv, .ref rk, .ref pt, .ref sp])), (rv, .inr (1, [.ref av, .int (nI nv)])), (av, .inl (kv, 100, .inl fv)), (rk, .inr (1, [.ref ak, .int (nI nk)])), (ak, .inl (kk, 100, .inl fk)), (pt, .inr (0, [.ref ap, .int (nI np)])), (ap, .inl (kp, 100, .inl fp)), (sp, .inr (2, [.ref a1, .ref a2, .int (nI 0)])), (a1, .inl (k1, 100, .inl f1)), (a2, .inl (k2, 100, .inl f2))]) [0, 1, 2, 3, 4, 5, 6, 7, 8, 9] rfl) rfl rfl) rfl rfl hl.1 rfl (lv_room (Nat.le_of_ble_eq_true rfl)) dX3_matches_6 ⟨Nat.le_of_ble_eq_true rfl, Nat.le_of_ble_eq_true rfl⟩)) (fun r6 hr6 => ?_)
    subst hr6
    refine lv_if_ne (tgt := 16) hx hb dX3_matches_9 (by decide) (fun c9_6 => ?_) (fun c9_6 => ?_)
    · skip
      have z1 : ¬ stF fv fk nv nk cp = 0 := c9_6
      refine lv_iconst (v := 0) hx hb dX3_matches_16 (by decide) ?_
      subst hQ
      exact W.zret (v := 0) hx hb hr (by decide) (fun t ht hW => ⟨⟨_, (fp, np, f1, f2, 0), rfl, ⟨hp, Nat.zero_le _, Or.inr ⟨rfl, by first | exact sMat_c z0 z2 | exact (fun L q => z1 ((sMat_0 z0 L).mpr q).1)⟩⟩, by rw [ht]; exact hP, hD⟩, hS.F ht⟩) hS.2.2 dX3_matches_17
    · skip
      have z1 : stF fv fk nv nk cp = 0 := (by first | exact c9_6 | exact Decidable.not_not.mp c9_6)
      refine lv_iconst (v := 1) hx hb dX3_matches_12 (by decide) ?_
      refine lv_goto (tgt := 17) hx hb dX3_matches_13 (by decide) ?_
      subst hQ
      exact W.zret (v := 1) hx hb hr (by decide) (fun t ht hW => ⟨⟨_, (fp, np, f1, f2, 0), rfl, ⟨hp, Nat.zero_le _, Or.inl ⟨rfl, [], (sMat_0 z0 []).mp ⟨z1, rfl⟩, spIs_0⟩⟩, by rw [ht]; exact hP, hD⟩, hS.F ht⟩) hS.2.2 dX3_matches_17

abbrev rm_c_match : Room := { frames := 5, cells := 0, slots := 0, locals := 125 }
set_option maxHeartbeats 4000000 in
set_option maxRecDepth 100000 in
theorem c_match (l : Launch) (dC : Nat → ClassId) (dI : Nat → Nat → Nat) (sz : Nat) (g rv rk pt sp av ak ap a1 a2 : Nat) (kv kk kp k1 k2 : ClassId) (fv fk fp f1 f2 : Nat → Int32) (nv nk np ns : Nat) (hv : nv ≤ 100) (hk : nk ≤ 100) (hp : np ≤ 100) (hs : ns ≤ 100) (mm cp : Int32) : Met l yX3_match (.code yX3_match cX3_match 3 (some (.int)) :: wsA) rm_c_match (va_Pc [.ref g, .int (mm), .int (cp)] (wr (dC, dI) [(g, .inr (3, [.ref rv, .ref rk, .ref pt, .ref sp])), (rv, .inr (1, [.ref av, .int (nI nv)])), (av, .inl (kv, 100, .inl fv)), (rk, .inr (1, [.ref ak, .int (nI nk)])), (ak, .inl (kk, 100, .inl fk)), (pt, .inr (0, [.ref ap, .int (nI np)])), (ap, .inl (kp, 100, .inl fp)), (sp, .inr (2, [.ref a1, .ref a2, .int (nI ns)])), (a1, .inl (k1, 100, .inl f1)), (a2, .inl (k2, 100, .inl f2))] [(kv, .int), (kk, .int), (kp, .int), (k1, .int), (k2, .int)] sz)) (va_Qi (fun (r : Int32) (u : (Nat → Int32) × Nat × (Nat → Int32) × (Nat → Int32) × Nat) => u.2.1 ≤ 100 ∧ u.2.2.2.2 ≤ 100 ∧ mfin fv fk nv nk mm cp f1 f2 ns r u.2.2.1 u.2.2.2.1 u.2.2.2.2) (wB (dC, dI) (va_A [(g, .inr (3, [.ref rv, .ref rk, .ref pt, .ref sp])), (rv, .inr (1, [.ref av, .int (nI nv)])), (av, .inl (kv, 100, .inl fv)), (rk, .inr (1, [.ref ak, .int (nI nk)])), (ak, .inl (kk, 100, .inl fk)), (pt, .inr (0, [.ref ap, .int (nI np)])), (ap, .inl (kp, 100, .inl fp)), (sp, .inr (2, [.ref a1, .ref a2, .int (nI ns)])), (a1, .inl (k1, 100, .inl f1)), (a2, .inl (k2, 100, .inl f2))] sz) (fun u : (Nat → Int32) × Nat × (Nat → Int32) × (Nat → Int32) × Nat => [(g, .inr (3, [.ref rv, .ref rk, .ref pt, .ref sp])), (rv, .inr (1, [.ref av, .int (nI nv)])), (av, .inl (kv, 100, .inl fv)), (rk, .inr (1, [.ref ak, .int (nI nk)])), (ak, .inl (kk, 100, .inl fk)), (pt, .inr (0, [.ref ap, .int (nI u.2.1)])), (ap, .inl (kp, 100, .inl (u.1))), (sp, .inr (2, [.ref a1, .ref a2, .int (nI u.2.2.2.2)])), (a1, .inl (k1, 100, .inl (u.2.2.1))), (a2, .inl (k2, 100, .inl (u.2.2.2.1)))])) (va_A [(g, .inr (3, [.ref rv, .ref rk, .ref pt, .ref sp])), (rv, .inr (1, [.ref av, .int (nI nv)])), (av, .inl (kv, 100, .inl fv)), (rk, .inr (1, [.ref ak, .int (nI nk)])), (ak, .inl (kk, 100, .inl fk)), (pt, .inr (0, [.ref ap, .int (nI np)])), (ap, .inl (kp, 100, .inl fp)), (sp, .inr (2, [.ref a1, .ref a2, .int (nI ns)])), (a1, .inl (k1, 100, .inl f1)), (a2, .inl (k2, 100, .inl f2))] sz)) 0 0 (va_A [(g, .inr (3, [.ref rv, .ref rk, .ref pt, .ref sp])), (rv, .inr (1, [.ref av, .int (nI nv)])), (av, .inl (kv, 100, .inl fv)), (rk, .inr (1, [.ref ak, .int (nI nk)])), (ak, .inl (kk, 100, .inl fk)), (pt, .inr (0, [.ref ap, .int (nI np)])), (ap, .inl (kp, 100, .inl fp)), (sp, .inr (2, [.ref a1, .ref a2, .int (nI ns)])), (a1, .inl (k1, 100, .inl f1)), (a2, .inl (k2, 100, .inl f2))] sz) := by
  refine Met.ofW (cc := cX3_match) (maxL := 3) (ret := (some (.int))) (by decide) rfl ?_
  intro p e s m args below meth c s₁ B hml hv
  obtain ⟨hargs, hsz, hN, hP, hK, hD0⟩ := hv
  have hx := B.exec
  have hb := B.bytes
  have hr := B.returns
  have hw : ∀ w ∈ wsA, w.before args s = true := fun w h => atoms_spec (ws := (.code yX3_match cX3_match 3 (some (.int)) :: wsA)) B.pre w (List.mem_cons_of_mem _ h)
  have hown : s.vm.findClass "GlobDesk" = some m.cls := findClass_of_methodNamed B.named
  have hlocks := B.notSynchronized
  subst hsz
  have hD := hD0.self (sz := s.heap.size)
  generalize hAe : va_A [(g, .inr (3, [.ref rv, .ref rk, .ref pt, .ref sp])), (rv, .inr (1, [.ref av, .int (nI nv)])), (av, .inl (kv, 100, .inl fv)), (rk, .inr (1, [.ref ak, .int (nI nk)])), (ak, .inl (kk, 100, .inl fk)), (pt, .inr (0, [.ref ap, .int (nI np)])), (ap, .inl (kp, 100, .inl fp)), (sp, .inr (2, [.ref a1, .ref a2, .int (nI ns)])), (a1, .inl (k1, 100, .inl f1)), (a2, .inl (k2, 100, .inl f2))] s.heap.size = A at hD ⊢
  have hA : ∀ q : Nat, s.heap.size ≤ q → A q := fun q h => by rw [← hAe]; exact Or.inr h
  have hS : va_S A s.heap s.heap [] := va_S.rf
  generalize hQ : MQ below _ args s _ _ _ = Q
  change W p l e rm_c_match s m args below meth c s.heap [] 0 0 Q (entryFrame m args 3)
  have hl := lv_entry ([.ref g, .int (mm), .int (cp)]) (n := 3) (Nat.le_of_ble_eq_true rfl)
  rw [show entryFrame m args 3 = entryFrame m ([.ref g, .int (mm), .int (cp)] : List Value).toArray 3 from by rw [hargs], lg_entry_eq]
  generalize (lg_sl ([.ref g, .int (mm), .int (cp)]) ++ List.replicate (3 - (lg_sl ([.ref g, .int (mm), .int (cp)])).length) Slot.unset).toArray = ls at hl ⊢
  have hl : lv_has ls 3 [(0, .ref g), (1, .int (mm)), (2, .int (cp))] := hl
  refine lv_iload_n hx hb dX3_match_0 rfl (lv_at hl 1 rfl) ?_
  refine lv_if_lt (tgt := 16) hx hb dX3_match_1 (by decide) (fun c1_0 => ?_) (fun c1_0 => ?_)
  · skip
    rw [ti_lt, tc_0] at c1_0
    have zo : ¬ mOk mm cp := fun q => by have := q.1; omega
    refine lv_iconst (v := -1) hx hb dX3_match_16 (by decide) ?_
    subst hQ
    exact W.iret (v := (-1)) hx hb hr (fun t ht hW => ⟨⟨_, (fp, np, f1, f2, ns), rfl, ⟨hp, hs, Or.inr ⟨zo, rfl, rfl, rfl, rfl⟩⟩, by rw [ht]; exact hP, hD⟩, hS.F ht⟩) hS.2.2 dX3_match_17
  · skip
    rw [ti_lt, tc_0] at c1_0
    refine lv_iload_n hx hb dX3_match_4 rfl (lv_at hl 1 rfl) ?_
    refine lv_iconst (v := 2) hx hb dX3_match_5 (by decide) ?_
    refine lv_icmp_gt (tgt := 16) hx hb dX3_match_6 (by decide) (fun c6_1 => ?_) (fun c6_1 => ?_)
    · skip
      rw [ti_lt, tc_2] at c6_1
      have zo : ¬ mOk mm cp := fun q => by have := q.2.1; omega
      refine lv_iconst (v := -1) hx hb dX3_match_16 (by decide) ?_
      subst hQ
      exact W.iret (v := (-1)) hx hb hr (fun t ht hW => ⟨⟨_, (fp, np, f1, f2, ns), rfl, ⟨hp, hs, Or.inr ⟨zo, rfl, rfl, rfl, rfl⟩⟩, by rw [ht]; exact hP, hD⟩, hS.F ht⟩) hS.2.2 dX3_match_17
    · skip
      rw [ti_lt, tc_2] at c6_1
      have zm : 0 ≤ mm.toInt ∧ mm.toInt ≤ 2 := by omega
      refine lv_iload_n hx hb dX3_match_9 rfl (lv_at hl 2 rfl) ?_
      refine vp_callSi (va_Run.run (va_runS (As := [.int (cp)]) (rest := []) ⟨hx, hb, hml, hown, hw⟩ (c_isCmp l (cp)) (cwS 1 hw (gS mw110 mw111 mw16 mw112) rfl rfl rfl (by decide +kernel) ⟨Nat.le_of_ble_eq_true rfl, Nat.le_of_ble_eq_true rfl⟩) st.S rfl rfl hl.1 rfl (lv_room (Nat.le_of_ble_eq_true rfl)) dX3_match_10 ⟨Nat.le_of_ble_eq_true rfl, Nat.le_of_ble_eq_true rfl⟩)) (fun r3 hr3 => ?_)
      subst hr3
      refine lv_if_ne (tgt := 18) hx hb dX3_match_13 (by decide) (fun c13_3 => ?_) (fun c13_3 => ?_)
      · skip
        have q1 : 0 ≤ cp.toInt ∧ cp.toInt ≤ 2 := Decidable.byContradiction (fun q => c13_3 (if_neg q))
        have zo : mOk mm cp := ⟨zm.1, zm.2, q1.1, q1.2⟩
        refine lv_aload_n hx hb dX3_match_18 rfl (lv_at hl 0 rfl) ?_
        refine va_get (D := (dC, dI)) (ci := 3) (v := .ref sp) (C := RX3) (T := TX3) (N := 4) hx hb hw inX3 hown hK hP 0 rfl rfl 3 (by decide) (hw _ mw80) (fun _ h9 => h9) rfl dX3_match_19 ?_
        refine lv_iconst (v := 0) hx hb dX3_match_22 (by decide) ?_
        refine lv_topi (fun x5 ex5 => ?_)
        obtain rfl : x5 = nI 0 := by rw [ex5]; exact nI_0.symm
        refine va_putN (D := (dC, dI)) (ci := 2) (v := .int (nI 0)) (ty := .int) (C := RX2) (T := TX2) (N := 3) hx hb hw inX2 tyX2 tyX2_ok nmX2 hown hK hP hD hS 7 rfl rfl 2 (by decide) (va_Nw.use rfl hN.2.2.2.2.2.2) (fun _ h9 => h9) rfl (by decide +kernel) rfl rfl (Nat.le_of_ble_eq_true rfl) dX3_match_23 (fun H locs hP hD hS => ?_)
        have hP : va_P (dC, dI) cl5 [(g, .inr (3, [.ref rv, .ref rk, .ref pt, .ref sp])), (rv, .inr (1, [.ref av, .int (nI nv)])), (av, .inl (kv, 100, .inl fv)), (rk, .inr (1, [.ref ak, .int (nI nk)])), (ak, .inl (kk, 100, .inl fk)), (pt, .inr (0, [.ref ap, .int (nI np)])), (ap, .inl (kp, 100, .inl fp)), (sp, .inr (2, [.ref a1, .ref a2, .int (nI 0)])), (a1, .inl (k1, 100, .inl f1)), (a2, .inl (k2, 100, .inl f2))] H := hP
        have hD : va_D A [(g, .inr (3, [.ref rv, .ref rk, .ref pt, .ref sp])), (rv, .inr (1, [.ref av, .int (nI nv)])), (av, .inl (kv, 100, .inl fv)), (rk, .inr (1, [.ref ak, .int (nI nk)])), (ak, .inl (kk, 100, .inl fk)), (pt, .inr (0, [.ref ap, .int (nI np)])), (ap, .inl (kp, 100, .inl fp)), (sp, .inr (2, [.ref a1, .ref a2, .int (nI 0)])), (a1, .inl (k1, 100, .inl f1)), (a2, .inl (k2, 100, .inl f2))] := hD
        refine lv_aload_n hx hb dX3_match_26 rfl (lv_at hl 0 rfl) ?_
        refine lv_iload_n hx hb dX3_match_27 rfl (lv_at hl 1 rfl) ?_
        refine lv_iload_n hx hb dX3_match_28 rfl (lv_at hl 2 rfl) ?_
        have hPc := hP.sub (ws' := [(g, .inr (3, [.ref rv, .ref rk, .ref pt, .ref sp])), (rv, .inr (1, [.ref av, .int (nI nv)])), (av, .inl (kv, 100, .inl fv)), (rk, .inr (1, [.ref ak, .int (nI nk)])), (ak, .inl (kk, 100, .inl fk)), (pt, .inr (0, [.ref ap, .int (nI np)])), (ap, .inl (kp, 100, .inl fp)), (sp, .inr (2, [.ref a1, .ref a2, .int (nI 0)])), (a1, .inl (k1, 100, .inl f1)), (a2, .inl (k2, 100, .inl f2))]) [0, 1, 2, 3, 4, 5, 6, 7, 8, 9] rfl
        have hDc := hD.sub (ws' := [(g, .inr (3, [.ref rv, .ref rk, .ref pt, .ref sp])), (rv, .inr (1, [.ref av, .int (nI nv)])), (av, .inl (kv, 100, .inl fv)), (rk, .inr (1, [.ref ak, .int (nI nk)])), (ak, .inl (kk, 100, .inl fk)), (pt, .inr (0, [.ref ap, .int (nI np)])), (ap, .inl (kp, 100, .inl fp)), (sp, .inr (2, [.ref a1, .ref a2, .int (nI 0)])), (a1, .inl (k1, 100, .inl f1)), (a2, .inl (k2, 100, .inl f2))]) [0, 1, 2, 3, 4, 5, 6, 7, 8, 9] (by decide) rfl
        have hKc := hK.sub (tys' := [(kv, .int), (kk, .int), (kp, .int), (k1, .int), (k2, .int)]) [0, 1, 2, 3, 4] rfl
        have hFc := va_free (wc := [(g, .inr (3, [.ref rv, .ref rk, .ref pt, .ref sp])), (rv, .inr (1, [.ref av, .int (nI nv)])), (av, .inl (kv, 100, .inl fv)), (rk, .inr (1, [.ref ak, .int (nI nk)])), (ak, .inl (kk, 100, .inl fk)), (pt, .inr (0, [.ref ap, .int (nI np)])), (ap, .inl (kp, 100, .inl fp)), (sp, .inr (2, [.ref a1, .ref a2, .int (nI 0)])), (a1, .inl (k1, 100, .inl f1)), (a2, .inl (k2, 100, .inl f2))]) hD hS hA [0, 1, 2, 3, 4, 5, 6, 7, 8, 9] rfl
        refine va_calli (va_runV (As := [.int (mm), .int (cp)]) (rest := []) ⟨hx, hb, hml, hown, hw⟩ (c_matches l dC dI H.size g rv rk pt sp av ak ap a1 a2 kv kk kp k1 k2 fv fk fp f1 f2 nv nk np hv hk hp mm cp zm.1 zm.2) (cwV 2 hw (gV mw113 mw115 mw1 mw16 mw116) rfl rfl rfl (by decide +kernel) ⟨Nat.le_of_ble_eq_true rfl, Nat.le_of_ble_eq_true rfl⟩) (wr.V (q0 := 0) (ci := 3) hN hKc hPc hDc rfl rfl) rfl rfl hl.1 rfl (lv_room (Nat.le_of_ble_eq_true rfl)) dX3_match_29 ⟨Nat.le_of_ble_eq_true rfl, Nat.le_of_ble_eq_true rfl⟩) hS (fun q _ h => hFc q h) hFc (fun r6 ur6 t H1 locs ht hvm hr6 hB hz1 hk1 hS => ?_)
        obtain ⟨w, p1, s1, s2, n2⟩ := ur6
        obtain ⟨hp1, hs1, hmr⟩ := hr6
        dsimp only at hp1 hs1 hmr
        obtain ⟨hP1, hD1⟩ := hB
        rw [ht] at hP1
        obtain ⟨hP, hD⟩ := va_join (wr := []) (w1 := [(g, .inr (3, [.ref rv, .ref rk, .ref pt, .ref sp])), (rv, .inr (1, [.ref av, .int (nI nv)])), (av, .inl (kv, 100, .inl fv)), (rk, .inr (1, [.ref ak, .int (nI nk)])), (ak, .inl (kk, 100, .inl fk)), (pt, .inr (0, [.ref ap, .int (nI p1)])), (ap, .inl (kp, 100, .inl w)), (sp, .inr (2, [.ref a1, .ref a2, .int (nI n2)])), (a1, .inl (k1, 100, .inl s1)), (a2, .inl (k2, 100, .inl s2))]) hP hD [0, 1, 2, 3, 4, 5, 6, 7, 8, 9] [] rfl rfl (by decide) (by decide) hk1 hFc hP1 hD1
        generalize H1 = H at hP hS ⊢
        have hP : va_P (dC, dI) cl5 [(g, .inr (3, [.ref rv, .ref rk, .ref pt, .ref sp])), (rv, .inr (1, [.ref av, .int (nI nv)])), (av, .inl (kv, 100, .inl fv)), (rk, .inr (1, [.ref ak, .int (nI nk)])), (ak, .inl (kk, 100, .inl fk)), (pt, .inr (0, [.ref ap, .int (nI p1)])), (ap, .inl (kp, 100, .inl w)), (sp, .inr (2, [.ref a1, .ref a2, .int (nI n2)])), (a1, .inl (k1, 100, .inl s1)), (a2, .inl (k2, 100, .inl s2))] H := hP.sub [0, 1, 2, 3, 4, 5, 6, 7, 8, 9] rfl
        have hD : va_D A [(g, .inr (3, [.ref rv, .ref rk, .ref pt, .ref sp])), (rv, .inr (1, [.ref av, .int (nI nv)])), (av, .inl (kv, 100, .inl fv)), (rk, .inr (1, [.ref ak, .int (nI nk)])), (ak, .inl (kk, 100, .inl fk)), (pt, .inr (0, [.ref ap, .int (nI p1)])), (ap, .inl (kp, 100, .inl w)), (sp, .inr (2, [.ref a1, .ref a2, .int (nI n2)])), (a1, .inl (k1, 100, .inl s1)), (a2, .inl (k2, 100, .inl s2))] := hD.sub [0, 1, 2, 3, 4, 5, 6, 7, 8, 9] (by decide) rfl
        refine lv_if_eq (tgt := 37) hx hb dX3_match_32 (by decide) (fun c32_6 => ?_) (fun c32_6 => ?_)
        · skip
          have z5 := c32_6
          refine lv_aload_n hx hb dX3_match_37 rfl (lv_at hl 0 rfl) ?_
          refine va_get (D := (dC, dI)) (ci := 3) (v := .ref sp) (C := RX3) (T := TX3) (N := 4) hx hb hw inX3 hown hK hP 0 rfl rfl 3 (by decide) (hw _ mw80) (fun _ h9 => h9) rfl dX3_match_38 ?_
          refine lv_iconst (v := 0) hx hb dX3_match_41 (by decide) ?_
          refine lv_topi (fun x8 ex8 => ?_)
          obtain rfl : x8 = nI 0 := by rw [ex8]; exact nI_0.symm
          refine va_putN (D := (dC, dI)) (ci := 2) (v := .int (nI 0)) (ty := .int) (C := RX2) (T := TX2) (N := 3) hx hb hw inX2 tyX2 tyX2_ok nmX2 hown hK hP hD hS 7 rfl rfl 2 (by decide) (va_Nw.use rfl hN.2.2.2.2.2.2) (fun _ h9 => h9) rfl (by decide +kernel) rfl rfl (Nat.le_of_ble_eq_true rfl) dX3_match_42 (fun H locs hP hD hS => ?_)
          have hP : va_P (dC, dI) cl5 [(g, .inr (3, [.ref rv, .ref rk, .ref pt, .ref sp])), (rv, .inr (1, [.ref av, .int (nI nv)])), (av, .inl (kv, 100, .inl fv)), (rk, .inr (1, [.ref ak, .int (nI nk)])), (ak, .inl (kk, 100, .inl fk)), (pt, .inr (0, [.ref ap, .int (nI p1)])), (ap, .inl (kp, 100, .inl w)), (sp, .inr (2, [.ref a1, .ref a2, .int (nI 0)])), (a1, .inl (k1, 100, .inl s1)), (a2, .inl (k2, 100, .inl s2))] H := hP
          have hD : va_D A [(g, .inr (3, [.ref rv, .ref rk, .ref pt, .ref sp])), (rv, .inr (1, [.ref av, .int (nI nv)])), (av, .inl (kv, 100, .inl fv)), (rk, .inr (1, [.ref ak, .int (nI nk)])), (ak, .inl (kk, 100, .inl fk)), (pt, .inr (0, [.ref ap, .int (nI p1)])), (ap, .inl (kp, 100, .inl w)), (sp, .inr (2, [.ref a1, .ref a2, .int (nI 0)])), (a1, .inl (k1, 100, .inl s1)), (a2, .inl (k2, 100, .inl s2))] := hD
          refine lv_iconst (v := 0) hx hb dX3_match_45 (by decide) ?_
          subst hQ
          exact W.iret (v := 0) hx hb hr (fun t ht hW => ⟨⟨_, (w, p1, s1, s2, 0), rfl, ⟨hp1, Nat.zero_le _, Or.inl ⟨zo, Or.inr ⟨rfl, hmr.elim (fun h => absurd (h.1.symm.trans z5) (by decide)) (fun h => h.2), rfl⟩⟩⟩, by rw [ht]; exact hP, hD⟩, hS.F ht⟩) hS.2.2 dX3_match_46
        · skip
          have z5 := c32_6
          refine lv_iconst (v := 1) hx hb dX3_match_35 (by decide) ?_
          subst hQ
          exact W.iret (v := 1) hx hb hr (fun t ht hW => ⟨⟨_, (w, p1, s1, s2, n2), rfl, ⟨hp1, hs1, Or.inl ⟨zo, Or.inl (hmr.elim (fun h => ⟨rfl, h.2⟩) (fun h => absurd h.1 z5))⟩⟩, by rw [ht]; exact hP, hD⟩, hS.F ht⟩) hS.2.2 dX3_match_36
      · skip
        have q1 : ¬ (0 ≤ cp.toInt ∧ cp.toInt ≤ 2) := fun q => absurd (by first | exact c13_3 | exact Decidable.not_not.mp c13_3) (by rw [if_pos q]; decide)
        have zo : ¬ mOk mm cp := fun q => q1 ⟨q.2.2.1, q.2.2.2⟩
        refine lv_iconst (v := -1) hx hb dX3_match_16 (by decide) ?_
        subst hQ
        exact W.iret (v := (-1)) hx hb hr (fun t ht hW => ⟨⟨_, (fp, np, f1, f2, ns), rfl, ⟨hp, hs, Or.inr ⟨zo, rfl, rfl, rfl, rfl⟩⟩, by rw [ht]; exact hP, hD⟩, hS.F ht⟩) hS.2.2 dX3_match_17

abbrev rm_c_put : Room := { frames := 1, cells := 0, slots := 0, locals := 24 }
set_option maxHeartbeats 4000000 in
set_option maxRecDepth 100000 in
theorem c_put (l : Launch) (dC : Nat → ClassId) (dI : Nat → Nat → Nat) (sz : Nat) (g rv rk pt sp av ak ap a1 a2 : Nat) (kv kk kp k1 k2 : ClassId) (fv fk fp f1 f2 : Nat → Int32) (nv nk np ns : Nat) (hv : nv ≤ 100) (hk : nk ≤ 100) (hp : np ≤ 100) (hs : ns ≤ 100) (w : Int32) (v : Int64) (ct : Int32) : Met l yX3_put (.code yX3_put cX3_put 6 (some (.boolean)) :: wsA) rm_c_put (va_Pc [.ref g, .int (w), .long (v), .int (ct)] (wr (dC, dI) [(g, .inr (3, [.ref rv, .ref rk, .ref pt, .ref sp])), (rv, .inr (1, [.ref av, .int (nI nv)])), (av, .inl (kv, 100, .inl fv)), (rk, .inr (1, [.ref ak, .int (nI nk)])), (ak, .inl (kk, 100, .inl fk)), (pt, .inr (0, [.ref ap, .int (nI np)])), (ap, .inl (kp, 100, .inl fp)), (sp, .inr (2, [.ref a1, .ref a2, .int (nI ns)])), (a1, .inl (k1, 100, .inl f1)), (a2, .inl (k2, 100, .inl f2))] [(kv, .int), (kk, .int), (kp, .int), (k1, .int), (k2, .int)] sz)) (va_Qi (fun (r : Int32) (u : ((Nat → Int32) × Nat) × ((Nat → Int32) × Nat)) => r = (if w = 0 then apR nv ct else if w = 1 then apR nk ct else 0) ∧ u = (if w = 0 then (apF fv nv v ct, (fk, nk)) else if w = 1 then ((fv, nv), apF fk nk v ct) else ((fv, nv), (fk, nk)))) (wB (dC, dI) (va_A [(g, .inr (3, [.ref rv, .ref rk, .ref pt, .ref sp])), (rv, .inr (1, [.ref av, .int (nI nv)])), (av, .inl (kv, 100, .inl fv)), (rk, .inr (1, [.ref ak, .int (nI nk)])), (ak, .inl (kk, 100, .inl fk)), (pt, .inr (0, [.ref ap, .int (nI np)])), (ap, .inl (kp, 100, .inl fp)), (sp, .inr (2, [.ref a1, .ref a2, .int (nI ns)])), (a1, .inl (k1, 100, .inl f1)), (a2, .inl (k2, 100, .inl f2))] sz) (fun u : ((Nat → Int32) × Nat) × ((Nat → Int32) × Nat) => [(g, .inr (3, [.ref rv, .ref rk, .ref pt, .ref sp])), (rv, .inr (1, [.ref av, .int (nI u.1.2)])), (av, .inl (kv, 100, .inl (u.1.1))), (rk, .inr (1, [.ref ak, .int (nI u.2.2)])), (ak, .inl (kk, 100, .inl (u.2.1))), (pt, .inr (0, [.ref ap, .int (nI np)])), (ap, .inl (kp, 100, .inl fp)), (sp, .inr (2, [.ref a1, .ref a2, .int (nI ns)])), (a1, .inl (k1, 100, .inl f1)), (a2, .inl (k2, 100, .inl f2))])) (va_A [(g, .inr (3, [.ref rv, .ref rk, .ref pt, .ref sp])), (rv, .inr (1, [.ref av, .int (nI nv)])), (av, .inl (kv, 100, .inl fv)), (rk, .inr (1, [.ref ak, .int (nI nk)])), (ak, .inl (kk, 100, .inl fk)), (pt, .inr (0, [.ref ap, .int (nI np)])), (ap, .inl (kp, 100, .inl fp)), (sp, .inr (2, [.ref a1, .ref a2, .int (nI ns)])), (a1, .inl (k1, 100, .inl f1)), (a2, .inl (k2, 100, .inl f2))] sz)) 0 0 (va_A [(g, .inr (3, [.ref rv, .ref rk, .ref pt, .ref sp])), (rv, .inr (1, [.ref av, .int (nI nv)])), (av, .inl (kv, 100, .inl fv)), (rk, .inr (1, [.ref ak, .int (nI nk)])), (ak, .inl (kk, 100, .inl fk)), (pt, .inr (0, [.ref ap, .int (nI np)])), (ap, .inl (kp, 100, .inl fp)), (sp, .inr (2, [.ref a1, .ref a2, .int (nI ns)])), (a1, .inl (k1, 100, .inl f1)), (a2, .inl (k2, 100, .inl f2))] sz) := by
  refine Met.ofW (cc := cX3_put) (maxL := 6) (ret := (some (.boolean))) (by decide) rfl ?_
  intro p e s m args below meth c s₁ B hml hv
  obtain ⟨hargs, hsz, hN, hP, hK, hD0⟩ := hv
  have hx := B.exec
  have hb := B.bytes
  have hr := B.returns
  have hw : ∀ w ∈ wsA, w.before args s = true := fun w h => atoms_spec (ws := (.code yX3_put cX3_put 6 (some (.boolean)) :: wsA)) B.pre w (List.mem_cons_of_mem _ h)
  have hown : s.vm.findClass "GlobDesk" = some m.cls := findClass_of_methodNamed B.named
  have hlocks := B.notSynchronized
  subst hsz
  have hD := hD0.self (sz := s.heap.size)
  generalize hAe : va_A [(g, .inr (3, [.ref rv, .ref rk, .ref pt, .ref sp])), (rv, .inr (1, [.ref av, .int (nI nv)])), (av, .inl (kv, 100, .inl fv)), (rk, .inr (1, [.ref ak, .int (nI nk)])), (ak, .inl (kk, 100, .inl fk)), (pt, .inr (0, [.ref ap, .int (nI np)])), (ap, .inl (kp, 100, .inl fp)), (sp, .inr (2, [.ref a1, .ref a2, .int (nI ns)])), (a1, .inl (k1, 100, .inl f1)), (a2, .inl (k2, 100, .inl f2))] s.heap.size = A at hD ⊢
  have hA : ∀ q : Nat, s.heap.size ≤ q → A q := fun q h => by rw [← hAe]; exact Or.inr h
  have hS : va_S A s.heap s.heap [] := va_S.rf
  generalize hQ : MQ below _ args s _ _ _ = Q
  change W p l e rm_c_put s m args below meth c s.heap [] 0 0 Q (entryFrame m args 6)
  have hl := lv_entry ([.ref g, .int (w), .long (v), .int (ct)]) (n := 6) (Nat.le_of_ble_eq_true rfl)
  rw [show entryFrame m args 6 = entryFrame m ([.ref g, .int (w), .long (v), .int (ct)] : List Value).toArray 6 from by rw [hargs], lg_entry_eq]
  generalize (lg_sl ([.ref g, .int (w), .long (v), .int (ct)]) ++ List.replicate (6 - (lg_sl ([.ref g, .int (w), .long (v), .int (ct)])).length) Slot.unset).toArray = ls at hl ⊢
  have hl : lv_has ls 6 [(0, .ref g), (1, .int (w)), (2, .long (v)), (4, .int (ct))] := hl
  refine lv_aload_n hx hb dX3_put_0 rfl (lv_at hl 0 rfl) ?_
  refine lv_iload_n hx hb dX3_put_1 rfl (lv_at hl 1 rfl) ?_
  refine va_csq (va_Run.run (va_runV (As := [.int (w)]) (rest := []) ⟨hx, hb, hml, hown, hw⟩ (c_rowOf l dC dI g rv rk pt sp av ak ap a1 a2 kv kk kp k1 k2 fv fk fp f1 f2 nv nk np ns hv hk hp hs (w)) (cwV 1 hw (gV mw94 mw96 mw0 mw16 mw97) rfl rfl rfl (by decide +kernel) ⟨Nat.le_of_ble_eq_true rfl, Nat.le_of_ble_eq_true rfl⟩) (ro.V (q0 := 0) (ci := 3) hN (hK.sub (tys' := [(kv, .int), (kk, .int), (kp, .int), (k1, .int), (k2, .int)]) [0, 1, 2, 3, 4] rfl) (hP.sub (ws' := [(g, .inr (3, [.ref rv, .ref rk, .ref pt, .ref sp])), (rv, .inr (1, [.ref av, .int (nI nv)])), (av, .inl (kv, 100, .inl fv)), (rk, .inr (1, [.ref ak, .int (nI nk)])), (ak, .inl (kk, 100, .inl fk)), (pt, .inr (0, [.ref ap, .int (nI np)])), (ap, .inl (kp, 100, .inl fp)), (sp, .inr (2, [.ref a1, .ref a2, .int (nI ns)])), (a1, .inl (k1, 100, .inl f1)), (a2, .inl (k2, 100, .inl f2))]) [0, 1, 2, 3, 4, 5, 6, 7, 8, 9] rfl) rfl rfl) rfl rfl hl.1 rfl (lv_room (Nat.le_of_ble_eq_true rfl)) dX3_put_2 ⟨Nat.le_of_ble_eq_true rfl, Nat.le_of_ble_eq_true rfl⟩)) (fun r1 hr1 => ?_)
  by_cases w0 : w = 0
  · skip
    obtain rfl : r1 = some rv := by rw [hr1, if_pos w0]
    refine lv_astore (lv' := [(5, .ref rv), (0, .ref g), (1, .int (w)), (2, .long (v)), (4, .int (ct))]) hx hb dX3_put_5 hl (by decide) rfl (fun ls hl => ?_)
    refine lv_aload hx hb dX3_put_7 (lv_at hl 0 rfl) ?_
    refine lv_ifnull hx hb dX3_put_9 ?_
    refine lv_aload hx hb dX3_put_12 (lv_at hl 0 rfl) ?_
    refine lv_lload_n hx hb dX3_put_14 rfl (lv_at hl 3 rfl) ?_
    refine lv_iload hx hb dX3_put_15 (lv_at hl 4 rfl) ?_
    have hPc := hP.sub (ws' := [(rv, .inr (1, [.ref av, .int (nI nv)])), (av, .inl (kv, 100, .inl fv))]) [1, 2] rfl
    have hDc := hD.sub (ws' := [(rv, .inr (1, [.ref av, .int (nI nv)])), (av, .inl (kv, 100, .inl fv))]) [1, 2] (by decide) rfl
    have hKc := hK.sub (tys' := [(kv, .int)]) [0] rfl
    have hFc := va_free (wc := [(rv, .inr (1, [.ref av, .int (nI nv)])), (av, .inl (kv, 100, .inl fv))]) hD hS hA [1, 2] rfl
    refine va_calli (va_runV (As := [.long (v), .int (ct)]) (rest := []) ⟨hx, hb, hml, hown, hw⟩ (c_Row_append l dC dI s.heap.size rv av kv fv nv hv v ct) (cwV 2 hw (gV mw98 mw99 mw100 mw17 mw101) rfl rfl rfl (by decide +kernel) ⟨Nat.le_of_ble_eq_true rfl, Nat.le_of_ble_eq_true rfl⟩) (wr.V (q0 := 0) (ci := 1) hN hKc hPc hDc rfl rfl) rfl rfl hl.1 rfl (lv_room (Nat.le_of_ble_eq_true rfl)) dX3_put_17 ⟨Nat.le_of_ble_eq_true rfl, Nat.le_of_ble_eq_true rfl⟩) hS (fun q _ h => hFc q h) hFc (fun r2 ur2 t H1 locs ht hvm hr2 hB hz1 hk1 hS => ?_)
    obtain ⟨rfl, rfl⟩ := hr2
    obtain ⟨hP1, hD1⟩ := hB
    rw [ht] at hP1
    obtain ⟨hP, hD⟩ := va_join (wr := [(g, .inr (3, [.ref rv, .ref rk, .ref pt, .ref sp])), (rk, .inr (1, [.ref ak, .int (nI nk)])), (ak, .inl (kk, 100, .inl fk)), (pt, .inr (0, [.ref ap, .int (nI np)])), (ap, .inl (kp, 100, .inl fp)), (sp, .inr (2, [.ref a1, .ref a2, .int (nI ns)])), (a1, .inl (k1, 100, .inl f1)), (a2, .inl (k2, 100, .inl f2))]) (w1 := [(rv, .inr (1, [.ref av, .int (nI (apF fv nv v ct).2)])), (av, .inl (kv, 100, .inl ((apF fv nv v ct).1)))]) hP hD [1, 2] [0, 3, 4, 5, 6, 7, 8, 9] rfl rfl (by decide) (by decide) hk1 hFc hP1 hD1
    generalize H1 = H at hP hS ⊢
    have hP : va_P (dC, dI) cl5 [(g, .inr (3, [.ref rv, .ref rk, .ref pt, .ref sp])), (rv, .inr (1, [.ref av, .int (nI (apF fv nv v ct).2)])), (av, .inl (kv, 100, .inl ((apF fv nv v ct).1))), (rk, .inr (1, [.ref ak, .int (nI nk)])), (ak, .inl (kk, 100, .inl fk)), (pt, .inr (0, [.ref ap, .int (nI np)])), (ap, .inl (kp, 100, .inl fp)), (sp, .inr (2, [.ref a1, .ref a2, .int (nI ns)])), (a1, .inl (k1, 100, .inl f1)), (a2, .inl (k2, 100, .inl f2))] H := hP.sub [0, 8, 9, 1, 2, 3, 4, 5, 6, 7] rfl
    have hD : va_D A [(g, .inr (3, [.ref rv, .ref rk, .ref pt, .ref sp])), (rv, .inr (1, [.ref av, .int (nI (apF fv nv v ct).2)])), (av, .inl (kv, 100, .inl ((apF fv nv v ct).1))), (rk, .inr (1, [.ref ak, .int (nI nk)])), (ak, .inl (kk, 100, .inl fk)), (pt, .inr (0, [.ref ap, .int (nI np)])), (ap, .inl (kp, 100, .inl fp)), (sp, .inr (2, [.ref a1, .ref a2, .int (nI ns)])), (a1, .inl (k1, 100, .inl f1)), (a2, .inl (k2, 100, .inl f2))] := hD.sub [0, 8, 9, 1, 2, 3, 4, 5, 6, 7] (by decide) rfl
    refine lv_if_eq (tgt := 27) hx hb dX3_put_20 (by decide) (fun c20_2 => ?_) (fun c20_2 => ?_)
    · skip
      have z5 := c20_2
      refine lv_iconst (v := 0) hx hb dX3_put_27 (by decide) ?_
      subst hQ
      exact W.zret (v := 0) hx hb hr (by decide) (fun t ht hW => ⟨⟨_, (apF fv nv v ct, (fk, nk)), rfl, ⟨by rw [if_pos w0]; exact z5.symm, by rw [if_pos w0]⟩, by rw [ht]; exact hP, hD⟩, hS.F ht⟩) hS.2.2 dX3_put_28
    · skip
      have z5 := c20_2
      refine lv_iconst (v := 1) hx hb dX3_put_23 (by decide) ?_
      refine lv_goto (tgt := 28) hx hb dX3_put_24 (by decide) ?_
      subst hQ
      exact W.zret (v := 1) hx hb hr (by decide) (fun t ht hW => ⟨⟨_, (apF fv nv v ct, (fk, nk)), rfl, ⟨by rw [if_pos w0]; exact (apR_1 z5).symm, by rw [if_pos w0]⟩, by rw [ht]; exact hP, hD⟩, hS.F ht⟩) hS.2.2 dX3_put_28
  · skip
    by_cases w1 : w = 1
    · skip
      obtain rfl : r1 = some rk := by rw [hr1, if_neg w0, if_pos w1]
      refine lv_astore (lv' := [(5, .ref rk), (0, .ref g), (1, .int (w)), (2, .long (v)), (4, .int (ct))]) hx hb dX3_put_5 hl (by decide) rfl (fun ls hl => ?_)
      refine lv_aload hx hb dX3_put_7 (lv_at hl 0 rfl) ?_
      refine lv_ifnull hx hb dX3_put_9 ?_
      refine lv_aload hx hb dX3_put_12 (lv_at hl 0 rfl) ?_
      refine lv_lload_n hx hb dX3_put_14 rfl (lv_at hl 3 rfl) ?_
      refine lv_iload hx hb dX3_put_15 (lv_at hl 4 rfl) ?_
      have hPc := hP.sub (ws' := [(rk, .inr (1, [.ref ak, .int (nI nk)])), (ak, .inl (kk, 100, .inl fk))]) [3, 4] rfl
      have hDc := hD.sub (ws' := [(rk, .inr (1, [.ref ak, .int (nI nk)])), (ak, .inl (kk, 100, .inl fk))]) [3, 4] (by decide) rfl
      have hKc := hK.sub (tys' := [(kk, .int)]) [1] rfl
      have hFc := va_free (wc := [(rk, .inr (1, [.ref ak, .int (nI nk)])), (ak, .inl (kk, 100, .inl fk))]) hD hS hA [3, 4] rfl
      refine va_calli (va_runV (As := [.long (v), .int (ct)]) (rest := []) ⟨hx, hb, hml, hown, hw⟩ (c_Row_append l dC dI s.heap.size rk ak kk fk nk hk v ct) (cwV 2 hw (gV mw98 mw99 mw100 mw17 mw101) rfl rfl rfl (by decide +kernel) ⟨Nat.le_of_ble_eq_true rfl, Nat.le_of_ble_eq_true rfl⟩) (wr.V (q0 := 0) (ci := 1) hN hKc hPc hDc rfl rfl) rfl rfl hl.1 rfl (lv_room (Nat.le_of_ble_eq_true rfl)) dX3_put_17 ⟨Nat.le_of_ble_eq_true rfl, Nat.le_of_ble_eq_true rfl⟩) hS (fun q _ h => hFc q h) hFc (fun r4 ur4 t H1 locs ht hvm hr4 hB hz1 hk1 hS => ?_)
      obtain ⟨rfl, rfl⟩ := hr4
      obtain ⟨hP1, hD1⟩ := hB
      rw [ht] at hP1
      obtain ⟨hP, hD⟩ := va_join (wr := [(g, .inr (3, [.ref rv, .ref rk, .ref pt, .ref sp])), (rv, .inr (1, [.ref av, .int (nI nv)])), (av, .inl (kv, 100, .inl fv)), (pt, .inr (0, [.ref ap, .int (nI np)])), (ap, .inl (kp, 100, .inl fp)), (sp, .inr (2, [.ref a1, .ref a2, .int (nI ns)])), (a1, .inl (k1, 100, .inl f1)), (a2, .inl (k2, 100, .inl f2))]) (w1 := [(rk, .inr (1, [.ref ak, .int (nI (apF fk nk v ct).2)])), (ak, .inl (kk, 100, .inl ((apF fk nk v ct).1)))]) hP hD [3, 4] [0, 1, 2, 5, 6, 7, 8, 9] rfl rfl (by decide) (by decide) hk1 hFc hP1 hD1
      generalize H1 = H at hP hS ⊢
      have hP : va_P (dC, dI) cl5 [(g, .inr (3, [.ref rv, .ref rk, .ref pt, .ref sp])), (rv, .inr (1, [.ref av, .int (nI nv)])), (av, .inl (kv, 100, .inl fv)), (rk, .inr (1, [.ref ak, .int (nI (apF fk nk v ct).2)])), (ak, .inl (kk, 100, .inl ((apF fk nk v ct).1))), (pt, .inr (0, [.ref ap, .int (nI np)])), (ap, .inl (kp, 100, .inl fp)), (sp, .inr (2, [.ref a1, .ref a2, .int (nI ns)])), (a1, .inl (k1, 100, .inl f1)), (a2, .inl (k2, 100, .inl f2))] H := hP.sub [0, 1, 2, 8, 9, 3, 4, 5, 6, 7] rfl
      have hD : va_D A [(g, .inr (3, [.ref rv, .ref rk, .ref pt, .ref sp])), (rv, .inr (1, [.ref av, .int (nI nv)])), (av, .inl (kv, 100, .inl fv)), (rk, .inr (1, [.ref ak, .int (nI (apF fk nk v ct).2)])), (ak, .inl (kk, 100, .inl ((apF fk nk v ct).1))), (pt, .inr (0, [.ref ap, .int (nI np)])), (ap, .inl (kp, 100, .inl fp)), (sp, .inr (2, [.ref a1, .ref a2, .int (nI ns)])), (a1, .inl (k1, 100, .inl f1)), (a2, .inl (k2, 100, .inl f2))] := hD.sub [0, 1, 2, 8, 9, 3, 4, 5, 6, 7] (by decide) rfl
      refine lv_if_eq (tgt := 27) hx hb dX3_put_20 (by decide) (fun c20_4 => ?_) (fun c20_4 => ?_)
      · skip
        have z5 := c20_4
        refine lv_iconst (v := 0) hx hb dX3_put_27 (by decide) ?_
        subst hQ
        exact W.zret (v := 0) hx hb hr (by decide) (fun t ht hW => ⟨⟨_, ((fv, nv), apF fk nk v ct), rfl, ⟨by rw [if_neg w0, if_pos w1]; exact z5.symm, by rw [if_neg w0, if_pos w1]⟩, by rw [ht]; exact hP, hD⟩, hS.F ht⟩) hS.2.2 dX3_put_28
      · skip
        have z5 := c20_4
        refine lv_iconst (v := 1) hx hb dX3_put_23 (by decide) ?_
        refine lv_goto (tgt := 28) hx hb dX3_put_24 (by decide) ?_
        subst hQ
        exact W.zret (v := 1) hx hb hr (by decide) (fun t ht hW => ⟨⟨_, ((fv, nv), apF fk nk v ct), rfl, ⟨by rw [if_neg w0, if_pos w1]; exact (apR_1 z5).symm, by rw [if_neg w0, if_pos w1]⟩, by rw [ht]; exact hP, hD⟩, hS.F ht⟩) hS.2.2 dX3_put_28
    · skip
      obtain rfl : r1 = none := by rw [hr1, if_neg w0, if_neg w1]
      refine lv_astoreN (lv' := [(5, .null), (0, .ref g), (1, .int (w)), (2, .long (v)), (4, .int (ct))]) hx hb dX3_put_5 hl (by decide) rfl (fun ls hl => ?_)
      refine lv_aloadN hx hb dX3_put_7 (lv_at hl 0 rfl) ?_
      refine lv_ifnullN (tgt := 27) hx hb dX3_put_9 (by decide) ?_
      refine lv_iconst (v := 0) hx hb dX3_put_27 (by decide) ?_
      subst hQ
      exact W.zret (v := 0) hx hb hr (by decide) (fun t ht hW => ⟨⟨_, ((fv, nv), (fk, nk)), rfl, ⟨by rw [if_neg w0, if_neg w1], by rw [if_neg w0, if_neg w1]⟩, by rw [ht]; exact hP, hD⟩, hS.F ht⟩) hS.2.2 dX3_put_28

abbrev rm_c_clear : Room := { frames := 1, cells := 0, slots := 0, locals := 21 }
set_option maxHeartbeats 4000000 in
set_option maxRecDepth 100000 in
theorem c_clear (l : Launch) (dC : Nat → ClassId) (dI : Nat → Nat → Nat) (sz : Nat) (g rv rk pt sp av ak ap a1 a2 : Nat) (kv kk kp k1 k2 : ClassId) (fv fk fp f1 f2 : Nat → Int32) (nv nk np ns : Nat) (hv : nv ≤ 100) (hk : nk ≤ 100) (hp : np ≤ 100) (hs : ns ≤ 100) (w : Int32) : Met l yX3_clear (.code yX3_clear cX3_clear 4 (some (.int)) :: wsA) rm_c_clear (va_Pc [.ref g, .int (w)] (wr (dC, dI) [(g, .inr (3, [.ref rv, .ref rk, .ref pt, .ref sp])), (rv, .inr (1, [.ref av, .int (nI nv)])), (av, .inl (kv, 100, .inl fv)), (rk, .inr (1, [.ref ak, .int (nI nk)])), (ak, .inl (kk, 100, .inl fk)), (pt, .inr (0, [.ref ap, .int (nI np)])), (ap, .inl (kp, 100, .inl fp)), (sp, .inr (2, [.ref a1, .ref a2, .int (nI ns)])), (a1, .inl (k1, 100, .inl f1)), (a2, .inl (k2, 100, .inl f2))] [(kv, .int), (kk, .int), (kp, .int), (k1, .int), (k2, .int)] sz)) (va_Qi (fun (r : Int32) (u : Nat × Nat) => r = (if w = 0 then nI nv else if w = 1 then nI nk else -1) ∧ u = (if w = 0 then (0, nk) else if w = 1 then (nv, 0) else (nv, nk))) (wB (dC, dI) (va_A [(g, .inr (3, [.ref rv, .ref rk, .ref pt, .ref sp])), (rv, .inr (1, [.ref av, .int (nI nv)])), (av, .inl (kv, 100, .inl fv)), (rk, .inr (1, [.ref ak, .int (nI nk)])), (ak, .inl (kk, 100, .inl fk)), (pt, .inr (0, [.ref ap, .int (nI np)])), (ap, .inl (kp, 100, .inl fp)), (sp, .inr (2, [.ref a1, .ref a2, .int (nI ns)])), (a1, .inl (k1, 100, .inl f1)), (a2, .inl (k2, 100, .inl f2))] sz) (fun u : Nat × Nat => [(g, .inr (3, [.ref rv, .ref rk, .ref pt, .ref sp])), (rv, .inr (1, [.ref av, .int (nI u.1)])), (av, .inl (kv, 100, .inl fv)), (rk, .inr (1, [.ref ak, .int (nI u.2)])), (ak, .inl (kk, 100, .inl fk)), (pt, .inr (0, [.ref ap, .int (nI np)])), (ap, .inl (kp, 100, .inl fp)), (sp, .inr (2, [.ref a1, .ref a2, .int (nI ns)])), (a1, .inl (k1, 100, .inl f1)), (a2, .inl (k2, 100, .inl f2))])) (va_A [(g, .inr (3, [.ref rv, .ref rk, .ref pt, .ref sp])), (rv, .inr (1, [.ref av, .int (nI nv)])), (av, .inl (kv, 100, .inl fv)), (rk, .inr (1, [.ref ak, .int (nI nk)])), (ak, .inl (kk, 100, .inl fk)), (pt, .inr (0, [.ref ap, .int (nI np)])), (ap, .inl (kp, 100, .inl fp)), (sp, .inr (2, [.ref a1, .ref a2, .int (nI ns)])), (a1, .inl (k1, 100, .inl f1)), (a2, .inl (k2, 100, .inl f2))] sz)) 0 0 (va_A [(g, .inr (3, [.ref rv, .ref rk, .ref pt, .ref sp])), (rv, .inr (1, [.ref av, .int (nI nv)])), (av, .inl (kv, 100, .inl fv)), (rk, .inr (1, [.ref ak, .int (nI nk)])), (ak, .inl (kk, 100, .inl fk)), (pt, .inr (0, [.ref ap, .int (nI np)])), (ap, .inl (kp, 100, .inl fp)), (sp, .inr (2, [.ref a1, .ref a2, .int (nI ns)])), (a1, .inl (k1, 100, .inl f1)), (a2, .inl (k2, 100, .inl f2))] sz) := by
  refine Met.ofW (cc := cX3_clear) (maxL := 4) (ret := (some (.int))) (by decide) rfl ?_
  intro p e s m args below meth c s₁ B hml hv
  obtain ⟨hargs, hsz, hN, hP, hK, hD0⟩ := hv
  have hx := B.exec
  have hb := B.bytes
  have hr := B.returns
  have hw : ∀ w ∈ wsA, w.before args s = true := fun w h => atoms_spec (ws := (.code yX3_clear cX3_clear 4 (some (.int)) :: wsA)) B.pre w (List.mem_cons_of_mem _ h)
  have hown : s.vm.findClass "GlobDesk" = some m.cls := findClass_of_methodNamed B.named
  have hlocks := B.notSynchronized
  subst hsz
  have hD := hD0.self (sz := s.heap.size)
  generalize hAe : va_A [(g, .inr (3, [.ref rv, .ref rk, .ref pt, .ref sp])), (rv, .inr (1, [.ref av, .int (nI nv)])), (av, .inl (kv, 100, .inl fv)), (rk, .inr (1, [.ref ak, .int (nI nk)])), (ak, .inl (kk, 100, .inl fk)), (pt, .inr (0, [.ref ap, .int (nI np)])), (ap, .inl (kp, 100, .inl fp)), (sp, .inr (2, [.ref a1, .ref a2, .int (nI ns)])), (a1, .inl (k1, 100, .inl f1)), (a2, .inl (k2, 100, .inl f2))] s.heap.size = A at hD ⊢
  have hA : ∀ q : Nat, s.heap.size ≤ q → A q := fun q h => by rw [← hAe]; exact Or.inr h
  have hS : va_S A s.heap s.heap [] := va_S.rf
  generalize hQ : MQ below _ args s _ _ _ = Q
  change W p l e rm_c_clear s m args below meth c s.heap [] 0 0 Q (entryFrame m args 4)
  have hl := lv_entry ([.ref g, .int (w)]) (n := 4) (Nat.le_of_ble_eq_true rfl)
  rw [show entryFrame m args 4 = entryFrame m ([.ref g, .int (w)] : List Value).toArray 4 from by rw [hargs], lg_entry_eq]
  generalize (lg_sl ([.ref g, .int (w)]) ++ List.replicate (4 - (lg_sl ([.ref g, .int (w)])).length) Slot.unset).toArray = ls at hl ⊢
  have hl : lv_has ls 4 [(0, .ref g), (1, .int (w))] := hl
  refine lv_aload_n hx hb dX3_clear_0 rfl (lv_at hl 0 rfl) ?_
  refine lv_iload_n hx hb dX3_clear_1 rfl (lv_at hl 1 rfl) ?_
  refine va_csq (va_Run.run (va_runV (As := [.int (w)]) (rest := []) ⟨hx, hb, hml, hown, hw⟩ (c_rowOf l dC dI g rv rk pt sp av ak ap a1 a2 kv kk kp k1 k2 fv fk fp f1 f2 nv nk np ns hv hk hp hs (w)) (cwV 1 hw (gV mw94 mw96 mw0 mw16 mw97) rfl rfl rfl (by decide +kernel) ⟨Nat.le_of_ble_eq_true rfl, Nat.le_of_ble_eq_true rfl⟩) (ro.V (q0 := 0) (ci := 3) hN (hK.sub (tys' := [(kv, .int), (kk, .int), (kp, .int), (k1, .int), (k2, .int)]) [0, 1, 2, 3, 4] rfl) (hP.sub (ws' := [(g, .inr (3, [.ref rv, .ref rk, .ref pt, .ref sp])), (rv, .inr (1, [.ref av, .int (nI nv)])), (av, .inl (kv, 100, .inl fv)), (rk, .inr (1, [.ref ak, .int (nI nk)])), (ak, .inl (kk, 100, .inl fk)), (pt, .inr (0, [.ref ap, .int (nI np)])), (ap, .inl (kp, 100, .inl fp)), (sp, .inr (2, [.ref a1, .ref a2, .int (nI ns)])), (a1, .inl (k1, 100, .inl f1)), (a2, .inl (k2, 100, .inl f2))]) [0, 1, 2, 3, 4, 5, 6, 7, 8, 9] rfl) rfl rfl) rfl rfl hl.1 rfl (lv_room (Nat.le_of_ble_eq_true rfl)) dX3_clear_2 ⟨Nat.le_of_ble_eq_true rfl, Nat.le_of_ble_eq_true rfl⟩)) (fun r1 hr1 => ?_)
  by_cases w0 : w = 0
  · skip
    obtain rfl : r1 = some rv := by rw [hr1, if_pos w0]
    refine lv_astore_n (lv' := [(2, .ref rv), (0, .ref g), (1, .int (w))]) hx hb dX3_clear_5 rfl hl (by decide) rfl (fun ls hl => ?_)
    refine lv_aload_n hx hb dX3_clear_6 rfl (lv_at hl 0 rfl) ?_
    refine lv_ifnonnull (tgt := 12) hx hb dX3_clear_7 (by decide) ?_
    refine lv_aload_n hx hb dX3_clear_12 rfl (lv_at hl 0 rfl) ?_
    refine va_getN (D := (dC, dI)) (ci := 1) (v := .int (nI nv)) (C := RX1) (T := TX1) (N := 2) hx hb hw inX1 hown hK hP 1 rfl rfl 1 (by decide) (va_Nw.use rfl hN.2.2.1) (fun _ h9 => h9) rfl dX3_clear_13 ?_
    refine lv_istore_n (lv' := [(3, .int (nI nv)), (2, .ref rv), (0, .ref g), (1, .int (w))]) hx hb dX3_clear_16 rfl hl (by decide) rfl (fun ls hl => ?_)
    refine lv_aload_n hx hb dX3_clear_17 rfl (lv_at hl 1 rfl) ?_
    refine lv_iconst (v := 0) hx hb dX3_clear_18 (by decide) ?_
    refine lv_topi (fun x2 ex2 => ?_)
    obtain rfl : x2 = nI 0 := by rw [ex2]; exact nI_0.symm
    refine va_putN (D := (dC, dI)) (ci := 1) (v := .int (nI 0)) (ty := .int) (C := RX1) (T := TX1) (N := 2) hx hb hw inX1 tyX1 tyX1_ok nmX1 hown hK hP hD hS 1 rfl rfl 1 (by decide) (va_Nw.use rfl hN.2.2.1) (fun _ h9 => h9) rfl (by decide +kernel) rfl rfl (Nat.le_of_ble_eq_true rfl) dX3_clear_19 (fun H locs hP hD hS => ?_)
    have hP : va_P (dC, dI) cl5 [(g, .inr (3, [.ref rv, .ref rk, .ref pt, .ref sp])), (rv, .inr (1, [.ref av, .int (nI 0)])), (av, .inl (kv, 100, .inl fv)), (rk, .inr (1, [.ref ak, .int (nI nk)])), (ak, .inl (kk, 100, .inl fk)), (pt, .inr (0, [.ref ap, .int (nI np)])), (ap, .inl (kp, 100, .inl fp)), (sp, .inr (2, [.ref a1, .ref a2, .int (nI ns)])), (a1, .inl (k1, 100, .inl f1)), (a2, .inl (k2, 100, .inl f2))] H := hP
    have hD : va_D A [(g, .inr (3, [.ref rv, .ref rk, .ref pt, .ref sp])), (rv, .inr (1, [.ref av, .int (nI 0)])), (av, .inl (kv, 100, .inl fv)), (rk, .inr (1, [.ref ak, .int (nI nk)])), (ak, .inl (kk, 100, .inl fk)), (pt, .inr (0, [.ref ap, .int (nI np)])), (ap, .inl (kp, 100, .inl fp)), (sp, .inr (2, [.ref a1, .ref a2, .int (nI ns)])), (a1, .inl (k1, 100, .inl f1)), (a2, .inl (k2, 100, .inl f2))] := hD
    refine lv_iload_n hx hb dX3_clear_22 rfl (lv_at hl 0 rfl) ?_
    subst hQ
    exact W.iret (v := (nI nv)) hx hb hr (fun t ht hW => ⟨⟨_, (0, nk), rfl, ⟨by rw [if_pos w0], by rw [if_pos w0]⟩, by rw [ht]; exact hP, hD⟩, hS.F ht⟩) hS.2.2 dX3_clear_23
  · skip
    by_cases w1 : w = 1
    · skip
      obtain rfl : r1 = some rk := by rw [hr1, if_neg w0, if_pos w1]
      refine lv_astore_n (lv' := [(2, .ref rk), (0, .ref g), (1, .int (w))]) hx hb dX3_clear_5 rfl hl (by decide) rfl (fun ls hl => ?_)
      refine lv_aload_n hx hb dX3_clear_6 rfl (lv_at hl 0 rfl) ?_
      refine lv_ifnonnull (tgt := 12) hx hb dX3_clear_7 (by decide) ?_
      refine lv_aload_n hx hb dX3_clear_12 rfl (lv_at hl 0 rfl) ?_
      refine va_getN (D := (dC, dI)) (ci := 1) (v := .int (nI nk)) (C := RX1) (T := TX1) (N := 2) hx hb hw inX1 hown hK hP 3 rfl rfl 1 (by decide) (va_Nw.use rfl hN.2.2.1) (fun _ h9 => h9) rfl dX3_clear_13 ?_
      refine lv_istore_n (lv' := [(3, .int (nI nk)), (2, .ref rk), (0, .ref g), (1, .int (w))]) hx hb dX3_clear_16 rfl hl (by decide) rfl (fun ls hl => ?_)
      refine lv_aload_n hx hb dX3_clear_17 rfl (lv_at hl 1 rfl) ?_
      refine lv_iconst (v := 0) hx hb dX3_clear_18 (by decide) ?_
      refine lv_topi (fun x3 ex3 => ?_)
      obtain rfl : x3 = nI 0 := by rw [ex3]; exact nI_0.symm
      refine va_putN (D := (dC, dI)) (ci := 1) (v := .int (nI 0)) (ty := .int) (C := RX1) (T := TX1) (N := 2) hx hb hw inX1 tyX1 tyX1_ok nmX1 hown hK hP hD hS 3 rfl rfl 1 (by decide) (va_Nw.use rfl hN.2.2.1) (fun _ h9 => h9) rfl (by decide +kernel) rfl rfl (Nat.le_of_ble_eq_true rfl) dX3_clear_19 (fun H locs hP hD hS => ?_)
      have hP : va_P (dC, dI) cl5 [(g, .inr (3, [.ref rv, .ref rk, .ref pt, .ref sp])), (rv, .inr (1, [.ref av, .int (nI nv)])), (av, .inl (kv, 100, .inl fv)), (rk, .inr (1, [.ref ak, .int (nI 0)])), (ak, .inl (kk, 100, .inl fk)), (pt, .inr (0, [.ref ap, .int (nI np)])), (ap, .inl (kp, 100, .inl fp)), (sp, .inr (2, [.ref a1, .ref a2, .int (nI ns)])), (a1, .inl (k1, 100, .inl f1)), (a2, .inl (k2, 100, .inl f2))] H := hP
      have hD : va_D A [(g, .inr (3, [.ref rv, .ref rk, .ref pt, .ref sp])), (rv, .inr (1, [.ref av, .int (nI nv)])), (av, .inl (kv, 100, .inl fv)), (rk, .inr (1, [.ref ak, .int (nI 0)])), (ak, .inl (kk, 100, .inl fk)), (pt, .inr (0, [.ref ap, .int (nI np)])), (ap, .inl (kp, 100, .inl fp)), (sp, .inr (2, [.ref a1, .ref a2, .int (nI ns)])), (a1, .inl (k1, 100, .inl f1)), (a2, .inl (k2, 100, .inl f2))] := hD
      refine lv_iload_n hx hb dX3_clear_22 rfl (lv_at hl 0 rfl) ?_
      subst hQ
      exact W.iret (v := (nI nk)) hx hb hr (fun t ht hW => ⟨⟨_, (nv, 0), rfl, ⟨by rw [if_neg w0, if_pos w1], by rw [if_neg w0, if_pos w1]⟩, by rw [ht]; exact hP, hD⟩, hS.F ht⟩) hS.2.2 dX3_clear_23
    · skip
      obtain rfl : r1 = none := by rw [hr1, if_neg w0, if_neg w1]
      refine lv_astore_nN (lv' := [(2, .null), (0, .ref g), (1, .int (w))]) hx hb dX3_clear_5 rfl hl (by decide) rfl (fun ls hl => ?_)
      refine lv_aload_nN hx hb dX3_clear_6 rfl (lv_at hl 0 rfl) ?_
      refine lv_ifnonnullN hx hb dX3_clear_7 ?_
      refine lv_iconst (v := -1) hx hb dX3_clear_10 (by decide) ?_
      subst hQ
      exact W.iret (v := (-1)) hx hb hr (fun t ht hW => ⟨⟨_, (nv, nk), rfl, ⟨by rw [if_neg w0, if_neg w1], by rw [if_neg w0, if_neg w1]⟩, by rw [ht]; exact hP, hD⟩, hS.F ht⟩) hS.2.2 dX3_clear_11
end
section
def B_X1_init (D : va_G) (A : Nat → Prop) (h0 : Nat) (_ : Unit) (t : State) : Prop := ∃ (q : Nat) (k : ClassId), va_P D cl5 [(h0, .inr (1, [.ref q, .int (nI 0)])), (q, .inl (k, 100, .inl (fun _ => 0)))] t.heap ∧ va_K D cl5 [(k, .int)] t ∧ va_D A [(h0, .inr (1, [.ref q, .int (nI 0)])), (q, .inl (k, 100, .inl (fun _ => 0)))]
abbrev rm_c_X1_init : Room := { frames := 1, cells := 1, slots := 100, locals := 12 }
set_option maxHeartbeats 4000000 in
set_option maxRecDepth 100000 in
theorem c_X1_init (l : Launch) (dC : Nat → ClassId) (dI : Nat → Nat → Nat) (sz : Nat) (h0 : Nat) : Met l yX1_init (.code yX1_init cX1_init 1 none :: wsA) rm_c_X1_init (va_Pc [.ref h0] (wr (dC, dI) [(h0, .inr (1, [.null, .int (0)]))] [] sz)) (va_Qv (fun _ : Unit => True) (B_X1_init (dC, dI) (va_A [(h0, .inr (1, [.null, .int (0)]))] sz) h0) (va_A [(h0, .inr (1, [.null, .int (0)]))] sz)) 1 100 (va_A [(h0, .inr (1, [.null, .int (0)]))] sz) := by
  refine Met.ofW (cc := cX1_init) (maxL := 1) (ret := none) (by decide) rfl ?_
  intro p e s m args below meth c s₁ B hml hv
  obtain ⟨hargs, hsz, hN, hP, hK, hD0⟩ := hv
  have hx := B.exec
  have hb := B.bytes
  have hr := B.returns
  have hw : ∀ w ∈ wsA, w.before args s = true := fun w h => atoms_spec (ws := (.code yX1_init cX1_init 1 none :: wsA)) B.pre w (List.mem_cons_of_mem _ h)
  have hown : s.vm.findClass "GlobDesk$Row" = some m.cls := findClass_of_methodNamed B.named
  have hlocks := B.notSynchronized
  have hin : meth.name = "<init>" := (name_of_methodNamed B.named B.method).1
  subst hsz
  have hD := hD0.self (sz := s.heap.size)
  generalize hAe : va_A [(h0, .inr (1, [.null, .int (0)]))] s.heap.size = A at hD ⊢
  have hA : ∀ q : Nat, s.heap.size ≤ q → A q := fun q h => by rw [← hAe]; exact Or.inr h
  have hS : va_S A s.heap s.heap [] := va_S.rf
  generalize hQ : MQ below _ args s _ _ _ = Q
  change W p l e rm_c_X1_init s m args below meth c s.heap [] 0 0 Q (entryFrame m args 1)
  have hl := lv_entry ([.ref h0]) (n := 1) (Nat.le_of_ble_eq_true rfl)
  rw [show entryFrame m args 1 = entryFrame m ([.ref h0] : List Value).toArray 1 from by rw [hargs], lg_entry_eq]
  generalize (lg_sl ([.ref h0]) ++ List.replicate (1 - (lg_sl ([.ref h0])).length) Slot.unset).toArray = ls at hl ⊢
  have hl : lv_has ls 1 [(0, .ref h0)] := hl
  refine lv_aload_n hx hb dX1_init_0 rfl (lv_at hl 0 rfl) ?_
  refine W.objInit hx hb hown (hw _ mw35) (hw _ mw28) (hw _ mw29) rfl (by rw [hml]; exact hl.1) rfl dX1_init_1 (Nat.le_of_ble_eq_true rfl) (Nat.le_of_ble_eq_true rfl) ?_
  refine W.eq (g2 := F0 m 4 ls []) rfl ?_
  refine lv_aload_n hx hb dX1_init_4 rfl (lv_at hl 0 rfl) ?_
  refine lv_bipush (v := 100) hx hb dX1_init_5 (by decide) ?_
  refine va_newa (atype := .int) (ty := .int) (a0 := (100, .inl (fun _ => 0))) (N' := 100) hx hb (hw _ mw45) rfl hK hP hD hS hA (fun _ => rfl) (by decide) (by decide) (Nat.le_of_ble_eq_true rfl) (Nat.le_of_ble_eq_true rfl) (Nat.le_of_ble_eq_true rfl) dX1_init_7 (fun qa7 ka7 H hK hP hD hS => ?_)
  have hK : va_K (dC, dI) cl5 [(ka7, .int)] s := hK
  have hP : va_P (dC, dI) cl5 [(h0, .inr (1, [.null, .int (0)])), (qa7, .inl (ka7, 100, .inl (fun _ => 0)))] H := hP
  have hD : va_D A [(h0, .inr (1, [.null, .int (0)])), (qa7, .inl (ka7, 100, .inl (fun _ => 0)))] := hD
  refine W.widen (k := 1) (n := 100) (by omega) (by omega) ?_
  refine va_putF (D := (dC, dI)) (ci := 1) (v := .ref qa7) (ty := .array .int) (C := RX1) (T := TX1) (N := 2) hx hb hw inX1 tyX1 tyX1_ok nmX1 hown hK hP hD hS 0 rfl rfl 0 (by decide) (hw _ mw36) (fun _ h9 => h9) rfl hin rfl (by decide +kernel) rfl rfl (Nat.le_of_ble_eq_true rfl) dX1_init_9 (fun H locs hP hD hS => ?_)
  have hP : va_P (dC, dI) cl5 [(h0, .inr (1, [.ref qa7, .int (0)])), (qa7, .inl (ka7, 100, .inl (fun _ => 0)))] H := hP
  have hD : va_D A [(h0, .inr (1, [.ref qa7, .int (0)])), (qa7, .inl (ka7, 100, .inl (fun _ => 0)))] := hD
  refine lv_aload_n hx hb dX1_init_12 rfl (lv_at hl 0 rfl) ?_
  refine lv_iconst (v := 0) hx hb dX1_init_13 (by decide) ?_
  refine lv_topi (fun x1 ex1 => ?_)
  obtain rfl : x1 = nI 0 := by rw [ex1]; exact nI_0.symm
  refine va_put (D := (dC, dI)) (ci := 1) (v := .int (nI 0)) (ty := .int) (C := RX1) (T := TX1) (N := 2) hx hb hw inX1 tyX1 tyX1_ok nmX1 hown hK hP hD hS 0 rfl rfl 1 (by decide) (hw _ mw37) (fun _ h9 => h9) rfl (by decide +kernel) rfl rfl (Nat.le_of_ble_eq_true rfl) dX1_init_14 (fun H locs hP hD hS => ?_)
  have hP : va_P (dC, dI) cl5 [(h0, .inr (1, [.ref qa7, .int (nI 0)])), (qa7, .inl (ka7, 100, .inl (fun _ => 0)))] H := hP
  have hD : va_D A [(h0, .inr (1, [.ref qa7, .int (nI 0)])), (qa7, .inl (ka7, 100, .inl (fun _ => 0)))] := hD
  subst hQ
  have hP9 := hP.sub (ws' := [(h0, .inr (1, [.ref qa7, .int (nI 0)])), (qa7, .inl (ka7, 100, .inl (fun _ => 0)))]) [0, 1] rfl
  have hD9 := hD.sub (ws' := [(h0, .inr (1, [.ref qa7, .int (nI 0)])), (qa7, .inl (ka7, 100, .inl (fun _ => 0)))]) [0, 1] (by decide) rfl
  have hK9 := hK.sub (tys' := [(ka7, .int)]) [0] rfl
  refine W.widen (k := 1) (n := 100) (by omega) (by omega) ?_
  exact W.vret hx hb hr (fun t ht hW => ⟨⟨(), rfl, trivial, qa7, ka7, by rw [ht]; exact hP9, va_K.moved hW.alike hK9, hD9⟩, hS.F ht⟩) hS.2.2 dX1_init_17

def B_X0_init (D : va_G) (A : Nat → Prop) (h0 : Nat) (_ : Unit) (t : State) : Prop := ∃ (q : Nat) (k : ClassId), va_P D cl5 [(h0, .inr (0, [.ref q, .int (nI 0)])), (q, .inl (k, 100, .inl (fun _ => 0)))] t.heap ∧ va_K D cl5 [(k, .int)] t ∧ va_D A [(h0, .inr (0, [.ref q, .int (nI 0)])), (q, .inl (k, 100, .inl (fun _ => 0)))]
abbrev rm_c_X0_init : Room := { frames := 1, cells := 1, slots := 100, locals := 12 }
set_option maxHeartbeats 4000000 in
set_option maxRecDepth 100000 in
theorem c_X0_init (l : Launch) (dC : Nat → ClassId) (dI : Nat → Nat → Nat) (sz : Nat) (h0 : Nat) : Met l yX0_init (.code yX0_init cX0_init 1 none :: wsA) rm_c_X0_init (va_Pc [.ref h0] (wr (dC, dI) [(h0, .inr (0, [.null, .int (0)]))] [] sz)) (va_Qv (fun _ : Unit => True) (B_X0_init (dC, dI) (va_A [(h0, .inr (0, [.null, .int (0)]))] sz) h0) (va_A [(h0, .inr (0, [.null, .int (0)]))] sz)) 1 100 (va_A [(h0, .inr (0, [.null, .int (0)]))] sz) := by
  refine Met.ofW (cc := cX0_init) (maxL := 1) (ret := none) (by decide) rfl ?_
  intro p e s m args below meth c s₁ B hml hv
  obtain ⟨hargs, hsz, hN, hP, hK, hD0⟩ := hv
  have hx := B.exec
  have hb := B.bytes
  have hr := B.returns
  have hw : ∀ w ∈ wsA, w.before args s = true := fun w h => atoms_spec (ws := (.code yX0_init cX0_init 1 none :: wsA)) B.pre w (List.mem_cons_of_mem _ h)
  have hown : s.vm.findClass "GlobDesk$Pattern" = some m.cls := findClass_of_methodNamed B.named
  have hlocks := B.notSynchronized
  have hin : meth.name = "<init>" := (name_of_methodNamed B.named B.method).1
  subst hsz
  have hD := hD0.self (sz := s.heap.size)
  generalize hAe : va_A [(h0, .inr (0, [.null, .int (0)]))] s.heap.size = A at hD ⊢
  have hA : ∀ q : Nat, s.heap.size ≤ q → A q := fun q h => by rw [← hAe]; exact Or.inr h
  have hS : va_S A s.heap s.heap [] := va_S.rf
  generalize hQ : MQ below _ args s _ _ _ = Q
  change W p l e rm_c_X0_init s m args below meth c s.heap [] 0 0 Q (entryFrame m args 1)
  have hl := lv_entry ([.ref h0]) (n := 1) (Nat.le_of_ble_eq_true rfl)
  rw [show entryFrame m args 1 = entryFrame m ([.ref h0] : List Value).toArray 1 from by rw [hargs], lg_entry_eq]
  generalize (lg_sl ([.ref h0]) ++ List.replicate (1 - (lg_sl ([.ref h0])).length) Slot.unset).toArray = ls at hl ⊢
  have hl : lv_has ls 1 [(0, .ref h0)] := hl
  refine lv_aload_n hx hb dX0_init_0 rfl (lv_at hl 0 rfl) ?_
  refine W.objInit hx hb hown (hw _ mw51) (hw _ mw28) (hw _ mw29) rfl (by rw [hml]; exact hl.1) rfl dX0_init_1 (Nat.le_of_ble_eq_true rfl) (Nat.le_of_ble_eq_true rfl) ?_
  refine W.eq (g2 := F0 m 4 ls []) rfl ?_
  refine lv_aload_n hx hb dX0_init_4 rfl (lv_at hl 0 rfl) ?_
  refine lv_bipush (v := 100) hx hb dX0_init_5 (by decide) ?_
  refine va_newa (atype := .int) (ty := .int) (a0 := (100, .inl (fun _ => 0))) (N' := 100) hx hb (hw _ mw45) rfl hK hP hD hS hA (fun _ => rfl) (by decide) (by decide) (Nat.le_of_ble_eq_true rfl) (Nat.le_of_ble_eq_true rfl) (Nat.le_of_ble_eq_true rfl) dX0_init_7 (fun qa7 ka7 H hK hP hD hS => ?_)
  have hK : va_K (dC, dI) cl5 [(ka7, .int)] s := hK
  have hP : va_P (dC, dI) cl5 [(h0, .inr (0, [.null, .int (0)])), (qa7, .inl (ka7, 100, .inl (fun _ => 0)))] H := hP
  have hD : va_D A [(h0, .inr (0, [.null, .int (0)])), (qa7, .inl (ka7, 100, .inl (fun _ => 0)))] := hD
  refine W.widen (k := 1) (n := 100) (by omega) (by omega) ?_
  refine va_putF (D := (dC, dI)) (ci := 0) (v := .ref qa7) (ty := .array .int) (C := RX0) (T := TX0) (N := 2) hx hb hw inX0 tyX0 tyX0_ok nmX0 hown hK hP hD hS 0 rfl rfl 0 (by decide) (hw _ mw52) (fun _ h9 => h9) rfl hin rfl (by decide +kernel) rfl rfl (Nat.le_of_ble_eq_true rfl) dX0_init_9 (fun H locs hP hD hS => ?_)
  have hP : va_P (dC, dI) cl5 [(h0, .inr (0, [.ref qa7, .int (0)])), (qa7, .inl (ka7, 100, .inl (fun _ => 0)))] H := hP
  have hD : va_D A [(h0, .inr (0, [.ref qa7, .int (0)])), (qa7, .inl (ka7, 100, .inl (fun _ => 0)))] := hD
  refine lv_aload_n hx hb dX0_init_12 rfl (lv_at hl 0 rfl) ?_
  refine lv_iconst (v := 0) hx hb dX0_init_13 (by decide) ?_
  refine lv_topi (fun x1 ex1 => ?_)
  obtain rfl : x1 = nI 0 := by rw [ex1]; exact nI_0.symm
  refine va_put (D := (dC, dI)) (ci := 0) (v := .int (nI 0)) (ty := .int) (C := RX0) (T := TX0) (N := 2) hx hb hw inX0 tyX0 tyX0_ok nmX0 hown hK hP hD hS 0 rfl rfl 1 (by decide) (hw _ mw53) (fun _ h9 => h9) rfl (by decide +kernel) rfl rfl (Nat.le_of_ble_eq_true rfl) dX0_init_14 (fun H locs hP hD hS => ?_)
  have hP : va_P (dC, dI) cl5 [(h0, .inr (0, [.ref qa7, .int (nI 0)])), (qa7, .inl (ka7, 100, .inl (fun _ => 0)))] H := hP
  have hD : va_D A [(h0, .inr (0, [.ref qa7, .int (nI 0)])), (qa7, .inl (ka7, 100, .inl (fun _ => 0)))] := hD
  subst hQ
  have hP9 := hP.sub (ws' := [(h0, .inr (0, [.ref qa7, .int (nI 0)])), (qa7, .inl (ka7, 100, .inl (fun _ => 0)))]) [0, 1] rfl
  have hD9 := hD.sub (ws' := [(h0, .inr (0, [.ref qa7, .int (nI 0)])), (qa7, .inl (ka7, 100, .inl (fun _ => 0)))]) [0, 1] (by decide) rfl
  have hK9 := hK.sub (tys' := [(ka7, .int)]) [0] rfl
  refine W.widen (k := 1) (n := 100) (by omega) (by omega) ?_
  exact W.vret hx hb hr (fun t ht hW => ⟨⟨(), rfl, trivial, qa7, ka7, by rw [ht]; exact hP9, va_K.moved hW.alike hK9, hD9⟩, hS.F ht⟩) hS.2.2 dX0_init_17

def B_X2_init (D : va_G) (A : Nat → Prop) (h0 : Nat) (_ : Unit) (t : State) : Prop := ∃ (q1 q2 : Nat) (k1 k2 : ClassId), va_P D cl5 [(h0, .inr (2, [.ref q1, .ref q2, .int (nI 0)])), (q1, .inl (k1, 100, .inl (fun _ => 0))), (q2, .inl (k2, 100, .inl (fun _ => 0)))] t.heap ∧ va_K D cl5 [(k1, .int), (k2, .int)] t ∧ va_D A [(h0, .inr (2, [.ref q1, .ref q2, .int (nI 0)])), (q1, .inl (k1, 100, .inl (fun _ => 0))), (q2, .inl (k2, 100, .inl (fun _ => 0)))]
abbrev rm_c_X2_init : Room := { frames := 1, cells := 2, slots := 200, locals := 12 }
set_option maxHeartbeats 4000000 in
set_option maxRecDepth 100000 in
theorem c_X2_init (l : Launch) (dC : Nat → ClassId) (dI : Nat → Nat → Nat) (sz : Nat) (h0 : Nat) : Met l yX2_init (.code yX2_init cX2_init 1 none :: wsA) rm_c_X2_init (va_Pc [.ref h0] (wr (dC, dI) [(h0, .inr (2, [.null, .null, .int (0)]))] [] sz)) (va_Qv (fun _ : Unit => True) (B_X2_init (dC, dI) (va_A [(h0, .inr (2, [.null, .null, .int (0)]))] sz) h0) (va_A [(h0, .inr (2, [.null, .null, .int (0)]))] sz)) 2 200 (va_A [(h0, .inr (2, [.null, .null, .int (0)]))] sz) := by
  refine Met.ofW (cc := cX2_init) (maxL := 1) (ret := none) (by decide) rfl ?_
  intro p e s m args below meth c s₁ B hml hv
  obtain ⟨hargs, hsz, hN, hP, hK, hD0⟩ := hv
  have hx := B.exec
  have hb := B.bytes
  have hr := B.returns
  have hw : ∀ w ∈ wsA, w.before args s = true := fun w h => atoms_spec (ws := (.code yX2_init cX2_init 1 none :: wsA)) B.pre w (List.mem_cons_of_mem _ h)
  have hown : s.vm.findClass "GlobDesk$Spans" = some m.cls := findClass_of_methodNamed B.named
  have hlocks := B.notSynchronized
  have hin : meth.name = "<init>" := (name_of_methodNamed B.named B.method).1
  subst hsz
  have hD := hD0.self (sz := s.heap.size)
  generalize hAe : va_A [(h0, .inr (2, [.null, .null, .int (0)]))] s.heap.size = A at hD ⊢
  have hA : ∀ q : Nat, s.heap.size ≤ q → A q := fun q h => by rw [← hAe]; exact Or.inr h
  have hS : va_S A s.heap s.heap [] := va_S.rf
  generalize hQ : MQ below _ args s _ _ _ = Q
  change W p l e rm_c_X2_init s m args below meth c s.heap [] 0 0 Q (entryFrame m args 1)
  have hl := lv_entry ([.ref h0]) (n := 1) (Nat.le_of_ble_eq_true rfl)
  rw [show entryFrame m args 1 = entryFrame m ([.ref h0] : List Value).toArray 1 from by rw [hargs], lg_entry_eq]
  generalize (lg_sl ([.ref h0]) ++ List.replicate (1 - (lg_sl ([.ref h0])).length) Slot.unset).toArray = ls at hl ⊢
  have hl : lv_has ls 1 [(0, .ref h0)] := hl
  refine lv_aload_n hx hb dX2_init_0 rfl (lv_at hl 0 rfl) ?_
  refine W.objInit hx hb hown (hw _ mw65) (hw _ mw28) (hw _ mw29) rfl (by rw [hml]; exact hl.1) rfl dX2_init_1 (Nat.le_of_ble_eq_true rfl) (Nat.le_of_ble_eq_true rfl) ?_
  refine W.eq (g2 := F0 m 4 ls []) rfl ?_
  refine lv_aload_n hx hb dX2_init_4 rfl (lv_at hl 0 rfl) ?_
  refine lv_bipush (v := 100) hx hb dX2_init_5 (by decide) ?_
  refine va_newa (atype := .int) (ty := .int) (a0 := (100, .inl (fun _ => 0))) (N' := 100) hx hb (hw _ mw45) rfl hK hP hD hS hA (fun _ => rfl) (by decide) (by decide) (Nat.le_of_ble_eq_true rfl) (Nat.le_of_ble_eq_true rfl) (Nat.le_of_ble_eq_true rfl) dX2_init_7 (fun qa7 ka7 H hK hP hD hS => ?_)
  have hK : va_K (dC, dI) cl5 [(ka7, .int)] s := hK
  have hP : va_P (dC, dI) cl5 [(h0, .inr (2, [.null, .null, .int (0)])), (qa7, .inl (ka7, 100, .inl (fun _ => 0)))] H := hP
  have hD : va_D A [(h0, .inr (2, [.null, .null, .int (0)])), (qa7, .inl (ka7, 100, .inl (fun _ => 0)))] := hD
  refine W.widen (k := 1) (n := 100) (by omega) (by omega) ?_
  refine va_putF (D := (dC, dI)) (ci := 2) (v := .ref qa7) (ty := .array .int) (C := RX2) (T := TX2) (N := 3) hx hb hw inX2 tyX2 tyX2_ok nmX2 hown hK hP hD hS 0 rfl rfl 0 (by decide) (hw _ mw66) (fun _ h9 => h9) rfl hin rfl (by decide +kernel) rfl rfl (Nat.le_of_ble_eq_true rfl) dX2_init_9 (fun H locs hP hD hS => ?_)
  have hP : va_P (dC, dI) cl5 [(h0, .inr (2, [.ref qa7, .null, .int (0)])), (qa7, .inl (ka7, 100, .inl (fun _ => 0)))] H := hP
  have hD : va_D A [(h0, .inr (2, [.ref qa7, .null, .int (0)])), (qa7, .inl (ka7, 100, .inl (fun _ => 0)))] := hD
  refine lv_aload_n hx hb dX2_init_12 rfl (lv_at hl 0 rfl) ?_
  refine lv_bipush (v := 100) hx hb dX2_init_13 (by decide) ?_
  refine va_newa (atype := .int) (ty := .int) (a0 := (100, .inl (fun _ => 0))) (N' := 100) hx hb (hw _ mw45) rfl hK hP hD hS hA (fun _ => rfl) (by decide) (by decide) (Nat.le_of_ble_eq_true rfl) (Nat.le_of_ble_eq_true rfl) (Nat.le_of_ble_eq_true rfl) dX2_init_15 (fun qa15 ka15 H hK hP hD hS => ?_)
  have hK : va_K (dC, dI) cl5 [(ka7, .int), (ka15, .int)] s := hK
  have hP : va_P (dC, dI) cl5 [(h0, .inr (2, [.ref qa7, .null, .int (0)])), (qa7, .inl (ka7, 100, .inl (fun _ => 0))), (qa15, .inl (ka15, 100, .inl (fun _ => 0)))] H := hP
  have hD : va_D A [(h0, .inr (2, [.ref qa7, .null, .int (0)])), (qa7, .inl (ka7, 100, .inl (fun _ => 0))), (qa15, .inl (ka15, 100, .inl (fun _ => 0)))] := hD
  refine W.widen (k := 2) (n := 200) (by omega) (by omega) ?_
  refine va_putF (D := (dC, dI)) (ci := 2) (v := .ref qa15) (ty := .array .int) (C := RX2) (T := TX2) (N := 3) hx hb hw inX2 tyX2 tyX2_ok nmX2 hown hK hP hD hS 0 rfl rfl 1 (by decide) (hw _ mw67) (fun _ h9 => h9) rfl hin rfl (by decide +kernel) rfl rfl (Nat.le_of_ble_eq_true rfl) dX2_init_17 (fun H locs hP hD hS => ?_)
  have hP : va_P (dC, dI) cl5 [(h0, .inr (2, [.ref qa7, .ref qa15, .int (0)])), (qa7, .inl (ka7, 100, .inl (fun _ => 0))), (qa15, .inl (ka15, 100, .inl (fun _ => 0)))] H := hP
  have hD : va_D A [(h0, .inr (2, [.ref qa7, .ref qa15, .int (0)])), (qa7, .inl (ka7, 100, .inl (fun _ => 0))), (qa15, .inl (ka15, 100, .inl (fun _ => 0)))] := hD
  refine lv_aload_n hx hb dX2_init_20 rfl (lv_at hl 0 rfl) ?_
  refine lv_iconst (v := 0) hx hb dX2_init_21 (by decide) ?_
  refine lv_topi (fun x1 ex1 => ?_)
  obtain rfl : x1 = nI 0 := by rw [ex1]; exact nI_0.symm
  refine va_put (D := (dC, dI)) (ci := 2) (v := .int (nI 0)) (ty := .int) (C := RX2) (T := TX2) (N := 3) hx hb hw inX2 tyX2 tyX2_ok nmX2 hown hK hP hD hS 0 rfl rfl 2 (by decide) (hw _ mw68) (fun _ h9 => h9) rfl (by decide +kernel) rfl rfl (Nat.le_of_ble_eq_true rfl) dX2_init_22 (fun H locs hP hD hS => ?_)
  have hP : va_P (dC, dI) cl5 [(h0, .inr (2, [.ref qa7, .ref qa15, .int (nI 0)])), (qa7, .inl (ka7, 100, .inl (fun _ => 0))), (qa15, .inl (ka15, 100, .inl (fun _ => 0)))] H := hP
  have hD : va_D A [(h0, .inr (2, [.ref qa7, .ref qa15, .int (nI 0)])), (qa7, .inl (ka7, 100, .inl (fun _ => 0))), (qa15, .inl (ka15, 100, .inl (fun _ => 0)))] := hD
  subst hQ
  have hP9 := hP.sub (ws' := [(h0, .inr (2, [.ref qa7, .ref qa15, .int (nI 0)])), (qa7, .inl (ka7, 100, .inl (fun _ => 0))), (qa15, .inl (ka15, 100, .inl (fun _ => 0)))]) [0, 1, 2] rfl
  have hD9 := hD.sub (ws' := [(h0, .inr (2, [.ref qa7, .ref qa15, .int (nI 0)])), (qa7, .inl (ka7, 100, .inl (fun _ => 0))), (qa15, .inl (ka15, 100, .inl (fun _ => 0)))]) [0, 1, 2] (by decide) rfl
  have hK9 := hK.sub (tys' := [(ka7, .int), (ka15, .int)]) [0, 1] rfl
  refine W.widen (k := 2) (n := 200) (by omega) (by omega) ?_
  exact W.vret hx hb hr (fun t ht hW => ⟨⟨(), rfl, trivial, qa7, qa15, ka7, ka15, by rw [ht]; exact hP9, va_K.moved hW.alike hK9, hD9⟩, hS.F ht⟩) hS.2.2 dX2_init_25

def B_X3_init (D : va_G) (A : Nat → Prop) (h0 : Nat) (_ : Unit) (t : State) : Prop := ∃ (rv rk pt sp av ak ap a1 a2 : Nat) (kv kk kp k1 k2 : ClassId), va_P D cl5 [(h0, .inr (3, [.ref rv, .ref rk, .ref pt, .ref sp])), (rv, .inr (1, [.ref av, .int (nI 0)])), (av, .inl (kv, 100, .inl (fun _ => 0))), (rk, .inr (1, [.ref ak, .int (nI 0)])), (ak, .inl (kk, 100, .inl (fun _ => 0))), (pt, .inr (0, [.ref ap, .int (nI 0)])), (ap, .inl (kp, 100, .inl (fun _ => 0))), (sp, .inr (2, [.ref a1, .ref a2, .int (nI 0)])), (a1, .inl (k1, 100, .inl (fun _ => 0))), (a2, .inl (k2, 100, .inl (fun _ => 0)))] t.heap ∧ va_K D cl5 [(kv, .int), (kk, .int), (kp, .int), (k1, .int), (k2, .int)] t ∧ va_D A [(h0, .inr (3, [.ref rv, .ref rk, .ref pt, .ref sp])), (rv, .inr (1, [.ref av, .int (nI 0)])), (av, .inl (kv, 100, .inl (fun _ => 0))), (rk, .inr (1, [.ref ak, .int (nI 0)])), (ak, .inl (kk, 100, .inl (fun _ => 0))), (pt, .inr (0, [.ref ap, .int (nI 0)])), (ap, .inl (kp, 100, .inl (fun _ => 0))), (sp, .inr (2, [.ref a1, .ref a2, .int (nI 0)])), (a1, .inl (k1, 100, .inl (fun _ => 0))), (a2, .inl (k2, 100, .inl (fun _ => 0)))]
abbrev rm_c_X3_init : Room := { frames := 2, cells := 9, slots := 509, locals := 32 }
set_option maxHeartbeats 4000000 in
set_option maxRecDepth 100000 in
theorem c_X3_init (l : Launch) (dC : Nat → ClassId) (dI : Nat → Nat → Nat) (sz : Nat) (h0 : Nat) : Met l yX3_init (.code yX3_init cX3_init 1 none :: wsA) rm_c_X3_init (va_Pc [.ref h0] (wr (dC, dI) [(h0, .inr (3, [.null, .null, .null, .null]))] [] sz)) (va_Qv (fun _ : Unit => True) (B_X3_init (dC, dI) (va_A [(h0, .inr (3, [.null, .null, .null, .null]))] sz) h0) (va_A [(h0, .inr (3, [.null, .null, .null, .null]))] sz)) 9 509 (va_A [(h0, .inr (3, [.null, .null, .null, .null]))] sz) := by
  refine Met.ofW (cc := cX3_init) (maxL := 1) (ret := none) (by decide) rfl ?_
  intro p e s m args below meth c s₁ B hml hv
  obtain ⟨hargs, hsz, hN, hP, hK, hD0⟩ := hv
  have hx := B.exec
  have hb := B.bytes
  have hr := B.returns
  have hw : ∀ w ∈ wsA, w.before args s = true := fun w h => atoms_spec (ws := (.code yX3_init cX3_init 1 none :: wsA)) B.pre w (List.mem_cons_of_mem _ h)
  have hown : s.vm.findClass "GlobDesk" = some m.cls := findClass_of_methodNamed B.named
  have hlocks := B.notSynchronized
  have hin : meth.name = "<init>" := (name_of_methodNamed B.named B.method).1
  subst hsz
  have hD := hD0.self (sz := s.heap.size)
  generalize hAe : va_A [(h0, .inr (3, [.null, .null, .null, .null]))] s.heap.size = A at hD ⊢
  have hA : ∀ q : Nat, s.heap.size ≤ q → A q := fun q h => by rw [← hAe]; exact Or.inr h
  have hS : va_S A s.heap s.heap [] := va_S.rf
  generalize hQ : MQ below _ args s _ _ _ = Q
  change W p l e rm_c_X3_init s m args below meth c s.heap [] 0 0 Q (entryFrame m args 1)
  have hl := lv_entry ([.ref h0]) (n := 1) (Nat.le_of_ble_eq_true rfl)
  rw [show entryFrame m args 1 = entryFrame m ([.ref h0] : List Value).toArray 1 from by rw [hargs], lg_entry_eq]
  generalize (lg_sl ([.ref h0]) ++ List.replicate (1 - (lg_sl ([.ref h0])).length) Slot.unset).toArray = ls at hl ⊢
  have hl : lv_has ls 1 [(0, .ref h0)] := hl
  refine lv_aload_n hx hb dX3_init_0 rfl (lv_at hl 0 rfl) ?_
  refine W.objInit hx hb hown (hw _ mw27) (hw _ mw28) (hw _ mw29) rfl (by rw [hml]; exact hl.1) rfl dX3_init_1 (Nat.le_of_ble_eq_true rfl) (Nat.le_of_ble_eq_true rfl) ?_
  refine W.eq (g2 := F0 m 4 ls []) rfl ?_
  refine lv_aload_n hx hb dX3_init_4 rfl (lv_at hl 0 rfl) ?_
  refine va_new (ci := 1) (fs := [.null, .int (0)]) (C := RX1) (T := TX1) (N := 2) hx hb hw inX1 tyX1 tyX1_ok hown (hw _ mw30) (hw _ mw31) (hw _ mw17) hK hP hD hS hA rfl (fun j hj => by rcases (show j = 0 ∨ j = 1 by omega) with rfl | rfl <;> rfl) (Nat.le_of_ble_eq_true rfl) (Nat.le_of_ble_eq_true rfl) dX3_init_5 (fun qo5 H hP hD hS => ?_)
  have hP : va_P (dC, dI) cl5 [(h0, .inr (3, [.null, .null, .null, .null])), (qo5, .inr (1, [.null, .int (0)]))] H := hP
  have hD : va_D A [(h0, .inr (3, [.null, .null, .null, .null])), (qo5, .inr (1, [.null, .int (0)]))] := hD
  refine W.widen (k := 1) (n := 2) (by omega) (by omega) ?_
  refine lv_dup hx hb dX3_init_8 rfl ?_
  have hPc := hP.sub (ws' := [(qo5, .inr (1, [.null, .int (0)]))]) [1] rfl
  have hDc := hD.sub (ws' := [(qo5, .inr (1, [.null, .int (0)]))]) [1] (by decide) rfl
  have hKc := hK.sub (tys' := []) [] rfl
  have hFc := va_free (wc := [(qo5, .inr (1, [.null, .int (0)]))]) hD hS hA [1] rfl
  refine va_callv (va_runIN (As := []) (rest := [.ref qo5, .ref h0]) ⟨hx, hb, hml, hown, hw⟩ (c_X1_init l dC dI H.size qo5) ⟨va_cnB 0 hw (gI mw34) rfl rfl rfl hN.1 (hw _ mw17) (by decide +kernel) ⟨Nat.le_of_ble_eq_true rfl, Nat.le_of_ble_eq_true rfl⟩, rfl, hw _ mw33⟩ (wr.S hN hKc hPc hDc) rfl rfl hl.1 rfl (lv_room (Nat.le_of_ble_eq_true rfl)) dX3_init_9 ⟨Nat.le_of_ble_eq_true rfl, Nat.le_of_ble_eq_true rfl⟩) hS (fun q _ h => hFc q h) hFc (fun u t H1 locs ht hvm hu hB hz1 hk1 hS => ?_)
  obtain ⟨q_9, k_9, hP1, hK1, hD1⟩ := hB
  rw [ht] at hP1
  have hK1 := va_K.moved hvm.symm hK1
  obtain ⟨hP, hD⟩ := va_join (wr := [(h0, .inr (3, [.null, .null, .null, .null]))]) (w1 := [(qo5, .inr (1, [.ref q_9, .int (nI 0)])), (q_9, .inl (k_9, 100, .inl (fun _ => 0)))]) hP hD [1] [0] rfl rfl (by decide) (by decide) hk1 hFc hP1 hD1
  have hK := hK.app hK1
  generalize H1 = H at hP hS ⊢
  have hK : va_K (dC, dI) cl5 [(k_9, .int)] s := hK
  have hP : va_P (dC, dI) cl5 [(h0, .inr (3, [.null, .null, .null, .null])), (qo5, .inr (1, [.ref q_9, .int (nI 0)])), (q_9, .inl (k_9, 100, .inl (fun _ => 0)))] H := hP
  have hD : va_D A [(h0, .inr (3, [.null, .null, .null, .null])), (qo5, .inr (1, [.ref q_9, .int (nI 0)])), (q_9, .inl (k_9, 100, .inl (fun _ => 0)))] := hD
  refine W.widen (k := 2) (n := 102) (by omega) (by omega) ?_
  refine va_putF (D := (dC, dI)) (ci := 3) (v := .ref qo5) (ty := .object "GlobDesk$Row") (C := RX3) (T := TX3) (N := 4) hx hb hw inX3 tyX3 tyX3_ok nmX3 hown hK hP hD hS 0 rfl rfl 0 (by decide) (hw _ mw77) (fun _ h9 => h9) rfl hin rfl (by decide +kernel) rfl rfl (Nat.le_of_ble_eq_true rfl) dX3_init_12 (fun H locs hP hD hS => ?_)
  have hP : va_P (dC, dI) cl5 [(h0, .inr (3, [.ref qo5, .null, .null, .null])), (qo5, .inr (1, [.ref q_9, .int (nI 0)])), (q_9, .inl (k_9, 100, .inl (fun _ => 0)))] H := hP
  have hD : va_D A [(h0, .inr (3, [.ref qo5, .null, .null, .null])), (qo5, .inr (1, [.ref q_9, .int (nI 0)])), (q_9, .inl (k_9, 100, .inl (fun _ => 0)))] := hD
  refine lv_aload_n hx hb dX3_init_15 rfl (lv_at hl 0 rfl) ?_
  refine va_new (ci := 1) (fs := [.null, .int (0)]) (C := RX1) (T := TX1) (N := 2) hx hb hw inX1 tyX1 tyX1_ok hown (hw _ mw30) (hw _ mw31) (hw _ mw17) hK hP hD hS hA rfl (fun j hj => by rcases (show j = 0 ∨ j = 1 by omega) with rfl | rfl <;> rfl) (Nat.le_of_ble_eq_true rfl) (Nat.le_of_ble_eq_true rfl) dX3_init_16 (fun qo16 H hP hD hS => ?_)
  have hP : va_P (dC, dI) cl5 [(h0, .inr (3, [.ref qo5, .null, .null, .null])), (qo5, .inr (1, [.ref q_9, .int (nI 0)])), (q_9, .inl (k_9, 100, .inl (fun _ => 0))), (qo16, .inr (1, [.null, .int (0)]))] H := hP
  have hD : va_D A [(h0, .inr (3, [.ref qo5, .null, .null, .null])), (qo5, .inr (1, [.ref q_9, .int (nI 0)])), (q_9, .inl (k_9, 100, .inl (fun _ => 0))), (qo16, .inr (1, [.null, .int (0)]))] := hD
  refine W.widen (k := 3) (n := 104) (by omega) (by omega) ?_
  refine lv_dup hx hb dX3_init_19 rfl ?_
  have hPc := hP.sub (ws' := [(qo16, .inr (1, [.null, .int (0)]))]) [3] rfl
  have hDc := hD.sub (ws' := [(qo16, .inr (1, [.null, .int (0)]))]) [3] (by decide) rfl
  have hKc := hK.sub (tys' := []) [] rfl
  have hFc := va_free (wc := [(qo16, .inr (1, [.null, .int (0)]))]) hD hS hA [3] rfl
  refine va_callv (va_runIN (As := []) (rest := [.ref qo16, .ref h0]) ⟨hx, hb, hml, hown, hw⟩ (c_X1_init l dC dI H.size qo16) ⟨va_cnB 0 hw (gI mw34) rfl rfl rfl hN.1 (hw _ mw17) (by decide +kernel) ⟨Nat.le_of_ble_eq_true rfl, Nat.le_of_ble_eq_true rfl⟩, rfl, hw _ mw33⟩ (wr.S hN hKc hPc hDc) rfl rfl hl.1 rfl (lv_room (Nat.le_of_ble_eq_true rfl)) dX3_init_20 ⟨Nat.le_of_ble_eq_true rfl, Nat.le_of_ble_eq_true rfl⟩) hS (fun q _ h => hFc q h) hFc (fun u t H1 locs ht hvm hu hB hz1 hk1 hS => ?_)
  obtain ⟨q_20, k_20, hP1, hK1, hD1⟩ := hB
  rw [ht] at hP1
  have hK1 := va_K.moved hvm.symm hK1
  obtain ⟨hP, hD⟩ := va_join (wr := [(h0, .inr (3, [.ref qo5, .null, .null, .null])), (qo5, .inr (1, [.ref q_9, .int (nI 0)])), (q_9, .inl (k_9, 100, .inl (fun _ => 0)))]) (w1 := [(qo16, .inr (1, [.ref q_20, .int (nI 0)])), (q_20, .inl (k_20, 100, .inl (fun _ => 0)))]) hP hD [3] [0, 1, 2] rfl rfl (by decide) (by decide) hk1 hFc hP1 hD1
  have hK := hK.app hK1
  generalize H1 = H at hP hS ⊢
  have hK : va_K (dC, dI) cl5 [(k_9, .int), (k_20, .int)] s := hK
  have hP : va_P (dC, dI) cl5 [(h0, .inr (3, [.ref qo5, .null, .null, .null])), (qo5, .inr (1, [.ref q_9, .int (nI 0)])), (q_9, .inl (k_9, 100, .inl (fun _ => 0))), (qo16, .inr (1, [.ref q_20, .int (nI 0)])), (q_20, .inl (k_20, 100, .inl (fun _ => 0)))] H := hP
  have hD : va_D A [(h0, .inr (3, [.ref qo5, .null, .null, .null])), (qo5, .inr (1, [.ref q_9, .int (nI 0)])), (q_9, .inl (k_9, 100, .inl (fun _ => 0))), (qo16, .inr (1, [.ref q_20, .int (nI 0)])), (q_20, .inl (k_20, 100, .inl (fun _ => 0)))] := hD
  refine W.widen (k := 4) (n := 204) (by omega) (by omega) ?_
  refine va_putF (D := (dC, dI)) (ci := 3) (v := .ref qo16) (ty := .object "GlobDesk$Row") (C := RX3) (T := TX3) (N := 4) hx hb hw inX3 tyX3 tyX3_ok nmX3 hown hK hP hD hS 0 rfl rfl 1 (by decide) (hw _ mw78) (fun _ h9 => h9) rfl hin rfl (by decide +kernel) rfl rfl (Nat.le_of_ble_eq_true rfl) dX3_init_23 (fun H locs hP hD hS => ?_)
  have hP : va_P (dC, dI) cl5 [(h0, .inr (3, [.ref qo5, .ref qo16, .null, .null])), (qo5, .inr (1, [.ref q_9, .int (nI 0)])), (q_9, .inl (k_9, 100, .inl (fun _ => 0))), (qo16, .inr (1, [.ref q_20, .int (nI 0)])), (q_20, .inl (k_20, 100, .inl (fun _ => 0)))] H := hP
  have hD : va_D A [(h0, .inr (3, [.ref qo5, .ref qo16, .null, .null])), (qo5, .inr (1, [.ref q_9, .int (nI 0)])), (q_9, .inl (k_9, 100, .inl (fun _ => 0))), (qo16, .inr (1, [.ref q_20, .int (nI 0)])), (q_20, .inl (k_20, 100, .inl (fun _ => 0)))] := hD
  refine lv_aload_n hx hb dX3_init_26 rfl (lv_at hl 0 rfl) ?_
  refine va_new (ci := 0) (fs := [.null, .int (0)]) (C := RX0) (T := TX0) (N := 2) hx hb hw inX0 tyX0 tyX0_ok hown (hw _ mw46) (hw _ mw47) (hw _ mw18) hK hP hD hS hA rfl (fun j hj => by rcases (show j = 0 ∨ j = 1 by omega) with rfl | rfl <;> rfl) (Nat.le_of_ble_eq_true rfl) (Nat.le_of_ble_eq_true rfl) dX3_init_27 (fun qo27 H hP hD hS => ?_)
  have hP : va_P (dC, dI) cl5 [(h0, .inr (3, [.ref qo5, .ref qo16, .null, .null])), (qo5, .inr (1, [.ref q_9, .int (nI 0)])), (q_9, .inl (k_9, 100, .inl (fun _ => 0))), (qo16, .inr (1, [.ref q_20, .int (nI 0)])), (q_20, .inl (k_20, 100, .inl (fun _ => 0))), (qo27, .inr (0, [.null, .int (0)]))] H := hP
  have hD : va_D A [(h0, .inr (3, [.ref qo5, .ref qo16, .null, .null])), (qo5, .inr (1, [.ref q_9, .int (nI 0)])), (q_9, .inl (k_9, 100, .inl (fun _ => 0))), (qo16, .inr (1, [.ref q_20, .int (nI 0)])), (q_20, .inl (k_20, 100, .inl (fun _ => 0))), (qo27, .inr (0, [.null, .int (0)]))] := hD
  refine W.widen (k := 5) (n := 206) (by omega) (by omega) ?_
  refine lv_dup hx hb dX3_init_30 rfl ?_
  have hPc := hP.sub (ws' := [(qo27, .inr (0, [.null, .int (0)]))]) [5] rfl
  have hDc := hD.sub (ws' := [(qo27, .inr (0, [.null, .int (0)]))]) [5] (by decide) rfl
  have hKc := hK.sub (tys' := []) [] rfl
  have hFc := va_free (wc := [(qo27, .inr (0, [.null, .int (0)]))]) hD hS hA [5] rfl
  refine va_callv (va_runIN (As := []) (rest := [.ref qo27, .ref h0]) ⟨hx, hb, hml, hown, hw⟩ (c_X0_init l dC dI H.size qo27) ⟨va_cnB 0 hw (gI mw50) rfl rfl rfl hN.2.2.2.1 (hw _ mw18) (by decide +kernel) ⟨Nat.le_of_ble_eq_true rfl, Nat.le_of_ble_eq_true rfl⟩, rfl, hw _ mw49⟩ (wr.S hN hKc hPc hDc) rfl rfl hl.1 rfl (lv_room (Nat.le_of_ble_eq_true rfl)) dX3_init_31 ⟨Nat.le_of_ble_eq_true rfl, Nat.le_of_ble_eq_true rfl⟩) hS (fun q _ h => hFc q h) hFc (fun u t H1 locs ht hvm hu hB hz1 hk1 hS => ?_)
  obtain ⟨q_31, k_31, hP1, hK1, hD1⟩ := hB
  rw [ht] at hP1
  have hK1 := va_K.moved hvm.symm hK1
  obtain ⟨hP, hD⟩ := va_join (wr := [(h0, .inr (3, [.ref qo5, .ref qo16, .null, .null])), (qo5, .inr (1, [.ref q_9, .int (nI 0)])), (q_9, .inl (k_9, 100, .inl (fun _ => 0))), (qo16, .inr (1, [.ref q_20, .int (nI 0)])), (q_20, .inl (k_20, 100, .inl (fun _ => 0)))]) (w1 := [(qo27, .inr (0, [.ref q_31, .int (nI 0)])), (q_31, .inl (k_31, 100, .inl (fun _ => 0)))]) hP hD [5] [0, 1, 2, 3, 4] rfl rfl (by decide) (by decide) hk1 hFc hP1 hD1
  have hK := hK.app hK1
  generalize H1 = H at hP hS ⊢
  have hK : va_K (dC, dI) cl5 [(k_9, .int), (k_20, .int), (k_31, .int)] s := hK
  have hP : va_P (dC, dI) cl5 [(h0, .inr (3, [.ref qo5, .ref qo16, .null, .null])), (qo5, .inr (1, [.ref q_9, .int (nI 0)])), (q_9, .inl (k_9, 100, .inl (fun _ => 0))), (qo16, .inr (1, [.ref q_20, .int (nI 0)])), (q_20, .inl (k_20, 100, .inl (fun _ => 0))), (qo27, .inr (0, [.ref q_31, .int (nI 0)])), (q_31, .inl (k_31, 100, .inl (fun _ => 0)))] H := hP
  have hD : va_D A [(h0, .inr (3, [.ref qo5, .ref qo16, .null, .null])), (qo5, .inr (1, [.ref q_9, .int (nI 0)])), (q_9, .inl (k_9, 100, .inl (fun _ => 0))), (qo16, .inr (1, [.ref q_20, .int (nI 0)])), (q_20, .inl (k_20, 100, .inl (fun _ => 0))), (qo27, .inr (0, [.ref q_31, .int (nI 0)])), (q_31, .inl (k_31, 100, .inl (fun _ => 0)))] := hD
  refine W.widen (k := 6) (n := 306) (by omega) (by omega) ?_
  refine va_putF (D := (dC, dI)) (ci := 3) (v := .ref qo27) (ty := .object "GlobDesk$Pattern") (C := RX3) (T := TX3) (N := 4) hx hb hw inX3 tyX3 tyX3_ok nmX3 hown hK hP hD hS 0 rfl rfl 2 (by decide) (hw _ mw79) (fun _ h9 => h9) rfl hin rfl (by decide +kernel) rfl rfl (Nat.le_of_ble_eq_true rfl) dX3_init_34 (fun H locs hP hD hS => ?_)
  have hP : va_P (dC, dI) cl5 [(h0, .inr (3, [.ref qo5, .ref qo16, .ref qo27, .null])), (qo5, .inr (1, [.ref q_9, .int (nI 0)])), (q_9, .inl (k_9, 100, .inl (fun _ => 0))), (qo16, .inr (1, [.ref q_20, .int (nI 0)])), (q_20, .inl (k_20, 100, .inl (fun _ => 0))), (qo27, .inr (0, [.ref q_31, .int (nI 0)])), (q_31, .inl (k_31, 100, .inl (fun _ => 0)))] H := hP
  have hD : va_D A [(h0, .inr (3, [.ref qo5, .ref qo16, .ref qo27, .null])), (qo5, .inr (1, [.ref q_9, .int (nI 0)])), (q_9, .inl (k_9, 100, .inl (fun _ => 0))), (qo16, .inr (1, [.ref q_20, .int (nI 0)])), (q_20, .inl (k_20, 100, .inl (fun _ => 0))), (qo27, .inr (0, [.ref q_31, .int (nI 0)])), (q_31, .inl (k_31, 100, .inl (fun _ => 0)))] := hD
  refine lv_aload_n hx hb dX3_init_37 rfl (lv_at hl 0 rfl) ?_
  refine va_new (ci := 2) (fs := [.null, .null, .int (0)]) (C := RX2) (T := TX2) (N := 3) hx hb hw inX2 tyX2 tyX2_ok hown (hw _ mw60) (hw _ mw61) (hw _ mw19) hK hP hD hS hA rfl (fun j hj => by rcases (show j = 0 ∨ j = 1 ∨ j = 2 by omega) with rfl | rfl | rfl <;> rfl) (Nat.le_of_ble_eq_true rfl) (Nat.le_of_ble_eq_true rfl) dX3_init_38 (fun qo38 H hP hD hS => ?_)
  have hP : va_P (dC, dI) cl5 [(h0, .inr (3, [.ref qo5, .ref qo16, .ref qo27, .null])), (qo5, .inr (1, [.ref q_9, .int (nI 0)])), (q_9, .inl (k_9, 100, .inl (fun _ => 0))), (qo16, .inr (1, [.ref q_20, .int (nI 0)])), (q_20, .inl (k_20, 100, .inl (fun _ => 0))), (qo27, .inr (0, [.ref q_31, .int (nI 0)])), (q_31, .inl (k_31, 100, .inl (fun _ => 0))), (qo38, .inr (2, [.null, .null, .int (0)]))] H := hP
  have hD : va_D A [(h0, .inr (3, [.ref qo5, .ref qo16, .ref qo27, .null])), (qo5, .inr (1, [.ref q_9, .int (nI 0)])), (q_9, .inl (k_9, 100, .inl (fun _ => 0))), (qo16, .inr (1, [.ref q_20, .int (nI 0)])), (q_20, .inl (k_20, 100, .inl (fun _ => 0))), (qo27, .inr (0, [.ref q_31, .int (nI 0)])), (q_31, .inl (k_31, 100, .inl (fun _ => 0))), (qo38, .inr (2, [.null, .null, .int (0)]))] := hD
  refine W.widen (k := 7) (n := 309) (by omega) (by omega) ?_
  refine lv_dup hx hb dX3_init_41 rfl ?_
  have hPc := hP.sub (ws' := [(qo38, .inr (2, [.null, .null, .int (0)]))]) [7] rfl
  have hDc := hD.sub (ws' := [(qo38, .inr (2, [.null, .null, .int (0)]))]) [7] (by decide) rfl
  have hKc := hK.sub (tys' := []) [] rfl
  have hFc := va_free (wc := [(qo38, .inr (2, [.null, .null, .int (0)]))]) hD hS hA [7] rfl
  refine va_callv (va_runIN (As := []) (rest := [.ref qo38, .ref h0]) ⟨hx, hb, hml, hown, hw⟩ (c_X2_init l dC dI H.size qo38) ⟨va_cnB 0 hw (gI mw64) rfl rfl rfl hN.2.2.2.2.2.1 (hw _ mw19) (by decide +kernel) ⟨Nat.le_of_ble_eq_true rfl, Nat.le_of_ble_eq_true rfl⟩, rfl, hw _ mw63⟩ (wr.S hN hKc hPc hDc) rfl rfl hl.1 rfl (lv_room (Nat.le_of_ble_eq_true rfl)) dX3_init_42 ⟨Nat.le_of_ble_eq_true rfl, Nat.le_of_ble_eq_true rfl⟩) hS (fun q _ h => hFc q h) hFc (fun u t H1 locs ht hvm hu hB hz1 hk1 hS => ?_)
  obtain ⟨q1_42, q2_42, k1_42, k2_42, hP1, hK1, hD1⟩ := hB
  rw [ht] at hP1
  have hK1 := va_K.moved hvm.symm hK1
  obtain ⟨hP, hD⟩ := va_join (wr := [(h0, .inr (3, [.ref qo5, .ref qo16, .ref qo27, .null])), (qo5, .inr (1, [.ref q_9, .int (nI 0)])), (q_9, .inl (k_9, 100, .inl (fun _ => 0))), (qo16, .inr (1, [.ref q_20, .int (nI 0)])), (q_20, .inl (k_20, 100, .inl (fun _ => 0))), (qo27, .inr (0, [.ref q_31, .int (nI 0)])), (q_31, .inl (k_31, 100, .inl (fun _ => 0)))]) (w1 := [(qo38, .inr (2, [.ref q1_42, .ref q2_42, .int (nI 0)])), (q1_42, .inl (k1_42, 100, .inl (fun _ => 0))), (q2_42, .inl (k2_42, 100, .inl (fun _ => 0)))]) hP hD [7] [0, 1, 2, 3, 4, 5, 6] rfl rfl (by decide) (by decide) hk1 hFc hP1 hD1
  have hK := hK.app hK1
  generalize H1 = H at hP hS ⊢
  have hK : va_K (dC, dI) cl5 [(k_9, .int), (k_20, .int), (k_31, .int), (k1_42, .int), (k2_42, .int)] s := hK
  have hP : va_P (dC, dI) cl5 [(h0, .inr (3, [.ref qo5, .ref qo16, .ref qo27, .null])), (qo5, .inr (1, [.ref q_9, .int (nI 0)])), (q_9, .inl (k_9, 100, .inl (fun _ => 0))), (qo16, .inr (1, [.ref q_20, .int (nI 0)])), (q_20, .inl (k_20, 100, .inl (fun _ => 0))), (qo27, .inr (0, [.ref q_31, .int (nI 0)])), (q_31, .inl (k_31, 100, .inl (fun _ => 0))), (qo38, .inr (2, [.ref q1_42, .ref q2_42, .int (nI 0)])), (q1_42, .inl (k1_42, 100, .inl (fun _ => 0))), (q2_42, .inl (k2_42, 100, .inl (fun _ => 0)))] H := hP
  have hD : va_D A [(h0, .inr (3, [.ref qo5, .ref qo16, .ref qo27, .null])), (qo5, .inr (1, [.ref q_9, .int (nI 0)])), (q_9, .inl (k_9, 100, .inl (fun _ => 0))), (qo16, .inr (1, [.ref q_20, .int (nI 0)])), (q_20, .inl (k_20, 100, .inl (fun _ => 0))), (qo27, .inr (0, [.ref q_31, .int (nI 0)])), (q_31, .inl (k_31, 100, .inl (fun _ => 0))), (qo38, .inr (2, [.ref q1_42, .ref q2_42, .int (nI 0)])), (q1_42, .inl (k1_42, 100, .inl (fun _ => 0))), (q2_42, .inl (k2_42, 100, .inl (fun _ => 0)))] := hD
  refine W.widen (k := 9) (n := 509) (by omega) (by omega) ?_
  refine va_putF (D := (dC, dI)) (ci := 3) (v := .ref qo38) (ty := .object "GlobDesk$Spans") (C := RX3) (T := TX3) (N := 4) hx hb hw inX3 tyX3 tyX3_ok nmX3 hown hK hP hD hS 0 rfl rfl 3 (by decide) (hw _ mw80) (fun _ h9 => h9) rfl hin rfl (by decide +kernel) rfl rfl (Nat.le_of_ble_eq_true rfl) dX3_init_45 (fun H locs hP hD hS => ?_)
  have hP : va_P (dC, dI) cl5 [(h0, .inr (3, [.ref qo5, .ref qo16, .ref qo27, .ref qo38])), (qo5, .inr (1, [.ref q_9, .int (nI 0)])), (q_9, .inl (k_9, 100, .inl (fun _ => 0))), (qo16, .inr (1, [.ref q_20, .int (nI 0)])), (q_20, .inl (k_20, 100, .inl (fun _ => 0))), (qo27, .inr (0, [.ref q_31, .int (nI 0)])), (q_31, .inl (k_31, 100, .inl (fun _ => 0))), (qo38, .inr (2, [.ref q1_42, .ref q2_42, .int (nI 0)])), (q1_42, .inl (k1_42, 100, .inl (fun _ => 0))), (q2_42, .inl (k2_42, 100, .inl (fun _ => 0)))] H := hP
  have hD : va_D A [(h0, .inr (3, [.ref qo5, .ref qo16, .ref qo27, .ref qo38])), (qo5, .inr (1, [.ref q_9, .int (nI 0)])), (q_9, .inl (k_9, 100, .inl (fun _ => 0))), (qo16, .inr (1, [.ref q_20, .int (nI 0)])), (q_20, .inl (k_20, 100, .inl (fun _ => 0))), (qo27, .inr (0, [.ref q_31, .int (nI 0)])), (q_31, .inl (k_31, 100, .inl (fun _ => 0))), (qo38, .inr (2, [.ref q1_42, .ref q2_42, .int (nI 0)])), (q1_42, .inl (k1_42, 100, .inl (fun _ => 0))), (q2_42, .inl (k2_42, 100, .inl (fun _ => 0)))] := hD
  subst hQ
  have hP9 := hP.sub (ws' := [(h0, .inr (3, [.ref qo5, .ref qo16, .ref qo27, .ref qo38])), (qo5, .inr (1, [.ref q_9, .int (nI 0)])), (q_9, .inl (k_9, 100, .inl (fun _ => 0))), (qo16, .inr (1, [.ref q_20, .int (nI 0)])), (q_20, .inl (k_20, 100, .inl (fun _ => 0))), (qo27, .inr (0, [.ref q_31, .int (nI 0)])), (q_31, .inl (k_31, 100, .inl (fun _ => 0))), (qo38, .inr (2, [.ref q1_42, .ref q2_42, .int (nI 0)])), (q1_42, .inl (k1_42, 100, .inl (fun _ => 0))), (q2_42, .inl (k2_42, 100, .inl (fun _ => 0)))]) [0, 1, 2, 3, 4, 5, 6, 7, 8, 9] rfl
  have hD9 := hD.sub (ws' := [(h0, .inr (3, [.ref qo5, .ref qo16, .ref qo27, .ref qo38])), (qo5, .inr (1, [.ref q_9, .int (nI 0)])), (q_9, .inl (k_9, 100, .inl (fun _ => 0))), (qo16, .inr (1, [.ref q_20, .int (nI 0)])), (q_20, .inl (k_20, 100, .inl (fun _ => 0))), (qo27, .inr (0, [.ref q_31, .int (nI 0)])), (q_31, .inl (k_31, 100, .inl (fun _ => 0))), (qo38, .inr (2, [.ref q1_42, .ref q2_42, .int (nI 0)])), (q1_42, .inl (k1_42, 100, .inl (fun _ => 0))), (q2_42, .inl (k2_42, 100, .inl (fun _ => 0)))]) [0, 1, 2, 3, 4, 5, 6, 7, 8, 9] (by decide) rfl
  have hK9 := hK.sub (tys' := [(k_9, .int), (k_20, .int), (k_31, .int), (k1_42, .int), (k2_42, .int)]) [0, 1, 2, 3, 4] rfl
  refine W.widen (k := 9) (n := 509) (by omega) (by omega) ?_
  exact W.vret hx hb hr (fun t ht hW => ⟨⟨(), rfl, trivial, qo5, qo16, qo27, qo38, q_9, q_20, q_31, q1_42, q2_42, k_9, k_20, k_31, k1_42, k2_42, by rw [ht]; exact hP9, va_K.moved hW.alike hK9, hD9⟩, hS.F ht⟩) hS.2.2 dX3_init_48
end
section
def B_X4_init (D : va_G) (A : Nat → Prop) (h0 : Nat) (_ : Unit) (t : State) : Prop := ∃ (mv mk ms ml mc mf mn : Nat) (jv jk js jl jc jf jn : ClassId), va_P D cl5 [(h0, .inr (4, [.int (nI 0), .ref mv, .ref mk, .int (nI 0), .int (nI 0), .int (nI 0), .ref ms, .ref ml, .ref mc, .int (nI 0), .ref mf, .ref mn])), (mv, .inl (jv, 100, .inl (fun _ => 0))), (mk, .inl (jk, 100, .inl (fun _ => 0))), (ms, .inl (js, 100, .inl (fun _ => 0))), (ml, .inl (jl, 100, .inl (fun _ => 0))), (mc, .inl (jc, 10201, .inl (fun _ => 0))), (mf, .inl (jf, 100, .inl (fun _ => 0))), (mn, .inl (jn, 100, .inl (fun _ => 0)))] t.heap ∧ va_K D cl5 [(jv, .int), (jk, .int), (js, .int), (jl, .int), (jc, .boolean), (jf, .int), (jn, .int)] t ∧ va_D A [(h0, .inr (4, [.int (nI 0), .ref mv, .ref mk, .int (nI 0), .int (nI 0), .int (nI 0), .ref ms, .ref ml, .ref mc, .int (nI 0), .ref mf, .ref mn])), (mv, .inl (jv, 100, .inl (fun _ => 0))), (mk, .inl (jk, 100, .inl (fun _ => 0))), (ms, .inl (js, 100, .inl (fun _ => 0))), (ml, .inl (jl, 100, .inl (fun _ => 0))), (mc, .inl (jc, 10201, .inl (fun _ => 0))), (mf, .inl (jf, 100, .inl (fun _ => 0))), (mn, .inl (jn, 100, .inl (fun _ => 0)))]
abbrev rm_c_X4_init : Room := { frames := 1, cells := 7, slots := 10801, locals := 12 }
set_option maxHeartbeats 4000000 in
set_option maxRecDepth 100000 in
theorem c_X4_init (l : Launch) (dC : Nat → ClassId) (dI : Nat → Nat → Nat) (sz : Nat) (h0 : Nat) : Met l yX4_init (.code yX4_init cX4_init 1 none :: wsA) rm_c_X4_init (va_Pc [.ref h0] (wr (dC, dI) [(h0, .inr (4, [.int (0), .null, .null, .int (0), .int (0), .int (0), .null, .null, .null, .int (0), .null, .null]))] [] sz)) (va_Qv (fun _ : Unit => True) (B_X4_init (dC, dI) (va_A [(h0, .inr (4, [.int (0), .null, .null, .int (0), .int (0), .int (0), .null, .null, .null, .int (0), .null, .null]))] sz) h0) (va_A [(h0, .inr (4, [.int (0), .null, .null, .int (0), .int (0), .int (0), .null, .null, .null, .int (0), .null, .null]))] sz)) 7 10801 (va_A [(h0, .inr (4, [.int (0), .null, .null, .int (0), .int (0), .int (0), .null, .null, .null, .int (0), .null, .null]))] sz) := by
  refine Met.ofW (cc := cX4_init) (maxL := 1) (ret := none) (by decide) rfl ?_
  intro p e s m args below meth c s₁ B hml hv
  obtain ⟨hargs, hsz, hN, hP, hK, hD0⟩ := hv
  have hx := B.exec
  have hb := B.bytes
  have hr := B.returns
  have hw : ∀ w ∈ wsA, w.before args s = true := fun w h => atoms_spec (ws := (.code yX4_init cX4_init 1 none :: wsA)) B.pre w (List.mem_cons_of_mem _ h)
  have hown : s.vm.findClass "GlobDeskModel" = some m.cls := findClass_of_methodNamed B.named
  have hlocks := B.notSynchronized
  have hin : meth.name = "<init>" := (name_of_methodNamed B.named B.method).1
  subst hsz
  have hD := hD0.self (sz := s.heap.size)
  generalize hAe : va_A [(h0, .inr (4, [.int (0), .null, .null, .int (0), .int (0), .int (0), .null, .null, .null, .int (0), .null, .null]))] s.heap.size = A at hD ⊢
  have hA : ∀ q : Nat, s.heap.size ≤ q → A q := fun q h => by rw [← hAe]; exact Or.inr h
  have hS : va_S A s.heap s.heap [] := va_S.rf
  generalize hQ : MQ below _ args s _ _ _ = Q
  change W p l e rm_c_X4_init s m args below meth c s.heap [] 0 0 Q (entryFrame m args 1)
  have hl := lv_entry ([.ref h0]) (n := 1) (Nat.le_of_ble_eq_true rfl)
  rw [show entryFrame m args 1 = entryFrame m ([.ref h0] : List Value).toArray 1 from by rw [hargs], lg_entry_eq]
  generalize (lg_sl ([.ref h0]) ++ List.replicate (1 - (lg_sl ([.ref h0])).length) Slot.unset).toArray = ls at hl ⊢
  have hl : lv_has ls 1 [(0, .ref h0)] := hl
  refine lv_aload_n hx hb dX4_init_0 rfl (lv_at hl 0 rfl) ?_
  refine W.objInit hx hb hown (hw _ mw243) (hw _ mw28) (hw _ mw29) rfl (by rw [hml]; exact hl.1) rfl dX4_init_1 (Nat.le_of_ble_eq_true rfl) (Nat.le_of_ble_eq_true rfl) ?_
  refine W.eq (g2 := F0 m 4 ls []) rfl ?_
  refine lv_aload_n hx hb dX4_init_4 rfl (lv_at hl 0 rfl) ?_
  refine lv_iconst (v := 0) hx hb dX4_init_5 (by decide) ?_
  refine lv_topi (fun x1 ex1 => ?_)
  obtain rfl : x1 = nI 0 := by rw [ex1]; exact nI_0.symm
  refine va_put (D := (dC, dI)) (ci := 4) (v := .int (nI 0)) (ty := .int) (C := RX4) (T := TX4) (N := 12) hx hb hw inX4 tyX4 tyX4_ok nmX4 hown hK hP hD hS 0 rfl rfl 0 (by decide) (hw _ mw244) (fun _ h9 => h9) rfl (by decide +kernel) rfl rfl (Nat.le_of_ble_eq_true rfl) dX4_init_6 (fun H locs hP hD hS => ?_)
  have hP : va_P (dC, dI) cl5 [(h0, .inr (4, [.int (nI 0), .null, .null, .int (0), .int (0), .int (0), .null, .null, .null, .int (0), .null, .null]))] H := hP
  have hD : va_D A [(h0, .inr (4, [.int (nI 0), .null, .null, .int (0), .int (0), .int (0), .null, .null, .null, .int (0), .null, .null]))] := hD
  refine lv_aload_n hx hb dX4_init_9 rfl (lv_at hl 0 rfl) ?_
  refine lv_bipush (v := 100) hx hb dX4_init_10 (by decide) ?_
  refine va_newa (atype := .int) (ty := .int) (a0 := (100, .inl (fun _ => 0))) (N' := 100) hx hb (hw _ mw45) rfl hK hP hD hS hA (fun _ => rfl) (by decide) (by decide) (Nat.le_of_ble_eq_true rfl) (Nat.le_of_ble_eq_true rfl) (Nat.le_of_ble_eq_true rfl) dX4_init_12 (fun qa12 ka12 H hK hP hD hS => ?_)
  have hK : va_K (dC, dI) cl5 [(ka12, .int)] s := hK
  have hP : va_P (dC, dI) cl5 [(h0, .inr (4, [.int (nI 0), .null, .null, .int (0), .int (0), .int (0), .null, .null, .null, .int (0), .null, .null])), (qa12, .inl (ka12, 100, .inl (fun _ => 0)))] H := hP
  have hD : va_D A [(h0, .inr (4, [.int (nI 0), .null, .null, .int (0), .int (0), .int (0), .null, .null, .null, .int (0), .null, .null])), (qa12, .inl (ka12, 100, .inl (fun _ => 0)))] := hD
  refine W.widen (k := 1) (n := 100) (by omega) (by omega) ?_
  refine va_putF (D := (dC, dI)) (ci := 4) (v := .ref qa12) (ty := .array .int) (C := RX4) (T := TX4) (N := 12) hx hb hw inX4 tyX4 tyX4_ok nmX4 hown hK hP hD hS 0 rfl rfl 1 (by decide) (hw _ mw245) (fun _ h9 => h9) rfl hin rfl (by decide +kernel) rfl rfl (Nat.le_of_ble_eq_true rfl) dX4_init_14 (fun H locs hP hD hS => ?_)
  have hP : va_P (dC, dI) cl5 [(h0, .inr (4, [.int (nI 0), .ref qa12, .null, .int (0), .int (0), .int (0), .null, .null, .null, .int (0), .null, .null])), (qa12, .inl (ka12, 100, .inl (fun _ => 0)))] H := hP
  have hD : va_D A [(h0, .inr (4, [.int (nI 0), .ref qa12, .null, .int (0), .int (0), .int (0), .null, .null, .null, .int (0), .null, .null])), (qa12, .inl (ka12, 100, .inl (fun _ => 0)))] := hD
  refine lv_aload_n hx hb dX4_init_17 rfl (lv_at hl 0 rfl) ?_
  refine lv_bipush (v := 100) hx hb dX4_init_18 (by decide) ?_
  refine va_newa (atype := .int) (ty := .int) (a0 := (100, .inl (fun _ => 0))) (N' := 100) hx hb (hw _ mw45) rfl hK hP hD hS hA (fun _ => rfl) (by decide) (by decide) (Nat.le_of_ble_eq_true rfl) (Nat.le_of_ble_eq_true rfl) (Nat.le_of_ble_eq_true rfl) dX4_init_20 (fun qa20 ka20 H hK hP hD hS => ?_)
  have hK : va_K (dC, dI) cl5 [(ka12, .int), (ka20, .int)] s := hK
  have hP : va_P (dC, dI) cl5 [(h0, .inr (4, [.int (nI 0), .ref qa12, .null, .int (0), .int (0), .int (0), .null, .null, .null, .int (0), .null, .null])), (qa12, .inl (ka12, 100, .inl (fun _ => 0))), (qa20, .inl (ka20, 100, .inl (fun _ => 0)))] H := hP
  have hD : va_D A [(h0, .inr (4, [.int (nI 0), .ref qa12, .null, .int (0), .int (0), .int (0), .null, .null, .null, .int (0), .null, .null])), (qa12, .inl (ka12, 100, .inl (fun _ => 0))), (qa20, .inl (ka20, 100, .inl (fun _ => 0)))] := hD
  refine W.widen (k := 2) (n := 200) (by omega) (by omega) ?_
  refine va_putF (D := (dC, dI)) (ci := 4) (v := .ref qa20) (ty := .array .int) (C := RX4) (T := TX4) (N := 12) hx hb hw inX4 tyX4 tyX4_ok nmX4 hown hK hP hD hS 0 rfl rfl 2 (by decide) (hw _ mw246) (fun _ h9 => h9) rfl hin rfl (by decide +kernel) rfl rfl (Nat.le_of_ble_eq_true rfl) dX4_init_22 (fun H locs hP hD hS => ?_)
  have hP : va_P (dC, dI) cl5 [(h0, .inr (4, [.int (nI 0), .ref qa12, .ref qa20, .int (0), .int (0), .int (0), .null, .null, .null, .int (0), .null, .null])), (qa12, .inl (ka12, 100, .inl (fun _ => 0))), (qa20, .inl (ka20, 100, .inl (fun _ => 0)))] H := hP
  have hD : va_D A [(h0, .inr (4, [.int (nI 0), .ref qa12, .ref qa20, .int (0), .int (0), .int (0), .null, .null, .null, .int (0), .null, .null])), (qa12, .inl (ka12, 100, .inl (fun _ => 0))), (qa20, .inl (ka20, 100, .inl (fun _ => 0)))] := hD
  refine lv_aload_n hx hb dX4_init_25 rfl (lv_at hl 0 rfl) ?_
  refine lv_iconst (v := 0) hx hb dX4_init_26 (by decide) ?_
  refine lv_topi (fun x2 ex2 => ?_)
  obtain rfl : x2 = nI 0 := by rw [ex2]; exact nI_0.symm
  refine va_put (D := (dC, dI)) (ci := 4) (v := .int (nI 0)) (ty := .int) (C := RX4) (T := TX4) (N := 12) hx hb hw inX4 tyX4 tyX4_ok nmX4 hown hK hP hD hS 0 rfl rfl 3 (by decide) (hw _ mw247) (fun _ h9 => h9) rfl (by decide +kernel) rfl rfl (Nat.le_of_ble_eq_true rfl) dX4_init_27 (fun H locs hP hD hS => ?_)
  have hP : va_P (dC, dI) cl5 [(h0, .inr (4, [.int (nI 0), .ref qa12, .ref qa20, .int (nI 0), .int (0), .int (0), .null, .null, .null, .int (0), .null, .null])), (qa12, .inl (ka12, 100, .inl (fun _ => 0))), (qa20, .inl (ka20, 100, .inl (fun _ => 0)))] H := hP
  have hD : va_D A [(h0, .inr (4, [.int (nI 0), .ref qa12, .ref qa20, .int (nI 0), .int (0), .int (0), .null, .null, .null, .int (0), .null, .null])), (qa12, .inl (ka12, 100, .inl (fun _ => 0))), (qa20, .inl (ka20, 100, .inl (fun _ => 0)))] := hD
  refine lv_aload_n hx hb dX4_init_30 rfl (lv_at hl 0 rfl) ?_
  refine lv_iconst (v := 0) hx hb dX4_init_31 (by decide) ?_
  refine lv_topi (fun x3 ex3 => ?_)
  obtain rfl : x3 = nI 0 := by rw [ex3]; exact nI_0.symm
  refine va_put (D := (dC, dI)) (ci := 4) (v := .int (nI 0)) (ty := .int) (C := RX4) (T := TX4) (N := 12) hx hb hw inX4 tyX4 tyX4_ok nmX4 hown hK hP hD hS 0 rfl rfl 4 (by decide) (hw _ mw248) (fun _ h9 => h9) rfl (by decide +kernel) rfl rfl (Nat.le_of_ble_eq_true rfl) dX4_init_32 (fun H locs hP hD hS => ?_)
  have hP : va_P (dC, dI) cl5 [(h0, .inr (4, [.int (nI 0), .ref qa12, .ref qa20, .int (nI 0), .int (nI 0), .int (0), .null, .null, .null, .int (0), .null, .null])), (qa12, .inl (ka12, 100, .inl (fun _ => 0))), (qa20, .inl (ka20, 100, .inl (fun _ => 0)))] H := hP
  have hD : va_D A [(h0, .inr (4, [.int (nI 0), .ref qa12, .ref qa20, .int (nI 0), .int (nI 0), .int (0), .null, .null, .null, .int (0), .null, .null])), (qa12, .inl (ka12, 100, .inl (fun _ => 0))), (qa20, .inl (ka20, 100, .inl (fun _ => 0)))] := hD
  refine lv_aload_n hx hb dX4_init_35 rfl (lv_at hl 0 rfl) ?_
  refine lv_iconst (v := 0) hx hb dX4_init_36 (by decide) ?_
  refine lv_topi (fun x4 ex4 => ?_)
  obtain rfl : x4 = nI 0 := by rw [ex4]; exact nI_0.symm
  refine va_put (D := (dC, dI)) (ci := 4) (v := .int (nI 0)) (ty := .int) (C := RX4) (T := TX4) (N := 12) hx hb hw inX4 tyX4 tyX4_ok nmX4 hown hK hP hD hS 0 rfl rfl 5 (by decide) (hw _ mw249) (fun _ h9 => h9) rfl (by decide +kernel) rfl rfl (Nat.le_of_ble_eq_true rfl) dX4_init_37 (fun H locs hP hD hS => ?_)
  have hP : va_P (dC, dI) cl5 [(h0, .inr (4, [.int (nI 0), .ref qa12, .ref qa20, .int (nI 0), .int (nI 0), .int (nI 0), .null, .null, .null, .int (0), .null, .null])), (qa12, .inl (ka12, 100, .inl (fun _ => 0))), (qa20, .inl (ka20, 100, .inl (fun _ => 0)))] H := hP
  have hD : va_D A [(h0, .inr (4, [.int (nI 0), .ref qa12, .ref qa20, .int (nI 0), .int (nI 0), .int (nI 0), .null, .null, .null, .int (0), .null, .null])), (qa12, .inl (ka12, 100, .inl (fun _ => 0))), (qa20, .inl (ka20, 100, .inl (fun _ => 0)))] := hD
  refine lv_aload_n hx hb dX4_init_40 rfl (lv_at hl 0 rfl) ?_
  refine lv_bipush (v := 100) hx hb dX4_init_41 (by decide) ?_
  refine va_newa (atype := .int) (ty := .int) (a0 := (100, .inl (fun _ => 0))) (N' := 100) hx hb (hw _ mw45) rfl hK hP hD hS hA (fun _ => rfl) (by decide) (by decide) (Nat.le_of_ble_eq_true rfl) (Nat.le_of_ble_eq_true rfl) (Nat.le_of_ble_eq_true rfl) dX4_init_43 (fun qa43 ka43 H hK hP hD hS => ?_)
  have hK : va_K (dC, dI) cl5 [(ka12, .int), (ka20, .int), (ka43, .int)] s := hK
  have hP : va_P (dC, dI) cl5 [(h0, .inr (4, [.int (nI 0), .ref qa12, .ref qa20, .int (nI 0), .int (nI 0), .int (nI 0), .null, .null, .null, .int (0), .null, .null])), (qa12, .inl (ka12, 100, .inl (fun _ => 0))), (qa20, .inl (ka20, 100, .inl (fun _ => 0))), (qa43, .inl (ka43, 100, .inl (fun _ => 0)))] H := hP
  have hD : va_D A [(h0, .inr (4, [.int (nI 0), .ref qa12, .ref qa20, .int (nI 0), .int (nI 0), .int (nI 0), .null, .null, .null, .int (0), .null, .null])), (qa12, .inl (ka12, 100, .inl (fun _ => 0))), (qa20, .inl (ka20, 100, .inl (fun _ => 0))), (qa43, .inl (ka43, 100, .inl (fun _ => 0)))] := hD
  refine W.widen (k := 3) (n := 300) (by omega) (by omega) ?_
  refine va_putF (D := (dC, dI)) (ci := 4) (v := .ref qa43) (ty := .array .int) (C := RX4) (T := TX4) (N := 12) hx hb hw inX4 tyX4 tyX4_ok nmX4 hown hK hP hD hS 0 rfl rfl 6 (by decide) (hw _ mw250) (fun _ h9 => h9) rfl hin rfl (by decide +kernel) rfl rfl (Nat.le_of_ble_eq_true rfl) dX4_init_45 (fun H locs hP hD hS => ?_)
  have hP : va_P (dC, dI) cl5 [(h0, .inr (4, [.int (nI 0), .ref qa12, .ref qa20, .int (nI 0), .int (nI 0), .int (nI 0), .ref qa43, .null, .null, .int (0), .null, .null])), (qa12, .inl (ka12, 100, .inl (fun _ => 0))), (qa20, .inl (ka20, 100, .inl (fun _ => 0))), (qa43, .inl (ka43, 100, .inl (fun _ => 0)))] H := hP
  have hD : va_D A [(h0, .inr (4, [.int (nI 0), .ref qa12, .ref qa20, .int (nI 0), .int (nI 0), .int (nI 0), .ref qa43, .null, .null, .int (0), .null, .null])), (qa12, .inl (ka12, 100, .inl (fun _ => 0))), (qa20, .inl (ka20, 100, .inl (fun _ => 0))), (qa43, .inl (ka43, 100, .inl (fun _ => 0)))] := hD
  refine lv_aload_n hx hb dX4_init_48 rfl (lv_at hl 0 rfl) ?_
  refine lv_bipush (v := 100) hx hb dX4_init_49 (by decide) ?_
  refine va_newa (atype := .int) (ty := .int) (a0 := (100, .inl (fun _ => 0))) (N' := 100) hx hb (hw _ mw45) rfl hK hP hD hS hA (fun _ => rfl) (by decide) (by decide) (Nat.le_of_ble_eq_true rfl) (Nat.le_of_ble_eq_true rfl) (Nat.le_of_ble_eq_true rfl) dX4_init_51 (fun qa51 ka51 H hK hP hD hS => ?_)
  have hK : va_K (dC, dI) cl5 [(ka12, .int), (ka20, .int), (ka43, .int), (ka51, .int)] s := hK
  have hP : va_P (dC, dI) cl5 [(h0, .inr (4, [.int (nI 0), .ref qa12, .ref qa20, .int (nI 0), .int (nI 0), .int (nI 0), .ref qa43, .null, .null, .int (0), .null, .null])), (qa12, .inl (ka12, 100, .inl (fun _ => 0))), (qa20, .inl (ka20, 100, .inl (fun _ => 0))), (qa43, .inl (ka43, 100, .inl (fun _ => 0))), (qa51, .inl (ka51, 100, .inl (fun _ => 0)))] H := hP
  have hD : va_D A [(h0, .inr (4, [.int (nI 0), .ref qa12, .ref qa20, .int (nI 0), .int (nI 0), .int (nI 0), .ref qa43, .null, .null, .int (0), .null, .null])), (qa12, .inl (ka12, 100, .inl (fun _ => 0))), (qa20, .inl (ka20, 100, .inl (fun _ => 0))), (qa43, .inl (ka43, 100, .inl (fun _ => 0))), (qa51, .inl (ka51, 100, .inl (fun _ => 0)))] := hD
  refine W.widen (k := 4) (n := 400) (by omega) (by omega) ?_
  refine va_putF (D := (dC, dI)) (ci := 4) (v := .ref qa51) (ty := .array .int) (C := RX4) (T := TX4) (N := 12) hx hb hw inX4 tyX4 tyX4_ok nmX4 hown hK hP hD hS 0 rfl rfl 7 (by decide) (hw _ mw251) (fun _ h9 => h9) rfl hin rfl (by decide +kernel) rfl rfl (Nat.le_of_ble_eq_true rfl) dX4_init_53 (fun H locs hP hD hS => ?_)
  have hP : va_P (dC, dI) cl5 [(h0, .inr (4, [.int (nI 0), .ref qa12, .ref qa20, .int (nI 0), .int (nI 0), .int (nI 0), .ref qa43, .ref qa51, .null, .int (0), .null, .null])), (qa12, .inl (ka12, 100, .inl (fun _ => 0))), (qa20, .inl (ka20, 100, .inl (fun _ => 0))), (qa43, .inl (ka43, 100, .inl (fun _ => 0))), (qa51, .inl (ka51, 100, .inl (fun _ => 0)))] H := hP
  have hD : va_D A [(h0, .inr (4, [.int (nI 0), .ref qa12, .ref qa20, .int (nI 0), .int (nI 0), .int (nI 0), .ref qa43, .ref qa51, .null, .int (0), .null, .null])), (qa12, .inl (ka12, 100, .inl (fun _ => 0))), (qa20, .inl (ka20, 100, .inl (fun _ => 0))), (qa43, .inl (ka43, 100, .inl (fun _ => 0))), (qa51, .inl (ka51, 100, .inl (fun _ => 0)))] := hD
  refine lv_aload_n hx hb dX4_init_56 rfl (lv_at hl 0 rfl) ?_
  refine lv_sipush (v := 10201) hx hb dX4_init_57 (by decide) ?_
  refine va_newa (atype := .boolean) (ty := .boolean) (a0 := (10201, .inl (fun _ => 0))) (N' := 10201) hx hb (hw _ mw281) rfl hK hP hD hS hA (fun _ => rfl) (by decide) (by decide) (Nat.le_of_ble_eq_true rfl) (Nat.le_of_ble_eq_true rfl) (Nat.le_of_ble_eq_true rfl) dX4_init_60 (fun qa60 ka60 H hK hP hD hS => ?_)
  have hK : va_K (dC, dI) cl5 [(ka12, .int), (ka20, .int), (ka43, .int), (ka51, .int), (ka60, .boolean)] s := hK
  have hP : va_P (dC, dI) cl5 [(h0, .inr (4, [.int (nI 0), .ref qa12, .ref qa20, .int (nI 0), .int (nI 0), .int (nI 0), .ref qa43, .ref qa51, .null, .int (0), .null, .null])), (qa12, .inl (ka12, 100, .inl (fun _ => 0))), (qa20, .inl (ka20, 100, .inl (fun _ => 0))), (qa43, .inl (ka43, 100, .inl (fun _ => 0))), (qa51, .inl (ka51, 100, .inl (fun _ => 0))), (qa60, .inl (ka60, 10201, .inl (fun _ => 0)))] H := hP
  have hD : va_D A [(h0, .inr (4, [.int (nI 0), .ref qa12, .ref qa20, .int (nI 0), .int (nI 0), .int (nI 0), .ref qa43, .ref qa51, .null, .int (0), .null, .null])), (qa12, .inl (ka12, 100, .inl (fun _ => 0))), (qa20, .inl (ka20, 100, .inl (fun _ => 0))), (qa43, .inl (ka43, 100, .inl (fun _ => 0))), (qa51, .inl (ka51, 100, .inl (fun _ => 0))), (qa60, .inl (ka60, 10201, .inl (fun _ => 0)))] := hD
  refine W.widen (k := 5) (n := 10601) (by omega) (by omega) ?_
  refine va_putF (D := (dC, dI)) (ci := 4) (v := .ref qa60) (ty := .array .boolean) (C := RX4) (T := TX4) (N := 12) hx hb hw inX4 tyX4 tyX4_ok nmX4 hown hK hP hD hS 0 rfl rfl 8 (by decide) (hw _ mw252) (fun _ h9 => h9) rfl hin rfl (by decide +kernel) rfl rfl (Nat.le_of_ble_eq_true rfl) dX4_init_62 (fun H locs hP hD hS => ?_)
  have hP : va_P (dC, dI) cl5 [(h0, .inr (4, [.int (nI 0), .ref qa12, .ref qa20, .int (nI 0), .int (nI 0), .int (nI 0), .ref qa43, .ref qa51, .ref qa60, .int (0), .null, .null])), (qa12, .inl (ka12, 100, .inl (fun _ => 0))), (qa20, .inl (ka20, 100, .inl (fun _ => 0))), (qa43, .inl (ka43, 100, .inl (fun _ => 0))), (qa51, .inl (ka51, 100, .inl (fun _ => 0))), (qa60, .inl (ka60, 10201, .inl (fun _ => 0)))] H := hP
  have hD : va_D A [(h0, .inr (4, [.int (nI 0), .ref qa12, .ref qa20, .int (nI 0), .int (nI 0), .int (nI 0), .ref qa43, .ref qa51, .ref qa60, .int (0), .null, .null])), (qa12, .inl (ka12, 100, .inl (fun _ => 0))), (qa20, .inl (ka20, 100, .inl (fun _ => 0))), (qa43, .inl (ka43, 100, .inl (fun _ => 0))), (qa51, .inl (ka51, 100, .inl (fun _ => 0))), (qa60, .inl (ka60, 10201, .inl (fun _ => 0)))] := hD
  refine lv_aload_n hx hb dX4_init_65 rfl (lv_at hl 0 rfl) ?_
  refine lv_iconst (v := 0) hx hb dX4_init_66 (by decide) ?_
  refine lv_topi (fun x5 ex5 => ?_)
  obtain rfl : x5 = nI 0 := by rw [ex5]; exact nI_0.symm
  refine va_put (D := (dC, dI)) (ci := 4) (v := .int (nI 0)) (ty := .int) (C := RX4) (T := TX4) (N := 12) hx hb hw inX4 tyX4 tyX4_ok nmX4 hown hK hP hD hS 0 rfl rfl 9 (by decide) (hw _ mw253) (fun _ h9 => h9) rfl (by decide +kernel) rfl rfl (Nat.le_of_ble_eq_true rfl) dX4_init_67 (fun H locs hP hD hS => ?_)
  have hP : va_P (dC, dI) cl5 [(h0, .inr (4, [.int (nI 0), .ref qa12, .ref qa20, .int (nI 0), .int (nI 0), .int (nI 0), .ref qa43, .ref qa51, .ref qa60, .int (nI 0), .null, .null])), (qa12, .inl (ka12, 100, .inl (fun _ => 0))), (qa20, .inl (ka20, 100, .inl (fun _ => 0))), (qa43, .inl (ka43, 100, .inl (fun _ => 0))), (qa51, .inl (ka51, 100, .inl (fun _ => 0))), (qa60, .inl (ka60, 10201, .inl (fun _ => 0)))] H := hP
  have hD : va_D A [(h0, .inr (4, [.int (nI 0), .ref qa12, .ref qa20, .int (nI 0), .int (nI 0), .int (nI 0), .ref qa43, .ref qa51, .ref qa60, .int (nI 0), .null, .null])), (qa12, .inl (ka12, 100, .inl (fun _ => 0))), (qa20, .inl (ka20, 100, .inl (fun _ => 0))), (qa43, .inl (ka43, 100, .inl (fun _ => 0))), (qa51, .inl (ka51, 100, .inl (fun _ => 0))), (qa60, .inl (ka60, 10201, .inl (fun _ => 0)))] := hD
  refine lv_aload_n hx hb dX4_init_70 rfl (lv_at hl 0 rfl) ?_
  refine lv_bipush (v := 100) hx hb dX4_init_71 (by decide) ?_
  refine va_newa (atype := .int) (ty := .int) (a0 := (100, .inl (fun _ => 0))) (N' := 100) hx hb (hw _ mw45) rfl hK hP hD hS hA (fun _ => rfl) (by decide) (by decide) (Nat.le_of_ble_eq_true rfl) (Nat.le_of_ble_eq_true rfl) (Nat.le_of_ble_eq_true rfl) dX4_init_73 (fun qa73 ka73 H hK hP hD hS => ?_)
  have hK : va_K (dC, dI) cl5 [(ka12, .int), (ka20, .int), (ka43, .int), (ka51, .int), (ka60, .boolean), (ka73, .int)] s := hK
  have hP : va_P (dC, dI) cl5 [(h0, .inr (4, [.int (nI 0), .ref qa12, .ref qa20, .int (nI 0), .int (nI 0), .int (nI 0), .ref qa43, .ref qa51, .ref qa60, .int (nI 0), .null, .null])), (qa12, .inl (ka12, 100, .inl (fun _ => 0))), (qa20, .inl (ka20, 100, .inl (fun _ => 0))), (qa43, .inl (ka43, 100, .inl (fun _ => 0))), (qa51, .inl (ka51, 100, .inl (fun _ => 0))), (qa60, .inl (ka60, 10201, .inl (fun _ => 0))), (qa73, .inl (ka73, 100, .inl (fun _ => 0)))] H := hP
  have hD : va_D A [(h0, .inr (4, [.int (nI 0), .ref qa12, .ref qa20, .int (nI 0), .int (nI 0), .int (nI 0), .ref qa43, .ref qa51, .ref qa60, .int (nI 0), .null, .null])), (qa12, .inl (ka12, 100, .inl (fun _ => 0))), (qa20, .inl (ka20, 100, .inl (fun _ => 0))), (qa43, .inl (ka43, 100, .inl (fun _ => 0))), (qa51, .inl (ka51, 100, .inl (fun _ => 0))), (qa60, .inl (ka60, 10201, .inl (fun _ => 0))), (qa73, .inl (ka73, 100, .inl (fun _ => 0)))] := hD
  refine W.widen (k := 6) (n := 10701) (by omega) (by omega) ?_
  refine va_putF (D := (dC, dI)) (ci := 4) (v := .ref qa73) (ty := .array .int) (C := RX4) (T := TX4) (N := 12) hx hb hw inX4 tyX4 tyX4_ok nmX4 hown hK hP hD hS 0 rfl rfl 10 (by decide) (hw _ mw254) (fun _ h9 => h9) rfl hin rfl (by decide +kernel) rfl rfl (Nat.le_of_ble_eq_true rfl) dX4_init_75 (fun H locs hP hD hS => ?_)
  have hP : va_P (dC, dI) cl5 [(h0, .inr (4, [.int (nI 0), .ref qa12, .ref qa20, .int (nI 0), .int (nI 0), .int (nI 0), .ref qa43, .ref qa51, .ref qa60, .int (nI 0), .ref qa73, .null])), (qa12, .inl (ka12, 100, .inl (fun _ => 0))), (qa20, .inl (ka20, 100, .inl (fun _ => 0))), (qa43, .inl (ka43, 100, .inl (fun _ => 0))), (qa51, .inl (ka51, 100, .inl (fun _ => 0))), (qa60, .inl (ka60, 10201, .inl (fun _ => 0))), (qa73, .inl (ka73, 100, .inl (fun _ => 0)))] H := hP
  have hD : va_D A [(h0, .inr (4, [.int (nI 0), .ref qa12, .ref qa20, .int (nI 0), .int (nI 0), .int (nI 0), .ref qa43, .ref qa51, .ref qa60, .int (nI 0), .ref qa73, .null])), (qa12, .inl (ka12, 100, .inl (fun _ => 0))), (qa20, .inl (ka20, 100, .inl (fun _ => 0))), (qa43, .inl (ka43, 100, .inl (fun _ => 0))), (qa51, .inl (ka51, 100, .inl (fun _ => 0))), (qa60, .inl (ka60, 10201, .inl (fun _ => 0))), (qa73, .inl (ka73, 100, .inl (fun _ => 0)))] := hD
  refine lv_aload_n hx hb dX4_init_78 rfl (lv_at hl 0 rfl) ?_
  refine lv_bipush (v := 100) hx hb dX4_init_79 (by decide) ?_
  refine va_newa (atype := .int) (ty := .int) (a0 := (100, .inl (fun _ => 0))) (N' := 100) hx hb (hw _ mw45) rfl hK hP hD hS hA (fun _ => rfl) (by decide) (by decide) (Nat.le_of_ble_eq_true rfl) (Nat.le_of_ble_eq_true rfl) (Nat.le_of_ble_eq_true rfl) dX4_init_81 (fun qa81 ka81 H hK hP hD hS => ?_)
  have hK : va_K (dC, dI) cl5 [(ka12, .int), (ka20, .int), (ka43, .int), (ka51, .int), (ka60, .boolean), (ka73, .int), (ka81, .int)] s := hK
  have hP : va_P (dC, dI) cl5 [(h0, .inr (4, [.int (nI 0), .ref qa12, .ref qa20, .int (nI 0), .int (nI 0), .int (nI 0), .ref qa43, .ref qa51, .ref qa60, .int (nI 0), .ref qa73, .null])), (qa12, .inl (ka12, 100, .inl (fun _ => 0))), (qa20, .inl (ka20, 100, .inl (fun _ => 0))), (qa43, .inl (ka43, 100, .inl (fun _ => 0))), (qa51, .inl (ka51, 100, .inl (fun _ => 0))), (qa60, .inl (ka60, 10201, .inl (fun _ => 0))), (qa73, .inl (ka73, 100, .inl (fun _ => 0))), (qa81, .inl (ka81, 100, .inl (fun _ => 0)))] H := hP
  have hD : va_D A [(h0, .inr (4, [.int (nI 0), .ref qa12, .ref qa20, .int (nI 0), .int (nI 0), .int (nI 0), .ref qa43, .ref qa51, .ref qa60, .int (nI 0), .ref qa73, .null])), (qa12, .inl (ka12, 100, .inl (fun _ => 0))), (qa20, .inl (ka20, 100, .inl (fun _ => 0))), (qa43, .inl (ka43, 100, .inl (fun _ => 0))), (qa51, .inl (ka51, 100, .inl (fun _ => 0))), (qa60, .inl (ka60, 10201, .inl (fun _ => 0))), (qa73, .inl (ka73, 100, .inl (fun _ => 0))), (qa81, .inl (ka81, 100, .inl (fun _ => 0)))] := hD
  refine W.widen (k := 7) (n := 10801) (by omega) (by omega) ?_
  refine va_putF (D := (dC, dI)) (ci := 4) (v := .ref qa81) (ty := .array .int) (C := RX4) (T := TX4) (N := 12) hx hb hw inX4 tyX4 tyX4_ok nmX4 hown hK hP hD hS 0 rfl rfl 11 (by decide) (hw _ mw255) (fun _ h9 => h9) rfl hin rfl (by decide +kernel) rfl rfl (Nat.le_of_ble_eq_true rfl) dX4_init_83 (fun H locs hP hD hS => ?_)
  have hP : va_P (dC, dI) cl5 [(h0, .inr (4, [.int (nI 0), .ref qa12, .ref qa20, .int (nI 0), .int (nI 0), .int (nI 0), .ref qa43, .ref qa51, .ref qa60, .int (nI 0), .ref qa73, .ref qa81])), (qa12, .inl (ka12, 100, .inl (fun _ => 0))), (qa20, .inl (ka20, 100, .inl (fun _ => 0))), (qa43, .inl (ka43, 100, .inl (fun _ => 0))), (qa51, .inl (ka51, 100, .inl (fun _ => 0))), (qa60, .inl (ka60, 10201, .inl (fun _ => 0))), (qa73, .inl (ka73, 100, .inl (fun _ => 0))), (qa81, .inl (ka81, 100, .inl (fun _ => 0)))] H := hP
  have hD : va_D A [(h0, .inr (4, [.int (nI 0), .ref qa12, .ref qa20, .int (nI 0), .int (nI 0), .int (nI 0), .ref qa43, .ref qa51, .ref qa60, .int (nI 0), .ref qa73, .ref qa81])), (qa12, .inl (ka12, 100, .inl (fun _ => 0))), (qa20, .inl (ka20, 100, .inl (fun _ => 0))), (qa43, .inl (ka43, 100, .inl (fun _ => 0))), (qa51, .inl (ka51, 100, .inl (fun _ => 0))), (qa60, .inl (ka60, 10201, .inl (fun _ => 0))), (qa73, .inl (ka73, 100, .inl (fun _ => 0))), (qa81, .inl (ka81, 100, .inl (fun _ => 0)))] := hD
  subst hQ
  have hP9 := hP.sub (ws' := [(h0, .inr (4, [.int (nI 0), .ref qa12, .ref qa20, .int (nI 0), .int (nI 0), .int (nI 0), .ref qa43, .ref qa51, .ref qa60, .int (nI 0), .ref qa73, .ref qa81])), (qa12, .inl (ka12, 100, .inl (fun _ => 0))), (qa20, .inl (ka20, 100, .inl (fun _ => 0))), (qa43, .inl (ka43, 100, .inl (fun _ => 0))), (qa51, .inl (ka51, 100, .inl (fun _ => 0))), (qa60, .inl (ka60, 10201, .inl (fun _ => 0))), (qa73, .inl (ka73, 100, .inl (fun _ => 0))), (qa81, .inl (ka81, 100, .inl (fun _ => 0)))]) [0, 1, 2, 3, 4, 5, 6, 7] rfl
  have hD9 := hD.sub (ws' := [(h0, .inr (4, [.int (nI 0), .ref qa12, .ref qa20, .int (nI 0), .int (nI 0), .int (nI 0), .ref qa43, .ref qa51, .ref qa60, .int (nI 0), .ref qa73, .ref qa81])), (qa12, .inl (ka12, 100, .inl (fun _ => 0))), (qa20, .inl (ka20, 100, .inl (fun _ => 0))), (qa43, .inl (ka43, 100, .inl (fun _ => 0))), (qa51, .inl (ka51, 100, .inl (fun _ => 0))), (qa60, .inl (ka60, 10201, .inl (fun _ => 0))), (qa73, .inl (ka73, 100, .inl (fun _ => 0))), (qa81, .inl (ka81, 100, .inl (fun _ => 0)))]) [0, 1, 2, 3, 4, 5, 6, 7] (by decide) rfl
  have hK9 := hK.sub (tys' := [(ka12, .int), (ka20, .int), (ka43, .int), (ka51, .int), (ka60, .boolean), (ka73, .int), (ka81, .int)]) [0, 1, 2, 3, 4, 5, 6] rfl
  refine W.widen (k := 7) (n := 10801) (by omega) (by omega) ?_
  exact W.vret hx hb hr (fun t ht hW => ⟨⟨(), rfl, trivial, qa12, qa20, qa43, qa51, qa60, qa73, qa81, ka12, ka20, ka43, ka51, ka60, ka73, ka81, by rw [ht]; exact hP9, va_K.moved hW.alike hK9, hD9⟩, hS.F ht⟩) hS.2.2 dX4_init_86
end
section
theorem sg_lt1 {a b : Int32} (h : ¬ b ≤ a) : sg a b = -1 := (sg_l h).symm
theorem sg_n1 {a b : Int32} (h : b ≤ a) (h2 : ¬ a = b) : sg a b = 1 := by
  rw [sg_ne h2, if_neg]
  rw [ti_le] at h; rw [ti_lt]; omega
theorem snF_0 {v k : Nat → Int32} {nv nk : Nat} (h : dg v nv = 0 ∨ dg k nk = 0) : snF v k nv nk = (if dg v nv = dg k nk then 0 else if dg v nv = 0 then 1 else -1) := if_pos h
theorem snF_ne {v k : Nat → Int32} {nv nk : Nat} (h : ¬ (dg v nv = 0 ∨ dg k nk = 0)) (h2 : ¬ nI (dg v nv - zr v (dg v nv)) = nI (dg k nk - zr k (dg k nk))) : snF v k nv nk = sg (nI (dg v nv - zr v (dg v nv))) (nI (dg k nk - zr k (dg k nk))) := by
  unfold snF; rw [if_neg h, if_neg (fun q => h2 (sg_0.mp q))]
theorem snF_eq {v k : Nat → Int32} {nv nk : Nat} (h : ¬ (dg v nv = 0 ∨ dg k nk = 0)) (h2 : nI (dg v nv - zr v (dg v nv)) = nI (dg k nk - zr k (dg k nk))) : snF v k nv nk = snA v k (dg v nv - zr v (dg v nv)) (zr v (dg v nv)) (zr k (dg k nk)) := by
  unfold snF; rw [if_neg h, if_pos (sg_0.mpr h2)]
end
section
abbrev rm_m_fold : Room := { frames := 0, cells := 0, slots := 0, locals := 0 }
set_option maxHeartbeats 4000000 in
set_option maxRecDepth 100000 in
theorem m_fold (l : Launch) (x cp : Int32) : Met l yX4_folded (.code yX4_folded cX4_folded 2 (some (.int)) :: wsA) rm_m_fold (va_Pc [.int (x), .int (cp)] (fun _ => True)) (vp_Si (fun r => r = fo x cp)) 0 0 (fun _ => False) := by
  refine Met.ofW (cc := cX4_folded) (maxL := 2) (ret := (some (.int))) (by decide) rfl ?_
  intro p e s m args below meth c s₁ B hml hv
  obtain ⟨hargs, -⟩ := hv
  have hx := B.exec
  have hb := B.bytes
  have hr := B.returns
  have hw : ∀ w ∈ wsA, w.before args s = true := fun w h => atoms_spec (ws := (.code yX4_folded cX4_folded 2 (some (.int)) :: wsA)) B.pre w (List.mem_cons_of_mem _ h)
  have hown : s.vm.findClass "GlobDeskModel" = some m.cls := findClass_of_methodNamed B.named
  have hlocks := B.notSynchronized
  generalize hQ : MQ below _ args s _ _ _ = Q
  change W p l e rm_m_fold s m args below meth c s.heap [] 0 0 Q (entryFrame m args 2)
  have hl := lv_entry ([.int (x), .int (cp)]) (n := 2) (Nat.le_of_ble_eq_true rfl)
  rw [show entryFrame m args 2 = entryFrame m ([.int (x), .int (cp)] : List Value).toArray 2 from by rw [hargs], lg_entry_eq]
  generalize (lg_sl ([.int (x), .int (cp)]) ++ List.replicate (2 - (lg_sl ([.int (x), .int (cp)])).length) Slot.unset).toArray = ls at hl ⊢
  have hl : lv_has ls 2 [(0, .int (x)), (1, .int (cp))] := hl
  refine lv_iload_n hx hb dX4_folded_0 rfl (lv_at hl 1 rfl) ?_
  refine lv_if_ne (tgt := 23) hx hb dX4_folded_1 (by decide) (fun c1_0 => ?_) (fun c1_0 => ?_)
  · skip
    have q3 := c1_0
    refine lv_iload_n hx hb dX4_folded_23 rfl (lv_at hl 0 rfl) ?_
    subst hQ
    exact W.iret (v := x) hx hb hr (fun t ht hW => ⟨_, rfl, (by first | (rw [fo_t q1 q2 (by first | exact q3 | exact Decidable.not_not.mp q3)]; done) | exact (fo_c q3).symm | exact (fo_l q1).symm | exact (fo_g q2).symm), ht⟩) (fun _ h => absurd h List.not_mem_nil) dX4_folded_24
  · skip
    have q3 := c1_0
    refine lv_iload_n hx hb dX4_folded_4 rfl (lv_at hl 0 rfl) ?_
    refine lv_bipush (v := 97) hx hb dX4_folded_5 (by decide) ?_
    refine lv_icmp_lt (tgt := 23) hx hb dX4_folded_7 (by decide) (fun c7_1 => ?_) (fun c7_1 => ?_)
    · skip
      have q1 := c7_1
      refine lv_iload_n hx hb dX4_folded_23 rfl (lv_at hl 0 rfl) ?_
      subst hQ
      exact W.iret (v := x) hx hb hr (fun t ht hW => ⟨_, rfl, (by first | (rw [fo_t q1 q2 (by first | exact q3 | exact Decidable.not_not.mp q3)]; done) | exact (fo_c q3).symm | exact (fo_l q1).symm | exact (fo_g q2).symm), ht⟩) (fun _ h => absurd h List.not_mem_nil) dX4_folded_24
    · skip
      have q1 := c7_1
      refine lv_iload_n hx hb dX4_folded_10 rfl (lv_at hl 0 rfl) ?_
      refine lv_bipush (v := 122) hx hb dX4_folded_11 (by decide) ?_
      refine lv_icmp_gt (tgt := 23) hx hb dX4_folded_13 (by decide) (fun c13_2 => ?_) (fun c13_2 => ?_)
      · skip
        have q2 := c13_2
        refine lv_iload_n hx hb dX4_folded_23 rfl (lv_at hl 0 rfl) ?_
        subst hQ
        exact W.iret (v := x) hx hb hr (fun t ht hW => ⟨_, rfl, (by first | (rw [fo_t q1 q2 (by first | exact q3 | exact Decidable.not_not.mp q3)]; done) | exact (fo_c q3).symm | exact (fo_l q1).symm | exact (fo_g q2).symm), ht⟩) (fun _ h => absurd h List.not_mem_nil) dX4_folded_24
      · skip
        have q2 := c13_2
        refine lv_iload_n hx hb dX4_folded_16 rfl (lv_at hl 0 rfl) ?_
        refine lv_bipush (v := 32) hx hb dX4_folded_17 (by decide) ?_
        refine lv_isub hx hb dX4_folded_19 ?_
        refine lv_goto (tgt := 24) hx hb dX4_folded_20 (by decide) ?_
        subst hQ
        exact W.iret (v := (x) - (32)) hx hb hr (fun t ht hW => ⟨_, rfl, (by first | (rw [fo_t q1 q2 (by first | exact q3 | exact Decidable.not_not.mp q3)]; done) | exact (fo_c q3).symm | exact (fo_l q1).symm | exact (fo_g q2).symm), ht⟩) (fun _ h => absurd h List.not_mem_nil) dX4_folded_24

abbrev rm_m_digits : Room := { frames := 0, cells := 0, slots := 0, locals := 0 }
set_option maxHeartbeats 4000000 in
set_option maxRecDepth 100000 in
theorem m_digits (l : Launch) (dC : Nat → ClassId) (dI : Nat → Nat → Nat) (a : Nat) (k : ClassId) (f : Nat → Int32) (n : Nat) (hn : n ≤ 100) : Met l yX4_digits (.code yX4_digits cX4_digits 3 (some (.int)) :: wsA) rm_m_digits (va_Pc [.ref a, .int (nI n)] (ro (dC, dI) [(a, .inl (k, 100, .inl f))] [(k, .int)])) (vp_Si (fun r => r = nI (dg f n))) 0 0 (fun _ => False) := by
  refine Met.ofW (cc := cX4_digits) (maxL := 3) (ret := (some (.int))) (by decide) rfl ?_
  intro p e s m args below meth c s₁ B hml hv
  obtain ⟨hargs, hN, hP, hK⟩ := hv
  have hx := B.exec
  have hb := B.bytes
  have hr := B.returns
  have hw : ∀ w ∈ wsA, w.before args s = true := fun w h => atoms_spec (ws := (.code yX4_digits cX4_digits 3 (some (.int)) :: wsA)) B.pre w (List.mem_cons_of_mem _ h)
  have hown : s.vm.findClass "GlobDeskModel" = some m.cls := findClass_of_methodNamed B.named
  have hlocks := B.notSynchronized
  generalize hQ : MQ below _ args s _ _ _ = Q
  change W p l e rm_m_digits s m args below meth c s.heap [] 0 0 Q (entryFrame m args 3)
  have hl := lv_entry ([.ref a, .int (nI n)]) (n := 3) (Nat.le_of_ble_eq_true rfl)
  rw [show entryFrame m args 3 = entryFrame m ([.ref a, .int (nI n)] : List Value).toArray 3 from by rw [hargs], lg_entry_eq]
  generalize (lg_sl ([.ref a, .int (nI n)]) ++ List.replicate (3 - (lg_sl ([.ref a, .int (nI n)])).length) Slot.unset).toArray = ls at hl ⊢
  have hl : lv_has ls 3 [(0, .ref a), (1, .int (nI n))] := hl
  refine lv_iconst (v := 0) hx hb dX4_digits_0 (by decide) ?_
  refine lv_topi (fun x1 ex1 => ?_)
  obtain rfl : x1 = nI 0 := by rw [ex1]; exact nI_0.symm
  refine lv_istore_n (lv' := [(2, .int (nI 0)), (0, .ref a), (1, .int (nI n))]) hx hb dX4_digits_1 rfl hl (by decide) rfl (fun ls hl => ?_)
  have loop2 : ∀ (nn2 : Nat) (i : Nat) (hi : i ≤ n) (e9 : cnt (fun j => dgb (f j)) (n - i) i = dg f n) (_ : n - i < nn2) (ls : Array Slot) (_ : lv_has ls 3 [(0, .ref a), (1, .int (nI n)), (2, .int (nI i))]), W p l e rm_m_digits s m args below meth c s.heap [] 0 0 Q (F0 m 2 ls []) := by
    intro nn2
    induction nn2 with
    | zero => intro i hi e9 hm2 ls hl; exact absurd hm2 (Nat.not_lt_zero _)
    | succ nn2 ih2 =>
      intro i hi e9 hm2 ls hl
      refine lv_iload_n hx hb dX4_digits_2 rfl (lv_at hl 2 rfl) ?_
      refine lv_iload_n hx hb dX4_digits_3 rfl (lv_at hl 1 rfl) ?_
      refine lv_icmp_ge (tgt := 29) hx hb dX4_digits_4 (by decide) (fun c4_1 => ?_) (fun c4_1 => ?_)
      · skip
        rw [ti_le, nI_toInt (by omega), nI_toInt (by omega)] at c4_1
        have e8 : i = n := by omega
        refine lv_iload_n hx hb dX4_digits_29 rfl (lv_at hl 2 rfl) ?_
        subst hQ
        exact W.iret (v := (nI i)) hx hb hr (fun t ht hW => ⟨_, rfl, (by first | (rw [← e9, cnt_stop d1]) | (subst e8; rw [← e9, Nat.sub_self]; rfl)), ht⟩) (fun _ h => absurd h List.not_mem_nil) dX4_digits_30
      · skip
        rw [ti_le, nI_toInt (by omega), nI_toInt (by omega)] at c4_1
        refine lv_aload_n hx hb dX4_digits_7 rfl (lv_at hl 0 rfl) ?_
        refine lv_iload_n hx hb dX4_digits_8 rfl (lv_at hl 2 rfl) ?_
        refine va_iald hx hb hK hP 0 0 rfl rfl (i := (nI i)) (vp_in_nI (by omega) (by omega)) dX4_digits_9 ?_
        refine lv_topi (fun x3 ex3 => ?_)
        obtain rfl : x3 = f i := by rw [ex3, nI_clamp (by omega)]
        refine lv_bipush (v := 48) hx hb dX4_digits_10 (by decide) ?_
        refine lv_icmp_lt (tgt := 29) hx hb dX4_digits_12 (by decide) (fun c12_3 => ?_) (fun c12_3 => ?_)
        · skip
          have d1 := dgb_lt c12_3
          refine lv_iload_n hx hb dX4_digits_29 rfl (lv_at hl 2 rfl) ?_
          subst hQ
          exact W.iret (v := (nI i)) hx hb hr (fun t ht hW => ⟨_, rfl, (by first | (rw [← e9, cnt_stop d1]) | (subst e8; rw [← e9, Nat.sub_self]; rfl)), ht⟩) (fun _ h => absurd h List.not_mem_nil) dX4_digits_30
        · skip
          have d1 := c12_3
          refine lv_aload_n hx hb dX4_digits_15 rfl (lv_at hl 0 rfl) ?_
          refine lv_iload_n hx hb dX4_digits_16 rfl (lv_at hl 2 rfl) ?_
          refine va_iald hx hb hK hP 0 0 rfl rfl (i := (nI i)) (vp_in_nI (by omega) (by omega)) dX4_digits_17 ?_
          refine lv_topi (fun x5 ex5 => ?_)
          obtain rfl : x5 = f i := by rw [ex5, nI_clamp (by omega)]
          refine lv_bipush (v := 57) hx hb dX4_digits_18 (by decide) ?_
          refine lv_icmp_gt (tgt := 29) hx hb dX4_digits_20 (by decide) (fun c20_5 => ?_) (fun c20_5 => ?_)
          · skip
            have d1 := dgb_gt c20_5
            refine lv_iload_n hx hb dX4_digits_29 rfl (lv_at hl 2 rfl) ?_
            subst hQ
            exact W.iret (v := (nI i)) hx hb hr (fun t ht hW => ⟨_, rfl, (by first | (rw [← e9, cnt_stop d1]) | (subst e8; rw [← e9, Nat.sub_self]; rfl)), ht⟩) (fun _ h => absurd h List.not_mem_nil) dX4_digits_30
          · skip
            have d2 := c20_5
            refine lv_iinc (v := nI (i + 1)) (lv' := [(2, .int (nI (i + 1))), (0, .ref a), (1, .int (nI n))]) hx hb dX4_digits_23 hl (k := 2) rfl (nI_inc i) (by decide) rfl (fun ls hl => ?_)
            refine lv_goto (tgt := 2) hx hb dX4_digits_26 (by decide) ?_
            exact ih2 (i + 1) (by omega) ((cnt_step (p := fun j => dgb (f j)) (k := n - i) (i := i) (dgb_in d1 d2) (by omega)).symm.trans e9) (by omega) ls (lv_sub hl [1, 2, 0] rfl)
  exact loop2 (n + 1) 0 (Nat.zero_le _) rfl (by omega) ls (lv_sub hl [1, 2, 0] rfl)

abbrev rm_m_zeros : Room := { frames := 0, cells := 0, slots := 0, locals := 0 }
set_option maxHeartbeats 4000000 in
set_option maxRecDepth 100000 in
theorem m_zeros (l : Launch) (dC : Nat → ClassId) (dI : Nat → Nat → Nat) (a : Nat) (k : ClassId) (f : Nat → Int32) (n : Nat) (hn : n ≤ 100) : Met l yX4_zeros (.code yX4_zeros cX4_zeros 3 (some (.int)) :: wsA) rm_m_zeros (va_Pc [.ref a, .int (nI n)] (ro (dC, dI) [(a, .inl (k, 100, .inl f))] [(k, .int)])) (vp_Si (fun r => r = nI (zr f n))) 0 0 (fun _ => False) := by
  refine Met.ofW (cc := cX4_zeros) (maxL := 3) (ret := (some (.int))) (by decide) rfl ?_
  intro p e s m args below meth c s₁ B hml hv
  obtain ⟨hargs, hN, hP, hK⟩ := hv
  have hx := B.exec
  have hb := B.bytes
  have hr := B.returns
  have hw : ∀ w ∈ wsA, w.before args s = true := fun w h => atoms_spec (ws := (.code yX4_zeros cX4_zeros 3 (some (.int)) :: wsA)) B.pre w (List.mem_cons_of_mem _ h)
  have hown : s.vm.findClass "GlobDeskModel" = some m.cls := findClass_of_methodNamed B.named
  have hlocks := B.notSynchronized
  generalize hQ : MQ below _ args s _ _ _ = Q
  change W p l e rm_m_zeros s m args below meth c s.heap [] 0 0 Q (entryFrame m args 3)
  have hl := lv_entry ([.ref a, .int (nI n)]) (n := 3) (Nat.le_of_ble_eq_true rfl)
  rw [show entryFrame m args 3 = entryFrame m ([.ref a, .int (nI n)] : List Value).toArray 3 from by rw [hargs], lg_entry_eq]
  generalize (lg_sl ([.ref a, .int (nI n)]) ++ List.replicate (3 - (lg_sl ([.ref a, .int (nI n)])).length) Slot.unset).toArray = ls at hl ⊢
  have hl : lv_has ls 3 [(0, .ref a), (1, .int (nI n))] := hl
  refine lv_iconst (v := 0) hx hb dX4_zeros_0 (by decide) ?_
  refine lv_topi (fun x1 ex1 => ?_)
  obtain rfl : x1 = nI 0 := by rw [ex1]; exact nI_0.symm
  refine lv_istore_n (lv' := [(2, .int (nI 0)), (0, .ref a), (1, .int (nI n))]) hx hb dX4_zeros_1 rfl hl (by decide) rfl (fun ls hl => ?_)
  have loop2 : ∀ (nn2 : Nat) (i : Nat) (hi : i ≤ n) (e9 : cnt (fun j => decide (f j = 48)) (n - i) i = zr f n) (_ : n - i < nn2) (ls : Array Slot) (_ : lv_has ls 3 [(0, .ref a), (1, .int (nI n)), (2, .int (nI i))]), W p l e rm_m_zeros s m args below meth c s.heap [] 0 0 Q (F0 m 2 ls []) := by
    intro nn2
    induction nn2 with
    | zero => intro i hi e9 hm2 ls hl; exact absurd hm2 (Nat.not_lt_zero _)
    | succ nn2 ih2 =>
      intro i hi e9 hm2 ls hl
      refine lv_iload_n hx hb dX4_zeros_2 rfl (lv_at hl 2 rfl) ?_
      refine lv_iload_n hx hb dX4_zeros_3 rfl (lv_at hl 1 rfl) ?_
      refine lv_icmp_ge (tgt := 21) hx hb dX4_zeros_4 (by decide) (fun c4_1 => ?_) (fun c4_1 => ?_)
      · skip
        rw [ti_le, nI_toInt (by omega), nI_toInt (by omega)] at c4_1
        have e8 : i = n := by omega
        refine lv_iload_n hx hb dX4_zeros_21 rfl (lv_at hl 2 rfl) ?_
        subst hQ
        exact W.iret (v := (nI i)) hx hb hr (fun t ht hW => ⟨_, rfl, (by first | (rw [← e9, cnt_stop (decide_eq_false d1)]) | (subst e8; rw [← e9, Nat.sub_self]; rfl)), ht⟩) (fun _ h => absurd h List.not_mem_nil) dX4_zeros_22
      · skip
        rw [ti_le, nI_toInt (by omega), nI_toInt (by omega)] at c4_1
        refine lv_aload_n hx hb dX4_zeros_7 rfl (lv_at hl 0 rfl) ?_
        refine lv_iload_n hx hb dX4_zeros_8 rfl (lv_at hl 2 rfl) ?_
        refine va_iald hx hb hK hP 0 0 rfl rfl (i := (nI i)) (vp_in_nI (by omega) (by omega)) dX4_zeros_9 ?_
        refine lv_topi (fun x3 ex3 => ?_)
        obtain rfl : x3 = f i := by rw [ex3, nI_clamp (by omega)]
        refine lv_bipush (v := 48) hx hb dX4_zeros_10 (by decide) ?_
        refine lv_icmp_ne (tgt := 21) hx hb dX4_zeros_12 (by decide) (fun c12_3 => ?_) (fun c12_3 => ?_)
        · skip
          have d1 := c12_3
          refine lv_iload_n hx hb dX4_zeros_21 rfl (lv_at hl 2 rfl) ?_
          subst hQ
          exact W.iret (v := (nI i)) hx hb hr (fun t ht hW => ⟨_, rfl, (by first | (rw [← e9, cnt_stop (decide_eq_false d1)]) | (subst e8; rw [← e9, Nat.sub_self]; rfl)), ht⟩) (fun _ h => absurd h List.not_mem_nil) dX4_zeros_22
        · skip
          have d1 := c12_3
          refine lv_iinc (v := nI (i + 1)) (lv' := [(2, .int (nI (i + 1))), (0, .ref a), (1, .int (nI n))]) hx hb dX4_zeros_15 hl (k := 2) rfl (nI_inc i) (by decide) rfl (fun ls hl => ?_)
          refine lv_goto (tgt := 2) hx hb dX4_zeros_18 (by decide) ?_
          exact ih2 (i + 1) (by omega) ((cnt_step (p := fun j => decide (f j = 48)) (k := n - i) (i := i) (decide_eq_true (by first | exact d1 | exact Decidable.not_not.mp d1)) (by omega)).symm.trans e9) (by omega) ls (lv_sub hl [1, 2, 0] rfl)
  exact loop2 (n + 1) 0 (Nat.zero_le _) rfl (by omega) ls (lv_sub hl [1, 2, 0] rfl)

abbrev rm_m_byN : Room := { frames := 1, cells := 0, slots := 0, locals := 22 }
set_option maxHeartbeats 4000000 in
set_option maxRecDepth 100000 in
theorem m_byN (l : Launch) (dC : Nat → ClassId) (dI : Nat → Nat → Nat) (mo mv mk ms ml mc mf mn : Nat) (jv jk js jl jc jf jn : ClassId) (fv fk gs gl gc gf gn : Nat → Int32) (nv nk sn ct : Nat) (th : Int32) (hv : nv ≤ 100) (hk : nk ≤ 100) : Met l yX4_byNumbers (.code yX4_byNumbers cX4_byNumbers 5 (some (.int)) :: wsA) rm_m_byN (va_Pc [.ref mo] (ro (dC, dI) [(mo, .inr (4, [.int (th), .ref mv, .ref mk, .int (nI nv), .int (nI nk), .int (nI sn), .ref ms, .ref ml, .ref mc, .int (nI ct), .ref mf, .ref mn])), (mv, .inl (jv, 100, .inl fv)), (mk, .inl (jk, 100, .inl fk)), (ms, .inl (js, 100, .inl gs)), (ml, .inl (jl, 100, .inl gl)), (mc, .inl (jc, 10201, .inl gc)), (mf, .inl (jf, 100, .inl gf)), (mn, .inl (jn, 100, .inl gn))] [(jv, .int), (jk, .int), (js, .int), (jl, .int), (jc, .boolean), (jf, .int), (jn, .int)])) (vp_Si (fun r => r = snF fv fk nv nk)) 0 0 (fun _ => False) := by
  refine Met.ofW (cc := cX4_byNumbers) (maxL := 5) (ret := (some (.int))) (by decide) rfl ?_
  intro p e s m args below meth c s₁ B hml hv
  obtain ⟨hargs, hN, hP, hK⟩ := hv
  have hx := B.exec
  have hb := B.bytes
  have hr := B.returns
  have hw : ∀ w ∈ wsA, w.before args s = true := fun w h => atoms_spec (ws := (.code yX4_byNumbers cX4_byNumbers 5 (some (.int)) :: wsA)) B.pre w (List.mem_cons_of_mem _ h)
  have hown : s.vm.findClass "GlobDeskModel" = some m.cls := findClass_of_methodNamed B.named
  have hlocks := B.notSynchronized
  generalize hQ : MQ below _ args s _ _ _ = Q
  change W p l e rm_m_byN s m args below meth c s.heap [] 0 0 Q (entryFrame m args 5)
  have hl := lv_entry ([.ref mo]) (n := 5) (Nat.le_of_ble_eq_true rfl)
  rw [show entryFrame m args 5 = entryFrame m ([.ref mo] : List Value).toArray 5 from by rw [hargs], lg_entry_eq]
  generalize (lg_sl ([.ref mo]) ++ List.replicate (5 - (lg_sl ([.ref mo])).length) Slot.unset).toArray = ls at hl ⊢
  have hl : lv_has ls 5 [(0, .ref mo)] := hl
  have hdv := dg_le fv nv
  have hdk := dg_le fk nk
  have hzv := zr_le fv (dg fv nv)
  have hzk := zr_le fk (dg fk nk)
  refine lv_aload_n hx hb dX4_byNumbers_0 rfl (lv_at hl 0 rfl) ?_
  refine va_get (D := (dC, dI)) (ci := 4) (v := .ref mv) (C := RX4) (T := TX4) (N := 12) hx hb hw inX4 hown hK hP 0 rfl rfl 1 (by decide) (hw _ mw245) (fun _ h9 => h9) rfl dX4_byNumbers_1 ?_
  refine lv_aload_n hx hb dX4_byNumbers_4 rfl (lv_at hl 0 rfl) ?_
  refine va_get (D := (dC, dI)) (ci := 4) (v := .int (nI nv)) (C := RX4) (T := TX4) (N := 12) hx hb hw inX4 hown hK hP 0 rfl rfl 3 (by decide) (hw _ mw247) (fun _ h9 => h9) rfl dX4_byNumbers_5 ?_
  refine vp_callSi (va_Run.run (va_runS (As := [.ref mv, .int (nI nv)]) (rest := []) ⟨hx, hb, hml, hown, hw⟩ (m_digits l dC dI mv jv fv nv (by omega)) (cwS 2 hw (gS mw302 mw303 mw20 mw304) rfl rfl rfl (by decide +kernel) ⟨Nat.le_of_ble_eq_true rfl, Nat.le_of_ble_eq_true rfl⟩) (ro.S hN (hK.sub (tys' := [(jv, .int)]) [0] rfl) (hP.sub (ws' := [(mv, .inl (jv, 100, .inl fv))]) [1] rfl)) rfl rfl hl.1 rfl (lv_room (Nat.le_of_ble_eq_true rfl)) dX4_byNumbers_8 ⟨Nat.le_of_ble_eq_true rfl, Nat.le_of_ble_eq_true rfl⟩)) (fun r1 hr1 => ?_)
  subst hr1
  refine lv_istore_n (lv' := [(1, .int (nI (dg fv nv))), (0, .ref mo)]) hx hb dX4_byNumbers_11 rfl hl (by decide) rfl (fun ls hl => ?_)
  refine lv_aload_n hx hb dX4_byNumbers_12 rfl (lv_at hl 1 rfl) ?_
  refine va_get (D := (dC, dI)) (ci := 4) (v := .ref mk) (C := RX4) (T := TX4) (N := 12) hx hb hw inX4 hown hK hP 0 rfl rfl 2 (by decide) (hw _ mw246) (fun _ h9 => h9) rfl dX4_byNumbers_13 ?_
  refine lv_aload_n hx hb dX4_byNumbers_16 rfl (lv_at hl 1 rfl) ?_
  refine va_get (D := (dC, dI)) (ci := 4) (v := .int (nI nk)) (C := RX4) (T := TX4) (N := 12) hx hb hw inX4 hown hK hP 0 rfl rfl 4 (by decide) (hw _ mw248) (fun _ h9 => h9) rfl dX4_byNumbers_17 ?_
  refine vp_callSi (va_Run.run (va_runS (As := [.ref mk, .int (nI nk)]) (rest := []) ⟨hx, hb, hml, hown, hw⟩ (m_digits l dC dI mk jk fk nk (by omega)) (cwS 2 hw (gS mw302 mw303 mw20 mw304) rfl rfl rfl (by decide +kernel) ⟨Nat.le_of_ble_eq_true rfl, Nat.le_of_ble_eq_true rfl⟩) (ro.S hN (hK.sub (tys' := [(jk, .int)]) [1] rfl) (hP.sub (ws' := [(mk, .inl (jk, 100, .inl fk))]) [2] rfl)) rfl rfl hl.1 rfl (lv_room (Nat.le_of_ble_eq_true rfl)) dX4_byNumbers_20 ⟨Nat.le_of_ble_eq_true rfl, Nat.le_of_ble_eq_true rfl⟩)) (fun r2 hr2 => ?_)
  subst hr2
  refine lv_istore_n (lv' := [(2, .int (nI (dg fk nk))), (1, .int (nI (dg fv nv))), (0, .ref mo)]) hx hb dX4_byNumbers_23 rfl hl (by decide) rfl (fun ls hl => ?_)
  refine lv_iload_n hx hb dX4_byNumbers_24 rfl (lv_at hl 1 rfl) ?_
  refine lv_if_eq (tgt := 32) hx hb dX4_byNumbers_25 (by decide) (fun c25_2 => ?_) (fun c25_2 => ?_)
  · skip
    have za : dg fv nv = 0 := by rw [ti_eq, nI_toInt (by omega), tc_0] at c25_2; omega
    refine lv_iload_n hx hb dX4_byNumbers_32 rfl (lv_at hl 1 rfl) ?_
    refine lv_iload_n hx hb dX4_byNumbers_33 rfl (lv_at hl 0 rfl) ?_
    refine lv_icmp_ne (tgt := 41) hx hb dX4_byNumbers_34 (by decide) (fun c34_3 => ?_) (fun c34_3 => ?_)
    · skip
      have zq : ¬ dg fv nv = dg fk nk := fun q => c34_3 (by rw [q])
      refine lv_iload_n hx hb dX4_byNumbers_41 rfl (lv_at hl 1 rfl) ?_
      refine lv_if_ne (tgt := 49) hx hb dX4_byNumbers_42 (by decide) (fun c42_4 => ?_) (fun c42_4 => ?_)
      · skip
        exact absurd (by rw [ti_eq, nI_toInt (by omega), tc_0]; omega) c42_4
      · skip
        have za : dg fv nv = 0 := by rw [ti_eq, nI_toInt (by omega), tc_0] at c42_4; omega
        refine lv_iconst (v := 1) hx hb dX4_byNumbers_45 (by decide) ?_
        refine lv_goto (tgt := 50) hx hb dX4_byNumbers_46 (by decide) ?_
        subst hQ
        exact W.iret (v := 1) hx hb hr (fun t ht hW => ⟨_, rfl, (by rw [snF_0 (by omega)]; first | (rw [if_pos zq]; done) | (rw [if_neg zq, if_pos (by omega)]; done) | (rw [if_neg zq, if_neg (by omega)]; done)), ht⟩) (fun _ h => absurd h List.not_mem_nil) dX4_byNumbers_50
    · skip
      have zq : dg fv nv = dg fk nk := (nI_eq (by omega) (by omega)).mp (by first | exact c34_3 | exact Decidable.not_not.mp c34_3)
      refine lv_iconst (v := 0) hx hb dX4_byNumbers_37 (by decide) ?_
      refine lv_goto (tgt := 50) hx hb dX4_byNumbers_38 (by decide) ?_
      subst hQ
      exact W.iret (v := 0) hx hb hr (fun t ht hW => ⟨_, rfl, (by rw [snF_0 (by omega)]; first | (rw [if_pos zq]; done) | (rw [if_neg zq, if_pos (by omega)]; done) | (rw [if_neg zq, if_neg (by omega)]; done)), ht⟩) (fun _ h => absurd h List.not_mem_nil) dX4_byNumbers_50
  · skip
    have za : ¬ dg fv nv = 0 := by rw [ti_eq, nI_toInt (by omega), tc_0] at c25_2; omega
    refine lv_iload_n hx hb dX4_byNumbers_28 rfl (lv_at hl 0 rfl) ?_
    refine lv_if_ne (tgt := 51) hx hb dX4_byNumbers_29 (by decide) (fun c29_5 => ?_) (fun c29_5 => ?_)
    · skip
      have zb : ¬ dg fk nk = 0 := by rw [ti_eq, nI_toInt (by omega), tc_0] at c29_5; omega
      refine lv_aload_n hx hb dX4_byNumbers_51 rfl (lv_at hl 2 rfl) ?_
      refine va_get (D := (dC, dI)) (ci := 4) (v := .ref mv) (C := RX4) (T := TX4) (N := 12) hx hb hw inX4 hown hK hP 0 rfl rfl 1 (by decide) (hw _ mw245) (fun _ h9 => h9) rfl dX4_byNumbers_52 ?_
      refine lv_iload_n hx hb dX4_byNumbers_55 rfl (lv_at hl 1 rfl) ?_
      refine vp_callSi (va_Run.run (va_runS (As := [.ref mv, .int (nI (dg fv nv))]) (rest := []) ⟨hx, hb, hml, hown, hw⟩ (m_zeros l dC dI mv jv fv (dg fv nv) (by omega)) (cwS 2 hw (gS mw305 mw306 mw20 mw307) rfl rfl rfl (by decide +kernel) ⟨Nat.le_of_ble_eq_true rfl, Nat.le_of_ble_eq_true rfl⟩) (ro.S hN (hK.sub (tys' := [(jv, .int)]) [0] rfl) (hP.sub (ws' := [(mv, .inl (jv, 100, .inl fv))]) [1] rfl)) rfl rfl hl.1 rfl (lv_room (Nat.le_of_ble_eq_true rfl)) dX4_byNumbers_56 ⟨Nat.le_of_ble_eq_true rfl, Nat.le_of_ble_eq_true rfl⟩)) (fun r7 hr7 => ?_)
      subst hr7
      refine lv_istore_n (lv' := [(3, .int (nI (zr fv (dg fv nv)))), (2, .int (nI (dg fk nk))), (1, .int (nI (dg fv nv))), (0, .ref mo)]) hx hb dX4_byNumbers_59 rfl hl (by decide) rfl (fun ls hl => ?_)
      refine lv_aload_n hx hb dX4_byNumbers_60 rfl (lv_at hl 3 rfl) ?_
      refine va_get (D := (dC, dI)) (ci := 4) (v := .ref mk) (C := RX4) (T := TX4) (N := 12) hx hb hw inX4 hown hK hP 0 rfl rfl 2 (by decide) (hw _ mw246) (fun _ h9 => h9) rfl dX4_byNumbers_61 ?_
      refine lv_iload_n hx hb dX4_byNumbers_64 rfl (lv_at hl 1 rfl) ?_
      refine vp_callSi (va_Run.run (va_runS (As := [.ref mk, .int (nI (dg fk nk))]) (rest := []) ⟨hx, hb, hml, hown, hw⟩ (m_zeros l dC dI mk jk fk (dg fk nk) (by omega)) (cwS 2 hw (gS mw305 mw306 mw20 mw307) rfl rfl rfl (by decide +kernel) ⟨Nat.le_of_ble_eq_true rfl, Nat.le_of_ble_eq_true rfl⟩) (ro.S hN (hK.sub (tys' := [(jk, .int)]) [1] rfl) (hP.sub (ws' := [(mk, .inl (jk, 100, .inl fk))]) [2] rfl)) rfl rfl hl.1 rfl (lv_room (Nat.le_of_ble_eq_true rfl)) dX4_byNumbers_65 ⟨Nat.le_of_ble_eq_true rfl, Nat.le_of_ble_eq_true rfl⟩)) (fun r8 hr8 => ?_)
      subst hr8
      refine lv_istore (lv' := [(4, .int (nI (zr fk (dg fk nk)))), (3, .int (nI (zr fv (dg fv nv)))), (2, .int (nI (dg fk nk))), (1, .int (nI (dg fv nv))), (0, .ref mo)]) hx hb dX4_byNumbers_68 hl (by decide) rfl (fun ls hl => ?_)
      refine lv_iload_n hx hb dX4_byNumbers_70 rfl (lv_at hl 3 rfl) ?_
      refine lv_iload_n hx hb dX4_byNumbers_71 rfl (lv_at hl 1 rfl) ?_
      refine lv_isub hx hb dX4_byNumbers_72 ?_
      refine lv_topi (fun x9 ex9 => ?_)
      obtain rfl : x9 = nI (dg fv nv - zr fv (dg fv nv)) := by rw [ex9, pk_sub hzv]
      refine lv_iload_n hx hb dX4_byNumbers_73 rfl (lv_at hl 2 rfl) ?_
      refine lv_iload hx hb dX4_byNumbers_74 (lv_at hl 0 rfl) ?_
      refine lv_isub hx hb dX4_byNumbers_76 ?_
      refine lv_topi (fun x10 ex10 => ?_)
      obtain rfl : x10 = nI (dg fk nk - zr fk (dg fk nk)) := by rw [ex10, pk_sub hzk]
      refine lv_icmp_eq (tgt := 96) hx hb dX4_byNumbers_77 (by decide) (fun c77_10 => ?_) (fun c77_10 => ?_)
      · skip
        have zs := c77_10
        have loop96 : ∀ (nn96 : Nat) (i : Nat) (hi : i ≤ dg fv nv - zr fv (dg fv nv)) (e9 : snA fv fk (dg fv nv - zr fv (dg fv nv) - i) (zr fv (dg fv nv) + i) (zr fk (dg fk nk) + i) = snF fv fk nv nk) (_ : dg fv nv - i < nn96) (ls : Array Slot) (_ : lv_has ls 5 [(0, .ref mo), (1, .int (nI (dg fv nv))), (3, .int (nI (zr fv (dg fv nv) + i))), (4, .int (nI (zr fk (dg fk nk) + i)))]), W p l e rm_m_byN s m args below meth c s.heap [] 0 0 Q (F0 m 96 ls []) := by
          intro nn96
          induction nn96 with
          | zero => intro i hi e9 hm96 ls hl; exact absurd hm96 (Nat.not_lt_zero _)
          | succ nn96 ih96 =>
            intro i hi e9 hm96 ls hl
            have zs2 := (nI_eq (by omega) (by omega)).mp zs
            refine lv_iload_n hx hb dX4_byNumbers_96 rfl (lv_at hl 2 rfl) ?_
            refine lv_iload_n hx hb dX4_byNumbers_97 rfl (lv_at hl 1 rfl) ?_
            refine lv_icmp_ge (tgt := 148) hx hb dX4_byNumbers_98 (by decide) (fun c98_11 => ?_) (fun c98_11 => ?_)
            · skip
              rw [ti_le, nI_toInt (by omega), nI_toInt (by omega)] at c98_11
              have e8 : dg fv nv - zr fv (dg fv nv) - i = 0 := by omega
              refine lv_iconst (v := 0) hx hb dX4_byNumbers_148 (by decide) ?_
              subst hQ
              exact W.iret (v := 0) hx hb hr (fun t ht hW => ⟨_, rfl, (by rw [← e9, e8]; rfl), ht⟩) (fun _ h => absurd h List.not_mem_nil) dX4_byNumbers_149
            · skip
              rw [ti_le, nI_toInt (by omega), nI_toInt (by omega)] at c98_11
              refine lv_aload_n hx hb dX4_byNumbers_101 rfl (lv_at hl 0 rfl) ?_
              refine va_get (D := (dC, dI)) (ci := 4) (v := .ref mv) (C := RX4) (T := TX4) (N := 12) hx hb hw inX4 hown hK hP 0 rfl rfl 1 (by decide) (hw _ mw245) (fun _ h9 => h9) rfl dX4_byNumbers_102 ?_
              refine lv_iload_n hx hb dX4_byNumbers_105 rfl (lv_at hl 2 rfl) ?_
              refine va_iald hx hb hK hP 1 0 rfl rfl (i := (nI (zr fv (dg fv nv) + i))) (vp_in_nI (by omega) (by omega)) dX4_byNumbers_106 ?_
              refine lv_topi (fun x13 ex13 => ?_)
              obtain rfl : x13 = fv (zr fv (dg fv nv) + i) := by rw [ex13, nI_clamp (by omega)]
              refine lv_aload_n hx hb dX4_byNumbers_107 rfl (lv_at hl 0 rfl) ?_
              refine va_get (D := (dC, dI)) (ci := 4) (v := .ref mk) (C := RX4) (T := TX4) (N := 12) hx hb hw inX4 hown hK hP 0 rfl rfl 2 (by decide) (hw _ mw246) (fun _ h9 => h9) rfl dX4_byNumbers_108 ?_
              refine lv_iload hx hb dX4_byNumbers_111 (lv_at hl 3 rfl) ?_
              refine va_iald hx hb hK hP 2 1 rfl rfl (i := (nI (zr fk (dg fk nk) + i))) (vp_in_nI (by omega) (by omega)) dX4_byNumbers_113 ?_
              refine lv_topi (fun x14 ex14 => ?_)
              obtain rfl : x14 = fk (zr fk (dg fk nk) + i) := by rw [ex14, nI_clamp (by omega)]
              refine lv_icmp_eq (tgt := 139) hx hb dX4_byNumbers_114 (by decide) (fun c114_14 => ?_) (fun c114_14 => ?_)
              · skip
                have d1 := sg_0.mpr c114_14
                refine lv_iinc (v := nI (zr fv (dg fv nv) + (i + 1))) (lv' := [(3, .int (nI (zr fv (dg fv nv) + (i + 1)))), (0, .ref mo), (1, .int (nI (dg fv nv))), (4, .int (nI (zr fk (dg fk nk) + i)))]) hx hb dX4_byNumbers_139 hl (k := 2) rfl (nI_inc (zr fv (dg fv nv) + i)) (by decide) rfl (fun ls hl => ?_)
                refine lv_iinc (v := nI (zr fk (dg fk nk) + (i + 1))) (lv' := [(4, .int (nI (zr fk (dg fk nk) + (i + 1)))), (3, .int (nI (zr fv (dg fv nv) + (i + 1)))), (0, .ref mo), (1, .int (nI (dg fv nv)))]) hx hb dX4_byNumbers_142 hl (k := 3) rfl (nI_inc (zr fk (dg fk nk) + i)) (by decide) rfl (fun ls hl => ?_)
                refine lv_goto (tgt := 96) hx hb dX4_byNumbers_145 (by decide) ?_
                exact ih96 (i + 1) (by omega) ((snA_next (r := dg fv nv - zr fv (dg fv nv) - i) (by omega) d1).symm.trans e9) (by omega) ls (lv_sub hl [2, 3, 1, 0] rfl)
              · skip
                have d1 := c114_14
                refine lv_aload_n hx hb dX4_byNumbers_117 rfl (lv_at hl 0 rfl) ?_
                refine va_get (D := (dC, dI)) (ci := 4) (v := .ref mv) (C := RX4) (T := TX4) (N := 12) hx hb hw inX4 hown hK hP 0 rfl rfl 1 (by decide) (hw _ mw245) (fun _ h9 => h9) rfl dX4_byNumbers_118 ?_
                refine lv_iload_n hx hb dX4_byNumbers_121 rfl (lv_at hl 2 rfl) ?_
                refine va_iald hx hb hK hP 1 0 rfl rfl (i := (nI (zr fv (dg fv nv) + i))) (vp_in_nI (by omega) (by omega)) dX4_byNumbers_122 ?_
                refine lv_topi (fun x16 ex16 => ?_)
                obtain rfl : x16 = fv (zr fv (dg fv nv) + i) := by rw [ex16, nI_clamp (by omega)]
                refine lv_aload_n hx hb dX4_byNumbers_123 rfl (lv_at hl 0 rfl) ?_
                refine va_get (D := (dC, dI)) (ci := 4) (v := .ref mk) (C := RX4) (T := TX4) (N := 12) hx hb hw inX4 hown hK hP 0 rfl rfl 2 (by decide) (hw _ mw246) (fun _ h9 => h9) rfl dX4_byNumbers_124 ?_
                refine lv_iload hx hb dX4_byNumbers_127 (lv_at hl 3 rfl) ?_
                refine va_iald hx hb hK hP 2 1 rfl rfl (i := (nI (zr fk (dg fk nk) + i))) (vp_in_nI (by omega) (by omega)) dX4_byNumbers_129 ?_
                refine lv_topi (fun x17 ex17 => ?_)
                obtain rfl : x17 = fk (zr fk (dg fk nk) + i) := by rw [ex17, nI_clamp (by omega)]
                refine lv_icmp_ge (tgt := 137) hx hb dX4_byNumbers_130 (by decide) (fun c130_17 => ?_) (fun c130_17 => ?_)
                · skip
                  have d2 := c130_17
                  refine lv_iconst (v := 1) hx hb dX4_byNumbers_137 (by decide) ?_
                  subst hQ
                  exact W.iret (v := 1) hx hb hr (fun t ht hW => ⟨_, rfl, (by rw [← e9, snA_hit (by omega) (fun q => d1 (sg_0.mp q))]; first | exact (sg_lt1 d2).symm | exact (sg_n1 d2 d1).symm), ht⟩) (fun _ h => absurd h List.not_mem_nil) dX4_byNumbers_138
                · skip
                  have d2 := c130_17
                  refine lv_iconst (v := -1) hx hb dX4_byNumbers_133 (by decide) ?_
                  refine lv_goto (tgt := 138) hx hb dX4_byNumbers_134 (by decide) ?_
                  subst hQ
                  exact W.iret (v := (-1)) hx hb hr (fun t ht hW => ⟨_, rfl, (by rw [← e9, snA_hit (by omega) (fun q => d1 (sg_0.mp q))]; first | exact (sg_lt1 d2).symm | exact (sg_n1 d2 d1).symm), ht⟩) (fun _ h => absurd h List.not_mem_nil) dX4_byNumbers_138
        exact loop96 (dg fv nv + 1) 0 (Nat.zero_le _) (by rw [snF_eq (by omega) zs]; rfl) (by omega) ls (lv_sub hl [4, 3, 1, 0] rfl)
      · skip
        have zs := c77_10
        refine lv_iload_n hx hb dX4_byNumbers_80 rfl (lv_at hl 3 rfl) ?_
        refine lv_iload_n hx hb dX4_byNumbers_81 rfl (lv_at hl 1 rfl) ?_
        refine lv_isub hx hb dX4_byNumbers_82 ?_
        refine lv_topi (fun x19 ex19 => ?_)
        obtain rfl : x19 = nI (dg fv nv - zr fv (dg fv nv)) := by rw [ex19, pk_sub hzv]
        refine lv_iload_n hx hb dX4_byNumbers_83 rfl (lv_at hl 2 rfl) ?_
        refine lv_iload hx hb dX4_byNumbers_84 (lv_at hl 0 rfl) ?_
        refine lv_isub hx hb dX4_byNumbers_86 ?_
        refine lv_topi (fun x20 ex20 => ?_)
        obtain rfl : x20 = nI (dg fk nk - zr fk (dg fk nk)) := by rw [ex20, pk_sub hzk]
        refine lv_icmp_ge (tgt := 94) hx hb dX4_byNumbers_87 (by decide) (fun c87_20 => ?_) (fun c87_20 => ?_)
        · skip
          have zt := c87_20
          refine lv_iconst (v := 1) hx hb dX4_byNumbers_94 (by decide) ?_
          subst hQ
          exact W.iret (v := 1) hx hb hr (fun t ht hW => ⟨_, rfl, (by rw [snF_ne (by omega) zs]; first | exact (sg_lt1 zt).symm | exact (sg_n1 zt zs).symm), ht⟩) (fun _ h => absurd h List.not_mem_nil) dX4_byNumbers_95
        · skip
          have zt := c87_20
          refine lv_iconst (v := -1) hx hb dX4_byNumbers_90 (by decide) ?_
          refine lv_goto (tgt := 95) hx hb dX4_byNumbers_91 (by decide) ?_
          subst hQ
          exact W.iret (v := (-1)) hx hb hr (fun t ht hW => ⟨_, rfl, (by rw [snF_ne (by omega) zs]; first | exact (sg_lt1 zt).symm | exact (sg_n1 zt zs).symm), ht⟩) (fun _ h => absurd h List.not_mem_nil) dX4_byNumbers_95
    · skip
      have zb : dg fk nk = 0 := by rw [ti_eq, nI_toInt (by omega), tc_0] at c29_5; omega
      refine lv_iload_n hx hb dX4_byNumbers_32 rfl (lv_at hl 1 rfl) ?_
      refine lv_iload_n hx hb dX4_byNumbers_33 rfl (lv_at hl 0 rfl) ?_
      refine lv_icmp_ne (tgt := 41) hx hb dX4_byNumbers_34 (by decide) (fun c34_21 => ?_) (fun c34_21 => ?_)
      · skip
        have zq : ¬ dg fv nv = dg fk nk := fun q => c34_21 (by rw [q])
        refine lv_iload_n hx hb dX4_byNumbers_41 rfl (lv_at hl 1 rfl) ?_
        refine lv_if_ne (tgt := 49) hx hb dX4_byNumbers_42 (by decide) (fun c42_22 => ?_) (fun c42_22 => ?_)
        · skip
          have za : ¬ dg fv nv = 0 := by rw [ti_eq, nI_toInt (by omega), tc_0] at c42_22; omega
          refine lv_iconst (v := -1) hx hb dX4_byNumbers_49 (by decide) ?_
          subst hQ
          exact W.iret (v := (-1)) hx hb hr (fun t ht hW => ⟨_, rfl, (by rw [snF_0 (by omega)]; first | (rw [if_pos zq]; done) | (rw [if_neg zq, if_pos (by omega)]; done) | (rw [if_neg zq, if_neg (by omega)]; done)), ht⟩) (fun _ h => absurd h List.not_mem_nil) dX4_byNumbers_50
        · skip
          exact absurd c42_22 (by rw [ti_eq, nI_toInt (by omega), tc_0]; omega)
      · skip
        have zq : dg fv nv = dg fk nk := (nI_eq (by omega) (by omega)).mp (by first | exact c34_21 | exact Decidable.not_not.mp c34_21)
        refine lv_iconst (v := 0) hx hb dX4_byNumbers_37 (by decide) ?_
        refine lv_goto (tgt := 50) hx hb dX4_byNumbers_38 (by decide) ?_
        subst hQ
        exact W.iret (v := 0) hx hb hr (fun t ht hW => ⟨_, rfl, (by rw [snF_0 (by omega)]; first | (rw [if_pos zq]; done) | (rw [if_neg zq, if_pos (by omega)]; done) | (rw [if_neg zq, if_neg (by omega)]; done)), ht⟩) (fun _ h => absurd h List.not_mem_nil) dX4_byNumbers_50

abbrev rm_m_cmp : Room := { frames := 2, cells := 0, slots := 0, locals := 46 }
set_option maxHeartbeats 4000000 in
set_option maxRecDepth 100000 in
theorem m_cmp (l : Launch) (dC : Nat → ClassId) (dI : Nat → Nat → Nat) (mo mv mk ms ml mc mf mn : Nat) (jv jk js jl jc jf jn : ClassId) (fv fk gs gl gc gf gn : Nat → Int32) (nv nk sn ct : Nat) (th : Int32) (hv : nv ≤ 100) (hk : nk ≤ 100) (cp : Int32) : Met l yX4_compare (.code yX4_compare cX4_compare 5 (some (.int)) :: wsA) rm_m_cmp (va_Pc [.ref mo, .int (cp)] (ro (dC, dI) [(mo, .inr (4, [.int (th), .ref mv, .ref mk, .int (nI nv), .int (nI nk), .int (nI sn), .ref ms, .ref ml, .ref mc, .int (nI ct), .ref mf, .ref mn])), (mv, .inl (jv, 100, .inl fv)), (mk, .inl (jk, 100, .inl fk)), (ms, .inl (js, 100, .inl gs)), (ml, .inl (jl, 100, .inl gl)), (mc, .inl (jc, 10201, .inl gc)), (mf, .inl (jf, 100, .inl gf)), (mn, .inl (jn, 100, .inl gn))] [(jv, .int), (jk, .int), (js, .int), (jl, .int), (jc, .boolean), (jf, .int), (jn, .int)])) (vp_Si (fun r => r = stF fv fk nv nk cp)) 0 0 (fun _ => False) := by
  refine Met.ofW (cc := cX4_compare) (maxL := 5) (ret := (some (.int))) (by decide) rfl ?_
  intro p e s m args below meth c s₁ B hml hv
  obtain ⟨hargs, hN, hP, hK⟩ := hv
  have hx := B.exec
  have hb := B.bytes
  have hr := B.returns
  have hw : ∀ w ∈ wsA, w.before args s = true := fun w h => atoms_spec (ws := (.code yX4_compare cX4_compare 5 (some (.int)) :: wsA)) B.pre w (List.mem_cons_of_mem _ h)
  have hown : s.vm.findClass "GlobDeskModel" = some m.cls := findClass_of_methodNamed B.named
  have hlocks := B.notSynchronized
  generalize hQ : MQ below _ args s _ _ _ = Q
  change W p l e rm_m_cmp s m args below meth c s.heap [] 0 0 Q (entryFrame m args 5)
  have hl := lv_entry ([.ref mo, .int (cp)]) (n := 5) (Nat.le_of_ble_eq_true rfl)
  rw [show entryFrame m args 5 = entryFrame m ([.ref mo, .int (cp)] : List Value).toArray 5 from by rw [hargs], lg_entry_eq]
  generalize (lg_sl ([.ref mo, .int (cp)]) ++ List.replicate (5 - (lg_sl ([.ref mo, .int (cp)])).length) Slot.unset).toArray = ls at hl ⊢
  have hl : lv_has ls 5 [(0, .ref mo), (1, .int (cp))] := hl
  refine lv_iload_n hx hb dX4_compare_0 rfl (lv_at hl 1 rfl) ?_
  refine lv_iconst (v := 2) hx hb dX4_compare_1 (by decide) ?_
  refine lv_icmp_ne (tgt := 10) hx hb dX4_compare_2 (by decide) (fun c2_0 => ?_) (fun c2_0 => ?_)
  · skip
    have z0 := c2_0
    refine lv_iconst (v := 0) hx hb dX4_compare_10 (by decide) ?_
    refine lv_topi (fun x2 ex2 => ?_)
    obtain rfl : x2 = nI 0 := by rw [ex2]; exact nI_0.symm
    refine lv_istore_n (lv' := [(2, .int (nI 0)), (0, .ref mo), (1, .int (cp))]) hx hb dX4_compare_11 rfl hl (by decide) rfl (fun ls hl => ?_)
    have loop12 : ∀ (nn12 : Nat) (i : Nat) (hi : i ≤ min nv nk) (e9 : sbA fv fk nv nk cp (min nv nk - i) i = stF fv fk nv nk cp) (_ : min nv nk - i < nn12) (ls : Array Slot) (_ : lv_has ls 5 [(0, .ref mo), (1, .int (cp)), (2, .int (nI i))]), W p l e rm_m_cmp s m args below meth c s.heap [] 0 0 Q (F0 m 12 ls []) := by
      intro nn12
      induction nn12 with
      | zero => intro i hi e9 hm12 ls hl; exact absurd hm12 (Nat.not_lt_zero _)
      | succ nn12 ih12 =>
        intro i hi e9 hm12 ls hl
        refine lv_iload_n hx hb dX4_compare_12 rfl (lv_at hl 2 rfl) ?_
        refine lv_aload_n hx hb dX4_compare_13 rfl (lv_at hl 0 rfl) ?_
        refine va_get (D := (dC, dI)) (ci := 4) (v := .int (nI nv)) (C := RX4) (T := TX4) (N := 12) hx hb hw inX4 hown hK hP 0 rfl rfl 3 (by decide) (hw _ mw247) (fun _ h9 => h9) rfl dX4_compare_14 ?_
        refine lv_icmp_ge (tgt := 75) hx hb dX4_compare_17 (by decide) (fun c17_2 => ?_) (fun c17_2 => ?_)
        · skip
          rw [ti_le, nI_toInt (by omega), nI_toInt (by omega)] at c17_2
          have e8 : min nv nk - i = 0 := by omega
          refine lv_aload_n hx hb dX4_compare_75 rfl (lv_at hl 0 rfl) ?_
          refine va_get (D := (dC, dI)) (ci := 4) (v := .int (nI nv)) (C := RX4) (T := TX4) (N := 12) hx hb hw inX4 hown hK hP 0 rfl rfl 3 (by decide) (hw _ mw247) (fun _ h9 => h9) rfl dX4_compare_76 ?_
          refine lv_aload_n hx hb dX4_compare_79 rfl (lv_at hl 0 rfl) ?_
          refine va_get (D := (dC, dI)) (ci := 4) (v := .int (nI nk)) (C := RX4) (T := TX4) (N := 12) hx hb hw inX4 hown hK hP 0 rfl rfl 4 (by decide) (hw _ mw248) (fun _ h9 => h9) rfl dX4_compare_80 ?_
          refine lv_icmp_ge (tgt := 90) hx hb dX4_compare_83 (by decide) (fun c83_3 => ?_) (fun c83_3 => ?_)
          · skip
            have d3 := c83_3
            refine lv_aload_n hx hb dX4_compare_90 rfl (lv_at hl 0 rfl) ?_
            refine va_get (D := (dC, dI)) (ci := 4) (v := .int (nI nv)) (C := RX4) (T := TX4) (N := 12) hx hb hw inX4 hown hK hP 0 rfl rfl 3 (by decide) (hw _ mw247) (fun _ h9 => h9) rfl dX4_compare_91 ?_
            refine lv_aload_n hx hb dX4_compare_94 rfl (lv_at hl 0 rfl) ?_
            refine va_get (D := (dC, dI)) (ci := 4) (v := .int (nI nk)) (C := RX4) (T := TX4) (N := 12) hx hb hw inX4 hown hK hP 0 rfl rfl 4 (by decide) (hw _ mw248) (fun _ h9 => h9) rfl dX4_compare_95 ?_
            refine lv_icmp_le (tgt := 105) hx hb dX4_compare_98 (by decide) (fun c98_4 => ?_) (fun c98_4 => ?_)
            · skip
              have d4 := c98_4
              refine lv_iconst (v := 0) hx hb dX4_compare_105 (by decide) ?_
              subst hQ
              exact W.iret (v := 0) hx hb hr (fun t ht hW => ⟨_, rfl, (by rw [← e9, e8]; first | exact sg_l d3 | exact sg_g d3 d4 | exact sg_e d3 d4), ht⟩) (fun _ h => absurd h List.not_mem_nil) dX4_compare_106
            · skip
              have d4 := c98_4
              refine lv_iconst (v := 1) hx hb dX4_compare_101 (by decide) ?_
              refine lv_goto (tgt := 106) hx hb dX4_compare_102 (by decide) ?_
              subst hQ
              exact W.iret (v := 1) hx hb hr (fun t ht hW => ⟨_, rfl, (by rw [← e9, e8]; first | exact sg_l d3 | exact sg_g d3 d4 | exact sg_e d3 d4), ht⟩) (fun _ h => absurd h List.not_mem_nil) dX4_compare_106
          · skip
            have d3 := c83_3
            refine lv_iconst (v := -1) hx hb dX4_compare_86 (by decide) ?_
            refine lv_goto (tgt := 106) hx hb dX4_compare_87 (by decide) ?_
            subst hQ
            exact W.iret (v := (-1)) hx hb hr (fun t ht hW => ⟨_, rfl, (by rw [← e9, e8]; first | exact sg_l d3 | exact sg_g d3 d4 | exact sg_e d3 d4), ht⟩) (fun _ h => absurd h List.not_mem_nil) dX4_compare_106
        · skip
          rw [ti_le, nI_toInt (by omega), nI_toInt (by omega)] at c17_2
          refine lv_iload_n hx hb dX4_compare_20 rfl (lv_at hl 2 rfl) ?_
          refine lv_aload_n hx hb dX4_compare_21 rfl (lv_at hl 0 rfl) ?_
          refine va_get (D := (dC, dI)) (ci := 4) (v := .int (nI nk)) (C := RX4) (T := TX4) (N := 12) hx hb hw inX4 hown hK hP 0 rfl rfl 4 (by decide) (hw _ mw248) (fun _ h9 => h9) rfl dX4_compare_22 ?_
          refine lv_icmp_ge (tgt := 75) hx hb dX4_compare_25 (by decide) (fun c25_5 => ?_) (fun c25_5 => ?_)
          · skip
            rw [ti_le, nI_toInt (by omega), nI_toInt (by omega)] at c25_5
            have e8 : min nv nk - i = 0 := by omega
            refine lv_aload_n hx hb dX4_compare_75 rfl (lv_at hl 0 rfl) ?_
            refine va_get (D := (dC, dI)) (ci := 4) (v := .int (nI nv)) (C := RX4) (T := TX4) (N := 12) hx hb hw inX4 hown hK hP 0 rfl rfl 3 (by decide) (hw _ mw247) (fun _ h9 => h9) rfl dX4_compare_76 ?_
            refine lv_aload_n hx hb dX4_compare_79 rfl (lv_at hl 0 rfl) ?_
            refine va_get (D := (dC, dI)) (ci := 4) (v := .int (nI nk)) (C := RX4) (T := TX4) (N := 12) hx hb hw inX4 hown hK hP 0 rfl rfl 4 (by decide) (hw _ mw248) (fun _ h9 => h9) rfl dX4_compare_80 ?_
            refine lv_icmp_ge (tgt := 90) hx hb dX4_compare_83 (by decide) (fun c83_6 => ?_) (fun c83_6 => ?_)
            · skip
              have d3 := c83_6
              refine lv_aload_n hx hb dX4_compare_90 rfl (lv_at hl 0 rfl) ?_
              refine va_get (D := (dC, dI)) (ci := 4) (v := .int (nI nv)) (C := RX4) (T := TX4) (N := 12) hx hb hw inX4 hown hK hP 0 rfl rfl 3 (by decide) (hw _ mw247) (fun _ h9 => h9) rfl dX4_compare_91 ?_
              refine lv_aload_n hx hb dX4_compare_94 rfl (lv_at hl 0 rfl) ?_
              refine va_get (D := (dC, dI)) (ci := 4) (v := .int (nI nk)) (C := RX4) (T := TX4) (N := 12) hx hb hw inX4 hown hK hP 0 rfl rfl 4 (by decide) (hw _ mw248) (fun _ h9 => h9) rfl dX4_compare_95 ?_
              refine lv_icmp_le (tgt := 105) hx hb dX4_compare_98 (by decide) (fun c98_7 => ?_) (fun c98_7 => ?_)
              · skip
                have d4 := c98_7
                refine lv_iconst (v := 0) hx hb dX4_compare_105 (by decide) ?_
                subst hQ
                exact W.iret (v := 0) hx hb hr (fun t ht hW => ⟨_, rfl, (by rw [← e9, e8]; first | exact sg_l d3 | exact sg_g d3 d4 | exact sg_e d3 d4), ht⟩) (fun _ h => absurd h List.not_mem_nil) dX4_compare_106
              · skip
                have d4 := c98_7
                refine lv_iconst (v := 1) hx hb dX4_compare_101 (by decide) ?_
                refine lv_goto (tgt := 106) hx hb dX4_compare_102 (by decide) ?_
                subst hQ
                exact W.iret (v := 1) hx hb hr (fun t ht hW => ⟨_, rfl, (by rw [← e9, e8]; first | exact sg_l d3 | exact sg_g d3 d4 | exact sg_e d3 d4), ht⟩) (fun _ h => absurd h List.not_mem_nil) dX4_compare_106
            · skip
              have d3 := c83_6
              refine lv_iconst (v := -1) hx hb dX4_compare_86 (by decide) ?_
              refine lv_goto (tgt := 106) hx hb dX4_compare_87 (by decide) ?_
              subst hQ
              exact W.iret (v := (-1)) hx hb hr (fun t ht hW => ⟨_, rfl, (by rw [← e9, e8]; first | exact sg_l d3 | exact sg_g d3 d4 | exact sg_e d3 d4), ht⟩) (fun _ h => absurd h List.not_mem_nil) dX4_compare_106
          · skip
            rw [ti_le, nI_toInt (by omega), nI_toInt (by omega)] at c25_5
            refine lv_aload_n hx hb dX4_compare_28 rfl (lv_at hl 0 rfl) ?_
            refine va_get (D := (dC, dI)) (ci := 4) (v := .ref mv) (C := RX4) (T := TX4) (N := 12) hx hb hw inX4 hown hK hP 0 rfl rfl 1 (by decide) (hw _ mw245) (fun _ h9 => h9) rfl dX4_compare_29 ?_
            refine lv_iload_n hx hb dX4_compare_32 rfl (lv_at hl 2 rfl) ?_
            refine va_iald hx hb hK hP 1 0 rfl rfl (i := (nI i)) (vp_in_nI (by omega) (by omega)) dX4_compare_33 ?_
            refine lv_topi (fun x9 ex9 => ?_)
            obtain rfl : x9 = fv i := by rw [ex9, nI_clamp (by omega)]
            refine lv_iload_n hx hb dX4_compare_34 rfl (lv_at hl 1 rfl) ?_
            refine vp_callSi (va_Run.run (va_runS (As := [.int (fv i), .int (cp)]) (rest := []) ⟨hx, hb, hml, hown, hw⟩ (m_fold l (fv i) (cp)) (cwS 2 hw (gS mw308 mw309 mw20 mw310) rfl rfl rfl (by decide +kernel) ⟨Nat.le_of_ble_eq_true rfl, Nat.le_of_ble_eq_true rfl⟩) st.S rfl rfl hl.1 rfl (lv_room (Nat.le_of_ble_eq_true rfl)) dX4_compare_35 ⟨Nat.le_of_ble_eq_true rfl, Nat.le_of_ble_eq_true rfl⟩)) (fun r10 hr10 => ?_)
            subst hr10
            refine lv_istore_n (lv' := [(3, .int (fo (fv i) (cp))), (0, .ref mo), (1, .int (cp)), (2, .int (nI i))]) hx hb dX4_compare_38 rfl hl (by decide) rfl (fun ls hl => ?_)
            refine lv_aload_n hx hb dX4_compare_39 rfl (lv_at hl 1 rfl) ?_
            refine va_get (D := (dC, dI)) (ci := 4) (v := .ref mk) (C := RX4) (T := TX4) (N := 12) hx hb hw inX4 hown hK hP 0 rfl rfl 2 (by decide) (hw _ mw246) (fun _ h9 => h9) rfl dX4_compare_40 ?_
            refine lv_iload_n hx hb dX4_compare_43 rfl (lv_at hl 3 rfl) ?_
            refine va_iald hx hb hK hP 2 1 rfl rfl (i := (nI i)) (vp_in_nI (by omega) (by omega)) dX4_compare_44 ?_
            refine lv_topi (fun x11 ex11 => ?_)
            obtain rfl : x11 = fk i := by rw [ex11, nI_clamp (by omega)]
            refine lv_iload_n hx hb dX4_compare_45 rfl (lv_at hl 2 rfl) ?_
            refine vp_callSi (va_Run.run (va_runS (As := [.int (fk i), .int (cp)]) (rest := []) ⟨hx, hb, hml, hown, hw⟩ (m_fold l (fk i) (cp)) (cwS 2 hw (gS mw308 mw309 mw20 mw310) rfl rfl rfl (by decide +kernel) ⟨Nat.le_of_ble_eq_true rfl, Nat.le_of_ble_eq_true rfl⟩) st.S rfl rfl hl.1 rfl (lv_room (Nat.le_of_ble_eq_true rfl)) dX4_compare_46 ⟨Nat.le_of_ble_eq_true rfl, Nat.le_of_ble_eq_true rfl⟩)) (fun r12 hr12 => ?_)
            subst hr12
            refine lv_istore (lv' := [(4, .int (fo (fk i) (cp))), (3, .int (fo (fv i) (cp))), (0, .ref mo), (1, .int (cp)), (2, .int (nI i))]) hx hb dX4_compare_49 hl (by decide) rfl (fun ls hl => ?_)
            refine lv_iload_n hx hb dX4_compare_51 rfl (lv_at hl 1 rfl) ?_
            refine lv_iload hx hb dX4_compare_52 (lv_at hl 0 rfl) ?_
            refine lv_icmp_eq (tgt := 69) hx hb dX4_compare_54 (by decide) (fun c54_12 => ?_) (fun c54_12 => ?_)
            · skip
              have d1 := sg_0.mpr c54_12
              refine lv_iinc (v := nI (i + 1)) (lv' := [(2, .int (nI (i + 1))), (4, .int (fo (fk i) (cp))), (3, .int (fo (fv i) (cp))), (0, .ref mo), (1, .int (cp))]) hx hb dX4_compare_69 hl (k := 4) rfl (nI_inc i) (by decide) rfl (fun ls hl => ?_)
              refine lv_goto (tgt := 12) hx hb dX4_compare_72 (by decide) ?_
              exact ih12 (i + 1) (by omega) ((sbA_next (r := min nv nk - i) (by omega) d1).symm.trans e9) (by omega) ls (lv_sub hl [3, 4, 0] rfl)
            · skip
              have d1 := c54_12
              refine lv_iload_n hx hb dX4_compare_57 rfl (lv_at hl 1 rfl) ?_
              refine lv_iload hx hb dX4_compare_58 (lv_at hl 0 rfl) ?_
              refine lv_icmp_ge (tgt := 67) hx hb dX4_compare_60 (by decide) (fun c60_13 => ?_) (fun c60_13 => ?_)
              · skip
                have d2 := c60_13
                refine lv_iconst (v := 1) hx hb dX4_compare_67 (by decide) ?_
                subst hQ
                exact W.iret (v := 1) hx hb hr (fun t ht hW => ⟨_, rfl, (by rw [← e9, sbA_hit (by omega) (fun q => d1 (sg_0.mp q))]; first | exact (sg_lt1 d2).symm | exact (sg_n1 d2 d1).symm), ht⟩) (fun _ h => absurd h List.not_mem_nil) dX4_compare_68
              · skip
                have d2 := c60_13
                refine lv_iconst (v := -1) hx hb dX4_compare_63 (by decide) ?_
                refine lv_goto (tgt := 68) hx hb dX4_compare_64 (by decide) ?_
                subst hQ
                exact W.iret (v := (-1)) hx hb hr (fun t ht hW => ⟨_, rfl, (by rw [← e9, sbA_hit (by omega) (fun q => d1 (sg_0.mp q))]; first | exact (sg_lt1 d2).symm | exact (sg_n1 d2 d1).symm), ht⟩) (fun _ h => absurd h List.not_mem_nil) dX4_compare_68
    exact loop12 (min nv nk + 1) 0 (Nat.zero_le _) (by unfold stF; rw [if_neg z0]; rfl) (by omega) ls (lv_sub hl [1, 2, 0] rfl)
  · skip
    have z0 := c2_0
    refine lv_aload_n hx hb dX4_compare_5 rfl (lv_at hl 0 rfl) ?_
    refine vp_callSi (va_Run.run (va_runV (As := []) (rest := []) ⟨hx, hb, hml, hown, hw⟩ (m_byN l dC dI mo mv mk ms ml mc mf mn jv jk js jl jc jf jn fv fk gs gl gc gf gn nv nk sn ct th hv hk) (cwV 0 hw (gV mw298 mw300 mw11 mw20 mw301) rfl rfl rfl (by decide +kernel) ⟨Nat.le_of_ble_eq_true rfl, Nat.le_of_ble_eq_true rfl⟩) (ro.V (q0 := 0) (ci := 4) hN (hK.sub (tys' := [(jv, .int), (jk, .int), (js, .int), (jl, .int), (jc, .boolean), (jf, .int), (jn, .int)]) [0, 1, 2, 3, 4, 5, 6] rfl) (hP.sub (ws' := [(mo, .inr (4, [.int (th), .ref mv, .ref mk, .int (nI nv), .int (nI nk), .int (nI sn), .ref ms, .ref ml, .ref mc, .int (nI ct), .ref mf, .ref mn])), (mv, .inl (jv, 100, .inl fv)), (mk, .inl (jk, 100, .inl fk)), (ms, .inl (js, 100, .inl gs)), (ml, .inl (jl, 100, .inl gl)), (mc, .inl (jc, 10201, .inl gc)), (mf, .inl (jf, 100, .inl gf)), (mn, .inl (jn, 100, .inl gn))]) [0, 1, 2, 3, 4, 5, 6, 7] rfl) rfl rfl) rfl rfl hl.1 rfl (lv_room (Nat.le_of_ble_eq_true rfl)) dX4_compare_6 ⟨Nat.le_of_ble_eq_true rfl, Nat.le_of_ble_eq_true rfl⟩)) (fun r15 hr15 => ?_)
    subst hr15
    subst hQ
    exact W.iret (v := (snF fv fk nv nk)) hx hb hr (fun t ht hW => ⟨_, rfl, (by unfold stF; rw [if_pos z0]), ht⟩) (fun _ h => absurd h List.not_mem_nil) dX4_compare_9
end
section
/-- bytes -/
def rng (f : Nat → Int32) (n : Nat) : Prop := ∀ j, j < n → 0 ≤ (f j).toInt ∧ (f j).toInt ≤ 255
theorem rng_256 {f : Nat → Int32} {n j : Nat} (h : rng f n) (hj : j < n) : ¬ f j = 256 := fun q => by
  have := h j hj; rw [q, tc_256] at this; omega
theorem mok_no {m x c : Int32} (h1 : ¬ m = 256) (h2 : ¬ fo x c = fo m c) : mok m x c = false := decide_eq_false (fun q => q.elim h1 (fun z => h2 z.symm))
theorem con_yes {v k : Nat → Int32} {nv nk i : Nat} {c : Int32} (hv : nv ≤ 100) (h : fpF k v nv c 0 nk 0 = nI i) (hi : i ≤ nv) : sCon v k nv nk c [(i, nk)] := ⟨i, by omega, h, rfl⟩
/-- a sign and a literal for a mark -/
def srel (s l m : Int32) : Prop := (s = 2 ∧ m = 257) ∨ (s = 1 ∧ m = 256) ∨ (s = 0 ∧ m = l ∧ 0 ≤ l.toInt ∧ l.toInt ≤ 255)
theorem srel_2 {s l m : Int32} (h : srel s l m) (q : s = 2) : m = 257 := by
  rcases h with h | h | h
  · exact h.2
  · rw [q] at h; exact absurd h.1 (by decide)
  · rw [q] at h; exact absurd h.1 (by decide)
theorem srel_n2 {s l m : Int32} (h : srel s l m) (q : ¬ s = 2) : ¬ m = 257 := by
  rcases h with h | h | h
  · exact absurd h.1 q
  · rw [h.2]; decide
  · intro z; have := h.2.2; rw [← h.2.1, z, tc_257] at this; omega
theorem srel_1 {s l m : Int32} (h : srel s l m) (q : s = 1) : m = 256 := by
  rcases h with h | h | h
  · rw [q] at h; exact absurd h.1 (by decide)
  · exact h.2
  · rw [q] at h; exact absurd h.1 (by decide)
theorem srel_0 {s l m : Int32} (h : srel s l m) (q : ¬ s = 2) (q1 : ¬ s = 1) : m = l ∧ ¬ m = 256 := by
  rcases h with h | h | h
  · exact absurd h.1 q
  · exact absurd h.1 q1
  · refine ⟨h.2.1, fun z => ?_⟩
    have := h.2.2; rw [← h.2.1, z, tc_256] at this; omega
def srl (f g : Nat → Int32) (l : List Int32) : Prop := ∀ j, j < l.length → srel (f j) (g j) (l.getD j 0)
theorem srl_0 {f g : Nat → Int32} : srl f g [] := fun j h => absurd h (Nat.not_lt_zero _)
theorem srl_add {f g : Nat → Int32} {l : List Int32} {n : Nat} {x y z : Int32} (h : srl f g l) (hn : n = l.length) (hx : srel x y z) : srl (upd f n x) (upd g n y) (l ++ [z]) := by
  intro j hj
  rw [List.length_append, List.length_singleton] at hj
  subst hn
  by_cases e : j = l.length
  · subst e; rw [pk_us, pk_us]; simpa using hx
  · rw [pk_un e, pk_un e]
    have hl : j < l.length := by omega
    simpa [List.getElem?_append_left hl] using h j hl
end
section
abbrev rm_m_con : Room := { frames := 1, cells := 0, slots := 0, locals := 21 }
set_option maxHeartbeats 4000000 in
set_option maxRecDepth 100000 in
theorem m_con (l : Launch) (dC : Nat → ClassId) (dI : Nat → Nat → Nat) (sz : Nat) (mo mv mk ms ml mc mf mn : Nat) (jv jk js jl jc jf jn : ClassId) (fv fk gs gl gc gf gn : Nat → Int32) (nv nk sn : Nat) (th : Int32) (hv : nv ≤ 100) (hk : nk ≤ 100) (hrk : rng fk nk) (cp : Int32) : Met l yX4_contains (.code yX4_contains cX4_contains 4 (some (.boolean)) :: wsA) rm_m_con (va_Pc [.ref mo, .int (cp)] (wr (dC, dI) [(mo, .inr (4, [.int (th), .ref mv, .ref mk, .int (nI nv), .int (nI nk), .int (nI sn), .ref ms, .ref ml, .ref mc, .int (nI 0), .ref mf, .ref mn])), (mv, .inl (jv, 100, .inl fv)), (mk, .inl (jk, 100, .inl fk)), (ms, .inl (js, 100, .inl gs)), (ml, .inl (jl, 100, .inl gl)), (mc, .inl (jc, 10201, .inl gc)), (mf, .inl (jf, 100, .inl gf)), (mn, .inl (jn, 100, .inl gn))] [(jv, .int), (jk, .int), (js, .int), (jl, .int), (jc, .boolean), (jf, .int), (jn, .int)] sz)) (va_Qi (fun (r : Int32) (u : (Nat → Int32) × (Nat → Int32) × Nat) => u.2.2 ≤ 100 ∧ mres (sCon fv fk nv nk cp) r u.1 u.2.1 u.2.2) (wB (dC, dI) (va_A [(mo, .inr (4, [.int (th), .ref mv, .ref mk, .int (nI nv), .int (nI nk), .int (nI sn), .ref ms, .ref ml, .ref mc, .int (nI 0), .ref mf, .ref mn])), (mv, .inl (jv, 100, .inl fv)), (mk, .inl (jk, 100, .inl fk)), (ms, .inl (js, 100, .inl gs)), (ml, .inl (jl, 100, .inl gl)), (mc, .inl (jc, 10201, .inl gc)), (mf, .inl (jf, 100, .inl gf)), (mn, .inl (jn, 100, .inl gn))] sz) (fun u : (Nat → Int32) × (Nat → Int32) × Nat => [(mo, .inr (4, [.int (th), .ref mv, .ref mk, .int (nI nv), .int (nI nk), .int (nI sn), .ref ms, .ref ml, .ref mc, .int (nI u.2.2), .ref mf, .ref mn])), (mv, .inl (jv, 100, .inl fv)), (mk, .inl (jk, 100, .inl fk)), (ms, .inl (js, 100, .inl gs)), (ml, .inl (jl, 100, .inl gl)), (mc, .inl (jc, 10201, .inl gc)), (mf, .inl (jf, 100, .inl (u.1))), (mn, .inl (jn, 100, .inl (u.2.1)))])) (va_A [(mo, .inr (4, [.int (th), .ref mv, .ref mk, .int (nI nv), .int (nI nk), .int (nI sn), .ref ms, .ref ml, .ref mc, .int (nI 0), .ref mf, .ref mn])), (mv, .inl (jv, 100, .inl fv)), (mk, .inl (jk, 100, .inl fk)), (ms, .inl (js, 100, .inl gs)), (ml, .inl (jl, 100, .inl gl)), (mc, .inl (jc, 10201, .inl gc)), (mf, .inl (jf, 100, .inl gf)), (mn, .inl (jn, 100, .inl gn))] sz)) 0 0 (va_A [(mo, .inr (4, [.int (th), .ref mv, .ref mk, .int (nI nv), .int (nI nk), .int (nI sn), .ref ms, .ref ml, .ref mc, .int (nI 0), .ref mf, .ref mn])), (mv, .inl (jv, 100, .inl fv)), (mk, .inl (jk, 100, .inl fk)), (ms, .inl (js, 100, .inl gs)), (ml, .inl (jl, 100, .inl gl)), (mc, .inl (jc, 10201, .inl gc)), (mf, .inl (jf, 100, .inl gf)), (mn, .inl (jn, 100, .inl gn))] sz) := by
  refine Met.ofW (cc := cX4_contains) (maxL := 4) (ret := (some (.boolean))) (by decide) rfl ?_
  intro p e s m args below meth c s₁ B hml hv
  obtain ⟨hargs, hsz, hN, hP, hK, hD0⟩ := hv
  have hx := B.exec
  have hb := B.bytes
  have hr := B.returns
  have hw : ∀ w ∈ wsA, w.before args s = true := fun w h => atoms_spec (ws := (.code yX4_contains cX4_contains 4 (some (.boolean)) :: wsA)) B.pre w (List.mem_cons_of_mem _ h)
  have hown : s.vm.findClass "GlobDeskModel" = some m.cls := findClass_of_methodNamed B.named
  have hlocks := B.notSynchronized
  subst hsz
  have hD := hD0.self (sz := s.heap.size)
  generalize hAe : va_A [(mo, .inr (4, [.int (th), .ref mv, .ref mk, .int (nI nv), .int (nI nk), .int (nI sn), .ref ms, .ref ml, .ref mc, .int (nI 0), .ref mf, .ref mn])), (mv, .inl (jv, 100, .inl fv)), (mk, .inl (jk, 100, .inl fk)), (ms, .inl (js, 100, .inl gs)), (ml, .inl (jl, 100, .inl gl)), (mc, .inl (jc, 10201, .inl gc)), (mf, .inl (jf, 100, .inl gf)), (mn, .inl (jn, 100, .inl gn))] s.heap.size = A at hD ⊢
  have hA : ∀ q : Nat, s.heap.size ≤ q → A q := fun q h => by rw [← hAe]; exact Or.inr h
  have hS : va_S A s.heap s.heap [] := va_S.rf
  generalize hQ : MQ below _ args s _ _ _ = Q
  change W p l e rm_m_con s m args below meth c s.heap [] 0 0 Q (entryFrame m args 4)
  have hl := lv_entry ([.ref mo, .int (cp)]) (n := 4) (Nat.le_of_ble_eq_true rfl)
  rw [show entryFrame m args 4 = entryFrame m ([.ref mo, .int (cp)] : List Value).toArray 4 from by rw [hargs], lg_entry_eq]
  generalize (lg_sl ([.ref mo, .int (cp)]) ++ List.replicate (4 - (lg_sl ([.ref mo, .int (cp)])).length) Slot.unset).toArray = ls at hl ⊢
  have hl : lv_has ls 4 [(0, .ref mo), (1, .int (cp))] := hl
  refine lv_iconst (v := 0) hx hb dX4_contains_0 (by decide) ?_
  refine lv_topi (fun x1 ex1 => ?_)
  obtain rfl : x1 = nI 0 := by rw [ex1]; exact nI_0.symm
  refine lv_istore_n (lv' := [(2, .int (nI 0)), (0, .ref mo), (1, .int (cp))]) hx hb dX4_contains_1 rfl hl (by decide) rfl (fun ls hl => ?_)
  have loop2 : ∀ (nn2 : Nat) (i : Nat) (hi : i ≤ 101) (e9 : fpA fk fv nv cp 0 nk (nv + 1 - (nk - 0) - i) i = fpF fk fv nv cp 0 nk 0) (_ : 102 - i < nn2) (ls : Array Slot) (_ : lv_has ls 4 [(0, .ref mo), (1, .int (cp)), (2, .int (nI i))]), W p l e rm_m_con s m args below meth c s.heap [] 0 0 Q (F0 m 2 ls []) := by
    intro nn2
    induction nn2 with
    | zero => intro i hi e9 hm2 ls hl; exact absurd hm2 (Nat.not_lt_zero _)
    | succ nn2 ih2 =>
      intro i hi e9 hm2 ls hl
      refine lv_iload_n hx hb dX4_contains_2 rfl (lv_at hl 2 rfl) ?_
      refine lv_aload_n hx hb dX4_contains_3 rfl (lv_at hl 0 rfl) ?_
      refine va_get (D := (dC, dI)) (ci := 4) (v := .int (nI nk)) (C := RX4) (T := TX4) (N := 12) hx hb hw inX4 hown hK hP 0 rfl rfl 4 (by decide) (hw _ mw248) (fun _ h9 => h9) rfl dX4_contains_4 ?_
      refine lv_iadd hx hb dX4_contains_7 ?_
      refine lv_topi (fun x2 ex2 => ?_)
      obtain rfl : x2 = nI (i + nk) := by rw [ex2]; exact nI_add i nk
      refine lv_aload_n hx hb dX4_contains_8 rfl (lv_at hl 0 rfl) ?_
      refine va_get (D := (dC, dI)) (ci := 4) (v := .int (nI nv)) (C := RX4) (T := TX4) (N := 12) hx hb hw inX4 hown hK hP 0 rfl rfl 3 (by decide) (hw _ mw247) (fun _ h9 => h9) rfl dX4_contains_9 ?_
      refine lv_icmp_gt (tgt := 94) hx hb dX4_contains_12 (by decide) (fun c12_2 => ?_) (fun c12_2 => ?_)
      · skip
        rw [ti_lt, nI_toInt (by omega), nI_toInt (by omega)] at c12_2
        have e8 : nv + 1 - (nk - 0) - i = 0 := by omega
        refine lv_iconst (v := 0) hx hb dX4_contains_94 (by decide) ?_
        subst hQ
        exact W.zret (v := 0) hx hb hr (by decide) (fun t ht hW => ⟨⟨_, (gf, gn, 0), rfl, ⟨Nat.zero_le _, Or.inr ⟨rfl, con_no (by rw [← e9, e8]; rfl)⟩⟩, by rw [ht]; exact hP, hD⟩, hS.F ht⟩) hS.2.2 dX4_contains_95
      · skip
        rw [ti_lt, nI_toInt (by omega), nI_toInt (by omega)] at c12_2
        refine lv_iconst (v := 0) hx hb dX4_contains_15 (by decide) ?_
        refine lv_topi (fun x4 ex4 => ?_)
        obtain rfl : x4 = nI 0 := by rw [ex4]; exact nI_0.symm
        refine lv_istore_n (lv' := [(3, .int (nI 0)), (0, .ref mo), (1, .int (cp)), (2, .int (nI i))]) hx hb dX4_contains_16 rfl hl (by decide) rfl (fun ls hl => ?_)
        have loop17 : ∀ (nn17 : Nat) (j : Nat) (hj : j ≤ nk) (e7 : fitA fk fv cp (nk - j) j (i + j) = fitA fk fv cp nk 0 i) (_ : nk - j < nn17) (ls : Array Slot) (_ : lv_has ls 4 [(0, .ref mo), (1, .int (cp)), (2, .int (nI i)), (3, .int (nI j))]), W p l e rm_m_con s m args below meth c s.heap [] 0 0 Q (F0 m 17 ls []) := by
          intro nn17
          induction nn17 with
          | zero => intro j hj e7 hm17 ls hl; exact absurd hm17 (Nat.not_lt_zero _)
          | succ nn17 ih17 =>
            intro j hj e7 hm17 ls hl
            refine lv_iload_n hx hb dX4_contains_17 rfl (lv_at hl 3 rfl) ?_
            refine lv_aload_n hx hb dX4_contains_18 rfl (lv_at hl 0 rfl) ?_
            refine va_get (D := (dC, dI)) (ci := 4) (v := .int (nI nk)) (C := RX4) (T := TX4) (N := 12) hx hb hw inX4 hown hK hP 0 rfl rfl 4 (by decide) (hw _ mw248) (fun _ h9 => h9) rfl dX4_contains_19 ?_
            refine lv_icmp_ge (tgt := 56) hx hb dX4_contains_22 (by decide) (fun c22_4 => ?_) (fun c22_4 => ?_)
            · skip
              rw [ti_le, nI_toInt (by omega), nI_toInt (by omega)] at c22_4
              have ej : j = nk := by omega
              refine lv_iload_n hx hb dX4_contains_56 rfl (lv_at hl 3 rfl) ?_
              refine lv_aload_n hx hb dX4_contains_57 rfl (lv_at hl 0 rfl) ?_
              refine va_get (D := (dC, dI)) (ci := 4) (v := .int (nI nk)) (C := RX4) (T := TX4) (N := 12) hx hb hw inX4 hown hK hP 0 rfl rfl 4 (by decide) (hw _ mw248) (fun _ h9 => h9) rfl dX4_contains_58 ?_
              refine lv_icmp_ne (tgt := 88) hx hb dX4_contains_61 (by decide) (fun c61_5 => ?_) (fun c61_5 => ?_)
              · skip
                have e6 : ¬ j = nk := fun q => c61_5 (by rw [q])
                omega
              · skip
                have e6 : j = nk := (nI_eq (by omega) (by omega)).mp (by first | exact c61_5 | exact Decidable.not_not.mp c61_5)
                refine lv_aload_n hx hb dX4_contains_64 rfl (lv_at hl 0 rfl) ?_
                refine va_get (D := (dC, dI)) (ci := 4) (v := .ref mf) (C := RX4) (T := TX4) (N := 12) hx hb hw inX4 hown hK hP 0 rfl rfl 10 (by decide) (hw _ mw254) (fun _ h9 => h9) rfl dX4_contains_65 ?_
                refine lv_iconst (v := 0) hx hb dX4_contains_68 (by decide) ?_
                refine lv_topi (fun x7 ex7 => ?_)
                obtain rfl : x7 = nI 0 := by rw [ex7]; exact nI_0.symm
                refine lv_iload_n hx hb dX4_contains_69 rfl (lv_at hl 2 rfl) ?_
                refine va_iast hx hb hK hP hD hS 6 5 rfl rfl (i := (nI 0)) (vp_in_nI (by omega) (by omega)) dX4_contains_70 (fun H locs hP hD hS => ?_)
                rw [nI_clamp (by omega)] at hP hD
                have hP : va_P (dC, dI) cl5 [(mo, .inr (4, [.int (th), .ref mv, .ref mk, .int (nI nv), .int (nI nk), .int (nI sn), .ref ms, .ref ml, .ref mc, .int (nI 0), .ref mf, .ref mn])), (mv, .inl (jv, 100, .inl fv)), (mk, .inl (jk, 100, .inl fk)), (ms, .inl (js, 100, .inl gs)), (ml, .inl (jl, 100, .inl gl)), (mc, .inl (jc, 10201, .inl gc)), (mf, .inl (jf, 100, .inl (upd gf 0 (nI i)))), (mn, .inl (jn, 100, .inl gn))] H := hP
                have hD : va_D A [(mo, .inr (4, [.int (th), .ref mv, .ref mk, .int (nI nv), .int (nI nk), .int (nI sn), .ref ms, .ref ml, .ref mc, .int (nI 0), .ref mf, .ref mn])), (mv, .inl (jv, 100, .inl fv)), (mk, .inl (jk, 100, .inl fk)), (ms, .inl (js, 100, .inl gs)), (ml, .inl (jl, 100, .inl gl)), (mc, .inl (jc, 10201, .inl gc)), (mf, .inl (jf, 100, .inl (upd gf 0 (nI i)))), (mn, .inl (jn, 100, .inl gn))] := hD
                refine lv_aload_n hx hb dX4_contains_71 rfl (lv_at hl 0 rfl) ?_
                refine va_get (D := (dC, dI)) (ci := 4) (v := .ref mn) (C := RX4) (T := TX4) (N := 12) hx hb hw inX4 hown hK hP 0 rfl rfl 11 (by decide) (hw _ mw255) (fun _ h9 => h9) rfl dX4_contains_72 ?_
                refine lv_iconst (v := 0) hx hb dX4_contains_75 (by decide) ?_
                refine lv_topi (fun x8 ex8 => ?_)
                obtain rfl : x8 = nI 0 := by rw [ex8]; exact nI_0.symm
                refine lv_aload_n hx hb dX4_contains_76 rfl (lv_at hl 0 rfl) ?_
                refine va_get (D := (dC, dI)) (ci := 4) (v := .int (nI nk)) (C := RX4) (T := TX4) (N := 12) hx hb hw inX4 hown hK hP 0 rfl rfl 4 (by decide) (hw _ mw248) (fun _ h9 => h9) rfl dX4_contains_77 ?_
                refine va_iast hx hb hK hP hD hS 7 6 rfl rfl (i := (nI 0)) (vp_in_nI (by omega) (by omega)) dX4_contains_80 (fun H locs hP hD hS => ?_)
                rw [nI_clamp (by omega)] at hP hD
                have hP : va_P (dC, dI) cl5 [(mo, .inr (4, [.int (th), .ref mv, .ref mk, .int (nI nv), .int (nI nk), .int (nI sn), .ref ms, .ref ml, .ref mc, .int (nI 0), .ref mf, .ref mn])), (mv, .inl (jv, 100, .inl fv)), (mk, .inl (jk, 100, .inl fk)), (ms, .inl (js, 100, .inl gs)), (ml, .inl (jl, 100, .inl gl)), (mc, .inl (jc, 10201, .inl gc)), (mf, .inl (jf, 100, .inl (upd gf 0 (nI i)))), (mn, .inl (jn, 100, .inl (upd gn 0 (nI nk))))] H := hP
                have hD : va_D A [(mo, .inr (4, [.int (th), .ref mv, .ref mk, .int (nI nv), .int (nI nk), .int (nI sn), .ref ms, .ref ml, .ref mc, .int (nI 0), .ref mf, .ref mn])), (mv, .inl (jv, 100, .inl fv)), (mk, .inl (jk, 100, .inl fk)), (ms, .inl (js, 100, .inl gs)), (ml, .inl (jl, 100, .inl gl)), (mc, .inl (jc, 10201, .inl gc)), (mf, .inl (jf, 100, .inl (upd gf 0 (nI i)))), (mn, .inl (jn, 100, .inl (upd gn 0 (nI nk))))] := hD
                refine lv_aload_n hx hb dX4_contains_81 rfl (lv_at hl 0 rfl) ?_
                refine lv_iconst (v := 1) hx hb dX4_contains_82 (by decide) ?_
                refine lv_topi (fun x9 ex9 => ?_)
                obtain rfl : x9 = nI 1 := by rw [ex9]; rfl
                refine va_put (D := (dC, dI)) (ci := 4) (v := .int (nI 1)) (ty := .int) (C := RX4) (T := TX4) (N := 12) hx hb hw inX4 tyX4 tyX4_ok nmX4 hown hK hP hD hS 0 rfl rfl 9 (by decide) (hw _ mw253) (fun _ h9 => h9) rfl (by decide +kernel) rfl rfl (Nat.le_of_ble_eq_true rfl) dX4_contains_83 (fun H locs hP hD hS => ?_)
                have hP : va_P (dC, dI) cl5 [(mo, .inr (4, [.int (th), .ref mv, .ref mk, .int (nI nv), .int (nI nk), .int (nI sn), .ref ms, .ref ml, .ref mc, .int (nI 1), .ref mf, .ref mn])), (mv, .inl (jv, 100, .inl fv)), (mk, .inl (jk, 100, .inl fk)), (ms, .inl (js, 100, .inl gs)), (ml, .inl (jl, 100, .inl gl)), (mc, .inl (jc, 10201, .inl gc)), (mf, .inl (jf, 100, .inl (upd gf 0 (nI i)))), (mn, .inl (jn, 100, .inl (upd gn 0 (nI nk))))] H := hP
                have hD : va_D A [(mo, .inr (4, [.int (th), .ref mv, .ref mk, .int (nI nv), .int (nI nk), .int (nI sn), .ref ms, .ref ml, .ref mc, .int (nI 1), .ref mf, .ref mn])), (mv, .inl (jv, 100, .inl fv)), (mk, .inl (jk, 100, .inl fk)), (ms, .inl (js, 100, .inl gs)), (ml, .inl (jl, 100, .inl gl)), (mc, .inl (jc, 10201, .inl gc)), (mf, .inl (jf, 100, .inl (upd gf 0 (nI i)))), (mn, .inl (jn, 100, .inl (upd gn 0 (nI nk))))] := hD
                refine lv_iconst (v := 1) hx hb dX4_contains_86 (by decide) ?_
                subst hQ
                exact W.zret (v := 1) hx hb hr (by decide) (fun t ht hW => ⟨⟨_, (upd gf 0 (nI i), upd gn 0 (nI nk), 1), rfl, ⟨by show 1 ≤ 100; omega, Or.inl ⟨rfl, [(i, nk)], con_yes hv (by rw [← e9, fpA_hit (by omega) (by unfold fitB; rw [Nat.sub_zero, ← e7, ej, Nat.sub_self, decide_eq_true (by omega)]; rfl)]) (by omega), spIs_add spIs_0⟩⟩, by rw [ht]; exact hP, hD⟩, hS.F ht⟩) hS.2.2 dX4_contains_87
            · skip
              rw [ti_le, nI_toInt (by omega), nI_toInt (by omega)] at c22_4
              refine lv_aload_n hx hb dX4_contains_25 rfl (lv_at hl 0 rfl) ?_
              refine va_get (D := (dC, dI)) (ci := 4) (v := .ref mv) (C := RX4) (T := TX4) (N := 12) hx hb hw inX4 hown hK hP 0 rfl rfl 1 (by decide) (hw _ mw245) (fun _ h9 => h9) rfl dX4_contains_26 ?_
              refine lv_iload_n hx hb dX4_contains_29 rfl (lv_at hl 2 rfl) ?_
              refine lv_iload_n hx hb dX4_contains_30 rfl (lv_at hl 3 rfl) ?_
              refine lv_iadd hx hb dX4_contains_31 ?_
              refine lv_topi (fun x10 ex10 => ?_)
              obtain rfl : x10 = nI (i + j) := by rw [ex10]; exact nI_add i j
              refine va_iald hx hb hK hP 1 0 rfl rfl (i := (nI (i + j))) (vp_in_nI (by omega) (by omega)) dX4_contains_32 ?_
              refine lv_topi (fun x11 ex11 => ?_)
              obtain rfl : x11 = fv (i + j) := by rw [ex11, nI_clamp (by omega)]
              refine lv_iload_n hx hb dX4_contains_33 rfl (lv_at hl 1 rfl) ?_
              refine vp_callSi (va_Run.run (va_runS (As := [.int (fv (i + j)), .int (cp)]) (rest := []) ⟨hx, hb, hml, hown, hw⟩ (m_fold l (fv (i + j)) (cp)) (cwS 2 hw (gS mw308 mw309 mw20 mw310) rfl rfl rfl (by decide +kernel) ⟨Nat.le_of_ble_eq_true rfl, Nat.le_of_ble_eq_true rfl⟩) st.S rfl rfl hl.1 rfl (lv_room (Nat.le_of_ble_eq_true rfl)) dX4_contains_34 ⟨Nat.le_of_ble_eq_true rfl, Nat.le_of_ble_eq_true rfl⟩)) (fun r12 hr12 => ?_)
              subst hr12
              refine lv_aload_n hx hb dX4_contains_37 rfl (lv_at hl 0 rfl) ?_
              refine va_get (D := (dC, dI)) (ci := 4) (v := .ref mk) (C := RX4) (T := TX4) (N := 12) hx hb hw inX4 hown hK hP 0 rfl rfl 2 (by decide) (hw _ mw246) (fun _ h9 => h9) rfl dX4_contains_38 ?_
              refine lv_iload_n hx hb dX4_contains_41 rfl (lv_at hl 3 rfl) ?_
              refine va_iald hx hb hK hP 2 1 rfl rfl (i := (nI j)) (vp_in_nI (by omega) (by omega)) dX4_contains_42 ?_
              refine lv_topi (fun x13 ex13 => ?_)
              obtain rfl : x13 = fk j := by rw [ex13, nI_clamp (by omega)]
              refine lv_iload_n hx hb dX4_contains_43 rfl (lv_at hl 1 rfl) ?_
              refine vp_callSi (va_Run.run (va_runS (As := [.int (fk j), .int (cp)]) (rest := [.int (fo (fv (i + j)) (cp))]) ⟨hx, hb, hml, hown, hw⟩ (m_fold l (fk j) (cp)) (cwS 2 hw (gS mw308 mw309 mw20 mw310) rfl rfl rfl (by decide +kernel) ⟨Nat.le_of_ble_eq_true rfl, Nat.le_of_ble_eq_true rfl⟩) st.S rfl rfl hl.1 rfl (lv_room (Nat.le_of_ble_eq_true rfl)) dX4_contains_44 ⟨Nat.le_of_ble_eq_true rfl, Nat.le_of_ble_eq_true rfl⟩)) (fun r14 hr14 => ?_)
              subst hr14
              refine lv_icmp_ne (tgt := 56) hx hb dX4_contains_47 (by decide) (fun c47_14 => ?_) (fun c47_14 => ?_)
              · skip
                have d1 := fitA_no (k := nk - j) (by omega) (mok_no (rng_256 hrk (by omega)) c47_14)
                refine lv_iload_n hx hb dX4_contains_56 rfl (lv_at hl 3 rfl) ?_
                refine lv_aload_n hx hb dX4_contains_57 rfl (lv_at hl 0 rfl) ?_
                refine va_get (D := (dC, dI)) (ci := 4) (v := .int (nI nk)) (C := RX4) (T := TX4) (N := 12) hx hb hw inX4 hown hK hP 0 rfl rfl 4 (by decide) (hw _ mw248) (fun _ h9 => h9) rfl dX4_contains_58 ?_
                refine lv_icmp_ne (tgt := 88) hx hb dX4_contains_61 (by decide) (fun c61_15 => ?_) (fun c61_15 => ?_)
                · skip
                  have e6 : ¬ j = nk := fun q => c61_15 (by rw [q])
                  refine lv_iinc (v := nI (i + 1)) (lv' := [(2, .int (nI (i + 1))), (0, .ref mo), (1, .int (cp)), (3, .int (nI j))]) hx hb dX4_contains_88 hl (k := 2) rfl (nI_inc i) (by decide) rfl (fun ls hl => ?_)
                  refine lv_goto (tgt := 2) hx hb dX4_contains_91 (by decide) ?_
                  exact ih2 (i + 1) (by omega) ((fpA_next (k := nv + 1 - (nk - 0) - i) (by omega) (by unfold fitB; rw [Nat.sub_zero, ← e7, d1, Bool.and_false])).symm.trans e9) (by omega) ls (lv_sub hl [1, 2, 0] rfl)
                · skip
                  have e6 : j = nk := (nI_eq (by omega) (by omega)).mp (by first | exact c61_15 | exact Decidable.not_not.mp c61_15)
                  omega
              · skip
                have d1 : mok (fk j) (fv (i + j)) cp = true := decide_eq_true (Or.inr (Eq.symm (by first | exact c47_14 | exact Decidable.not_not.mp c47_14)))
                refine lv_iinc (v := nI (j + 1)) (lv' := [(3, .int (nI (j + 1))), (0, .ref mo), (1, .int (cp)), (2, .int (nI i))]) hx hb dX4_contains_50 hl (k := 3) rfl (nI_inc j) (by decide) rfl (fun ls hl => ?_)
                refine lv_goto (tgt := 17) hx hb dX4_contains_53 (by decide) ?_
                exact ih17 (j + 1) (by omega) ((fitA_yes (k := nk - j) (by omega) d1).symm.trans e7) (by omega) ls (lv_sub hl [1, 2, 3, 0] rfl)
        exact loop17 (nk + 1) 0 (Nat.zero_le _) rfl (by omega) ls (lv_sub hl [1, 2, 3, 0] rfl)
  exact loop2 103 0 (Nat.zero_le _) rfl (by omega) ls (lv_sub hl [1, 2, 0] rfl)

abbrev rm_m_signs : Room := { frames := 0, cells := 0, slots := 0, locals := 0 }
set_option maxHeartbeats 4000000 in
set_option maxRecDepth 100000 in
theorem m_signs (l : Launch) (dC : Nat → ClassId) (dI : Nat → Nat → Nat) (sz : Nat) (mo mv mk ms ml mc mf mn : Nat) (jv jk js jl jc jf jn : ClassId) (fv fk gs gl gc gf gn : Nat → Int32) (nv nk sn ct : Nat) (th : Int32) (hv : nv ≤ 100) (hk : nk ≤ 100) (hrk : rng fk nk) : Met l yX4_findSigns (.code yX4_findSigns cX4_findSigns 3 none :: wsA) rm_m_signs (va_Pc [.ref mo] (wr (dC, dI) [(mo, .inr (4, [.int (th), .ref mv, .ref mk, .int (nI nv), .int (nI nk), .int (nI sn), .ref ms, .ref ml, .ref mc, .int (nI ct), .ref mf, .ref mn])), (mv, .inl (jv, 100, .inl fv)), (mk, .inl (jk, 100, .inl fk)), (ms, .inl (js, 100, .inl gs)), (ml, .inl (jl, 100, .inl gl)), (mc, .inl (jc, 10201, .inl gc)), (mf, .inl (jf, 100, .inl gf)), (mn, .inl (jn, 100, .inl gn))] [(jv, .int), (jk, .int), (js, .int), (jl, .int), (jc, .boolean), (jf, .int), (jn, .int)] sz)) (va_Qv (fun (u : (Nat → Int32) × (Nat → Int32) × Nat) => u.2.2 = mkN fk nk ∧ u.2.2 ≤ nk ∧ ∀ j, j < u.2.2 → srel (u.1 j) (u.2.1 j) (mkF fk nk j)) (wB (dC, dI) (va_A [(mo, .inr (4, [.int (th), .ref mv, .ref mk, .int (nI nv), .int (nI nk), .int (nI sn), .ref ms, .ref ml, .ref mc, .int (nI ct), .ref mf, .ref mn])), (mv, .inl (jv, 100, .inl fv)), (mk, .inl (jk, 100, .inl fk)), (ms, .inl (js, 100, .inl gs)), (ml, .inl (jl, 100, .inl gl)), (mc, .inl (jc, 10201, .inl gc)), (mf, .inl (jf, 100, .inl gf)), (mn, .inl (jn, 100, .inl gn))] sz) (fun u : (Nat → Int32) × (Nat → Int32) × Nat => [(mo, .inr (4, [.int (th), .ref mv, .ref mk, .int (nI nv), .int (nI nk), .int (nI u.2.2), .ref ms, .ref ml, .ref mc, .int (nI ct), .ref mf, .ref mn])), (mv, .inl (jv, 100, .inl fv)), (mk, .inl (jk, 100, .inl fk)), (ms, .inl (js, 100, .inl (u.1))), (ml, .inl (jl, 100, .inl (u.2.1))), (mc, .inl (jc, 10201, .inl gc)), (mf, .inl (jf, 100, .inl gf)), (mn, .inl (jn, 100, .inl gn))])) (va_A [(mo, .inr (4, [.int (th), .ref mv, .ref mk, .int (nI nv), .int (nI nk), .int (nI sn), .ref ms, .ref ml, .ref mc, .int (nI ct), .ref mf, .ref mn])), (mv, .inl (jv, 100, .inl fv)), (mk, .inl (jk, 100, .inl fk)), (ms, .inl (js, 100, .inl gs)), (ml, .inl (jl, 100, .inl gl)), (mc, .inl (jc, 10201, .inl gc)), (mf, .inl (jf, 100, .inl gf)), (mn, .inl (jn, 100, .inl gn))] sz)) 0 0 (va_A [(mo, .inr (4, [.int (th), .ref mv, .ref mk, .int (nI nv), .int (nI nk), .int (nI sn), .ref ms, .ref ml, .ref mc, .int (nI ct), .ref mf, .ref mn])), (mv, .inl (jv, 100, .inl fv)), (mk, .inl (jk, 100, .inl fk)), (ms, .inl (js, 100, .inl gs)), (ml, .inl (jl, 100, .inl gl)), (mc, .inl (jc, 10201, .inl gc)), (mf, .inl (jf, 100, .inl gf)), (mn, .inl (jn, 100, .inl gn))] sz) := by
  refine Met.ofW (cc := cX4_findSigns) (maxL := 3) (ret := none) (by decide) rfl ?_
  intro p e s m args below meth c s₁ B hml hv
  obtain ⟨hargs, hsz, hN, hP, hK, hD0⟩ := hv
  have hx := B.exec
  have hb := B.bytes
  have hr := B.returns
  have hw : ∀ w ∈ wsA, w.before args s = true := fun w h => atoms_spec (ws := (.code yX4_findSigns cX4_findSigns 3 none :: wsA)) B.pre w (List.mem_cons_of_mem _ h)
  have hown : s.vm.findClass "GlobDeskModel" = some m.cls := findClass_of_methodNamed B.named
  have hlocks := B.notSynchronized
  subst hsz
  have hD := hD0.self (sz := s.heap.size)
  generalize hAe : va_A [(mo, .inr (4, [.int (th), .ref mv, .ref mk, .int (nI nv), .int (nI nk), .int (nI sn), .ref ms, .ref ml, .ref mc, .int (nI ct), .ref mf, .ref mn])), (mv, .inl (jv, 100, .inl fv)), (mk, .inl (jk, 100, .inl fk)), (ms, .inl (js, 100, .inl gs)), (ml, .inl (jl, 100, .inl gl)), (mc, .inl (jc, 10201, .inl gc)), (mf, .inl (jf, 100, .inl gf)), (mn, .inl (jn, 100, .inl gn))] s.heap.size = A at hD ⊢
  have hA : ∀ q : Nat, s.heap.size ≤ q → A q := fun q h => by rw [← hAe]; exact Or.inr h
  have hS : va_S A s.heap s.heap [] := va_S.rf
  generalize hQ : MQ below _ args s _ _ _ = Q
  change W p l e rm_m_signs s m args below meth c s.heap [] 0 0 Q (entryFrame m args 3)
  have hl := lv_entry ([.ref mo]) (n := 3) (Nat.le_of_ble_eq_true rfl)
  rw [show entryFrame m args 3 = entryFrame m ([.ref mo] : List Value).toArray 3 from by rw [hargs], lg_entry_eq]
  generalize (lg_sl ([.ref mo]) ++ List.replicate (3 - (lg_sl ([.ref mo])).length) Slot.unset).toArray = ls at hl ⊢
  have hl : lv_has ls 3 [(0, .ref mo)] := hl
  refine lv_aload_n hx hb dX4_findSigns_0 rfl (lv_at hl 0 rfl) ?_
  refine lv_iconst (v := 0) hx hb dX4_findSigns_1 (by decide) ?_
  refine lv_topi (fun x1 ex1 => ?_)
  obtain rfl : x1 = nI 0 := by rw [ex1]; exact nI_0.symm
  refine va_put (D := (dC, dI)) (ci := 4) (v := .int (nI 0)) (ty := .int) (C := RX4) (T := TX4) (N := 12) hx hb hw inX4 tyX4 tyX4_ok nmX4 hown hK hP hD hS 0 rfl rfl 5 (by decide) (hw _ mw249) (fun _ h9 => h9) rfl (by decide +kernel) rfl rfl (Nat.le_of_ble_eq_true rfl) dX4_findSigns_2 (fun H locs hP hD hS => ?_)
  have hP : va_P (dC, dI) cl5 [(mo, .inr (4, [.int (th), .ref mv, .ref mk, .int (nI nv), .int (nI nk), .int (nI 0), .ref ms, .ref ml, .ref mc, .int (nI ct), .ref mf, .ref mn])), (mv, .inl (jv, 100, .inl fv)), (mk, .inl (jk, 100, .inl fk)), (ms, .inl (js, 100, .inl gs)), (ml, .inl (jl, 100, .inl gl)), (mc, .inl (jc, 10201, .inl gc)), (mf, .inl (jf, 100, .inl gf)), (mn, .inl (jn, 100, .inl gn))] H := hP
  have hD : va_D A [(mo, .inr (4, [.int (th), .ref mv, .ref mk, .int (nI nv), .int (nI nk), .int (nI 0), .ref ms, .ref ml, .ref mc, .int (nI ct), .ref mf, .ref mn])), (mv, .inl (jv, 100, .inl fv)), (mk, .inl (jk, 100, .inl fk)), (ms, .inl (js, 100, .inl gs)), (ml, .inl (jl, 100, .inl gl)), (mc, .inl (jc, 10201, .inl gc)), (mf, .inl (jf, 100, .inl gf)), (mn, .inl (jn, 100, .inl gn))] := hD
  refine lv_iconst (v := 0) hx hb dX4_findSigns_5 (by decide) ?_
  refine lv_topi (fun x2 ex2 => ?_)
  obtain rfl : x2 = nI 0 := by rw [ex2]; exact nI_0.symm
  refine lv_istore_n (lv' := [(1, .int (nI 0)), (0, .ref mo)]) hx hb dX4_findSigns_6 rfl hl (by decide) rfl (fun ls hl => ?_)
  have loop7 : ∀ (nn7 : Nat) (i r p1 : Nat) (acc : List Int32) (w1 w2 : Nat → Int32) (hr9 : nk ≤ r + i) (hp9 : p1 = acc.length) (e9 : acc ++ mkL fk nk r i = mkL fk nk nk 0) (e7 : srl w1 w2 acc) (hpi : p1 ≤ i) (hpi2 : i ≤ nk) (_ : nk - i < nn7) (H : Heap) (locs : List Loc) (_ : va_P (dC, dI) cl5 [(mo, .inr (4, [.int (th), .ref mv, .ref mk, .int (nI nv), .int (nI nk), .int (nI p1), .ref ms, .ref ml, .ref mc, .int (nI ct), .ref mf, .ref mn])), (mv, .inl (jv, 100, .inl fv)), (mk, .inl (jk, 100, .inl fk)), (ms, .inl (js, 100, .inl w1)), (ml, .inl (jl, 100, .inl w2)), (mc, .inl (jc, 10201, .inl gc)), (mf, .inl (jf, 100, .inl gf)), (mn, .inl (jn, 100, .inl gn))] H) (_ : va_D A [(mo, .inr (4, [.int (th), .ref mv, .ref mk, .int (nI nv), .int (nI nk), .int (nI p1), .ref ms, .ref ml, .ref mc, .int (nI ct), .ref mf, .ref mn])), (mv, .inl (jv, 100, .inl fv)), (mk, .inl (jk, 100, .inl fk)), (ms, .inl (js, 100, .inl w1)), (ml, .inl (jl, 100, .inl w2)), (mc, .inl (jc, 10201, .inl gc)), (mf, .inl (jf, 100, .inl gf)), (mn, .inl (jn, 100, .inl gn))]) (_ : va_S A s.heap H locs) (ls : Array Slot) (_ : lv_has ls 3 [(0, .ref mo), (1, .int (nI i))]), W p l e rm_m_signs s m args below meth c H locs 0 0 Q (F0 m 7 ls []) := by
    intro nn7
    induction nn7 with
    | zero => intro i r p1 acc w1 w2 hr9 hp9 e9 e7 hpi hpi2 hm7 H locs hP hD hS ls hl; exact absurd hm7 (Nat.not_lt_zero _)
    | succ nn7 ih7 =>
      intro i r p1 acc w1 w2 hr9 hp9 e9 e7 hpi hpi2 hm7 H locs hP hD hS ls hl
      refine lv_iload_n hx hb dX4_findSigns_7 rfl (lv_at hl 1 rfl) ?_
      refine lv_aload_n hx hb dX4_findSigns_8 rfl (lv_at hl 0 rfl) ?_
      refine va_get (D := (dC, dI)) (ci := 4) (v := .int (nI nk)) (C := RX4) (T := TX4) (N := 12) hx hb hw inX4 hown hK hP 0 rfl rfl 4 (by decide) (hw _ mw248) (fun _ h9 => h9) rfl dX4_findSigns_9 ?_
      refine lv_icmp_ge (tgt := 128) hx hb dX4_findSigns_12 (by decide) (fun c12_2 => ?_) (fun c12_2 => ?_)
      · skip
        rw [ti_le, nI_toInt (by omega), nI_toInt (by omega)] at c12_2
        subst hQ
        exact W.vret hx hb hr (fun t ht hW => ⟨⟨(w1, w2, p1), rfl, by rw [mkL_end (by omega), List.append_nil] at e9; subst e9; exact ⟨hp9, by show p1 ≤ nk; omega, fun j hj => e7 j (by rw [← hp9]; exact hj)⟩, by rw [ht]; exact hP, hD⟩, hS.F ht⟩) hS.2.2 dX4_findSigns_128
      · skip
        rw [ti_le, nI_toInt (by omega), nI_toInt (by omega)] at c12_2
        refine lv_aload_n hx hb dX4_findSigns_15 rfl (lv_at hl 0 rfl) ?_
        refine va_get (D := (dC, dI)) (ci := 4) (v := .ref mk) (C := RX4) (T := TX4) (N := 12) hx hb hw inX4 hown hK hP 0 rfl rfl 2 (by decide) (hw _ mw246) (fun _ h9 => h9) rfl dX4_findSigns_16 ?_
        refine lv_iload_n hx hb dX4_findSigns_19 rfl (lv_at hl 1 rfl) ?_
        refine va_iald hx hb hK hP 2 1 rfl rfl (i := (nI i)) (vp_in_nI (by omega) (by omega)) dX4_findSigns_20 ?_
        refine lv_topi (fun x4 ex4 => ?_)
        obtain rfl : x4 = fk i := by rw [ex4, nI_clamp (by omega)]
        refine lv_bipush (v := 92) hx hb dX4_findSigns_21 (by decide) ?_
        refine lv_icmp_ne (tgt := 40) hx hb dX4_findSigns_23 (by decide) (fun c23_4 => ?_) (fun c23_4 => ?_)
        · skip
          have z0 : ¬ (fk i = 92 ∧ i + 1 < nk) := fun q => c23_4 q.1
          refine lv_iconst (v := 0) hx hb dX4_findSigns_40 (by decide) ?_
          refine lv_istore_n (lv' := [(2, .int (0)), (0, .ref mo), (1, .int (nI i))]) hx hb dX4_findSigns_41 rfl hl (by decide) rfl (fun ls hl => ?_)
          refine lv_iload_n hx hb dX4_findSigns_42 rfl (lv_at hl 0 rfl) ?_
          refine lv_if_eq (tgt := 49) hx hb dX4_findSigns_43 (by decide) (fun c43_5 => ?_) (fun c43_5 => ?_)
          · skip
            refine lv_aload_n hx hb dX4_findSigns_49 rfl (lv_at hl 1 rfl) ?_
            refine va_get (D := (dC, dI)) (ci := 4) (v := .ref ms) (C := RX4) (T := TX4) (N := 12) hx hb hw inX4 hown hK hP 0 rfl rfl 6 (by decide) (hw _ mw250) (fun _ h9 => h9) rfl dX4_findSigns_50 ?_
            refine lv_aload_n hx hb dX4_findSigns_53 rfl (lv_at hl 1 rfl) ?_
            refine va_get (D := (dC, dI)) (ci := 4) (v := .int (nI p1)) (C := RX4) (T := TX4) (N := 12) hx hb hw inX4 hown hK hP 0 rfl rfl 5 (by decide) (hw _ mw249) (fun _ h9 => h9) rfl dX4_findSigns_54 ?_
            refine lv_iload_n hx hb dX4_findSigns_57 rfl (lv_at hl 0 rfl) ?_
            refine lv_if_eq (tgt := 65) hx hb dX4_findSigns_58 (by decide) (fun c58_6 => ?_) (fun c58_6 => ?_)
            · skip
              refine lv_aload_n hx hb dX4_findSigns_65 rfl (lv_at hl 1 rfl) ?_
              refine va_get (D := (dC, dI)) (ci := 4) (v := .ref mk) (C := RX4) (T := TX4) (N := 12) hx hb hw inX4 hown hK hP 0 rfl rfl 2 (by decide) (hw _ mw246) (fun _ h9 => h9) rfl dX4_findSigns_66 ?_
              refine lv_iload_n hx hb dX4_findSigns_69 rfl (lv_at hl 2 rfl) ?_
              refine va_iald hx hb hK hP 2 1 rfl rfl (i := (nI i)) (vp_in_nI (by omega) (by omega)) dX4_findSigns_70 ?_
              refine lv_topi (fun x8 ex8 => ?_)
              obtain rfl : x8 = fk i := by rw [ex8, nI_clamp (by omega)]
              refine lv_bipush (v := 63) hx hb dX4_findSigns_71 (by decide) ?_
              refine lv_icmp_ne (tgt := 80) hx hb dX4_findSigns_73 (by decide) (fun c73_8 => ?_) (fun c73_8 => ?_)
              · skip
                have z3 := c73_8
                refine lv_aload_n hx hb dX4_findSigns_80 rfl (lv_at hl 1 rfl) ?_
                refine va_get (D := (dC, dI)) (ci := 4) (v := .ref mk) (C := RX4) (T := TX4) (N := 12) hx hb hw inX4 hown hK hP 0 rfl rfl 2 (by decide) (hw _ mw246) (fun _ h9 => h9) rfl dX4_findSigns_81 ?_
                refine lv_iload_n hx hb dX4_findSigns_84 rfl (lv_at hl 2 rfl) ?_
                refine va_iald hx hb hK hP 2 1 rfl rfl (i := (nI i)) (vp_in_nI (by omega) (by omega)) dX4_findSigns_85 ?_
                refine lv_topi (fun x10 ex10 => ?_)
                obtain rfl : x10 = fk i := by rw [ex10, nI_clamp (by omega)]
                refine lv_bipush (v := 42) hx hb dX4_findSigns_86 (by decide) ?_
                refine lv_icmp_ne (tgt := 95) hx hb dX4_findSigns_88 (by decide) (fun c88_10 => ?_) (fun c88_10 => ?_)
                · skip
                  have z2 := c88_10
                  refine lv_iconst (v := 0) hx hb dX4_findSigns_95 (by decide) ?_
                  refine va_iast hx hb hK hP hD hS 3 2 rfl rfl (i := (nI p1)) (vp_in_nI (by omega) (by omega)) dX4_findSigns_96 (fun H locs hP hD hS => ?_)
                  rw [nI_clamp (by omega)] at hP hD
                  have hP : va_P (dC, dI) cl5 [(mo, .inr (4, [.int (th), .ref mv, .ref mk, .int (nI nv), .int (nI nk), .int (nI p1), .ref ms, .ref ml, .ref mc, .int (nI ct), .ref mf, .ref mn])), (mv, .inl (jv, 100, .inl fv)), (mk, .inl (jk, 100, .inl fk)), (ms, .inl (js, 100, .inl (upd w1 p1 (0)))), (ml, .inl (jl, 100, .inl w2)), (mc, .inl (jc, 10201, .inl gc)), (mf, .inl (jf, 100, .inl gf)), (mn, .inl (jn, 100, .inl gn))] H := hP
                  have hD : va_D A [(mo, .inr (4, [.int (th), .ref mv, .ref mk, .int (nI nv), .int (nI nk), .int (nI p1), .ref ms, .ref ml, .ref mc, .int (nI ct), .ref mf, .ref mn])), (mv, .inl (jv, 100, .inl fv)), (mk, .inl (jk, 100, .inl fk)), (ms, .inl (js, 100, .inl (upd w1 p1 (0)))), (ml, .inl (jl, 100, .inl w2)), (mc, .inl (jc, 10201, .inl gc)), (mf, .inl (jf, 100, .inl gf)), (mn, .inl (jn, 100, .inl gn))] := hD
                  refine lv_aload_n hx hb dX4_findSigns_97 rfl (lv_at hl 1 rfl) ?_
                  refine va_get (D := (dC, dI)) (ci := 4) (v := .ref ml) (C := RX4) (T := TX4) (N := 12) hx hb hw inX4 hown hK hP 0 rfl rfl 7 (by decide) (hw _ mw251) (fun _ h9 => h9) rfl dX4_findSigns_98 ?_
                  refine lv_aload_n hx hb dX4_findSigns_101 rfl (lv_at hl 1 rfl) ?_
                  refine va_get (D := (dC, dI)) (ci := 4) (v := .int (nI p1)) (C := RX4) (T := TX4) (N := 12) hx hb hw inX4 hown hK hP 0 rfl rfl 5 (by decide) (hw _ mw249) (fun _ h9 => h9) rfl dX4_findSigns_102 ?_
                  refine lv_aload_n hx hb dX4_findSigns_105 rfl (lv_at hl 1 rfl) ?_
                  refine va_get (D := (dC, dI)) (ci := 4) (v := .ref mk) (C := RX4) (T := TX4) (N := 12) hx hb hw inX4 hown hK hP 0 rfl rfl 2 (by decide) (hw _ mw246) (fun _ h9 => h9) rfl dX4_findSigns_106 ?_
                  refine lv_iload_n hx hb dX4_findSigns_109 rfl (lv_at hl 2 rfl) ?_
                  refine va_iald hx hb hK hP 2 1 rfl rfl (i := (nI i)) (vp_in_nI (by omega) (by omega)) dX4_findSigns_110 ?_
                  refine lv_topi (fun x12 ex12 => ?_)
                  obtain rfl : x12 = fk i := by rw [ex12, nI_clamp (by omega)]
                  refine va_iast hx hb hK hP hD hS 4 3 rfl rfl (i := (nI p1)) (vp_in_nI (by omega) (by omega)) dX4_findSigns_111 (fun H locs hP hD hS => ?_)
                  rw [nI_clamp (by omega)] at hP hD
                  have hP : va_P (dC, dI) cl5 [(mo, .inr (4, [.int (th), .ref mv, .ref mk, .int (nI nv), .int (nI nk), .int (nI p1), .ref ms, .ref ml, .ref mc, .int (nI ct), .ref mf, .ref mn])), (mv, .inl (jv, 100, .inl fv)), (mk, .inl (jk, 100, .inl fk)), (ms, .inl (js, 100, .inl (upd w1 p1 (0)))), (ml, .inl (jl, 100, .inl (upd w2 p1 (fk i)))), (mc, .inl (jc, 10201, .inl gc)), (mf, .inl (jf, 100, .inl gf)), (mn, .inl (jn, 100, .inl gn))] H := hP
                  have hD : va_D A [(mo, .inr (4, [.int (th), .ref mv, .ref mk, .int (nI nv), .int (nI nk), .int (nI p1), .ref ms, .ref ml, .ref mc, .int (nI ct), .ref mf, .ref mn])), (mv, .inl (jv, 100, .inl fv)), (mk, .inl (jk, 100, .inl fk)), (ms, .inl (js, 100, .inl (upd w1 p1 (0)))), (ml, .inl (jl, 100, .inl (upd w2 p1 (fk i)))), (mc, .inl (jc, 10201, .inl gc)), (mf, .inl (jf, 100, .inl gf)), (mn, .inl (jn, 100, .inl gn))] := hD
                  refine lv_aload_n hx hb dX4_findSigns_112 rfl (lv_at hl 1 rfl) ?_
                  refine lv_dup hx hb dX4_findSigns_113 rfl ?_
                  refine va_get (D := (dC, dI)) (ci := 4) (v := .int (nI p1)) (C := RX4) (T := TX4) (N := 12) hx hb hw inX4 hown hK hP 0 rfl rfl 5 (by decide) (hw _ mw249) (fun _ h9 => h9) rfl dX4_findSigns_114 ?_
                  refine lv_iconst (v := 1) hx hb dX4_findSigns_117 (by decide) ?_
                  refine lv_iadd hx hb dX4_findSigns_118 ?_
                  refine lv_topi (fun x13 ex13 => ?_)
                  obtain rfl : x13 = nI (p1 + 1) := by rw [ex13]; exact nI_1 p1
                  refine va_put (D := (dC, dI)) (ci := 4) (v := .int (nI (p1 + 1))) (ty := .int) (C := RX4) (T := TX4) (N := 12) hx hb hw inX4 tyX4 tyX4_ok nmX4 hown hK hP hD hS 0 rfl rfl 5 (by decide) (hw _ mw249) (fun _ h9 => h9) rfl (by decide +kernel) rfl rfl (Nat.le_of_ble_eq_true rfl) dX4_findSigns_119 (fun H locs hP hD hS => ?_)
                  have hP : va_P (dC, dI) cl5 [(mo, .inr (4, [.int (th), .ref mv, .ref mk, .int (nI nv), .int (nI nk), .int (nI (p1 + 1)), .ref ms, .ref ml, .ref mc, .int (nI ct), .ref mf, .ref mn])), (mv, .inl (jv, 100, .inl fv)), (mk, .inl (jk, 100, .inl fk)), (ms, .inl (js, 100, .inl (upd w1 p1 (0)))), (ml, .inl (jl, 100, .inl (upd w2 p1 (fk i)))), (mc, .inl (jc, 10201, .inl gc)), (mf, .inl (jf, 100, .inl gf)), (mn, .inl (jn, 100, .inl gn))] H := hP
                  have hD : va_D A [(mo, .inr (4, [.int (th), .ref mv, .ref mk, .int (nI nv), .int (nI nk), .int (nI (p1 + 1)), .ref ms, .ref ml, .ref mc, .int (nI ct), .ref mf, .ref mn])), (mv, .inl (jv, 100, .inl fv)), (mk, .inl (jk, 100, .inl fk)), (ms, .inl (js, 100, .inl (upd w1 p1 (0)))), (ml, .inl (jl, 100, .inl (upd w2 p1 (fk i)))), (mc, .inl (jc, 10201, .inl gc)), (mf, .inl (jf, 100, .inl gf)), (mn, .inl (jn, 100, .inl gn))] := hD
                  refine lv_iinc (v := nI (i + 1)) (lv' := [(1, .int (nI (i + 1))), (2, .int (0)), (0, .ref mo)]) hx hb dX4_findSigns_122 hl (k := 2) rfl (nI_inc i) (by decide) rfl (fun ls hl => ?_)
                  refine lv_goto (tgt := 7) hx hb dX4_findSigns_125 (by decide) ?_
                  exact ih7 (i + 1) (r - 1) (p1 + 1) (acc ++ [fk i]) _ _ (by omega) (by rw [List.length_append, List.length_singleton, hp9]) (by rw [List.append_assoc, ← e9, mkL_one z0 (by omega) hr9, if_neg z2, if_neg z3]; rfl) (srl_add e7 hp9 (Or.inr (Or.inr ⟨rfl, rfl, hrk i (by omega)⟩))) (by omega) (by omega) (by omega) H locs hP hD hS ls (lv_sub hl [2, 0] rfl)
                · skip
                  have z2 := c88_10
                  refine lv_iconst (v := 2) hx hb dX4_findSigns_91 (by decide) ?_
                  refine lv_goto (tgt := 96) hx hb dX4_findSigns_92 (by decide) ?_
                  refine va_iast hx hb hK hP hD hS 3 2 rfl rfl (i := (nI p1)) (vp_in_nI (by omega) (by omega)) dX4_findSigns_96 (fun H locs hP hD hS => ?_)
                  rw [nI_clamp (by omega)] at hP hD
                  have hP : va_P (dC, dI) cl5 [(mo, .inr (4, [.int (th), .ref mv, .ref mk, .int (nI nv), .int (nI nk), .int (nI p1), .ref ms, .ref ml, .ref mc, .int (nI ct), .ref mf, .ref mn])), (mv, .inl (jv, 100, .inl fv)), (mk, .inl (jk, 100, .inl fk)), (ms, .inl (js, 100, .inl (upd w1 p1 (2)))), (ml, .inl (jl, 100, .inl w2)), (mc, .inl (jc, 10201, .inl gc)), (mf, .inl (jf, 100, .inl gf)), (mn, .inl (jn, 100, .inl gn))] H := hP
                  have hD : va_D A [(mo, .inr (4, [.int (th), .ref mv, .ref mk, .int (nI nv), .int (nI nk), .int (nI p1), .ref ms, .ref ml, .ref mc, .int (nI ct), .ref mf, .ref mn])), (mv, .inl (jv, 100, .inl fv)), (mk, .inl (jk, 100, .inl fk)), (ms, .inl (js, 100, .inl (upd w1 p1 (2)))), (ml, .inl (jl, 100, .inl w2)), (mc, .inl (jc, 10201, .inl gc)), (mf, .inl (jf, 100, .inl gf)), (mn, .inl (jn, 100, .inl gn))] := hD
                  refine lv_aload_n hx hb dX4_findSigns_97 rfl (lv_at hl 1 rfl) ?_
                  refine va_get (D := (dC, dI)) (ci := 4) (v := .ref ml) (C := RX4) (T := TX4) (N := 12) hx hb hw inX4 hown hK hP 0 rfl rfl 7 (by decide) (hw _ mw251) (fun _ h9 => h9) rfl dX4_findSigns_98 ?_
                  refine lv_aload_n hx hb dX4_findSigns_101 rfl (lv_at hl 1 rfl) ?_
                  refine va_get (D := (dC, dI)) (ci := 4) (v := .int (nI p1)) (C := RX4) (T := TX4) (N := 12) hx hb hw inX4 hown hK hP 0 rfl rfl 5 (by decide) (hw _ mw249) (fun _ h9 => h9) rfl dX4_findSigns_102 ?_
                  refine lv_aload_n hx hb dX4_findSigns_105 rfl (lv_at hl 1 rfl) ?_
                  refine va_get (D := (dC, dI)) (ci := 4) (v := .ref mk) (C := RX4) (T := TX4) (N := 12) hx hb hw inX4 hown hK hP 0 rfl rfl 2 (by decide) (hw _ mw246) (fun _ h9 => h9) rfl dX4_findSigns_106 ?_
                  refine lv_iload_n hx hb dX4_findSigns_109 rfl (lv_at hl 2 rfl) ?_
                  refine va_iald hx hb hK hP 2 1 rfl rfl (i := (nI i)) (vp_in_nI (by omega) (by omega)) dX4_findSigns_110 ?_
                  refine lv_topi (fun x14 ex14 => ?_)
                  obtain rfl : x14 = fk i := by rw [ex14, nI_clamp (by omega)]
                  refine va_iast hx hb hK hP hD hS 4 3 rfl rfl (i := (nI p1)) (vp_in_nI (by omega) (by omega)) dX4_findSigns_111 (fun H locs hP hD hS => ?_)
                  rw [nI_clamp (by omega)] at hP hD
                  have hP : va_P (dC, dI) cl5 [(mo, .inr (4, [.int (th), .ref mv, .ref mk, .int (nI nv), .int (nI nk), .int (nI p1), .ref ms, .ref ml, .ref mc, .int (nI ct), .ref mf, .ref mn])), (mv, .inl (jv, 100, .inl fv)), (mk, .inl (jk, 100, .inl fk)), (ms, .inl (js, 100, .inl (upd w1 p1 (2)))), (ml, .inl (jl, 100, .inl (upd w2 p1 (fk i)))), (mc, .inl (jc, 10201, .inl gc)), (mf, .inl (jf, 100, .inl gf)), (mn, .inl (jn, 100, .inl gn))] H := hP
                  have hD : va_D A [(mo, .inr (4, [.int (th), .ref mv, .ref mk, .int (nI nv), .int (nI nk), .int (nI p1), .ref ms, .ref ml, .ref mc, .int (nI ct), .ref mf, .ref mn])), (mv, .inl (jv, 100, .inl fv)), (mk, .inl (jk, 100, .inl fk)), (ms, .inl (js, 100, .inl (upd w1 p1 (2)))), (ml, .inl (jl, 100, .inl (upd w2 p1 (fk i)))), (mc, .inl (jc, 10201, .inl gc)), (mf, .inl (jf, 100, .inl gf)), (mn, .inl (jn, 100, .inl gn))] := hD
                  refine lv_aload_n hx hb dX4_findSigns_112 rfl (lv_at hl 1 rfl) ?_
                  refine lv_dup hx hb dX4_findSigns_113 rfl ?_
                  refine va_get (D := (dC, dI)) (ci := 4) (v := .int (nI p1)) (C := RX4) (T := TX4) (N := 12) hx hb hw inX4 hown hK hP 0 rfl rfl 5 (by decide) (hw _ mw249) (fun _ h9 => h9) rfl dX4_findSigns_114 ?_
                  refine lv_iconst (v := 1) hx hb dX4_findSigns_117 (by decide) ?_
                  refine lv_iadd hx hb dX4_findSigns_118 ?_
                  refine lv_topi (fun x15 ex15 => ?_)
                  obtain rfl : x15 = nI (p1 + 1) := by rw [ex15]; exact nI_1 p1
                  refine va_put (D := (dC, dI)) (ci := 4) (v := .int (nI (p1 + 1))) (ty := .int) (C := RX4) (T := TX4) (N := 12) hx hb hw inX4 tyX4 tyX4_ok nmX4 hown hK hP hD hS 0 rfl rfl 5 (by decide) (hw _ mw249) (fun _ h9 => h9) rfl (by decide +kernel) rfl rfl (Nat.le_of_ble_eq_true rfl) dX4_findSigns_119 (fun H locs hP hD hS => ?_)
                  have hP : va_P (dC, dI) cl5 [(mo, .inr (4, [.int (th), .ref mv, .ref mk, .int (nI nv), .int (nI nk), .int (nI (p1 + 1)), .ref ms, .ref ml, .ref mc, .int (nI ct), .ref mf, .ref mn])), (mv, .inl (jv, 100, .inl fv)), (mk, .inl (jk, 100, .inl fk)), (ms, .inl (js, 100, .inl (upd w1 p1 (2)))), (ml, .inl (jl, 100, .inl (upd w2 p1 (fk i)))), (mc, .inl (jc, 10201, .inl gc)), (mf, .inl (jf, 100, .inl gf)), (mn, .inl (jn, 100, .inl gn))] H := hP
                  have hD : va_D A [(mo, .inr (4, [.int (th), .ref mv, .ref mk, .int (nI nv), .int (nI nk), .int (nI (p1 + 1)), .ref ms, .ref ml, .ref mc, .int (nI ct), .ref mf, .ref mn])), (mv, .inl (jv, 100, .inl fv)), (mk, .inl (jk, 100, .inl fk)), (ms, .inl (js, 100, .inl (upd w1 p1 (2)))), (ml, .inl (jl, 100, .inl (upd w2 p1 (fk i)))), (mc, .inl (jc, 10201, .inl gc)), (mf, .inl (jf, 100, .inl gf)), (mn, .inl (jn, 100, .inl gn))] := hD
                  refine lv_iinc (v := nI (i + 1)) (lv' := [(1, .int (nI (i + 1))), (2, .int (0)), (0, .ref mo)]) hx hb dX4_findSigns_122 hl (k := 2) rfl (nI_inc i) (by decide) rfl (fun ls hl => ?_)
                  refine lv_goto (tgt := 7) hx hb dX4_findSigns_125 (by decide) ?_
                  exact ih7 (i + 1) (r - 1) (p1 + 1) (acc ++ [257]) _ _ (by omega) (by rw [List.length_append, List.length_singleton, hp9]) (by rw [List.append_assoc, ← e9, mkL_one z0 (by omega) hr9, if_pos (by first | exact z2 | exact Decidable.not_not.mp z2)]; rfl) (srl_add e7 hp9 (Or.inl ⟨rfl, rfl⟩)) (by omega) (by omega) (by omega) H locs hP hD hS ls (lv_sub hl [2, 0] rfl)
              · skip
                have z3 := c73_8
                have z2 : ¬ fk i = 42 := by rw [(show fk i = 63 from by first | exact c73_8 | exact Decidable.not_not.mp c73_8)]; decide
                refine lv_iconst (v := 1) hx hb dX4_findSigns_76 (by decide) ?_
                refine lv_goto (tgt := 96) hx hb dX4_findSigns_77 (by decide) ?_
                refine va_iast hx hb hK hP hD hS 3 2 rfl rfl (i := (nI p1)) (vp_in_nI (by omega) (by omega)) dX4_findSigns_96 (fun H locs hP hD hS => ?_)
                rw [nI_clamp (by omega)] at hP hD
                have hP : va_P (dC, dI) cl5 [(mo, .inr (4, [.int (th), .ref mv, .ref mk, .int (nI nv), .int (nI nk), .int (nI p1), .ref ms, .ref ml, .ref mc, .int (nI ct), .ref mf, .ref mn])), (mv, .inl (jv, 100, .inl fv)), (mk, .inl (jk, 100, .inl fk)), (ms, .inl (js, 100, .inl (upd w1 p1 (1)))), (ml, .inl (jl, 100, .inl w2)), (mc, .inl (jc, 10201, .inl gc)), (mf, .inl (jf, 100, .inl gf)), (mn, .inl (jn, 100, .inl gn))] H := hP
                have hD : va_D A [(mo, .inr (4, [.int (th), .ref mv, .ref mk, .int (nI nv), .int (nI nk), .int (nI p1), .ref ms, .ref ml, .ref mc, .int (nI ct), .ref mf, .ref mn])), (mv, .inl (jv, 100, .inl fv)), (mk, .inl (jk, 100, .inl fk)), (ms, .inl (js, 100, .inl (upd w1 p1 (1)))), (ml, .inl (jl, 100, .inl w2)), (mc, .inl (jc, 10201, .inl gc)), (mf, .inl (jf, 100, .inl gf)), (mn, .inl (jn, 100, .inl gn))] := hD
                refine lv_aload_n hx hb dX4_findSigns_97 rfl (lv_at hl 1 rfl) ?_
                refine va_get (D := (dC, dI)) (ci := 4) (v := .ref ml) (C := RX4) (T := TX4) (N := 12) hx hb hw inX4 hown hK hP 0 rfl rfl 7 (by decide) (hw _ mw251) (fun _ h9 => h9) rfl dX4_findSigns_98 ?_
                refine lv_aload_n hx hb dX4_findSigns_101 rfl (lv_at hl 1 rfl) ?_
                refine va_get (D := (dC, dI)) (ci := 4) (v := .int (nI p1)) (C := RX4) (T := TX4) (N := 12) hx hb hw inX4 hown hK hP 0 rfl rfl 5 (by decide) (hw _ mw249) (fun _ h9 => h9) rfl dX4_findSigns_102 ?_
                refine lv_aload_n hx hb dX4_findSigns_105 rfl (lv_at hl 1 rfl) ?_
                refine va_get (D := (dC, dI)) (ci := 4) (v := .ref mk) (C := RX4) (T := TX4) (N := 12) hx hb hw inX4 hown hK hP 0 rfl rfl 2 (by decide) (hw _ mw246) (fun _ h9 => h9) rfl dX4_findSigns_106 ?_
                refine lv_iload_n hx hb dX4_findSigns_109 rfl (lv_at hl 2 rfl) ?_
                refine va_iald hx hb hK hP 2 1 rfl rfl (i := (nI i)) (vp_in_nI (by omega) (by omega)) dX4_findSigns_110 ?_
                refine lv_topi (fun x16 ex16 => ?_)
                obtain rfl : x16 = fk i := by rw [ex16, nI_clamp (by omega)]
                refine va_iast hx hb hK hP hD hS 4 3 rfl rfl (i := (nI p1)) (vp_in_nI (by omega) (by omega)) dX4_findSigns_111 (fun H locs hP hD hS => ?_)
                rw [nI_clamp (by omega)] at hP hD
                have hP : va_P (dC, dI) cl5 [(mo, .inr (4, [.int (th), .ref mv, .ref mk, .int (nI nv), .int (nI nk), .int (nI p1), .ref ms, .ref ml, .ref mc, .int (nI ct), .ref mf, .ref mn])), (mv, .inl (jv, 100, .inl fv)), (mk, .inl (jk, 100, .inl fk)), (ms, .inl (js, 100, .inl (upd w1 p1 (1)))), (ml, .inl (jl, 100, .inl (upd w2 p1 (fk i)))), (mc, .inl (jc, 10201, .inl gc)), (mf, .inl (jf, 100, .inl gf)), (mn, .inl (jn, 100, .inl gn))] H := hP
                have hD : va_D A [(mo, .inr (4, [.int (th), .ref mv, .ref mk, .int (nI nv), .int (nI nk), .int (nI p1), .ref ms, .ref ml, .ref mc, .int (nI ct), .ref mf, .ref mn])), (mv, .inl (jv, 100, .inl fv)), (mk, .inl (jk, 100, .inl fk)), (ms, .inl (js, 100, .inl (upd w1 p1 (1)))), (ml, .inl (jl, 100, .inl (upd w2 p1 (fk i)))), (mc, .inl (jc, 10201, .inl gc)), (mf, .inl (jf, 100, .inl gf)), (mn, .inl (jn, 100, .inl gn))] := hD
                refine lv_aload_n hx hb dX4_findSigns_112 rfl (lv_at hl 1 rfl) ?_
                refine lv_dup hx hb dX4_findSigns_113 rfl ?_
                refine va_get (D := (dC, dI)) (ci := 4) (v := .int (nI p1)) (C := RX4) (T := TX4) (N := 12) hx hb hw inX4 hown hK hP 0 rfl rfl 5 (by decide) (hw _ mw249) (fun _ h9 => h9) rfl dX4_findSigns_114 ?_
                refine lv_iconst (v := 1) hx hb dX4_findSigns_117 (by decide) ?_
                refine lv_iadd hx hb dX4_findSigns_118 ?_
                refine lv_topi (fun x17 ex17 => ?_)
                obtain rfl : x17 = nI (p1 + 1) := by rw [ex17]; exact nI_1 p1
                refine va_put (D := (dC, dI)) (ci := 4) (v := .int (nI (p1 + 1))) (ty := .int) (C := RX4) (T := TX4) (N := 12) hx hb hw inX4 tyX4 tyX4_ok nmX4 hown hK hP hD hS 0 rfl rfl 5 (by decide) (hw _ mw249) (fun _ h9 => h9) rfl (by decide +kernel) rfl rfl (Nat.le_of_ble_eq_true rfl) dX4_findSigns_119 (fun H locs hP hD hS => ?_)
                have hP : va_P (dC, dI) cl5 [(mo, .inr (4, [.int (th), .ref mv, .ref mk, .int (nI nv), .int (nI nk), .int (nI (p1 + 1)), .ref ms, .ref ml, .ref mc, .int (nI ct), .ref mf, .ref mn])), (mv, .inl (jv, 100, .inl fv)), (mk, .inl (jk, 100, .inl fk)), (ms, .inl (js, 100, .inl (upd w1 p1 (1)))), (ml, .inl (jl, 100, .inl (upd w2 p1 (fk i)))), (mc, .inl (jc, 10201, .inl gc)), (mf, .inl (jf, 100, .inl gf)), (mn, .inl (jn, 100, .inl gn))] H := hP
                have hD : va_D A [(mo, .inr (4, [.int (th), .ref mv, .ref mk, .int (nI nv), .int (nI nk), .int (nI (p1 + 1)), .ref ms, .ref ml, .ref mc, .int (nI ct), .ref mf, .ref mn])), (mv, .inl (jv, 100, .inl fv)), (mk, .inl (jk, 100, .inl fk)), (ms, .inl (js, 100, .inl (upd w1 p1 (1)))), (ml, .inl (jl, 100, .inl (upd w2 p1 (fk i)))), (mc, .inl (jc, 10201, .inl gc)), (mf, .inl (jf, 100, .inl gf)), (mn, .inl (jn, 100, .inl gn))] := hD
                refine lv_iinc (v := nI (i + 1)) (lv' := [(1, .int (nI (i + 1))), (2, .int (0)), (0, .ref mo)]) hx hb dX4_findSigns_122 hl (k := 2) rfl (nI_inc i) (by decide) rfl (fun ls hl => ?_)
                refine lv_goto (tgt := 7) hx hb dX4_findSigns_125 (by decide) ?_
                exact ih7 (i + 1) (r - 1) (p1 + 1) (acc ++ [256]) _ _ (by omega) (by rw [List.length_append, List.length_singleton, hp9]) (by rw [List.append_assoc, ← e9, mkL_one z0 (by omega) hr9, if_neg z2, if_pos (by first | exact z3 | exact Decidable.not_not.mp z3)]; rfl) (srl_add e7 hp9 (Or.inr (Or.inl ⟨rfl, rfl⟩))) (by omega) (by omega) (by omega) H locs hP hD hS ls (lv_sub hl [2, 0] rfl)
            · skip
              exact absurd rfl c58_6
          · skip
            exact absurd rfl c43_5
        · skip
          have z1 := c23_4
          refine lv_iload_n hx hb dX4_findSigns_26 rfl (lv_at hl 1 rfl) ?_
          refine lv_iconst (v := 1) hx hb dX4_findSigns_27 (by decide) ?_
          refine lv_iadd hx hb dX4_findSigns_28 ?_
          refine lv_topi (fun x18 ex18 => ?_)
          obtain rfl : x18 = nI (i + 1) := by rw [ex18]; exact nI_1 i
          refine lv_aload_n hx hb dX4_findSigns_29 rfl (lv_at hl 0 rfl) ?_
          refine va_get (D := (dC, dI)) (ci := 4) (v := .int (nI nk)) (C := RX4) (T := TX4) (N := 12) hx hb hw inX4 hown hK hP 0 rfl rfl 4 (by decide) (hw _ mw248) (fun _ h9 => h9) rfl dX4_findSigns_30 ?_
          refine lv_icmp_ge (tgt := 40) hx hb dX4_findSigns_33 (by decide) (fun c33_18 => ?_) (fun c33_18 => ?_)
          · skip
            rw [ti_le, nI_toInt (by omega), nI_toInt (by omega)] at c33_18
            have z0 : ¬ (fk i = 92 ∧ i + 1 < nk) := fun q => by omega
            refine lv_iconst (v := 0) hx hb dX4_findSigns_40 (by decide) ?_
            refine lv_istore_n (lv' := [(2, .int (0)), (0, .ref mo), (1, .int (nI i))]) hx hb dX4_findSigns_41 rfl hl (by decide) rfl (fun ls hl => ?_)
            refine lv_iload_n hx hb dX4_findSigns_42 rfl (lv_at hl 0 rfl) ?_
            refine lv_if_eq (tgt := 49) hx hb dX4_findSigns_43 (by decide) (fun c43_19 => ?_) (fun c43_19 => ?_)
            · skip
              refine lv_aload_n hx hb dX4_findSigns_49 rfl (lv_at hl 1 rfl) ?_
              refine va_get (D := (dC, dI)) (ci := 4) (v := .ref ms) (C := RX4) (T := TX4) (N := 12) hx hb hw inX4 hown hK hP 0 rfl rfl 6 (by decide) (hw _ mw250) (fun _ h9 => h9) rfl dX4_findSigns_50 ?_
              refine lv_aload_n hx hb dX4_findSigns_53 rfl (lv_at hl 1 rfl) ?_
              refine va_get (D := (dC, dI)) (ci := 4) (v := .int (nI p1)) (C := RX4) (T := TX4) (N := 12) hx hb hw inX4 hown hK hP 0 rfl rfl 5 (by decide) (hw _ mw249) (fun _ h9 => h9) rfl dX4_findSigns_54 ?_
              refine lv_iload_n hx hb dX4_findSigns_57 rfl (lv_at hl 0 rfl) ?_
              refine lv_if_eq (tgt := 65) hx hb dX4_findSigns_58 (by decide) (fun c58_20 => ?_) (fun c58_20 => ?_)
              · skip
                refine lv_aload_n hx hb dX4_findSigns_65 rfl (lv_at hl 1 rfl) ?_
                refine va_get (D := (dC, dI)) (ci := 4) (v := .ref mk) (C := RX4) (T := TX4) (N := 12) hx hb hw inX4 hown hK hP 0 rfl rfl 2 (by decide) (hw _ mw246) (fun _ h9 => h9) rfl dX4_findSigns_66 ?_
                refine lv_iload_n hx hb dX4_findSigns_69 rfl (lv_at hl 2 rfl) ?_
                refine va_iald hx hb hK hP 2 1 rfl rfl (i := (nI i)) (vp_in_nI (by omega) (by omega)) dX4_findSigns_70 ?_
                refine lv_topi (fun x22 ex22 => ?_)
                obtain rfl : x22 = fk i := by rw [ex22, nI_clamp (by omega)]
                refine lv_bipush (v := 63) hx hb dX4_findSigns_71 (by decide) ?_
                refine lv_icmp_ne (tgt := 80) hx hb dX4_findSigns_73 (by decide) (fun c73_22 => ?_) (fun c73_22 => ?_)
                · skip
                  have z3 := c73_22
                  refine lv_aload_n hx hb dX4_findSigns_80 rfl (lv_at hl 1 rfl) ?_
                  refine va_get (D := (dC, dI)) (ci := 4) (v := .ref mk) (C := RX4) (T := TX4) (N := 12) hx hb hw inX4 hown hK hP 0 rfl rfl 2 (by decide) (hw _ mw246) (fun _ h9 => h9) rfl dX4_findSigns_81 ?_
                  refine lv_iload_n hx hb dX4_findSigns_84 rfl (lv_at hl 2 rfl) ?_
                  refine va_iald hx hb hK hP 2 1 rfl rfl (i := (nI i)) (vp_in_nI (by omega) (by omega)) dX4_findSigns_85 ?_
                  refine lv_topi (fun x24 ex24 => ?_)
                  obtain rfl : x24 = fk i := by rw [ex24, nI_clamp (by omega)]
                  refine lv_bipush (v := 42) hx hb dX4_findSigns_86 (by decide) ?_
                  refine lv_icmp_ne (tgt := 95) hx hb dX4_findSigns_88 (by decide) (fun c88_24 => ?_) (fun c88_24 => ?_)
                  · skip
                    have z2 := c88_24
                    refine lv_iconst (v := 0) hx hb dX4_findSigns_95 (by decide) ?_
                    refine va_iast hx hb hK hP hD hS 3 2 rfl rfl (i := (nI p1)) (vp_in_nI (by omega) (by omega)) dX4_findSigns_96 (fun H locs hP hD hS => ?_)
                    rw [nI_clamp (by omega)] at hP hD
                    have hP : va_P (dC, dI) cl5 [(mo, .inr (4, [.int (th), .ref mv, .ref mk, .int (nI nv), .int (nI nk), .int (nI p1), .ref ms, .ref ml, .ref mc, .int (nI ct), .ref mf, .ref mn])), (mv, .inl (jv, 100, .inl fv)), (mk, .inl (jk, 100, .inl fk)), (ms, .inl (js, 100, .inl (upd w1 p1 (0)))), (ml, .inl (jl, 100, .inl w2)), (mc, .inl (jc, 10201, .inl gc)), (mf, .inl (jf, 100, .inl gf)), (mn, .inl (jn, 100, .inl gn))] H := hP
                    have hD : va_D A [(mo, .inr (4, [.int (th), .ref mv, .ref mk, .int (nI nv), .int (nI nk), .int (nI p1), .ref ms, .ref ml, .ref mc, .int (nI ct), .ref mf, .ref mn])), (mv, .inl (jv, 100, .inl fv)), (mk, .inl (jk, 100, .inl fk)), (ms, .inl (js, 100, .inl (upd w1 p1 (0)))), (ml, .inl (jl, 100, .inl w2)), (mc, .inl (jc, 10201, .inl gc)), (mf, .inl (jf, 100, .inl gf)), (mn, .inl (jn, 100, .inl gn))] := hD
                    refine lv_aload_n hx hb dX4_findSigns_97 rfl (lv_at hl 1 rfl) ?_
                    refine va_get (D := (dC, dI)) (ci := 4) (v := .ref ml) (C := RX4) (T := TX4) (N := 12) hx hb hw inX4 hown hK hP 0 rfl rfl 7 (by decide) (hw _ mw251) (fun _ h9 => h9) rfl dX4_findSigns_98 ?_
                    refine lv_aload_n hx hb dX4_findSigns_101 rfl (lv_at hl 1 rfl) ?_
                    refine va_get (D := (dC, dI)) (ci := 4) (v := .int (nI p1)) (C := RX4) (T := TX4) (N := 12) hx hb hw inX4 hown hK hP 0 rfl rfl 5 (by decide) (hw _ mw249) (fun _ h9 => h9) rfl dX4_findSigns_102 ?_
                    refine lv_aload_n hx hb dX4_findSigns_105 rfl (lv_at hl 1 rfl) ?_
                    refine va_get (D := (dC, dI)) (ci := 4) (v := .ref mk) (C := RX4) (T := TX4) (N := 12) hx hb hw inX4 hown hK hP 0 rfl rfl 2 (by decide) (hw _ mw246) (fun _ h9 => h9) rfl dX4_findSigns_106 ?_
                    refine lv_iload_n hx hb dX4_findSigns_109 rfl (lv_at hl 2 rfl) ?_
                    refine va_iald hx hb hK hP 2 1 rfl rfl (i := (nI i)) (vp_in_nI (by omega) (by omega)) dX4_findSigns_110 ?_
                    refine lv_topi (fun x26 ex26 => ?_)
                    obtain rfl : x26 = fk i := by rw [ex26, nI_clamp (by omega)]
                    refine va_iast hx hb hK hP hD hS 4 3 rfl rfl (i := (nI p1)) (vp_in_nI (by omega) (by omega)) dX4_findSigns_111 (fun H locs hP hD hS => ?_)
                    rw [nI_clamp (by omega)] at hP hD
                    have hP : va_P (dC, dI) cl5 [(mo, .inr (4, [.int (th), .ref mv, .ref mk, .int (nI nv), .int (nI nk), .int (nI p1), .ref ms, .ref ml, .ref mc, .int (nI ct), .ref mf, .ref mn])), (mv, .inl (jv, 100, .inl fv)), (mk, .inl (jk, 100, .inl fk)), (ms, .inl (js, 100, .inl (upd w1 p1 (0)))), (ml, .inl (jl, 100, .inl (upd w2 p1 (fk i)))), (mc, .inl (jc, 10201, .inl gc)), (mf, .inl (jf, 100, .inl gf)), (mn, .inl (jn, 100, .inl gn))] H := hP
                    have hD : va_D A [(mo, .inr (4, [.int (th), .ref mv, .ref mk, .int (nI nv), .int (nI nk), .int (nI p1), .ref ms, .ref ml, .ref mc, .int (nI ct), .ref mf, .ref mn])), (mv, .inl (jv, 100, .inl fv)), (mk, .inl (jk, 100, .inl fk)), (ms, .inl (js, 100, .inl (upd w1 p1 (0)))), (ml, .inl (jl, 100, .inl (upd w2 p1 (fk i)))), (mc, .inl (jc, 10201, .inl gc)), (mf, .inl (jf, 100, .inl gf)), (mn, .inl (jn, 100, .inl gn))] := hD
                    refine lv_aload_n hx hb dX4_findSigns_112 rfl (lv_at hl 1 rfl) ?_
                    refine lv_dup hx hb dX4_findSigns_113 rfl ?_
                    refine va_get (D := (dC, dI)) (ci := 4) (v := .int (nI p1)) (C := RX4) (T := TX4) (N := 12) hx hb hw inX4 hown hK hP 0 rfl rfl 5 (by decide) (hw _ mw249) (fun _ h9 => h9) rfl dX4_findSigns_114 ?_
                    refine lv_iconst (v := 1) hx hb dX4_findSigns_117 (by decide) ?_
                    refine lv_iadd hx hb dX4_findSigns_118 ?_
                    refine lv_topi (fun x27 ex27 => ?_)
                    obtain rfl : x27 = nI (p1 + 1) := by rw [ex27]; exact nI_1 p1
                    refine va_put (D := (dC, dI)) (ci := 4) (v := .int (nI (p1 + 1))) (ty := .int) (C := RX4) (T := TX4) (N := 12) hx hb hw inX4 tyX4 tyX4_ok nmX4 hown hK hP hD hS 0 rfl rfl 5 (by decide) (hw _ mw249) (fun _ h9 => h9) rfl (by decide +kernel) rfl rfl (Nat.le_of_ble_eq_true rfl) dX4_findSigns_119 (fun H locs hP hD hS => ?_)
                    have hP : va_P (dC, dI) cl5 [(mo, .inr (4, [.int (th), .ref mv, .ref mk, .int (nI nv), .int (nI nk), .int (nI (p1 + 1)), .ref ms, .ref ml, .ref mc, .int (nI ct), .ref mf, .ref mn])), (mv, .inl (jv, 100, .inl fv)), (mk, .inl (jk, 100, .inl fk)), (ms, .inl (js, 100, .inl (upd w1 p1 (0)))), (ml, .inl (jl, 100, .inl (upd w2 p1 (fk i)))), (mc, .inl (jc, 10201, .inl gc)), (mf, .inl (jf, 100, .inl gf)), (mn, .inl (jn, 100, .inl gn))] H := hP
                    have hD : va_D A [(mo, .inr (4, [.int (th), .ref mv, .ref mk, .int (nI nv), .int (nI nk), .int (nI (p1 + 1)), .ref ms, .ref ml, .ref mc, .int (nI ct), .ref mf, .ref mn])), (mv, .inl (jv, 100, .inl fv)), (mk, .inl (jk, 100, .inl fk)), (ms, .inl (js, 100, .inl (upd w1 p1 (0)))), (ml, .inl (jl, 100, .inl (upd w2 p1 (fk i)))), (mc, .inl (jc, 10201, .inl gc)), (mf, .inl (jf, 100, .inl gf)), (mn, .inl (jn, 100, .inl gn))] := hD
                    refine lv_iinc (v := nI (i + 1)) (lv' := [(1, .int (nI (i + 1))), (2, .int (0)), (0, .ref mo)]) hx hb dX4_findSigns_122 hl (k := 2) rfl (nI_inc i) (by decide) rfl (fun ls hl => ?_)
                    refine lv_goto (tgt := 7) hx hb dX4_findSigns_125 (by decide) ?_
                    exact ih7 (i + 1) (r - 1) (p1 + 1) (acc ++ [fk i]) _ _ (by omega) (by rw [List.length_append, List.length_singleton, hp9]) (by rw [List.append_assoc, ← e9, mkL_one z0 (by omega) hr9, if_neg z2, if_neg z3]; rfl) (srl_add e7 hp9 (Or.inr (Or.inr ⟨rfl, rfl, hrk i (by omega)⟩))) (by omega) (by omega) (by omega) H locs hP hD hS ls (lv_sub hl [2, 0] rfl)
                  · skip
                    have z2 := c88_24
                    refine lv_iconst (v := 2) hx hb dX4_findSigns_91 (by decide) ?_
                    refine lv_goto (tgt := 96) hx hb dX4_findSigns_92 (by decide) ?_
                    refine va_iast hx hb hK hP hD hS 3 2 rfl rfl (i := (nI p1)) (vp_in_nI (by omega) (by omega)) dX4_findSigns_96 (fun H locs hP hD hS => ?_)
                    rw [nI_clamp (by omega)] at hP hD
                    have hP : va_P (dC, dI) cl5 [(mo, .inr (4, [.int (th), .ref mv, .ref mk, .int (nI nv), .int (nI nk), .int (nI p1), .ref ms, .ref ml, .ref mc, .int (nI ct), .ref mf, .ref mn])), (mv, .inl (jv, 100, .inl fv)), (mk, .inl (jk, 100, .inl fk)), (ms, .inl (js, 100, .inl (upd w1 p1 (2)))), (ml, .inl (jl, 100, .inl w2)), (mc, .inl (jc, 10201, .inl gc)), (mf, .inl (jf, 100, .inl gf)), (mn, .inl (jn, 100, .inl gn))] H := hP
                    have hD : va_D A [(mo, .inr (4, [.int (th), .ref mv, .ref mk, .int (nI nv), .int (nI nk), .int (nI p1), .ref ms, .ref ml, .ref mc, .int (nI ct), .ref mf, .ref mn])), (mv, .inl (jv, 100, .inl fv)), (mk, .inl (jk, 100, .inl fk)), (ms, .inl (js, 100, .inl (upd w1 p1 (2)))), (ml, .inl (jl, 100, .inl w2)), (mc, .inl (jc, 10201, .inl gc)), (mf, .inl (jf, 100, .inl gf)), (mn, .inl (jn, 100, .inl gn))] := hD
                    refine lv_aload_n hx hb dX4_findSigns_97 rfl (lv_at hl 1 rfl) ?_
                    refine va_get (D := (dC, dI)) (ci := 4) (v := .ref ml) (C := RX4) (T := TX4) (N := 12) hx hb hw inX4 hown hK hP 0 rfl rfl 7 (by decide) (hw _ mw251) (fun _ h9 => h9) rfl dX4_findSigns_98 ?_
                    refine lv_aload_n hx hb dX4_findSigns_101 rfl (lv_at hl 1 rfl) ?_
                    refine va_get (D := (dC, dI)) (ci := 4) (v := .int (nI p1)) (C := RX4) (T := TX4) (N := 12) hx hb hw inX4 hown hK hP 0 rfl rfl 5 (by decide) (hw _ mw249) (fun _ h9 => h9) rfl dX4_findSigns_102 ?_
                    refine lv_aload_n hx hb dX4_findSigns_105 rfl (lv_at hl 1 rfl) ?_
                    refine va_get (D := (dC, dI)) (ci := 4) (v := .ref mk) (C := RX4) (T := TX4) (N := 12) hx hb hw inX4 hown hK hP 0 rfl rfl 2 (by decide) (hw _ mw246) (fun _ h9 => h9) rfl dX4_findSigns_106 ?_
                    refine lv_iload_n hx hb dX4_findSigns_109 rfl (lv_at hl 2 rfl) ?_
                    refine va_iald hx hb hK hP 2 1 rfl rfl (i := (nI i)) (vp_in_nI (by omega) (by omega)) dX4_findSigns_110 ?_
                    refine lv_topi (fun x28 ex28 => ?_)
                    obtain rfl : x28 = fk i := by rw [ex28, nI_clamp (by omega)]
                    refine va_iast hx hb hK hP hD hS 4 3 rfl rfl (i := (nI p1)) (vp_in_nI (by omega) (by omega)) dX4_findSigns_111 (fun H locs hP hD hS => ?_)
                    rw [nI_clamp (by omega)] at hP hD
                    have hP : va_P (dC, dI) cl5 [(mo, .inr (4, [.int (th), .ref mv, .ref mk, .int (nI nv), .int (nI nk), .int (nI p1), .ref ms, .ref ml, .ref mc, .int (nI ct), .ref mf, .ref mn])), (mv, .inl (jv, 100, .inl fv)), (mk, .inl (jk, 100, .inl fk)), (ms, .inl (js, 100, .inl (upd w1 p1 (2)))), (ml, .inl (jl, 100, .inl (upd w2 p1 (fk i)))), (mc, .inl (jc, 10201, .inl gc)), (mf, .inl (jf, 100, .inl gf)), (mn, .inl (jn, 100, .inl gn))] H := hP
                    have hD : va_D A [(mo, .inr (4, [.int (th), .ref mv, .ref mk, .int (nI nv), .int (nI nk), .int (nI p1), .ref ms, .ref ml, .ref mc, .int (nI ct), .ref mf, .ref mn])), (mv, .inl (jv, 100, .inl fv)), (mk, .inl (jk, 100, .inl fk)), (ms, .inl (js, 100, .inl (upd w1 p1 (2)))), (ml, .inl (jl, 100, .inl (upd w2 p1 (fk i)))), (mc, .inl (jc, 10201, .inl gc)), (mf, .inl (jf, 100, .inl gf)), (mn, .inl (jn, 100, .inl gn))] := hD
                    refine lv_aload_n hx hb dX4_findSigns_112 rfl (lv_at hl 1 rfl) ?_
                    refine lv_dup hx hb dX4_findSigns_113 rfl ?_
                    refine va_get (D := (dC, dI)) (ci := 4) (v := .int (nI p1)) (C := RX4) (T := TX4) (N := 12) hx hb hw inX4 hown hK hP 0 rfl rfl 5 (by decide) (hw _ mw249) (fun _ h9 => h9) rfl dX4_findSigns_114 ?_
                    refine lv_iconst (v := 1) hx hb dX4_findSigns_117 (by decide) ?_
                    refine lv_iadd hx hb dX4_findSigns_118 ?_
                    refine lv_topi (fun x29 ex29 => ?_)
                    obtain rfl : x29 = nI (p1 + 1) := by rw [ex29]; exact nI_1 p1
                    refine va_put (D := (dC, dI)) (ci := 4) (v := .int (nI (p1 + 1))) (ty := .int) (C := RX4) (T := TX4) (N := 12) hx hb hw inX4 tyX4 tyX4_ok nmX4 hown hK hP hD hS 0 rfl rfl 5 (by decide) (hw _ mw249) (fun _ h9 => h9) rfl (by decide +kernel) rfl rfl (Nat.le_of_ble_eq_true rfl) dX4_findSigns_119 (fun H locs hP hD hS => ?_)
                    have hP : va_P (dC, dI) cl5 [(mo, .inr (4, [.int (th), .ref mv, .ref mk, .int (nI nv), .int (nI nk), .int (nI (p1 + 1)), .ref ms, .ref ml, .ref mc, .int (nI ct), .ref mf, .ref mn])), (mv, .inl (jv, 100, .inl fv)), (mk, .inl (jk, 100, .inl fk)), (ms, .inl (js, 100, .inl (upd w1 p1 (2)))), (ml, .inl (jl, 100, .inl (upd w2 p1 (fk i)))), (mc, .inl (jc, 10201, .inl gc)), (mf, .inl (jf, 100, .inl gf)), (mn, .inl (jn, 100, .inl gn))] H := hP
                    have hD : va_D A [(mo, .inr (4, [.int (th), .ref mv, .ref mk, .int (nI nv), .int (nI nk), .int (nI (p1 + 1)), .ref ms, .ref ml, .ref mc, .int (nI ct), .ref mf, .ref mn])), (mv, .inl (jv, 100, .inl fv)), (mk, .inl (jk, 100, .inl fk)), (ms, .inl (js, 100, .inl (upd w1 p1 (2)))), (ml, .inl (jl, 100, .inl (upd w2 p1 (fk i)))), (mc, .inl (jc, 10201, .inl gc)), (mf, .inl (jf, 100, .inl gf)), (mn, .inl (jn, 100, .inl gn))] := hD
                    refine lv_iinc (v := nI (i + 1)) (lv' := [(1, .int (nI (i + 1))), (2, .int (0)), (0, .ref mo)]) hx hb dX4_findSigns_122 hl (k := 2) rfl (nI_inc i) (by decide) rfl (fun ls hl => ?_)
                    refine lv_goto (tgt := 7) hx hb dX4_findSigns_125 (by decide) ?_
                    exact ih7 (i + 1) (r - 1) (p1 + 1) (acc ++ [257]) _ _ (by omega) (by rw [List.length_append, List.length_singleton, hp9]) (by rw [List.append_assoc, ← e9, mkL_one z0 (by omega) hr9, if_pos (by first | exact z2 | exact Decidable.not_not.mp z2)]; rfl) (srl_add e7 hp9 (Or.inl ⟨rfl, rfl⟩)) (by omega) (by omega) (by omega) H locs hP hD hS ls (lv_sub hl [2, 0] rfl)
                · skip
                  have z3 := c73_22
                  have z2 : ¬ fk i = 42 := by rw [(show fk i = 63 from by first | exact c73_22 | exact Decidable.not_not.mp c73_22)]; decide
                  refine lv_iconst (v := 1) hx hb dX4_findSigns_76 (by decide) ?_
                  refine lv_goto (tgt := 96) hx hb dX4_findSigns_77 (by decide) ?_
                  refine va_iast hx hb hK hP hD hS 3 2 rfl rfl (i := (nI p1)) (vp_in_nI (by omega) (by omega)) dX4_findSigns_96 (fun H locs hP hD hS => ?_)
                  rw [nI_clamp (by omega)] at hP hD
                  have hP : va_P (dC, dI) cl5 [(mo, .inr (4, [.int (th), .ref mv, .ref mk, .int (nI nv), .int (nI nk), .int (nI p1), .ref ms, .ref ml, .ref mc, .int (nI ct), .ref mf, .ref mn])), (mv, .inl (jv, 100, .inl fv)), (mk, .inl (jk, 100, .inl fk)), (ms, .inl (js, 100, .inl (upd w1 p1 (1)))), (ml, .inl (jl, 100, .inl w2)), (mc, .inl (jc, 10201, .inl gc)), (mf, .inl (jf, 100, .inl gf)), (mn, .inl (jn, 100, .inl gn))] H := hP
                  have hD : va_D A [(mo, .inr (4, [.int (th), .ref mv, .ref mk, .int (nI nv), .int (nI nk), .int (nI p1), .ref ms, .ref ml, .ref mc, .int (nI ct), .ref mf, .ref mn])), (mv, .inl (jv, 100, .inl fv)), (mk, .inl (jk, 100, .inl fk)), (ms, .inl (js, 100, .inl (upd w1 p1 (1)))), (ml, .inl (jl, 100, .inl w2)), (mc, .inl (jc, 10201, .inl gc)), (mf, .inl (jf, 100, .inl gf)), (mn, .inl (jn, 100, .inl gn))] := hD
                  refine lv_aload_n hx hb dX4_findSigns_97 rfl (lv_at hl 1 rfl) ?_
                  refine va_get (D := (dC, dI)) (ci := 4) (v := .ref ml) (C := RX4) (T := TX4) (N := 12) hx hb hw inX4 hown hK hP 0 rfl rfl 7 (by decide) (hw _ mw251) (fun _ h9 => h9) rfl dX4_findSigns_98 ?_
                  refine lv_aload_n hx hb dX4_findSigns_101 rfl (lv_at hl 1 rfl) ?_
                  refine va_get (D := (dC, dI)) (ci := 4) (v := .int (nI p1)) (C := RX4) (T := TX4) (N := 12) hx hb hw inX4 hown hK hP 0 rfl rfl 5 (by decide) (hw _ mw249) (fun _ h9 => h9) rfl dX4_findSigns_102 ?_
                  refine lv_aload_n hx hb dX4_findSigns_105 rfl (lv_at hl 1 rfl) ?_
                  refine va_get (D := (dC, dI)) (ci := 4) (v := .ref mk) (C := RX4) (T := TX4) (N := 12) hx hb hw inX4 hown hK hP 0 rfl rfl 2 (by decide) (hw _ mw246) (fun _ h9 => h9) rfl dX4_findSigns_106 ?_
                  refine lv_iload_n hx hb dX4_findSigns_109 rfl (lv_at hl 2 rfl) ?_
                  refine va_iald hx hb hK hP 2 1 rfl rfl (i := (nI i)) (vp_in_nI (by omega) (by omega)) dX4_findSigns_110 ?_
                  refine lv_topi (fun x30 ex30 => ?_)
                  obtain rfl : x30 = fk i := by rw [ex30, nI_clamp (by omega)]
                  refine va_iast hx hb hK hP hD hS 4 3 rfl rfl (i := (nI p1)) (vp_in_nI (by omega) (by omega)) dX4_findSigns_111 (fun H locs hP hD hS => ?_)
                  rw [nI_clamp (by omega)] at hP hD
                  have hP : va_P (dC, dI) cl5 [(mo, .inr (4, [.int (th), .ref mv, .ref mk, .int (nI nv), .int (nI nk), .int (nI p1), .ref ms, .ref ml, .ref mc, .int (nI ct), .ref mf, .ref mn])), (mv, .inl (jv, 100, .inl fv)), (mk, .inl (jk, 100, .inl fk)), (ms, .inl (js, 100, .inl (upd w1 p1 (1)))), (ml, .inl (jl, 100, .inl (upd w2 p1 (fk i)))), (mc, .inl (jc, 10201, .inl gc)), (mf, .inl (jf, 100, .inl gf)), (mn, .inl (jn, 100, .inl gn))] H := hP
                  have hD : va_D A [(mo, .inr (4, [.int (th), .ref mv, .ref mk, .int (nI nv), .int (nI nk), .int (nI p1), .ref ms, .ref ml, .ref mc, .int (nI ct), .ref mf, .ref mn])), (mv, .inl (jv, 100, .inl fv)), (mk, .inl (jk, 100, .inl fk)), (ms, .inl (js, 100, .inl (upd w1 p1 (1)))), (ml, .inl (jl, 100, .inl (upd w2 p1 (fk i)))), (mc, .inl (jc, 10201, .inl gc)), (mf, .inl (jf, 100, .inl gf)), (mn, .inl (jn, 100, .inl gn))] := hD
                  refine lv_aload_n hx hb dX4_findSigns_112 rfl (lv_at hl 1 rfl) ?_
                  refine lv_dup hx hb dX4_findSigns_113 rfl ?_
                  refine va_get (D := (dC, dI)) (ci := 4) (v := .int (nI p1)) (C := RX4) (T := TX4) (N := 12) hx hb hw inX4 hown hK hP 0 rfl rfl 5 (by decide) (hw _ mw249) (fun _ h9 => h9) rfl dX4_findSigns_114 ?_
                  refine lv_iconst (v := 1) hx hb dX4_findSigns_117 (by decide) ?_
                  refine lv_iadd hx hb dX4_findSigns_118 ?_
                  refine lv_topi (fun x31 ex31 => ?_)
                  obtain rfl : x31 = nI (p1 + 1) := by rw [ex31]; exact nI_1 p1
                  refine va_put (D := (dC, dI)) (ci := 4) (v := .int (nI (p1 + 1))) (ty := .int) (C := RX4) (T := TX4) (N := 12) hx hb hw inX4 tyX4 tyX4_ok nmX4 hown hK hP hD hS 0 rfl rfl 5 (by decide) (hw _ mw249) (fun _ h9 => h9) rfl (by decide +kernel) rfl rfl (Nat.le_of_ble_eq_true rfl) dX4_findSigns_119 (fun H locs hP hD hS => ?_)
                  have hP : va_P (dC, dI) cl5 [(mo, .inr (4, [.int (th), .ref mv, .ref mk, .int (nI nv), .int (nI nk), .int (nI (p1 + 1)), .ref ms, .ref ml, .ref mc, .int (nI ct), .ref mf, .ref mn])), (mv, .inl (jv, 100, .inl fv)), (mk, .inl (jk, 100, .inl fk)), (ms, .inl (js, 100, .inl (upd w1 p1 (1)))), (ml, .inl (jl, 100, .inl (upd w2 p1 (fk i)))), (mc, .inl (jc, 10201, .inl gc)), (mf, .inl (jf, 100, .inl gf)), (mn, .inl (jn, 100, .inl gn))] H := hP
                  have hD : va_D A [(mo, .inr (4, [.int (th), .ref mv, .ref mk, .int (nI nv), .int (nI nk), .int (nI (p1 + 1)), .ref ms, .ref ml, .ref mc, .int (nI ct), .ref mf, .ref mn])), (mv, .inl (jv, 100, .inl fv)), (mk, .inl (jk, 100, .inl fk)), (ms, .inl (js, 100, .inl (upd w1 p1 (1)))), (ml, .inl (jl, 100, .inl (upd w2 p1 (fk i)))), (mc, .inl (jc, 10201, .inl gc)), (mf, .inl (jf, 100, .inl gf)), (mn, .inl (jn, 100, .inl gn))] := hD
                  refine lv_iinc (v := nI (i + 1)) (lv' := [(1, .int (nI (i + 1))), (2, .int (0)), (0, .ref mo)]) hx hb dX4_findSigns_122 hl (k := 2) rfl (nI_inc i) (by decide) rfl (fun ls hl => ?_)
                  refine lv_goto (tgt := 7) hx hb dX4_findSigns_125 (by decide) ?_
                  exact ih7 (i + 1) (r - 1) (p1 + 1) (acc ++ [256]) _ _ (by omega) (by rw [List.length_append, List.length_singleton, hp9]) (by rw [List.append_assoc, ← e9, mkL_one z0 (by omega) hr9, if_neg z2, if_pos (by first | exact z3 | exact Decidable.not_not.mp z3)]; rfl) (srl_add e7 hp9 (Or.inr (Or.inl ⟨rfl, rfl⟩))) (by omega) (by omega) (by omega) H locs hP hD hS ls (lv_sub hl [2, 0] rfl)
              · skip
                exact absurd rfl c58_20
            · skip
              exact absurd rfl c43_19
          · skip
            rw [ti_le, nI_toInt (by omega), nI_toInt (by omega)] at c33_18
            have z0 : i + 1 < nk := by omega
            refine lv_iconst (v := 1) hx hb dX4_findSigns_36 (by decide) ?_
            refine lv_goto (tgt := 41) hx hb dX4_findSigns_37 (by decide) ?_
            refine lv_istore_n (lv' := [(2, .int (1)), (0, .ref mo), (1, .int (nI i))]) hx hb dX4_findSigns_41 rfl hl (by decide) rfl (fun ls hl => ?_)
            refine lv_iload_n hx hb dX4_findSigns_42 rfl (lv_at hl 0 rfl) ?_
            refine lv_if_eq (tgt := 49) hx hb dX4_findSigns_43 (by decide) (fun c43_31 => ?_) (fun c43_31 => ?_)
            · skip
              exact absurd c43_31 (by decide)
            · skip
              refine lv_iinc (v := nI (i + 1)) (lv' := [(1, .int (nI (i + 1))), (2, .int (1)), (0, .ref mo)]) hx hb dX4_findSigns_46 hl (k := 2) rfl (nI_inc i) (by decide) rfl (fun ls hl => ?_)
              refine lv_aload_n hx hb dX4_findSigns_49 rfl (lv_at hl 2 rfl) ?_
              refine va_get (D := (dC, dI)) (ci := 4) (v := .ref ms) (C := RX4) (T := TX4) (N := 12) hx hb hw inX4 hown hK hP 0 rfl rfl 6 (by decide) (hw _ mw250) (fun _ h9 => h9) rfl dX4_findSigns_50 ?_
              refine lv_aload_n hx hb dX4_findSigns_53 rfl (lv_at hl 2 rfl) ?_
              refine va_get (D := (dC, dI)) (ci := 4) (v := .int (nI p1)) (C := RX4) (T := TX4) (N := 12) hx hb hw inX4 hown hK hP 0 rfl rfl 5 (by decide) (hw _ mw249) (fun _ h9 => h9) rfl dX4_findSigns_54 ?_
              refine lv_iload_n hx hb dX4_findSigns_57 rfl (lv_at hl 1 rfl) ?_
              refine lv_if_eq (tgt := 65) hx hb dX4_findSigns_58 (by decide) (fun c58_32 => ?_) (fun c58_32 => ?_)
              · skip
                exact absurd c58_32 (by decide)
              · skip
                refine lv_iconst (v := 0) hx hb dX4_findSigns_61 (by decide) ?_
                refine lv_goto (tgt := 96) hx hb dX4_findSigns_62 (by decide) ?_
                refine va_iast hx hb hK hP hD hS 3 2 rfl rfl (i := (nI p1)) (vp_in_nI (by omega) (by omega)) dX4_findSigns_96 (fun H locs hP hD hS => ?_)
                rw [nI_clamp (by omega)] at hP hD
                have hP : va_P (dC, dI) cl5 [(mo, .inr (4, [.int (th), .ref mv, .ref mk, .int (nI nv), .int (nI nk), .int (nI p1), .ref ms, .ref ml, .ref mc, .int (nI ct), .ref mf, .ref mn])), (mv, .inl (jv, 100, .inl fv)), (mk, .inl (jk, 100, .inl fk)), (ms, .inl (js, 100, .inl (upd w1 p1 (0)))), (ml, .inl (jl, 100, .inl w2)), (mc, .inl (jc, 10201, .inl gc)), (mf, .inl (jf, 100, .inl gf)), (mn, .inl (jn, 100, .inl gn))] H := hP
                have hD : va_D A [(mo, .inr (4, [.int (th), .ref mv, .ref mk, .int (nI nv), .int (nI nk), .int (nI p1), .ref ms, .ref ml, .ref mc, .int (nI ct), .ref mf, .ref mn])), (mv, .inl (jv, 100, .inl fv)), (mk, .inl (jk, 100, .inl fk)), (ms, .inl (js, 100, .inl (upd w1 p1 (0)))), (ml, .inl (jl, 100, .inl w2)), (mc, .inl (jc, 10201, .inl gc)), (mf, .inl (jf, 100, .inl gf)), (mn, .inl (jn, 100, .inl gn))] := hD
                refine lv_aload_n hx hb dX4_findSigns_97 rfl (lv_at hl 2 rfl) ?_
                refine va_get (D := (dC, dI)) (ci := 4) (v := .ref ml) (C := RX4) (T := TX4) (N := 12) hx hb hw inX4 hown hK hP 0 rfl rfl 7 (by decide) (hw _ mw251) (fun _ h9 => h9) rfl dX4_findSigns_98 ?_
                refine lv_aload_n hx hb dX4_findSigns_101 rfl (lv_at hl 2 rfl) ?_
                refine va_get (D := (dC, dI)) (ci := 4) (v := .int (nI p1)) (C := RX4) (T := TX4) (N := 12) hx hb hw inX4 hown hK hP 0 rfl rfl 5 (by decide) (hw _ mw249) (fun _ h9 => h9) rfl dX4_findSigns_102 ?_
                refine lv_aload_n hx hb dX4_findSigns_105 rfl (lv_at hl 2 rfl) ?_
                refine va_get (D := (dC, dI)) (ci := 4) (v := .ref mk) (C := RX4) (T := TX4) (N := 12) hx hb hw inX4 hown hK hP 0 rfl rfl 2 (by decide) (hw _ mw246) (fun _ h9 => h9) rfl dX4_findSigns_106 ?_
                refine lv_iload_n hx hb dX4_findSigns_109 rfl (lv_at hl 0 rfl) ?_
                refine va_iald hx hb hK hP 2 1 rfl rfl (i := (nI (i + 1))) (vp_in_nI (by omega) (by omega)) dX4_findSigns_110 ?_
                refine lv_topi (fun x34 ex34 => ?_)
                obtain rfl : x34 = fk (i + 1) := by rw [ex34, nI_clamp (by omega)]
                refine va_iast hx hb hK hP hD hS 4 3 rfl rfl (i := (nI p1)) (vp_in_nI (by omega) (by omega)) dX4_findSigns_111 (fun H locs hP hD hS => ?_)
                rw [nI_clamp (by omega)] at hP hD
                have hP : va_P (dC, dI) cl5 [(mo, .inr (4, [.int (th), .ref mv, .ref mk, .int (nI nv), .int (nI nk), .int (nI p1), .ref ms, .ref ml, .ref mc, .int (nI ct), .ref mf, .ref mn])), (mv, .inl (jv, 100, .inl fv)), (mk, .inl (jk, 100, .inl fk)), (ms, .inl (js, 100, .inl (upd w1 p1 (0)))), (ml, .inl (jl, 100, .inl (upd w2 p1 (fk (i + 1))))), (mc, .inl (jc, 10201, .inl gc)), (mf, .inl (jf, 100, .inl gf)), (mn, .inl (jn, 100, .inl gn))] H := hP
                have hD : va_D A [(mo, .inr (4, [.int (th), .ref mv, .ref mk, .int (nI nv), .int (nI nk), .int (nI p1), .ref ms, .ref ml, .ref mc, .int (nI ct), .ref mf, .ref mn])), (mv, .inl (jv, 100, .inl fv)), (mk, .inl (jk, 100, .inl fk)), (ms, .inl (js, 100, .inl (upd w1 p1 (0)))), (ml, .inl (jl, 100, .inl (upd w2 p1 (fk (i + 1))))), (mc, .inl (jc, 10201, .inl gc)), (mf, .inl (jf, 100, .inl gf)), (mn, .inl (jn, 100, .inl gn))] := hD
                refine lv_aload_n hx hb dX4_findSigns_112 rfl (lv_at hl 2 rfl) ?_
                refine lv_dup hx hb dX4_findSigns_113 rfl ?_
                refine va_get (D := (dC, dI)) (ci := 4) (v := .int (nI p1)) (C := RX4) (T := TX4) (N := 12) hx hb hw inX4 hown hK hP 0 rfl rfl 5 (by decide) (hw _ mw249) (fun _ h9 => h9) rfl dX4_findSigns_114 ?_
                refine lv_iconst (v := 1) hx hb dX4_findSigns_117 (by decide) ?_
                refine lv_iadd hx hb dX4_findSigns_118 ?_
                refine lv_topi (fun x35 ex35 => ?_)
                obtain rfl : x35 = nI (p1 + 1) := by rw [ex35]; exact nI_1 p1
                refine va_put (D := (dC, dI)) (ci := 4) (v := .int (nI (p1 + 1))) (ty := .int) (C := RX4) (T := TX4) (N := 12) hx hb hw inX4 tyX4 tyX4_ok nmX4 hown hK hP hD hS 0 rfl rfl 5 (by decide) (hw _ mw249) (fun _ h9 => h9) rfl (by decide +kernel) rfl rfl (Nat.le_of_ble_eq_true rfl) dX4_findSigns_119 (fun H locs hP hD hS => ?_)
                have hP : va_P (dC, dI) cl5 [(mo, .inr (4, [.int (th), .ref mv, .ref mk, .int (nI nv), .int (nI nk), .int (nI (p1 + 1)), .ref ms, .ref ml, .ref mc, .int (nI ct), .ref mf, .ref mn])), (mv, .inl (jv, 100, .inl fv)), (mk, .inl (jk, 100, .inl fk)), (ms, .inl (js, 100, .inl (upd w1 p1 (0)))), (ml, .inl (jl, 100, .inl (upd w2 p1 (fk (i + 1))))), (mc, .inl (jc, 10201, .inl gc)), (mf, .inl (jf, 100, .inl gf)), (mn, .inl (jn, 100, .inl gn))] H := hP
                have hD : va_D A [(mo, .inr (4, [.int (th), .ref mv, .ref mk, .int (nI nv), .int (nI nk), .int (nI (p1 + 1)), .ref ms, .ref ml, .ref mc, .int (nI ct), .ref mf, .ref mn])), (mv, .inl (jv, 100, .inl fv)), (mk, .inl (jk, 100, .inl fk)), (ms, .inl (js, 100, .inl (upd w1 p1 (0)))), (ml, .inl (jl, 100, .inl (upd w2 p1 (fk (i + 1))))), (mc, .inl (jc, 10201, .inl gc)), (mf, .inl (jf, 100, .inl gf)), (mn, .inl (jn, 100, .inl gn))] := hD
                refine lv_iinc (v := nI (i + 1 + 1)) (lv' := [(1, .int (nI (i + 1 + 1))), (2, .int (1)), (0, .ref mo)]) hx hb dX4_findSigns_122 hl (k := 0) rfl (nI_inc (i + 1)) (by decide) rfl (fun ls hl => ?_)
                refine lv_goto (tgt := 7) hx hb dX4_findSigns_125 (by decide) ?_
                exact ih7 (i + 1 + 1) (r - 1) (p1 + 1) (acc ++ [fk (i + 1)]) _ _ (by omega) (by rw [List.length_append, List.length_singleton, hp9]) (by rw [List.append_assoc, ← e9, mkL_esc (by first | exact z1 | exact Decidable.not_not.mp z1) z0 hr9]; rfl) (srl_add e7 hp9 (Or.inr (Or.inr ⟨rfl, rfl, hrk (i + 1) z0⟩))) (by omega) (by omega) (by omega) H locs hP hD hS ls (lv_sub hl [2, 0] rfl)
  exact loop7 (nk + 1) 0 nk 0 [] gs gl (by omega) rfl rfl srl_0 (Nat.le_refl _) (Nat.zero_le _) (by omega) H locs hP hD hS ls (lv_sub hl [1, 0] rfl)
end
section
theorem nI_m1n {k : Nat} (hk : k ≤ 1000) (h : nI k - 1 < 0) : k = 0 := by
  cases k with
  | zero => rfl
  | succ k => rw [nI_pred, ti_lt, nI_toInt (by omega), tc_0] at h; omega
/-- a cell of the table: whether the marks from s on match the bytes from x on -/
def cel (M v : Nat → Int32) (np nv : Nat) (c : Int32) (w : Nat → Int32) (s x : Nat) : Prop := (w (101 * s + x) = 1 ∧ mtI M v np nv c s x) ∨ (w (101 * s + x) = 0 ∧ ¬ mtI M v np nv c s x)
def dnR (M v : Nat → Int32) (np nv : Nat) (c : Int32) (w : Nat → Int32) (k : Nat) : Prop := ∀ s x, k ≤ s → s ≤ np → x ≤ nv → cel M v np nv c w s x
def dnC (M v : Nat → Int32) (np nv : Nat) (c : Int32) (w : Nat → Int32) (j l : Nat) : Prop := ∀ x, l ≤ x → x ≤ nv → cel M v np nv c w j x
section CE
variable {M v : Nat → Int32} {np nv : Nat} {c : Int32} {w : Nat → Int32}
theorem cel_t {s x i : Nat} (hi : i = 101 * s + x) (h : cel M v np nv c w s x) (q : ¬ w i = 0) : mtI M v np nv c s x := by
  subst hi
  rcases h with h | h
  · exact h.2
  · exact absurd h.1 q
theorem cel_f {s x i : Nat} (hi : i = 101 * s + x) (h : cel M v np nv c w s x) (q : w i = 0) : ¬ mtI M v np nv c s x := by
  subst hi
  rcases h with h | h
  · rw [q] at h; exact absurd h.1 (by decide)
  · exact h.2
theorem cel_ne {s x j y : Nat} {b : Int32} (hx : x ≤ 100) (hy : y ≤ 100) (h : ¬ (s = j ∧ x = y)) (q : cel M v np nv c w s x) : cel M v np nv c (upd w (101 * j + y) b) s x := by
  unfold cel
  rw [pk_un (by omega)]; exact q
theorem dn_R {j x : Nat} {b : Int32} (hv : nv ≤ 100) (hx : x ≤ nv) (h : dnR M v np nv c w (j + 1)) : dnR M v np nv c (upd w (101 * j + x) b) (j + 1) := fun s y h1 h2 h3 => cel_ne (by omega) (by omega) (by omega) (h s y h1 h2 h3)
theorem dn_C {j x : Nat} {b : Int32} (hv : nv ≤ 100) (hx : x ≤ nv) (h : dnC M v np nv c w j (x + 1)) (hb : (b = 1 ∧ mtI M v np nv c j x) ∨ (b = 0 ∧ ¬ mtI M v np nv c j x)) : dnC M v np nv c (upd w (101 * j + x) b) j x := by
  intro y h1 h2
  by_cases e : y = x
  · subst e; unfold cel; rw [pk_us]; exact hb
  · exact cel_ne (by omega) (by omega) (by omega) (h y (by omega) h2)
theorem dn_row {j l : Nat} (e : l = 0) (h : dnR M v np nv c w (j + 1)) (h2 : dnC M v np nv c w j l) : dnR M v np nv c w j := by
  intro s x g1 g2 g3
  by_cases q : s = j
  · subst q; exact h2 x (by omega) g3
  · exact h s x (by omega) g2 g3
theorem dn_0 : dnR M v np nv c w (np + 1) := fun s x h1 h2 _ => absurd h1 (by omega)
theorem dn_c0 {j : Nat} : dnC M v np nv c w j (nv + 1) := fun x h1 h2 => absurd h1 (by omega)
theorem star_rec {s x : Nat} (hs : s < np) (hm : M s = 257) (hx : x ≤ nv) : mtI M v np nv c s x ↔ mtI M v np nv c (s + 1) x ∨ (x < nv ∧ mtI M v np nv c s (x + 1)) := by
  rw [mtI_star hs hm, mtI_star hs hm]
  constructor
  · rintro ⟨k, h1, h2, h3⟩
    by_cases e : k = x
    · subst e; exact Or.inl h3
    · exact Or.inr ⟨by omega, k, by omega, h2, h3⟩
  · rintro (h | ⟨h, k, h1, h2, h3⟩)
    · exact ⟨x, Nat.le_refl _, hx, h⟩
    · exact ⟨k, by omega, h2, h3⟩
theorem end_0 {j x : Nat} (h : j = np) (hx : ¬ x = nv) : ¬ mtI M v np nv c j x := by subst h; exact fun q => hx (mtI_end.mp q)
theorem end_1 {j x : Nat} (h : j = np) (hx : x = nv) : mtI M v np nv c j x := by subst h; exact mtI_end.mpr hx
end CE
theorem mok_0 {s l m x c : Int32} (h : srel s l m) (h2 : ¬ s = 2) (h1 : ¬ s = 1) (q : ¬ fo x c = fo l c) : ¬ mok m x c = true := by
  obtain ⟨e, z⟩ := srel_0 h h2 h1
  subst e
  rw [mok_no z q]; decide
theorem mok_1 {s l m x c : Int32} (h : srel s l m) (h2 : ¬ s = 2) (h1 : ¬ s = 1) (q : fo x c = fo l c) : mok m x c = true := by
  obtain ⟨e, z⟩ := srel_0 h h2 h1
  subst e
  exact decide_eq_true (Or.inr q.symm)
theorem lkm_no {v k : Nat → Int32} {nv nk p1 : Nat} {c : Int32} (hp : p1 = mkN k nk) (h : ¬ mtI (mkF k nk) v p1 nv c 0 0) : ∀ L, ¬ sLike v k nv nk c L := by
  subst hp; exact fun L q => h q.1
theorem lkm_yes {v k : Nat → Int32} {nv nk p1 i x : Nat} {c : Int32} {acc : List (Nat × Nat)} (hp : p1 = mkN k nk) (e8 : i = p1) (h0 : mtI (mkF k nk) v p1 nv c 0 0) (h : ∀ L, spI (mkF k nk) v p1 nv c i x L → spI (mkF k nk) v p1 nv c 0 0 (acc ++ L)) : sLike v k nv nk c acc := by
  subst hp e8
  have := h [] (spI_end.mpr rfl)
  rw [List.append_nil] at this
  exact ⟨h0, this⟩
end
section
abbrev rm_m_like : Room := { frames := 1, cells := 0, slots := 0, locals := 22 }
set_option maxHeartbeats 4000000 in
set_option maxRecDepth 100000 in
theorem m_like (l : Launch) (dC : Nat → ClassId) (dI : Nat → Nat → Nat) (sz : Nat) (mo mv mk ms ml mc mf mn : Nat) (jv jk js jl jc jf jn : ClassId) (fv fk gs gl gc gf gn : Nat → Int32) (nv nk sn : Nat) (th : Int32) (hv : nv ≤ 100) (hk : nk ≤ 100) (hrk : rng fk nk) (cp : Int32) : Met l yX4_like (.code yX4_like cX4_like 5 (some (.boolean)) :: wsA) rm_m_like (va_Pc [.ref mo, .int (cp)] (wr (dC, dI) [(mo, .inr (4, [.int (th), .ref mv, .ref mk, .int (nI nv), .int (nI nk), .int (nI sn), .ref ms, .ref ml, .ref mc, .int (nI 0), .ref mf, .ref mn])), (mv, .inl (jv, 100, .inl fv)), (mk, .inl (jk, 100, .inl fk)), (ms, .inl (js, 100, .inl gs)), (ml, .inl (jl, 100, .inl gl)), (mc, .inl (jc, 10201, .inl gc)), (mf, .inl (jf, 100, .inl gf)), (mn, .inl (jn, 100, .inl gn))] [(jv, .int), (jk, .int), (js, .int), (jl, .int), (jc, .boolean), (jf, .int), (jn, .int)] sz)) (va_Qi (fun (r : Int32) (u : (Nat → Int32) × (Nat → Int32) × Nat × (Nat → Int32) × (Nat → Int32) × (Nat → Int32) × Nat) => u.2.2.2.2.2.2 ≤ 100 ∧ mres (sLike fv fk nv nk cp) r u.2.2.2.2.1 u.2.2.2.2.2.1 u.2.2.2.2.2.2) (wB (dC, dI) (va_A [(mo, .inr (4, [.int (th), .ref mv, .ref mk, .int (nI nv), .int (nI nk), .int (nI sn), .ref ms, .ref ml, .ref mc, .int (nI 0), .ref mf, .ref mn])), (mv, .inl (jv, 100, .inl fv)), (mk, .inl (jk, 100, .inl fk)), (ms, .inl (js, 100, .inl gs)), (ml, .inl (jl, 100, .inl gl)), (mc, .inl (jc, 10201, .inl gc)), (mf, .inl (jf, 100, .inl gf)), (mn, .inl (jn, 100, .inl gn))] sz) (fun u : (Nat → Int32) × (Nat → Int32) × Nat × (Nat → Int32) × (Nat → Int32) × (Nat → Int32) × Nat => [(mo, .inr (4, [.int (th), .ref mv, .ref mk, .int (nI nv), .int (nI nk), .int (nI u.2.2.1), .ref ms, .ref ml, .ref mc, .int (nI u.2.2.2.2.2.2), .ref mf, .ref mn])), (mv, .inl (jv, 100, .inl fv)), (mk, .inl (jk, 100, .inl fk)), (ms, .inl (js, 100, .inl (u.1))), (ml, .inl (jl, 100, .inl (u.2.1))), (mc, .inl (jc, 10201, .inl (u.2.2.2.1))), (mf, .inl (jf, 100, .inl (u.2.2.2.2.1))), (mn, .inl (jn, 100, .inl (u.2.2.2.2.2.1)))])) (va_A [(mo, .inr (4, [.int (th), .ref mv, .ref mk, .int (nI nv), .int (nI nk), .int (nI sn), .ref ms, .ref ml, .ref mc, .int (nI 0), .ref mf, .ref mn])), (mv, .inl (jv, 100, .inl fv)), (mk, .inl (jk, 100, .inl fk)), (ms, .inl (js, 100, .inl gs)), (ml, .inl (jl, 100, .inl gl)), (mc, .inl (jc, 10201, .inl gc)), (mf, .inl (jf, 100, .inl gf)), (mn, .inl (jn, 100, .inl gn))] sz)) 0 0 (va_A [(mo, .inr (4, [.int (th), .ref mv, .ref mk, .int (nI nv), .int (nI nk), .int (nI sn), .ref ms, .ref ml, .ref mc, .int (nI 0), .ref mf, .ref mn])), (mv, .inl (jv, 100, .inl fv)), (mk, .inl (jk, 100, .inl fk)), (ms, .inl (js, 100, .inl gs)), (ml, .inl (jl, 100, .inl gl)), (mc, .inl (jc, 10201, .inl gc)), (mf, .inl (jf, 100, .inl gf)), (mn, .inl (jn, 100, .inl gn))] sz) := by
  refine Met.ofW (cc := cX4_like) (maxL := 5) (ret := (some (.boolean))) (by decide) rfl ?_
  intro p e s m args below meth c s₁ B hml hv
  obtain ⟨hargs, hsz, hN, hP, hK, hD0⟩ := hv
  have hx := B.exec
  have hb := B.bytes
  have hr := B.returns
  have hw : ∀ w ∈ wsA, w.before args s = true := fun w h => atoms_spec (ws := (.code yX4_like cX4_like 5 (some (.boolean)) :: wsA)) B.pre w (List.mem_cons_of_mem _ h)
  have hown : s.vm.findClass "GlobDeskModel" = some m.cls := findClass_of_methodNamed B.named
  have hlocks := B.notSynchronized
  subst hsz
  have hD := hD0.self (sz := s.heap.size)
  generalize hAe : va_A [(mo, .inr (4, [.int (th), .ref mv, .ref mk, .int (nI nv), .int (nI nk), .int (nI sn), .ref ms, .ref ml, .ref mc, .int (nI 0), .ref mf, .ref mn])), (mv, .inl (jv, 100, .inl fv)), (mk, .inl (jk, 100, .inl fk)), (ms, .inl (js, 100, .inl gs)), (ml, .inl (jl, 100, .inl gl)), (mc, .inl (jc, 10201, .inl gc)), (mf, .inl (jf, 100, .inl gf)), (mn, .inl (jn, 100, .inl gn))] s.heap.size = A at hD ⊢
  have hA : ∀ q : Nat, s.heap.size ≤ q → A q := fun q h => by rw [← hAe]; exact Or.inr h
  have hS : va_S A s.heap s.heap [] := va_S.rf
  generalize hQ : MQ below _ args s _ _ _ = Q
  change W p l e rm_m_like s m args below meth c s.heap [] 0 0 Q (entryFrame m args 5)
  have hl := lv_entry ([.ref mo, .int (cp)]) (n := 5) (Nat.le_of_ble_eq_true rfl)
  rw [show entryFrame m args 5 = entryFrame m ([.ref mo, .int (cp)] : List Value).toArray 5 from by rw [hargs], lg_entry_eq]
  generalize (lg_sl ([.ref mo, .int (cp)]) ++ List.replicate (5 - (lg_sl ([.ref mo, .int (cp)])).length) Slot.unset).toArray = ls at hl ⊢
  have hl : lv_has ls 5 [(0, .ref mo), (1, .int (cp))] := hl
  refine lv_aload_n hx hb dX4_like_0 rfl (lv_at hl 0 rfl) ?_
  have hPc := hP.sub (ws' := [(mo, .inr (4, [.int (th), .ref mv, .ref mk, .int (nI nv), .int (nI nk), .int (nI sn), .ref ms, .ref ml, .ref mc, .int (nI 0), .ref mf, .ref mn])), (mv, .inl (jv, 100, .inl fv)), (mk, .inl (jk, 100, .inl fk)), (ms, .inl (js, 100, .inl gs)), (ml, .inl (jl, 100, .inl gl)), (mc, .inl (jc, 10201, .inl gc)), (mf, .inl (jf, 100, .inl gf)), (mn, .inl (jn, 100, .inl gn))]) [0, 1, 2, 3, 4, 5, 6, 7] rfl
  have hDc := hD.sub (ws' := [(mo, .inr (4, [.int (th), .ref mv, .ref mk, .int (nI nv), .int (nI nk), .int (nI sn), .ref ms, .ref ml, .ref mc, .int (nI 0), .ref mf, .ref mn])), (mv, .inl (jv, 100, .inl fv)), (mk, .inl (jk, 100, .inl fk)), (ms, .inl (js, 100, .inl gs)), (ml, .inl (jl, 100, .inl gl)), (mc, .inl (jc, 10201, .inl gc)), (mf, .inl (jf, 100, .inl gf)), (mn, .inl (jn, 100, .inl gn))]) [0, 1, 2, 3, 4, 5, 6, 7] (by decide) rfl
  have hKc := hK.sub (tys' := [(jv, .int), (jk, .int), (js, .int), (jl, .int), (jc, .boolean), (jf, .int), (jn, .int)]) [0, 1, 2, 3, 4, 5, 6] rfl
  have hFc := va_free (wc := [(mo, .inr (4, [.int (th), .ref mv, .ref mk, .int (nI nv), .int (nI nk), .int (nI sn), .ref ms, .ref ml, .ref mc, .int (nI 0), .ref mf, .ref mn])), (mv, .inl (jv, 100, .inl fv)), (mk, .inl (jk, 100, .inl fk)), (ms, .inl (js, 100, .inl gs)), (ml, .inl (jl, 100, .inl gl)), (mc, .inl (jc, 10201, .inl gc)), (mf, .inl (jf, 100, .inl gf)), (mn, .inl (jn, 100, .inl gn))]) hD hS hA [0, 1, 2, 3, 4, 5, 6, 7] rfl
  refine va_callv (va_runV (As := []) (rest := []) ⟨hx, hb, hml, hown, hw⟩ (m_signs l dC dI s.heap.size mo mv mk ms ml mc mf mn jv jk js jl jc jf jn fv fk gs gl gc gf gn nv nk sn 0 th hv hk hrk) (cwV 0 hw (gV mw319 mw321 mw14 mw20 mw322) rfl rfl rfl (by decide +kernel) ⟨Nat.le_of_ble_eq_true rfl, Nat.le_of_ble_eq_true rfl⟩) (wr.V (q0 := 0) (ci := 4) hN hKc hPc hDc rfl rfl) rfl rfl hl.1 rfl (lv_room (Nat.le_of_ble_eq_true rfl)) dX4_like_1 ⟨Nat.le_of_ble_eq_true rfl, Nat.le_of_ble_eq_true rfl⟩) hS (fun q _ h => hFc q h) hFc (fun ur1 t H1 locs ht hvm hr1 hB hz1 hk1 hS => ?_)
  obtain ⟨w1, w2, p1⟩ := ur1
  obtain ⟨hpl, hple, hsr⟩ := hr1
  dsimp only at hpl hple hsr
  obtain ⟨hP1, hD1⟩ := hB
  rw [ht] at hP1
  obtain ⟨hP, hD⟩ := va_join (wr := []) (w1 := [(mo, .inr (4, [.int (th), .ref mv, .ref mk, .int (nI nv), .int (nI nk), .int (nI p1), .ref ms, .ref ml, .ref mc, .int (nI 0), .ref mf, .ref mn])), (mv, .inl (jv, 100, .inl fv)), (mk, .inl (jk, 100, .inl fk)), (ms, .inl (js, 100, .inl w1)), (ml, .inl (jl, 100, .inl w2)), (mc, .inl (jc, 10201, .inl gc)), (mf, .inl (jf, 100, .inl gf)), (mn, .inl (jn, 100, .inl gn))]) hP hD [0, 1, 2, 3, 4, 5, 6, 7] [] rfl rfl (by decide) (by decide) hk1 hFc hP1 hD1
  generalize H1 = H at hP hS ⊢
  have hP : va_P (dC, dI) cl5 [(mo, .inr (4, [.int (th), .ref mv, .ref mk, .int (nI nv), .int (nI nk), .int (nI p1), .ref ms, .ref ml, .ref mc, .int (nI 0), .ref mf, .ref mn])), (mv, .inl (jv, 100, .inl fv)), (mk, .inl (jk, 100, .inl fk)), (ms, .inl (js, 100, .inl w1)), (ml, .inl (jl, 100, .inl w2)), (mc, .inl (jc, 10201, .inl gc)), (mf, .inl (jf, 100, .inl gf)), (mn, .inl (jn, 100, .inl gn))] H := hP.sub [0, 1, 2, 3, 4, 5, 6, 7] rfl
  have hD : va_D A [(mo, .inr (4, [.int (th), .ref mv, .ref mk, .int (nI nv), .int (nI nk), .int (nI p1), .ref ms, .ref ml, .ref mc, .int (nI 0), .ref mf, .ref mn])), (mv, .inl (jv, 100, .inl fv)), (mk, .inl (jk, 100, .inl fk)), (ms, .inl (js, 100, .inl w1)), (ml, .inl (jl, 100, .inl w2)), (mc, .inl (jc, 10201, .inl gc)), (mf, .inl (jf, 100, .inl gf)), (mn, .inl (jn, 100, .inl gn))] := hD.sub [0, 1, 2, 3, 4, 5, 6, 7] (by decide) rfl
  refine lv_aload_n hx hb dX4_like_4 rfl (lv_at hl 0 rfl) ?_
  refine va_get (D := (dC, dI)) (ci := 4) (v := .int (nI p1)) (C := RX4) (T := TX4) (N := 12) hx hb hw inX4 hown hK hP 0 rfl rfl 5 (by decide) (hw _ mw249) (fun _ h9 => h9) rfl dX4_like_5 ?_
  refine lv_topi (fun x2 ex2 => ?_)
  obtain rfl : x2 = (nI (p1 + 1)) - (1) := by rw [ex2]; exact (nI_pred p1).symm
  refine lv_istore_n (lv' := [(2, .int ((nI (p1 + 1)) - (1))), (0, .ref mo), (1, .int (cp))]) hx hb dX4_like_8 rfl hl (by decide) rfl (fun ls hl => ?_)
  have loop9 : ∀ (nn9 : Nat) (k9 : Nat) (w3 : Nat → Int32) (hk9 : k9 ≤ p1 + 1) (hd : dnR (mkF fk nk) fv p1 nv cp w3 k9) (_ : k9 < nn9) (H : Heap) (locs : List Loc) (_ : va_P (dC, dI) cl5 [(mo, .inr (4, [.int (th), .ref mv, .ref mk, .int (nI nv), .int (nI nk), .int (nI p1), .ref ms, .ref ml, .ref mc, .int (nI 0), .ref mf, .ref mn])), (mv, .inl (jv, 100, .inl fv)), (mk, .inl (jk, 100, .inl fk)), (ms, .inl (js, 100, .inl w1)), (ml, .inl (jl, 100, .inl w2)), (mc, .inl (jc, 10201, .inl w3)), (mf, .inl (jf, 100, .inl gf)), (mn, .inl (jn, 100, .inl gn))] H) (_ : va_D A [(mo, .inr (4, [.int (th), .ref mv, .ref mk, .int (nI nv), .int (nI nk), .int (nI p1), .ref ms, .ref ml, .ref mc, .int (nI 0), .ref mf, .ref mn])), (mv, .inl (jv, 100, .inl fv)), (mk, .inl (jk, 100, .inl fk)), (ms, .inl (js, 100, .inl w1)), (ml, .inl (jl, 100, .inl w2)), (mc, .inl (jc, 10201, .inl w3)), (mf, .inl (jf, 100, .inl gf)), (mn, .inl (jn, 100, .inl gn))]) (_ : va_S A s.heap H locs) (ls : Array Slot) (_ : lv_has ls 5 [(0, .ref mo), (1, .int (cp)), (2, .int ((nI k9) - (1)))]), W p l e rm_m_like s m args below meth c H locs 0 0 Q (F0 m 9 ls []) := by
    intro nn9
    induction nn9 with
    | zero => intro k9 w3 hk9 hd hm9 H locs hP hD hS ls hl; exact absurd hm9 (Nat.not_lt_zero _)
    | succ nn9 ih9 =>
      intro k9 w3 hk9 hd hm9 H locs hP hD hS ls hl
      refine lv_iload_n hx hb dX4_like_9 rfl (lv_at hl 2 rfl) ?_
      refine lv_if_lt (tgt := 212) hx hb dX4_like_10 (by decide) (fun c10_2 => ?_) (fun c10_2 => ?_)
      · skip
        have e0 := nI_m1n (by omega) c10_2
        refine lv_aload_n hx hb dX4_like_212 rfl (lv_at hl 0 rfl) ?_
        refine va_get (D := (dC, dI)) (ci := 4) (v := .ref mc) (C := RX4) (T := TX4) (N := 12) hx hb hw inX4 hown hK hP 0 rfl rfl 8 (by decide) (hw _ mw252) (fun _ h9 => h9) rfl dX4_like_213 ?_
        refine lv_iconst (v := 0) hx hb dX4_like_216 (by decide) ?_
        refine lv_topi (fun x4 ex4 => ?_)
        obtain rfl : x4 = nI 0 := by rw [ex4]; exact nI_0.symm
        refine va_zald hx hb hK hP 5 4 rfl rfl (i := (nI 0)) (vp_in_nI (by omega) (by omega)) dX4_like_217 ?_
        refine lv_topi (fun x5 ex5 => ?_)
        obtain rfl : x5 = w3 0 := by rw [ex5, nI_clamp (by omega)]
        refine lv_if_ne (tgt := 223) hx hb dX4_like_218 (by decide) (fun c218_5 => ?_) (fun c218_5 => ?_)
        · skip
          have im0 := cel_t (s := 0) (x := 0) (i := 0) rfl (hd 0 0 (by omega) (Nat.zero_le _) (Nat.zero_le _)) c218_5
          refine lv_iconst (v := 0) hx hb dX4_like_223 (by decide) ?_
          refine lv_topi (fun x7 ex7 => ?_)
          obtain rfl : x7 = nI 0 := by rw [ex7]; exact nI_0.symm
          refine lv_istore_n (lv' := [(2, .int (nI 0)), (0, .ref mo), (1, .int (cp))]) hx hb dX4_like_224 rfl hl (by decide) rfl (fun ls hl => ?_)
          refine lv_iconst (v := 0) hx hb dX4_like_225 (by decide) ?_
          refine lv_topi (fun x8 ex8 => ?_)
          obtain rfl : x8 = nI 0 := by rw [ex8]; exact nI_0.symm
          refine lv_istore_n (lv' := [(3, .int (nI 0)), (2, .int (nI 0)), (0, .ref mo), (1, .int (cp))]) hx hb dX4_like_226 rfl hl (by decide) rfl (fun ls hl => ?_)
          have loop227 : ∀ (nn227 : Nat) (i x ct9 : Nat) (s1 s2 : Nat → Int32) (acc : List (Nat × Nat)) (hi : i ≤ p1) (hxv : x ≤ nv) (hct : ct9 ≤ i) (im : mtI (mkF fk nk) fv p1 nv cp i x) (isp : ∀ L, spI (mkF fk nk) fv p1 nv cp i x L → spI (mkF fk nk) fv p1 nv cp 0 0 (acc ++ L)) (i3 : spIs s1 s2 ct9 acc) (_ : p1 - i < nn227) (H : Heap) (locs : List Loc) (_ : va_P (dC, dI) cl5 [(mo, .inr (4, [.int (th), .ref mv, .ref mk, .int (nI nv), .int (nI nk), .int (nI p1), .ref ms, .ref ml, .ref mc, .int (nI ct9), .ref mf, .ref mn])), (mv, .inl (jv, 100, .inl fv)), (mk, .inl (jk, 100, .inl fk)), (ms, .inl (js, 100, .inl w1)), (ml, .inl (jl, 100, .inl w2)), (mc, .inl (jc, 10201, .inl w3)), (mf, .inl (jf, 100, .inl s1)), (mn, .inl (jn, 100, .inl s2))] H) (_ : va_D A [(mo, .inr (4, [.int (th), .ref mv, .ref mk, .int (nI nv), .int (nI nk), .int (nI p1), .ref ms, .ref ml, .ref mc, .int (nI ct9), .ref mf, .ref mn])), (mv, .inl (jv, 100, .inl fv)), (mk, .inl (jk, 100, .inl fk)), (ms, .inl (js, 100, .inl w1)), (ml, .inl (jl, 100, .inl w2)), (mc, .inl (jc, 10201, .inl w3)), (mf, .inl (jf, 100, .inl s1)), (mn, .inl (jn, 100, .inl s2))]) (_ : va_S A s.heap H locs) (ls : Array Slot) (_ : lv_has ls 5 [(0, .ref mo), (2, .int (nI x)), (3, .int (nI i))]), W p l e rm_m_like s m args below meth c H locs 0 0 Q (F0 m 227 ls []) := by
            intro nn227
            induction nn227 with
            | zero => intro i x ct9 s1 s2 acc hi hxv hct im isp i3 hm227 H locs hP hD hS ls hl; exact absurd hm227 (Nat.not_lt_zero _)
            | succ nn227 ih227 =>
              intro i x ct9 s1 s2 acc hi hxv hct im isp i3 hm227 H locs hP hD hS ls hl
              refine lv_iload_n hx hb dX4_like_227 rfl (lv_at hl 2 rfl) ?_
              refine lv_aload_n hx hb dX4_like_228 rfl (lv_at hl 0 rfl) ?_
              refine va_get (D := (dC, dI)) (ci := 4) (v := .int (nI p1)) (C := RX4) (T := TX4) (N := 12) hx hb hw inX4 hown hK hP 0 rfl rfl 5 (by decide) (hw _ mw249) (fun _ h9 => h9) rfl dX4_like_229 ?_
              refine lv_icmp_ge (tgt := 320) hx hb dX4_like_232 (by decide) (fun c232_8 => ?_) (fun c232_8 => ?_)
              · skip
                rw [ti_le, nI_toInt (by omega), nI_toInt (by omega)] at c232_8
                have e8 : i = p1 := by omega
                refine lv_iconst (v := 1) hx hb dX4_like_320 (by decide) ?_
                subst hQ
                exact W.zret (v := 1) hx hb hr (by decide) (fun t ht hW => ⟨⟨_, (w1, w2, p1, w3, s1, s2, ct9), rfl, ⟨by show ct9 ≤ 100; omega, Or.inl ⟨rfl, acc, lkm_yes hpl e8 im0 isp, i3⟩⟩, by rw [ht]; exact hP, hD⟩, hS.F ht⟩) hS.2.2 dX4_like_321
              · skip
                rw [ti_le, nI_toInt (by omega), nI_toInt (by omega)] at c232_8
                have hlt : i < p1 := by omega
                refine lv_aload_n hx hb dX4_like_235 rfl (lv_at hl 0 rfl) ?_
                refine va_get (D := (dC, dI)) (ci := 4) (v := .ref ms) (C := RX4) (T := TX4) (N := 12) hx hb hw inX4 hown hK hP 0 rfl rfl 6 (by decide) (hw _ mw250) (fun _ h9 => h9) rfl dX4_like_236 ?_
                refine lv_iload_n hx hb dX4_like_239 rfl (lv_at hl 2 rfl) ?_
                refine va_iald hx hb hK hP 3 2 rfl rfl (i := (nI i)) (vp_in_nI (by omega) (by omega)) dX4_like_240 ?_
                refine lv_topi (fun x10 ex10 => ?_)
                obtain rfl : x10 = w1 i := by rw [ex10, nI_clamp (by omega)]
                refine lv_iconst (v := 2) hx hb dX4_like_241 (by decide) ?_
                refine lv_icmp_ne (tgt := 311) hx hb dX4_like_242 (by decide) (fun c242_10 => ?_) (fun c242_10 => ?_)
                · skip
                  have zst := srel_n2 (hsr i hlt) c242_10
                  have on := (mtI_one hlt zst).mp im
                  refine lv_iinc (v := nI (x + 1)) (lv' := [(2, .int (nI (x + 1))), (0, .ref mo), (3, .int (nI i))]) hx hb dX4_like_311 hl (k := 1) rfl (nI_inc x) (by decide) rfl (fun ls hl => ?_)
                  refine lv_iinc (v := nI (i + 1)) (lv' := [(3, .int (nI (i + 1))), (2, .int (nI (x + 1))), (0, .ref mo)]) hx hb dX4_like_314 hl (k := 2) rfl (nI_inc i) (by decide) rfl (fun ls hl => ?_)
                  refine lv_goto (tgt := 227) hx hb dX4_like_317 (by decide) ?_
                  exact ih227 (i + 1) (x + 1) ct9 s1 s2 acc (by omega) (by have := on.1; omega) (by omega) on.2.2 (fun L h => isp L ((spI_one hlt zst).mpr h)) i3 (by omega) H locs hP hD hS ls (lv_sub hl [2, 1, 0] rfl)
                · skip
                  have zst := srel_2 (hsr i hlt) (by first | exact c242_10 | exact Decidable.not_not.mp c242_10)
                  obtain ⟨K9, kx, kn9, km⟩ := (mtI_star hlt zst).mp im
                  refine lv_aload_n hx hb dX4_like_245 rfl (lv_at hl 0 rfl) ?_
                  refine va_get (D := (dC, dI)) (ci := 4) (v := .ref mf) (C := RX4) (T := TX4) (N := 12) hx hb hw inX4 hown hK hP 0 rfl rfl 10 (by decide) (hw _ mw254) (fun _ h9 => h9) rfl dX4_like_246 ?_
                  refine lv_aload_n hx hb dX4_like_249 rfl (lv_at hl 0 rfl) ?_
                  refine va_get (D := (dC, dI)) (ci := 4) (v := .int (nI ct9)) (C := RX4) (T := TX4) (N := 12) hx hb hw inX4 hown hK hP 0 rfl rfl 9 (by decide) (hw _ mw253) (fun _ h9 => h9) rfl dX4_like_250 ?_
                  refine lv_iload_n hx hb dX4_like_253 rfl (lv_at hl 1 rfl) ?_
                  refine va_iast hx hb hK hP hD hS 6 5 rfl rfl (i := (nI ct9)) (vp_in_nI (by omega) (by omega)) dX4_like_254 (fun H locs hP hD hS => ?_)
                  rw [nI_clamp (by omega)] at hP hD
                  have hP : va_P (dC, dI) cl5 [(mo, .inr (4, [.int (th), .ref mv, .ref mk, .int (nI nv), .int (nI nk), .int (nI p1), .ref ms, .ref ml, .ref mc, .int (nI ct9), .ref mf, .ref mn])), (mv, .inl (jv, 100, .inl fv)), (mk, .inl (jk, 100, .inl fk)), (ms, .inl (js, 100, .inl w1)), (ml, .inl (jl, 100, .inl w2)), (mc, .inl (jc, 10201, .inl w3)), (mf, .inl (jf, 100, .inl (upd s1 ct9 (nI x)))), (mn, .inl (jn, 100, .inl s2))] H := hP
                  have hD : va_D A [(mo, .inr (4, [.int (th), .ref mv, .ref mk, .int (nI nv), .int (nI nk), .int (nI p1), .ref ms, .ref ml, .ref mc, .int (nI ct9), .ref mf, .ref mn])), (mv, .inl (jv, 100, .inl fv)), (mk, .inl (jk, 100, .inl fk)), (ms, .inl (js, 100, .inl w1)), (ml, .inl (jl, 100, .inl w2)), (mc, .inl (jc, 10201, .inl w3)), (mf, .inl (jf, 100, .inl (upd s1 ct9 (nI x)))), (mn, .inl (jn, 100, .inl s2))] := hD
                  have loop255 : ∀ (nn255 : Nat) (y : Nat) (hxy : x ≤ y) (hyn : ∀ t, x ≤ t → t < y → ¬ mtI (mkF fk nk) fv p1 nv cp (i + 1) t) (hyk : y ≤ K9) (_ : K9 - y < nn255) (ls : Array Slot) (_ : lv_has ls 5 [(0, .ref mo), (2, .int (nI y)), (3, .int (nI i))]), W p l e rm_m_like s m args below meth c H locs 0 0 Q (F0 m 255 ls []) := by
                    intro nn255
                    induction nn255 with
                    | zero => intro y hxy hyn hyk hm255 ls hl; exact absurd hm255 (Nat.not_lt_zero _)
                    | succ nn255 ih255 =>
                      intro y hxy hyn hyk hm255 ls hl
                      refine lv_aload_n hx hb dX4_like_255 rfl (lv_at hl 0 rfl) ?_
                      refine va_get (D := (dC, dI)) (ci := 4) (v := .ref mc) (C := RX4) (T := TX4) (N := 12) hx hb hw inX4 hown hK hP 0 rfl rfl 8 (by decide) (hw _ mw252) (fun _ h9 => h9) rfl dX4_like_256 ?_
                      refine lv_bipush (v := 101) hx hb dX4_like_259 (by decide) ?_
                      refine lv_iload_n hx hb dX4_like_261 rfl (lv_at hl 2 rfl) ?_
                      refine lv_imul hx hb dX4_like_262 ?_
                      refine lv_topi (fun x12 ex12 => ?_)
                      obtain rfl : x12 = nI (101 * i) := by rw [ex12]; exact pk_mul 101 i
                      refine lv_bipush (v := 101) hx hb dX4_like_263 (by decide) ?_
                      refine lv_iadd hx hb dX4_like_265 ?_
                      refine lv_topi (fun x13 ex13 => ?_)
                      obtain rfl : x13 = nI (101 * i + 101) := by rw [ex13]; exact nI_add (101 * i) 101
                      refine lv_iload_n hx hb dX4_like_266 rfl (lv_at hl 1 rfl) ?_
                      refine lv_iadd hx hb dX4_like_267 ?_
                      refine lv_topi (fun x14 ex14 => ?_)
                      obtain rfl : x14 = nI (101 * i + 101 + y) := by rw [ex14]; exact nI_add (101 * i + 101) y
                      refine va_zald hx hb hK hP 5 4 rfl rfl (i := (nI (101 * i + 101 + y))) (vp_in_nI (by omega) (by omega)) dX4_like_268 ?_
                      refine lv_topi (fun x15 ex15 => ?_)
                      obtain rfl : x15 = w3 (101 * i + 101 + y) := by rw [ex15, nI_clamp (by omega)]
                      refine lv_if_ne (tgt := 278) hx hb dX4_like_269 (by decide) (fun c269_15 => ?_) (fun c269_15 => ?_)
                      · skip
                        have ym := cel_t (i := 101 * i + 101 + y) (by omega) (hd (i + 1) y (by omega) (by omega) (by omega)) c269_15
                        refine lv_aload_n hx hb dX4_like_278 rfl (lv_at hl 0 rfl) ?_
                        refine va_get (D := (dC, dI)) (ci := 4) (v := .ref mn) (C := RX4) (T := TX4) (N := 12) hx hb hw inX4 hown hK hP 0 rfl rfl 11 (by decide) (hw _ mw255) (fun _ h9 => h9) rfl dX4_like_279 ?_
                        refine lv_aload_n hx hb dX4_like_282 rfl (lv_at hl 0 rfl) ?_
                        refine va_get (D := (dC, dI)) (ci := 4) (v := .int (nI ct9)) (C := RX4) (T := TX4) (N := 12) hx hb hw inX4 hown hK hP 0 rfl rfl 9 (by decide) (hw _ mw253) (fun _ h9 => h9) rfl dX4_like_283 ?_
                        refine lv_iload_n hx hb dX4_like_286 rfl (lv_at hl 1 rfl) ?_
                        refine lv_aload_n hx hb dX4_like_287 rfl (lv_at hl 0 rfl) ?_
                        refine va_get (D := (dC, dI)) (ci := 4) (v := .ref mf) (C := RX4) (T := TX4) (N := 12) hx hb hw inX4 hown hK hP 0 rfl rfl 10 (by decide) (hw _ mw254) (fun _ h9 => h9) rfl dX4_like_288 ?_
                        refine lv_aload_n hx hb dX4_like_291 rfl (lv_at hl 0 rfl) ?_
                        refine va_get (D := (dC, dI)) (ci := 4) (v := .int (nI ct9)) (C := RX4) (T := TX4) (N := 12) hx hb hw inX4 hown hK hP 0 rfl rfl 9 (by decide) (hw _ mw253) (fun _ h9 => h9) rfl dX4_like_292 ?_
                        refine va_iald hx hb hK hP 6 5 rfl rfl (i := (nI ct9)) (vp_in_nI (by omega) (by omega)) dX4_like_295 ?_
                        refine lv_topi (fun x17 ex17 => ?_)
                        obtain rfl : x17 = (upd s1 ct9 (nI x)) ct9 := by rw [ex17, nI_clamp (by omega)]
                        refine lv_topi (fun x18 ex18 => ?_)
                        obtain rfl : x18 = nI x := by rw [ex18]; exact pk_us
                        refine lv_isub hx hb dX4_like_296 ?_
                        refine lv_topi (fun x19 ex19 => ?_)
                        obtain rfl : x19 = nI (y - x) := by rw [ex19]; exact pk_sub hxy
                        refine va_iast hx hb hK hP hD hS 7 6 rfl rfl (i := (nI ct9)) (vp_in_nI (by omega) (by omega)) dX4_like_297 (fun H locs hP hD hS => ?_)
                        rw [nI_clamp (by omega)] at hP hD
                        have hP : va_P (dC, dI) cl5 [(mo, .inr (4, [.int (th), .ref mv, .ref mk, .int (nI nv), .int (nI nk), .int (nI p1), .ref ms, .ref ml, .ref mc, .int (nI ct9), .ref mf, .ref mn])), (mv, .inl (jv, 100, .inl fv)), (mk, .inl (jk, 100, .inl fk)), (ms, .inl (js, 100, .inl w1)), (ml, .inl (jl, 100, .inl w2)), (mc, .inl (jc, 10201, .inl w3)), (mf, .inl (jf, 100, .inl (upd s1 ct9 (nI x)))), (mn, .inl (jn, 100, .inl (upd s2 ct9 (nI (y - x)))))] H := hP
                        have hD : va_D A [(mo, .inr (4, [.int (th), .ref mv, .ref mk, .int (nI nv), .int (nI nk), .int (nI p1), .ref ms, .ref ml, .ref mc, .int (nI ct9), .ref mf, .ref mn])), (mv, .inl (jv, 100, .inl fv)), (mk, .inl (jk, 100, .inl fk)), (ms, .inl (js, 100, .inl w1)), (ml, .inl (jl, 100, .inl w2)), (mc, .inl (jc, 10201, .inl w3)), (mf, .inl (jf, 100, .inl (upd s1 ct9 (nI x)))), (mn, .inl (jn, 100, .inl (upd s2 ct9 (nI (y - x)))))] := hD
                        refine lv_aload_n hx hb dX4_like_298 rfl (lv_at hl 0 rfl) ?_
                        refine lv_dup hx hb dX4_like_299 rfl ?_
                        refine va_get (D := (dC, dI)) (ci := 4) (v := .int (nI ct9)) (C := RX4) (T := TX4) (N := 12) hx hb hw inX4 hown hK hP 0 rfl rfl 9 (by decide) (hw _ mw253) (fun _ h9 => h9) rfl dX4_like_300 ?_
                        refine lv_iconst (v := 1) hx hb dX4_like_303 (by decide) ?_
                        refine lv_iadd hx hb dX4_like_304 ?_
                        refine lv_topi (fun x20 ex20 => ?_)
                        obtain rfl : x20 = nI (ct9 + 1) := by rw [ex20]; exact nI_add (ct9) 1
                        refine va_put (D := (dC, dI)) (ci := 4) (v := .int (nI (ct9 + 1))) (ty := .int) (C := RX4) (T := TX4) (N := 12) hx hb hw inX4 tyX4 tyX4_ok nmX4 hown hK hP hD hS 0 rfl rfl 9 (by decide) (hw _ mw253) (fun _ h9 => h9) rfl (by decide +kernel) rfl rfl (Nat.le_of_ble_eq_true rfl) dX4_like_305 (fun H locs hP hD hS => ?_)
                        have hP : va_P (dC, dI) cl5 [(mo, .inr (4, [.int (th), .ref mv, .ref mk, .int (nI nv), .int (nI nk), .int (nI p1), .ref ms, .ref ml, .ref mc, .int (nI (ct9 + 1)), .ref mf, .ref mn])), (mv, .inl (jv, 100, .inl fv)), (mk, .inl (jk, 100, .inl fk)), (ms, .inl (js, 100, .inl w1)), (ml, .inl (jl, 100, .inl w2)), (mc, .inl (jc, 10201, .inl w3)), (mf, .inl (jf, 100, .inl (upd s1 ct9 (nI x)))), (mn, .inl (jn, 100, .inl (upd s2 ct9 (nI (y - x)))))] H := hP
                        have hD : va_D A [(mo, .inr (4, [.int (th), .ref mv, .ref mk, .int (nI nv), .int (nI nk), .int (nI p1), .ref ms, .ref ml, .ref mc, .int (nI (ct9 + 1)), .ref mf, .ref mn])), (mv, .inl (jv, 100, .inl fv)), (mk, .inl (jk, 100, .inl fk)), (ms, .inl (js, 100, .inl w1)), (ml, .inl (jl, 100, .inl w2)), (mc, .inl (jc, 10201, .inl w3)), (mf, .inl (jf, 100, .inl (upd s1 ct9 (nI x)))), (mn, .inl (jn, 100, .inl (upd s2 ct9 (nI (y - x)))))] := hD
                        refine lv_goto (tgt := 314) hx hb dX4_like_308 (by decide) ?_
                        refine lv_iinc (v := nI (i + 1)) (lv' := [(3, .int (nI (i + 1))), (0, .ref mo), (2, .int (nI y))]) hx hb dX4_like_314 hl (k := 2) rfl (nI_inc i) (by decide) rfl (fun ls hl => ?_)
                        refine lv_goto (tgt := 227) hx hb dX4_like_317 (by decide) ?_
                        exact ih227 (i + 1) y (ct9 + 1) _ _ (acc ++ [(x, y - x)]) (by omega) (by omega) (by omega) ym (fun L h => by rw [List.append_assoc]; exact isp _ ((spI_star hlt zst).mpr ⟨y, L, rfl, hxy, ym, hyn, h⟩)) (spIs_add i3) (by omega) H locs hP hD hS ls (lv_sub hl [1, 2, 0] rfl)
                      · skip
                        have ym := cel_f (i := 101 * i + 101 + y) (by omega) (hd (i + 1) y (by omega) (by omega) (by omega)) (by first | exact c269_15 | exact Decidable.not_not.mp c269_15)
                        have yk : ¬ y = K9 := fun q => ym (by rw [q]; exact km)
                        refine lv_iinc (v := nI (y + 1)) (lv' := [(2, .int (nI (y + 1))), (0, .ref mo), (3, .int (nI i))]) hx hb dX4_like_272 hl (k := 1) rfl (nI_inc y) (by decide) rfl (fun ls hl => ?_)
                        refine lv_goto (tgt := 255) hx hb dX4_like_275 (by decide) ?_
                        exact ih255 (y + 1) (by omega) (fun t a b => by by_cases q : t = y <;> first | (subst q; exact ym) | exact hyn t a (by omega)) (by omega) (by omega) ls (lv_sub hl [1, 0, 2] rfl)
                  exact loop255 (K9 - x + 1) x (Nat.le_refl _) (fun t a b => by omega) kx (by omega) ls (lv_sub hl [0, 1, 2] rfl)
          exact loop227 (p1 + 1) 0 0 0 gf gn [] (Nat.zero_le _) (Nat.zero_le _) (Nat.zero_le _) im0 (fun L h => h) spIs_0 (by omega) H locs hP hD hS ls (lv_sub hl [2, 1, 0] rfl)
        · skip
          have im0 := cel_f (s := 0) (x := 0) (i := 0) rfl (hd 0 0 (by omega) (Nat.zero_le _) (Nat.zero_le _)) (by first | exact c218_5 | exact Decidable.not_not.mp c218_5)
          refine lv_iconst (v := 0) hx hb dX4_like_221 (by decide) ?_
          subst hQ
          exact W.zret (v := 0) hx hb hr (by decide) (fun t ht hW => ⟨⟨_, (w1, w2, p1, w3, gf, gn, 0), rfl, ⟨Nat.zero_le _, Or.inr ⟨rfl, lkm_no hpl im0⟩⟩, by rw [ht]; exact hP, hD⟩, hS.F ht⟩) hS.2.2 dX4_like_222
      · skip
        obtain ⟨j, rfl⟩ := nI_m1_pos c10_2
        rw [nI_pred] at hl
        refine lv_aload_n hx hb dX4_like_13 rfl (lv_at hl 0 rfl) ?_
        refine va_get (D := (dC, dI)) (ci := 4) (v := .int (nI nv)) (C := RX4) (T := TX4) (N := 12) hx hb hw inX4 hown hK hP 0 rfl rfl 3 (by decide) (hw _ mw247) (fun _ h9 => h9) rfl dX4_like_14 ?_
        refine lv_topi (fun x21 ex21 => ?_)
        obtain rfl : x21 = (nI (nv + 1)) - (1) := by rw [ex21]; exact (nI_pred nv).symm
        refine lv_istore_n (lv' := [(3, .int ((nI (nv + 1)) - (1))), (0, .ref mo), (1, .int (cp)), (2, .int (nI j))]) hx hb dX4_like_17 rfl hl (by decide) rfl (fun ls hl => ?_)
        have loop18 : ∀ (nn18 : Nat) (l9 : Nat) (w4 : Nat → Int32) (hl9 : l9 ≤ nv + 1) (hd1 : dnR (mkF fk nk) fv p1 nv cp w4 (j + 1)) (hd2 : dnC (mkF fk nk) fv p1 nv cp w4 j l9) (_ : l9 < nn18) (H : Heap) (locs : List Loc) (_ : va_P (dC, dI) cl5 [(mo, .inr (4, [.int (th), .ref mv, .ref mk, .int (nI nv), .int (nI nk), .int (nI p1), .ref ms, .ref ml, .ref mc, .int (nI 0), .ref mf, .ref mn])), (mv, .inl (jv, 100, .inl fv)), (mk, .inl (jk, 100, .inl fk)), (ms, .inl (js, 100, .inl w1)), (ml, .inl (jl, 100, .inl w2)), (mc, .inl (jc, 10201, .inl w4)), (mf, .inl (jf, 100, .inl gf)), (mn, .inl (jn, 100, .inl gn))] H) (_ : va_D A [(mo, .inr (4, [.int (th), .ref mv, .ref mk, .int (nI nv), .int (nI nk), .int (nI p1), .ref ms, .ref ml, .ref mc, .int (nI 0), .ref mf, .ref mn])), (mv, .inl (jv, 100, .inl fv)), (mk, .inl (jk, 100, .inl fk)), (ms, .inl (js, 100, .inl w1)), (ml, .inl (jl, 100, .inl w2)), (mc, .inl (jc, 10201, .inl w4)), (mf, .inl (jf, 100, .inl gf)), (mn, .inl (jn, 100, .inl gn))]) (_ : va_S A s.heap H locs) (ls : Array Slot) (_ : lv_has ls 5 [(0, .ref mo), (1, .int (cp)), (2, .int (nI j)), (3, .int ((nI l9) - (1)))]), W p l e rm_m_like s m args below meth c H locs 0 0 Q (F0 m 18 ls []) := by
          intro nn18
          induction nn18 with
          | zero => intro l9 w4 hl9 hd1 hd2 hm18 H locs hP hD hS ls hl; exact absurd hm18 (Nat.not_lt_zero _)
          | succ nn18 ih18 =>
            intro l9 w4 hl9 hd1 hd2 hm18 H locs hP hD hS ls hl
            refine lv_iload_n hx hb dX4_like_18 rfl (lv_at hl 3 rfl) ?_
            refine lv_if_lt (tgt := 206) hx hb dX4_like_19 (by decide) (fun c19_21 => ?_) (fun c19_21 => ?_)
            · skip
              have e1 := nI_m1n (by omega) c19_21
              refine lv_iinc (v := (nI j) - (1)) (lv' := [(2, .int ((nI j) - (1))), (0, .ref mo), (1, .int (cp)), (3, .int ((nI l9) - (1)))]) hx hb dX4_like_206 hl (k := 2) rfl (nI_dec j) (by decide) rfl (fun ls hl => ?_)
              refine lv_goto (tgt := 9) hx hb dX4_like_209 (by decide) ?_
              exact ih9 j w4 (by omega) (dn_row e1 hd1 hd2) (by omega) H locs hP hD hS ls (lv_sub hl [1, 2, 0] rfl)
            · skip
              obtain ⟨x, rfl⟩ := nI_m1_pos c19_21
              rw [nI_pred] at hl
              refine lv_iload_n hx hb dX4_like_22 rfl (lv_at hl 2 rfl) ?_
              refine lv_aload_n hx hb dX4_like_23 rfl (lv_at hl 0 rfl) ?_
              refine va_get (D := (dC, dI)) (ci := 4) (v := .int (nI p1)) (C := RX4) (T := TX4) (N := 12) hx hb hw inX4 hown hK hP 0 rfl rfl 5 (by decide) (hw _ mw249) (fun _ h9 => h9) rfl dX4_like_24 ?_
              refine lv_icmp_ne (tgt := 42) hx hb dX4_like_27 (by decide) (fun c27_22 => ?_) (fun c27_22 => ?_)
              · skip
                have zj : ¬ j = p1 := fun q => c27_22 (by rw [q])
                refine lv_iconst (v := 0) hx hb dX4_like_42 (by decide) ?_
                refine lv_istore (lv' := [(4, .int (0)), (0, .ref mo), (1, .int (cp)), (2, .int (nI j)), (3, .int (nI x))]) hx hb dX4_like_43 hl (by decide) rfl (fun ls hl => ?_)
                refine lv_iload_n hx hb dX4_like_45 rfl (lv_at hl 3 rfl) ?_
                refine lv_aload_n hx hb dX4_like_46 rfl (lv_at hl 1 rfl) ?_
                refine va_get (D := (dC, dI)) (ci := 4) (v := .int (nI p1)) (C := RX4) (T := TX4) (N := 12) hx hb hw inX4 hown hK hP 0 rfl rfl 5 (by decide) (hw _ mw249) (fun _ h9 => h9) rfl dX4_like_47 ?_
                refine lv_icmp_ge (tgt := 114) hx hb dX4_like_50 (by decide) (fun c50_23 => ?_) (fun c50_23 => ?_)
                · skip
                  rw [ti_le, nI_toInt (by omega), nI_toInt (by omega)] at c50_23
                  omega
                · skip
                  rw [ti_le, nI_toInt (by omega), nI_toInt (by omega)] at c50_23
                  have hjp : j < p1 := by omega
                  refine lv_aload_n hx hb dX4_like_53 rfl (lv_at hl 1 rfl) ?_
                  refine va_get (D := (dC, dI)) (ci := 4) (v := .ref ms) (C := RX4) (T := TX4) (N := 12) hx hb hw inX4 hown hK hP 0 rfl rfl 6 (by decide) (hw _ mw250) (fun _ h9 => h9) rfl dX4_like_54 ?_
                  refine lv_iload_n hx hb dX4_like_57 rfl (lv_at hl 3 rfl) ?_
                  refine va_iald hx hb hK hP 3 2 rfl rfl (i := (nI j)) (vp_in_nI (by omega) (by omega)) dX4_like_58 ?_
                  refine lv_topi (fun x25 ex25 => ?_)
                  obtain rfl : x25 = w1 j := by rw [ex25, nI_clamp (by omega)]
                  refine lv_iconst (v := 2) hx hb dX4_like_59 (by decide) ?_
                  refine lv_icmp_ne (tgt := 114) hx hb dX4_like_60 (by decide) (fun c60_25 => ?_) (fun c60_25 => ?_)
                  · skip
                    have zs2 := c60_25
                    have zst := srel_n2 (hsr j hjp) zs2
                    refine lv_iload_n hx hb dX4_like_114 rfl (lv_at hl 3 rfl) ?_
                    refine lv_aload_n hx hb dX4_like_115 rfl (lv_at hl 1 rfl) ?_
                    refine va_get (D := (dC, dI)) (ci := 4) (v := .int (nI p1)) (C := RX4) (T := TX4) (N := 12) hx hb hw inX4 hown hK hP 0 rfl rfl 5 (by decide) (hw _ mw249) (fun _ h9 => h9) rfl dX4_like_116 ?_
                    refine lv_icmp_ge (tgt := 187) hx hb dX4_like_119 (by decide) (fun c119_26 => ?_) (fun c119_26 => ?_)
                    · skip
                      rw [ti_le, nI_toInt (by omega), nI_toInt (by omega)] at c119_26
                      omega
                    · skip
                      rw [ti_le, nI_toInt (by omega), nI_toInt (by omega)] at c119_26
                      refine lv_iload_n hx hb dX4_like_122 rfl (lv_at hl 4 rfl) ?_
                      refine lv_aload_n hx hb dX4_like_123 rfl (lv_at hl 1 rfl) ?_
                      refine va_get (D := (dC, dI)) (ci := 4) (v := .int (nI nv)) (C := RX4) (T := TX4) (N := 12) hx hb hw inX4 hown hK hP 0 rfl rfl 3 (by decide) (hw _ mw247) (fun _ h9 => h9) rfl dX4_like_124 ?_
                      refine lv_icmp_ge (tgt := 187) hx hb dX4_like_127 (by decide) (fun c127_27 => ?_) (fun c127_27 => ?_)
                      · skip
                        rw [ti_le, nI_toInt (by omega), nI_toInt (by omega)] at c127_27
                        refine lv_aload_n hx hb dX4_like_187 rfl (lv_at hl 1 rfl) ?_
                        refine va_get (D := (dC, dI)) (ci := 4) (v := .ref mc) (C := RX4) (T := TX4) (N := 12) hx hb hw inX4 hown hK hP 0 rfl rfl 8 (by decide) (hw _ mw252) (fun _ h9 => h9) rfl dX4_like_188 ?_
                        refine lv_bipush (v := 101) hx hb dX4_like_191 (by decide) ?_
                        refine lv_iload_n hx hb dX4_like_193 rfl (lv_at hl 3 rfl) ?_
                        refine lv_imul hx hb dX4_like_194 ?_
                        refine lv_topi (fun x29 ex29 => ?_)
                        obtain rfl : x29 = nI (101 * j) := by rw [ex29]; exact pk_mul 101 j
                        refine lv_iload_n hx hb dX4_like_195 rfl (lv_at hl 4 rfl) ?_
                        refine lv_iadd hx hb dX4_like_196 ?_
                        refine lv_topi (fun x30 ex30 => ?_)
                        obtain rfl : x30 = nI (101 * j + x) := by rw [ex30]; exact nI_add (101 * j) x
                        refine lv_iload hx hb dX4_like_197 (lv_at hl 0 rfl) ?_
                        refine va_zast hx hb hK hP hD hS 5 4 rfl rfl (i := (nI (101 * j + x))) (vp_in_nI (by omega) (by omega)) dX4_like_199 (fun H locs hP hD hS => ?_)
                        rw [nI_clamp (by omega)] at hP hD
                        have hP : va_P (dC, dI) cl5 [(mo, .inr (4, [.int (th), .ref mv, .ref mk, .int (nI nv), .int (nI nk), .int (nI p1), .ref ms, .ref ml, .ref mc, .int (nI 0), .ref mf, .ref mn])), (mv, .inl (jv, 100, .inl fv)), (mk, .inl (jk, 100, .inl fk)), (ms, .inl (js, 100, .inl w1)), (ml, .inl (jl, 100, .inl w2)), (mc, .inl (jc, 10201, .inl (upd w4 (101 * j + x) (0)))), (mf, .inl (jf, 100, .inl gf)), (mn, .inl (jn, 100, .inl gn))] H := hP
                        have hD : va_D A [(mo, .inr (4, [.int (th), .ref mv, .ref mk, .int (nI nv), .int (nI nk), .int (nI p1), .ref ms, .ref ml, .ref mc, .int (nI 0), .ref mf, .ref mn])), (mv, .inl (jv, 100, .inl fv)), (mk, .inl (jk, 100, .inl fk)), (ms, .inl (js, 100, .inl w1)), (ml, .inl (jl, 100, .inl w2)), (mc, .inl (jc, 10201, .inl (upd w4 (101 * j + x) (0)))), (mf, .inl (jf, 100, .inl gf)), (mn, .inl (jn, 100, .inl gn))] := hD
                        refine lv_iinc (v := (nI x) - (1)) (lv' := [(3, .int ((nI x) - (1))), (4, .int (0)), (0, .ref mo), (1, .int (cp)), (2, .int (nI j))]) hx hb dX4_like_200 hl (k := 4) rfl (nI_dec x) (by decide) rfl (fun ls hl => ?_)
                        refine lv_goto (tgt := 18) hx hb dX4_like_203 (by decide) ?_
                        exact ih18 x _ (by omega) (dn_R hv (by omega) hd1) (dn_C hv (by omega) hd2 (Or.inr ⟨rfl, fun q => by have := ((mtI_one hjp zst).mp q).1; omega⟩)) (by omega) H locs hP hD hS ls (lv_sub hl [2, 3, 4, 0] rfl)
                      · skip
                        rw [ti_le, nI_toInt (by omega), nI_toInt (by omega)] at c127_27
                        have hxn : x < nv := by omega
                        refine lv_aload_n hx hb dX4_like_130 rfl (lv_at hl 1 rfl) ?_
                        refine va_get (D := (dC, dI)) (ci := 4) (v := .ref mc) (C := RX4) (T := TX4) (N := 12) hx hb hw inX4 hown hK hP 0 rfl rfl 8 (by decide) (hw _ mw252) (fun _ h9 => h9) rfl dX4_like_131 ?_
                        refine lv_bipush (v := 101) hx hb dX4_like_134 (by decide) ?_
                        refine lv_iload_n hx hb dX4_like_136 rfl (lv_at hl 3 rfl) ?_
                        refine lv_imul hx hb dX4_like_137 ?_
                        refine lv_topi (fun x31 ex31 => ?_)
                        obtain rfl : x31 = nI (101 * j) := by rw [ex31]; exact pk_mul 101 j
                        refine lv_bipush (v := 102) hx hb dX4_like_138 (by decide) ?_
                        refine lv_iadd hx hb dX4_like_140 ?_
                        refine lv_topi (fun x32 ex32 => ?_)
                        obtain rfl : x32 = nI (101 * j + 102) := by rw [ex32]; exact nI_add (101 * j) 102
                        refine lv_iload_n hx hb dX4_like_141 rfl (lv_at hl 4 rfl) ?_
                        refine lv_iadd hx hb dX4_like_142 ?_
                        refine lv_topi (fun x33 ex33 => ?_)
                        obtain rfl : x33 = nI (101 * j + 102 + x) := by rw [ex33]; exact nI_add (101 * j + 102) x
                        refine va_zald hx hb hK hP 5 4 rfl rfl (i := (nI (101 * j + 102 + x))) (vp_in_nI (by omega) (by omega)) dX4_like_143 ?_
                        refine lv_topi (fun x34 ex34 => ?_)
                        obtain rfl : x34 = w4 (101 * j + 102 + x) := by rw [ex34, nI_clamp (by omega)]
                        refine lv_if_eq (tgt := 184) hx hb dX4_like_144 (by decide) (fun c144_34 => ?_) (fun c144_34 => ?_)
                        · skip
                          have y1 := cel_f (i := 101 * j + 102 + x) (by omega) (hd1 (j + 1) (x + 1) (Nat.le_refl _) (by omega) (by omega)) c144_34
                          refine lv_iconst (v := 0) hx hb dX4_like_184 (by decide) ?_
                          refine lv_istore (lv' := [(4, .int (0)), (0, .ref mo), (1, .int (cp)), (2, .int (nI j)), (3, .int (nI x))]) hx hb dX4_like_185 hl (by decide) rfl (fun ls hl => ?_)
                          refine lv_aload_n hx hb dX4_like_187 rfl (lv_at hl 1 rfl) ?_
                          refine va_get (D := (dC, dI)) (ci := 4) (v := .ref mc) (C := RX4) (T := TX4) (N := 12) hx hb hw inX4 hown hK hP 0 rfl rfl 8 (by decide) (hw _ mw252) (fun _ h9 => h9) rfl dX4_like_188 ?_
                          refine lv_bipush (v := 101) hx hb dX4_like_191 (by decide) ?_
                          refine lv_iload_n hx hb dX4_like_193 rfl (lv_at hl 3 rfl) ?_
                          refine lv_imul hx hb dX4_like_194 ?_
                          refine lv_topi (fun x36 ex36 => ?_)
                          obtain rfl : x36 = nI (101 * j) := by rw [ex36]; exact pk_mul 101 j
                          refine lv_iload_n hx hb dX4_like_195 rfl (lv_at hl 4 rfl) ?_
                          refine lv_iadd hx hb dX4_like_196 ?_
                          refine lv_topi (fun x37 ex37 => ?_)
                          obtain rfl : x37 = nI (101 * j + x) := by rw [ex37]; exact nI_add (101 * j) x
                          refine lv_iload hx hb dX4_like_197 (lv_at hl 0 rfl) ?_
                          refine va_zast hx hb hK hP hD hS 5 4 rfl rfl (i := (nI (101 * j + x))) (vp_in_nI (by omega) (by omega)) dX4_like_199 (fun H locs hP hD hS => ?_)
                          rw [nI_clamp (by omega)] at hP hD
                          have hP : va_P (dC, dI) cl5 [(mo, .inr (4, [.int (th), .ref mv, .ref mk, .int (nI nv), .int (nI nk), .int (nI p1), .ref ms, .ref ml, .ref mc, .int (nI 0), .ref mf, .ref mn])), (mv, .inl (jv, 100, .inl fv)), (mk, .inl (jk, 100, .inl fk)), (ms, .inl (js, 100, .inl w1)), (ml, .inl (jl, 100, .inl w2)), (mc, .inl (jc, 10201, .inl (upd w4 (101 * j + x) (0)))), (mf, .inl (jf, 100, .inl gf)), (mn, .inl (jn, 100, .inl gn))] H := hP
                          have hD : va_D A [(mo, .inr (4, [.int (th), .ref mv, .ref mk, .int (nI nv), .int (nI nk), .int (nI p1), .ref ms, .ref ml, .ref mc, .int (nI 0), .ref mf, .ref mn])), (mv, .inl (jv, 100, .inl fv)), (mk, .inl (jk, 100, .inl fk)), (ms, .inl (js, 100, .inl w1)), (ml, .inl (jl, 100, .inl w2)), (mc, .inl (jc, 10201, .inl (upd w4 (101 * j + x) (0)))), (mf, .inl (jf, 100, .inl gf)), (mn, .inl (jn, 100, .inl gn))] := hD
                          refine lv_iinc (v := (nI x) - (1)) (lv' := [(3, .int ((nI x) - (1))), (4, .int (0)), (0, .ref mo), (1, .int (cp)), (2, .int (nI j))]) hx hb dX4_like_200 hl (k := 4) rfl (nI_dec x) (by decide) rfl (fun ls hl => ?_)
                          refine lv_goto (tgt := 18) hx hb dX4_like_203 (by decide) ?_
                          exact ih18 x _ (by omega) (dn_R hv (by omega) hd1) (dn_C hv (by omega) hd2 (Or.inr ⟨rfl, fun q => y1 ((mtI_one hjp zst).mp q).2.2⟩)) (by omega) H locs hP hD hS ls (lv_sub hl [2, 3, 4, 0] rfl)
                        · skip
                          have y1 := cel_t (i := 101 * j + 102 + x) (by omega) (hd1 (j + 1) (x + 1) (Nat.le_refl _) (by omega) (by omega)) c144_34
                          refine lv_aload_n hx hb dX4_like_147 rfl (lv_at hl 1 rfl) ?_
                          refine va_get (D := (dC, dI)) (ci := 4) (v := .ref ms) (C := RX4) (T := TX4) (N := 12) hx hb hw inX4 hown hK hP 0 rfl rfl 6 (by decide) (hw _ mw250) (fun _ h9 => h9) rfl dX4_like_148 ?_
                          refine lv_iload_n hx hb dX4_like_151 rfl (lv_at hl 3 rfl) ?_
                          refine va_iald hx hb hK hP 3 2 rfl rfl (i := (nI j)) (vp_in_nI (by omega) (by omega)) dX4_like_152 ?_
                          refine lv_topi (fun x38 ex38 => ?_)
                          obtain rfl : x38 = w1 j := by rw [ex38, nI_clamp (by omega)]
                          refine lv_iconst (v := 1) hx hb dX4_like_153 (by decide) ?_
                          refine lv_icmp_eq (tgt := 180) hx hb dX4_like_154 (by decide) (fun c154_38 => ?_) (fun c154_38 => ?_)
                          · skip
                            have z1 := c154_38
                            refine lv_iconst (v := 1) hx hb dX4_like_180 (by decide) ?_
                            refine lv_goto (tgt := 185) hx hb dX4_like_181 (by decide) ?_
                            refine lv_istore (lv' := [(4, .int (1)), (0, .ref mo), (1, .int (cp)), (2, .int (nI j)), (3, .int (nI x))]) hx hb dX4_like_185 hl (by decide) rfl (fun ls hl => ?_)
                            refine lv_aload_n hx hb dX4_like_187 rfl (lv_at hl 1 rfl) ?_
                            refine va_get (D := (dC, dI)) (ci := 4) (v := .ref mc) (C := RX4) (T := TX4) (N := 12) hx hb hw inX4 hown hK hP 0 rfl rfl 8 (by decide) (hw _ mw252) (fun _ h9 => h9) rfl dX4_like_188 ?_
                            refine lv_bipush (v := 101) hx hb dX4_like_191 (by decide) ?_
                            refine lv_iload_n hx hb dX4_like_193 rfl (lv_at hl 3 rfl) ?_
                            refine lv_imul hx hb dX4_like_194 ?_
                            refine lv_topi (fun x40 ex40 => ?_)
                            obtain rfl : x40 = nI (101 * j) := by rw [ex40]; exact pk_mul 101 j
                            refine lv_iload_n hx hb dX4_like_195 rfl (lv_at hl 4 rfl) ?_
                            refine lv_iadd hx hb dX4_like_196 ?_
                            refine lv_topi (fun x41 ex41 => ?_)
                            obtain rfl : x41 = nI (101 * j + x) := by rw [ex41]; exact nI_add (101 * j) x
                            refine lv_iload hx hb dX4_like_197 (lv_at hl 0 rfl) ?_
                            refine va_zast hx hb hK hP hD hS 5 4 rfl rfl (i := (nI (101 * j + x))) (vp_in_nI (by omega) (by omega)) dX4_like_199 (fun H locs hP hD hS => ?_)
                            rw [nI_clamp (by omega)] at hP hD
                            have hP : va_P (dC, dI) cl5 [(mo, .inr (4, [.int (th), .ref mv, .ref mk, .int (nI nv), .int (nI nk), .int (nI p1), .ref ms, .ref ml, .ref mc, .int (nI 0), .ref mf, .ref mn])), (mv, .inl (jv, 100, .inl fv)), (mk, .inl (jk, 100, .inl fk)), (ms, .inl (js, 100, .inl w1)), (ml, .inl (jl, 100, .inl w2)), (mc, .inl (jc, 10201, .inl (upd w4 (101 * j + x) (1)))), (mf, .inl (jf, 100, .inl gf)), (mn, .inl (jn, 100, .inl gn))] H := hP
                            have hD : va_D A [(mo, .inr (4, [.int (th), .ref mv, .ref mk, .int (nI nv), .int (nI nk), .int (nI p1), .ref ms, .ref ml, .ref mc, .int (nI 0), .ref mf, .ref mn])), (mv, .inl (jv, 100, .inl fv)), (mk, .inl (jk, 100, .inl fk)), (ms, .inl (js, 100, .inl w1)), (ml, .inl (jl, 100, .inl w2)), (mc, .inl (jc, 10201, .inl (upd w4 (101 * j + x) (1)))), (mf, .inl (jf, 100, .inl gf)), (mn, .inl (jn, 100, .inl gn))] := hD
                            refine lv_iinc (v := (nI x) - (1)) (lv' := [(3, .int ((nI x) - (1))), (4, .int (1)), (0, .ref mo), (1, .int (cp)), (2, .int (nI j))]) hx hb dX4_like_200 hl (k := 4) rfl (nI_dec x) (by decide) rfl (fun ls hl => ?_)
                            refine lv_goto (tgt := 18) hx hb dX4_like_203 (by decide) ?_
                            exact ih18 x _ (by omega) (dn_R hv (by omega) hd1) (dn_C hv (by omega) hd2 (Or.inl ⟨rfl, (mtI_one hjp zst).mpr ⟨hxn, decide_eq_true (Or.inl (srel_1 (hsr j hjp) z1)), y1⟩⟩)) (by omega) H locs hP hD hS ls (lv_sub hl [2, 3, 4, 0] rfl)
                          · skip
                            have z1 := c154_38
                            refine lv_aload_n hx hb dX4_like_157 rfl (lv_at hl 1 rfl) ?_
                            refine va_get (D := (dC, dI)) (ci := 4) (v := .ref mv) (C := RX4) (T := TX4) (N := 12) hx hb hw inX4 hown hK hP 0 rfl rfl 1 (by decide) (hw _ mw245) (fun _ h9 => h9) rfl dX4_like_158 ?_
                            refine lv_iload_n hx hb dX4_like_161 rfl (lv_at hl 4 rfl) ?_
                            refine va_iald hx hb hK hP 1 0 rfl rfl (i := (nI x)) (vp_in_nI (by omega) (by omega)) dX4_like_162 ?_
                            refine lv_topi (fun x42 ex42 => ?_)
                            obtain rfl : x42 = fv x := by rw [ex42, nI_clamp (by omega)]
                            refine lv_iload_n hx hb dX4_like_163 rfl (lv_at hl 2 rfl) ?_
                            refine vp_callSi (va_Run.run (va_runS (As := [.int (fv x), .int (cp)]) (rest := []) ⟨hx, hb, hml, hown, hw⟩ (m_fold l (fv x) (cp)) (cwS 2 hw (gS mw308 mw309 mw20 mw310) rfl rfl rfl (by decide +kernel) ⟨Nat.le_of_ble_eq_true rfl, Nat.le_of_ble_eq_true rfl⟩) st.S rfl rfl hl.1 rfl (lv_room (Nat.le_of_ble_eq_true rfl)) dX4_like_164 ⟨Nat.le_of_ble_eq_true rfl, Nat.le_of_ble_eq_true rfl⟩)) (fun r43 hr43 => ?_)
                            subst hr43
                            refine lv_aload_n hx hb dX4_like_167 rfl (lv_at hl 1 rfl) ?_
                            refine va_get (D := (dC, dI)) (ci := 4) (v := .ref ml) (C := RX4) (T := TX4) (N := 12) hx hb hw inX4 hown hK hP 0 rfl rfl 7 (by decide) (hw _ mw251) (fun _ h9 => h9) rfl dX4_like_168 ?_
                            refine lv_iload_n hx hb dX4_like_171 rfl (lv_at hl 3 rfl) ?_
                            refine va_iald hx hb hK hP 4 3 rfl rfl (i := (nI j)) (vp_in_nI (by omega) (by omega)) dX4_like_172 ?_
                            refine lv_topi (fun x44 ex44 => ?_)
                            obtain rfl : x44 = w2 j := by rw [ex44, nI_clamp (by omega)]
                            refine lv_iload_n hx hb dX4_like_173 rfl (lv_at hl 2 rfl) ?_
                            refine vp_callSi (va_Run.run (va_runS (As := [.int (w2 j), .int (cp)]) (rest := [.int (fo (fv x) (cp))]) ⟨hx, hb, hml, hown, hw⟩ (m_fold l (w2 j) (cp)) (cwS 2 hw (gS mw308 mw309 mw20 mw310) rfl rfl rfl (by decide +kernel) ⟨Nat.le_of_ble_eq_true rfl, Nat.le_of_ble_eq_true rfl⟩) st.S rfl rfl hl.1 rfl (lv_room (Nat.le_of_ble_eq_true rfl)) dX4_like_174 ⟨Nat.le_of_ble_eq_true rfl, Nat.le_of_ble_eq_true rfl⟩)) (fun r45 hr45 => ?_)
                            subst hr45
                            refine lv_icmp_ne (tgt := 184) hx hb dX4_like_177 (by decide) (fun c177_45 => ?_) (fun c177_45 => ?_)
                            · skip
                              have z4 := c177_45
                              refine lv_iconst (v := 0) hx hb dX4_like_184 (by decide) ?_
                              refine lv_istore (lv' := [(4, .int (0)), (0, .ref mo), (1, .int (cp)), (2, .int (nI j)), (3, .int (nI x))]) hx hb dX4_like_185 hl (by decide) rfl (fun ls hl => ?_)
                              refine lv_aload_n hx hb dX4_like_187 rfl (lv_at hl 1 rfl) ?_
                              refine va_get (D := (dC, dI)) (ci := 4) (v := .ref mc) (C := RX4) (T := TX4) (N := 12) hx hb hw inX4 hown hK hP 0 rfl rfl 8 (by decide) (hw _ mw252) (fun _ h9 => h9) rfl dX4_like_188 ?_
                              refine lv_bipush (v := 101) hx hb dX4_like_191 (by decide) ?_
                              refine lv_iload_n hx hb dX4_like_193 rfl (lv_at hl 3 rfl) ?_
                              refine lv_imul hx hb dX4_like_194 ?_
                              refine lv_topi (fun x47 ex47 => ?_)
                              obtain rfl : x47 = nI (101 * j) := by rw [ex47]; exact pk_mul 101 j
                              refine lv_iload_n hx hb dX4_like_195 rfl (lv_at hl 4 rfl) ?_
                              refine lv_iadd hx hb dX4_like_196 ?_
                              refine lv_topi (fun x48 ex48 => ?_)
                              obtain rfl : x48 = nI (101 * j + x) := by rw [ex48]; exact nI_add (101 * j) x
                              refine lv_iload hx hb dX4_like_197 (lv_at hl 0 rfl) ?_
                              refine va_zast hx hb hK hP hD hS 5 4 rfl rfl (i := (nI (101 * j + x))) (vp_in_nI (by omega) (by omega)) dX4_like_199 (fun H locs hP hD hS => ?_)
                              rw [nI_clamp (by omega)] at hP hD
                              have hP : va_P (dC, dI) cl5 [(mo, .inr (4, [.int (th), .ref mv, .ref mk, .int (nI nv), .int (nI nk), .int (nI p1), .ref ms, .ref ml, .ref mc, .int (nI 0), .ref mf, .ref mn])), (mv, .inl (jv, 100, .inl fv)), (mk, .inl (jk, 100, .inl fk)), (ms, .inl (js, 100, .inl w1)), (ml, .inl (jl, 100, .inl w2)), (mc, .inl (jc, 10201, .inl (upd w4 (101 * j + x) (0)))), (mf, .inl (jf, 100, .inl gf)), (mn, .inl (jn, 100, .inl gn))] H := hP
                              have hD : va_D A [(mo, .inr (4, [.int (th), .ref mv, .ref mk, .int (nI nv), .int (nI nk), .int (nI p1), .ref ms, .ref ml, .ref mc, .int (nI 0), .ref mf, .ref mn])), (mv, .inl (jv, 100, .inl fv)), (mk, .inl (jk, 100, .inl fk)), (ms, .inl (js, 100, .inl w1)), (ml, .inl (jl, 100, .inl w2)), (mc, .inl (jc, 10201, .inl (upd w4 (101 * j + x) (0)))), (mf, .inl (jf, 100, .inl gf)), (mn, .inl (jn, 100, .inl gn))] := hD
                              refine lv_iinc (v := (nI x) - (1)) (lv' := [(3, .int ((nI x) - (1))), (4, .int (0)), (0, .ref mo), (1, .int (cp)), (2, .int (nI j))]) hx hb dX4_like_200 hl (k := 4) rfl (nI_dec x) (by decide) rfl (fun ls hl => ?_)
                              refine lv_goto (tgt := 18) hx hb dX4_like_203 (by decide) ?_
                              exact ih18 x _ (by omega) (dn_R hv (by omega) hd1) (dn_C hv (by omega) hd2 (Or.inr ⟨rfl, fun q => mok_0 (hsr j hjp) zs2 z1 z4 ((mtI_one hjp zst).mp q).2.1⟩)) (by omega) H locs hP hD hS ls (lv_sub hl [2, 3, 4, 0] rfl)
                            · skip
                              have z4 := (by first | exact c177_45 | exact Decidable.not_not.mp c177_45)
                              refine lv_iconst (v := 1) hx hb dX4_like_180 (by decide) ?_
                              refine lv_goto (tgt := 185) hx hb dX4_like_181 (by decide) ?_
                              refine lv_istore (lv' := [(4, .int (1)), (0, .ref mo), (1, .int (cp)), (2, .int (nI j)), (3, .int (nI x))]) hx hb dX4_like_185 hl (by decide) rfl (fun ls hl => ?_)
                              refine lv_aload_n hx hb dX4_like_187 rfl (lv_at hl 1 rfl) ?_
                              refine va_get (D := (dC, dI)) (ci := 4) (v := .ref mc) (C := RX4) (T := TX4) (N := 12) hx hb hw inX4 hown hK hP 0 rfl rfl 8 (by decide) (hw _ mw252) (fun _ h9 => h9) rfl dX4_like_188 ?_
                              refine lv_bipush (v := 101) hx hb dX4_like_191 (by decide) ?_
                              refine lv_iload_n hx hb dX4_like_193 rfl (lv_at hl 3 rfl) ?_
                              refine lv_imul hx hb dX4_like_194 ?_
                              refine lv_topi (fun x49 ex49 => ?_)
                              obtain rfl : x49 = nI (101 * j) := by rw [ex49]; exact pk_mul 101 j
                              refine lv_iload_n hx hb dX4_like_195 rfl (lv_at hl 4 rfl) ?_
                              refine lv_iadd hx hb dX4_like_196 ?_
                              refine lv_topi (fun x50 ex50 => ?_)
                              obtain rfl : x50 = nI (101 * j + x) := by rw [ex50]; exact nI_add (101 * j) x
                              refine lv_iload hx hb dX4_like_197 (lv_at hl 0 rfl) ?_
                              refine va_zast hx hb hK hP hD hS 5 4 rfl rfl (i := (nI (101 * j + x))) (vp_in_nI (by omega) (by omega)) dX4_like_199 (fun H locs hP hD hS => ?_)
                              rw [nI_clamp (by omega)] at hP hD
                              have hP : va_P (dC, dI) cl5 [(mo, .inr (4, [.int (th), .ref mv, .ref mk, .int (nI nv), .int (nI nk), .int (nI p1), .ref ms, .ref ml, .ref mc, .int (nI 0), .ref mf, .ref mn])), (mv, .inl (jv, 100, .inl fv)), (mk, .inl (jk, 100, .inl fk)), (ms, .inl (js, 100, .inl w1)), (ml, .inl (jl, 100, .inl w2)), (mc, .inl (jc, 10201, .inl (upd w4 (101 * j + x) (1)))), (mf, .inl (jf, 100, .inl gf)), (mn, .inl (jn, 100, .inl gn))] H := hP
                              have hD : va_D A [(mo, .inr (4, [.int (th), .ref mv, .ref mk, .int (nI nv), .int (nI nk), .int (nI p1), .ref ms, .ref ml, .ref mc, .int (nI 0), .ref mf, .ref mn])), (mv, .inl (jv, 100, .inl fv)), (mk, .inl (jk, 100, .inl fk)), (ms, .inl (js, 100, .inl w1)), (ml, .inl (jl, 100, .inl w2)), (mc, .inl (jc, 10201, .inl (upd w4 (101 * j + x) (1)))), (mf, .inl (jf, 100, .inl gf)), (mn, .inl (jn, 100, .inl gn))] := hD
                              refine lv_iinc (v := (nI x) - (1)) (lv' := [(3, .int ((nI x) - (1))), (4, .int (1)), (0, .ref mo), (1, .int (cp)), (2, .int (nI j))]) hx hb dX4_like_200 hl (k := 4) rfl (nI_dec x) (by decide) rfl (fun ls hl => ?_)
                              refine lv_goto (tgt := 18) hx hb dX4_like_203 (by decide) ?_
                              exact ih18 x _ (by omega) (dn_R hv (by omega) hd1) (dn_C hv (by omega) hd2 (Or.inl ⟨rfl, (mtI_one hjp zst).mpr ⟨hxn, mok_1 (hsr j hjp) zs2 z1 z4, y1⟩⟩)) (by omega) H locs hP hD hS ls (lv_sub hl [2, 3, 4, 0] rfl)
                  · skip
                    have zst := srel_2 (hsr j hjp) (by first | exact c60_25 | exact Decidable.not_not.mp c60_25)
                    refine lv_aload_n hx hb dX4_like_63 rfl (lv_at hl 1 rfl) ?_
                    refine va_get (D := (dC, dI)) (ci := 4) (v := .ref mc) (C := RX4) (T := TX4) (N := 12) hx hb hw inX4 hown hK hP 0 rfl rfl 8 (by decide) (hw _ mw252) (fun _ h9 => h9) rfl dX4_like_64 ?_
                    refine lv_bipush (v := 101) hx hb dX4_like_67 (by decide) ?_
                    refine lv_iload_n hx hb dX4_like_69 rfl (lv_at hl 3 rfl) ?_
                    refine lv_imul hx hb dX4_like_70 ?_
                    refine lv_topi (fun x51 ex51 => ?_)
                    obtain rfl : x51 = nI (101 * j) := by rw [ex51]; exact pk_mul 101 j
                    refine lv_bipush (v := 101) hx hb dX4_like_71 (by decide) ?_
                    refine lv_iadd hx hb dX4_like_73 ?_
                    refine lv_topi (fun x52 ex52 => ?_)
                    obtain rfl : x52 = nI (101 * j + 101) := by rw [ex52]; exact nI_add (101 * j) 101
                    refine lv_iload_n hx hb dX4_like_74 rfl (lv_at hl 4 rfl) ?_
                    refine lv_iadd hx hb dX4_like_75 ?_
                    refine lv_topi (fun x53 ex53 => ?_)
                    obtain rfl : x53 = nI (101 * j + 101 + x) := by rw [ex53]; exact nI_add (101 * j + 101) x
                    refine va_zald hx hb hK hP 5 4 rfl rfl (i := (nI (101 * j + 101 + x))) (vp_in_nI (by omega) (by omega)) dX4_like_76 ?_
                    refine lv_topi (fun x54 ex54 => ?_)
                    obtain rfl : x54 = w4 (101 * j + 101 + x) := by rw [ex54, nI_clamp (by omega)]
                    refine lv_if_ne (tgt := 104) hx hb dX4_like_77 (by decide) (fun c77_54 => ?_) (fun c77_54 => ?_)
                    · skip
                      have y1 := cel_t (i := 101 * j + 101 + x) (by omega) (hd1 (j + 1) x (Nat.le_refl _) (by omega) (by omega)) c77_54
                      refine lv_iconst (v := 1) hx hb dX4_like_104 (by decide) ?_
                      refine lv_goto (tgt := 109) hx hb dX4_like_105 (by decide) ?_
                      refine lv_istore (lv' := [(4, .int (1)), (0, .ref mo), (1, .int (cp)), (2, .int (nI j)), (3, .int (nI x))]) hx hb dX4_like_109 hl (by decide) rfl (fun ls hl => ?_)
                      refine lv_goto (tgt := 187) hx hb dX4_like_111 (by decide) ?_
                      refine lv_aload_n hx hb dX4_like_187 rfl (lv_at hl 1 rfl) ?_
                      refine va_get (D := (dC, dI)) (ci := 4) (v := .ref mc) (C := RX4) (T := TX4) (N := 12) hx hb hw inX4 hown hK hP 0 rfl rfl 8 (by decide) (hw _ mw252) (fun _ h9 => h9) rfl dX4_like_188 ?_
                      refine lv_bipush (v := 101) hx hb dX4_like_191 (by decide) ?_
                      refine lv_iload_n hx hb dX4_like_193 rfl (lv_at hl 3 rfl) ?_
                      refine lv_imul hx hb dX4_like_194 ?_
                      refine lv_topi (fun x56 ex56 => ?_)
                      obtain rfl : x56 = nI (101 * j) := by rw [ex56]; exact pk_mul 101 j
                      refine lv_iload_n hx hb dX4_like_195 rfl (lv_at hl 4 rfl) ?_
                      refine lv_iadd hx hb dX4_like_196 ?_
                      refine lv_topi (fun x57 ex57 => ?_)
                      obtain rfl : x57 = nI (101 * j + x) := by rw [ex57]; exact nI_add (101 * j) x
                      refine lv_iload hx hb dX4_like_197 (lv_at hl 0 rfl) ?_
                      refine va_zast hx hb hK hP hD hS 5 4 rfl rfl (i := (nI (101 * j + x))) (vp_in_nI (by omega) (by omega)) dX4_like_199 (fun H locs hP hD hS => ?_)
                      rw [nI_clamp (by omega)] at hP hD
                      have hP : va_P (dC, dI) cl5 [(mo, .inr (4, [.int (th), .ref mv, .ref mk, .int (nI nv), .int (nI nk), .int (nI p1), .ref ms, .ref ml, .ref mc, .int (nI 0), .ref mf, .ref mn])), (mv, .inl (jv, 100, .inl fv)), (mk, .inl (jk, 100, .inl fk)), (ms, .inl (js, 100, .inl w1)), (ml, .inl (jl, 100, .inl w2)), (mc, .inl (jc, 10201, .inl (upd w4 (101 * j + x) (1)))), (mf, .inl (jf, 100, .inl gf)), (mn, .inl (jn, 100, .inl gn))] H := hP
                      have hD : va_D A [(mo, .inr (4, [.int (th), .ref mv, .ref mk, .int (nI nv), .int (nI nk), .int (nI p1), .ref ms, .ref ml, .ref mc, .int (nI 0), .ref mf, .ref mn])), (mv, .inl (jv, 100, .inl fv)), (mk, .inl (jk, 100, .inl fk)), (ms, .inl (js, 100, .inl w1)), (ml, .inl (jl, 100, .inl w2)), (mc, .inl (jc, 10201, .inl (upd w4 (101 * j + x) (1)))), (mf, .inl (jf, 100, .inl gf)), (mn, .inl (jn, 100, .inl gn))] := hD
                      refine lv_iinc (v := (nI x) - (1)) (lv' := [(3, .int ((nI x) - (1))), (4, .int (1)), (0, .ref mo), (1, .int (cp)), (2, .int (nI j))]) hx hb dX4_like_200 hl (k := 4) rfl (nI_dec x) (by decide) rfl (fun ls hl => ?_)
                      refine lv_goto (tgt := 18) hx hb dX4_like_203 (by decide) ?_
                      exact ih18 x _ (by omega) (dn_R hv (by omega) hd1) (dn_C hv (by omega) hd2 (Or.inl ⟨rfl, (star_rec hjp zst (by omega)).mpr (Or.inl y1)⟩)) (by omega) H locs hP hD hS ls (lv_sub hl [2, 3, 4, 0] rfl)
                    · skip
                      have y1 := cel_f (i := 101 * j + 101 + x) (by omega) (hd1 (j + 1) x (Nat.le_refl _) (by omega) (by omega)) (by first | exact c77_54 | exact Decidable.not_not.mp c77_54)
                      refine lv_iload_n hx hb dX4_like_80 rfl (lv_at hl 4 rfl) ?_
                      refine lv_aload_n hx hb dX4_like_81 rfl (lv_at hl 1 rfl) ?_
                      refine va_get (D := (dC, dI)) (ci := 4) (v := .int (nI nv)) (C := RX4) (T := TX4) (N := 12) hx hb hw inX4 hown hK hP 0 rfl rfl 3 (by decide) (hw _ mw247) (fun _ h9 => h9) rfl dX4_like_82 ?_
                      refine lv_icmp_ge (tgt := 108) hx hb dX4_like_85 (by decide) (fun c85_57 => ?_) (fun c85_57 => ?_)
                      · skip
                        rw [ti_le, nI_toInt (by omega), nI_toInt (by omega)] at c85_57
                        refine lv_iconst (v := 0) hx hb dX4_like_108 (by decide) ?_
                        refine lv_istore (lv' := [(4, .int (0)), (0, .ref mo), (1, .int (cp)), (2, .int (nI j)), (3, .int (nI x))]) hx hb dX4_like_109 hl (by decide) rfl (fun ls hl => ?_)
                        refine lv_goto (tgt := 187) hx hb dX4_like_111 (by decide) ?_
                        refine lv_aload_n hx hb dX4_like_187 rfl (lv_at hl 1 rfl) ?_
                        refine va_get (D := (dC, dI)) (ci := 4) (v := .ref mc) (C := RX4) (T := TX4) (N := 12) hx hb hw inX4 hown hK hP 0 rfl rfl 8 (by decide) (hw _ mw252) (fun _ h9 => h9) rfl dX4_like_188 ?_
                        refine lv_bipush (v := 101) hx hb dX4_like_191 (by decide) ?_
                        refine lv_iload_n hx hb dX4_like_193 rfl (lv_at hl 3 rfl) ?_
                        refine lv_imul hx hb dX4_like_194 ?_
                        refine lv_topi (fun x59 ex59 => ?_)
                        obtain rfl : x59 = nI (101 * j) := by rw [ex59]; exact pk_mul 101 j
                        refine lv_iload_n hx hb dX4_like_195 rfl (lv_at hl 4 rfl) ?_
                        refine lv_iadd hx hb dX4_like_196 ?_
                        refine lv_topi (fun x60 ex60 => ?_)
                        obtain rfl : x60 = nI (101 * j + x) := by rw [ex60]; exact nI_add (101 * j) x
                        refine lv_iload hx hb dX4_like_197 (lv_at hl 0 rfl) ?_
                        refine va_zast hx hb hK hP hD hS 5 4 rfl rfl (i := (nI (101 * j + x))) (vp_in_nI (by omega) (by omega)) dX4_like_199 (fun H locs hP hD hS => ?_)
                        rw [nI_clamp (by omega)] at hP hD
                        have hP : va_P (dC, dI) cl5 [(mo, .inr (4, [.int (th), .ref mv, .ref mk, .int (nI nv), .int (nI nk), .int (nI p1), .ref ms, .ref ml, .ref mc, .int (nI 0), .ref mf, .ref mn])), (mv, .inl (jv, 100, .inl fv)), (mk, .inl (jk, 100, .inl fk)), (ms, .inl (js, 100, .inl w1)), (ml, .inl (jl, 100, .inl w2)), (mc, .inl (jc, 10201, .inl (upd w4 (101 * j + x) (0)))), (mf, .inl (jf, 100, .inl gf)), (mn, .inl (jn, 100, .inl gn))] H := hP
                        have hD : va_D A [(mo, .inr (4, [.int (th), .ref mv, .ref mk, .int (nI nv), .int (nI nk), .int (nI p1), .ref ms, .ref ml, .ref mc, .int (nI 0), .ref mf, .ref mn])), (mv, .inl (jv, 100, .inl fv)), (mk, .inl (jk, 100, .inl fk)), (ms, .inl (js, 100, .inl w1)), (ml, .inl (jl, 100, .inl w2)), (mc, .inl (jc, 10201, .inl (upd w4 (101 * j + x) (0)))), (mf, .inl (jf, 100, .inl gf)), (mn, .inl (jn, 100, .inl gn))] := hD
                        refine lv_iinc (v := (nI x) - (1)) (lv' := [(3, .int ((nI x) - (1))), (4, .int (0)), (0, .ref mo), (1, .int (cp)), (2, .int (nI j))]) hx hb dX4_like_200 hl (k := 4) rfl (nI_dec x) (by decide) rfl (fun ls hl => ?_)
                        refine lv_goto (tgt := 18) hx hb dX4_like_203 (by decide) ?_
                        exact ih18 x _ (by omega) (dn_R hv (by omega) hd1) (dn_C hv (by omega) hd2 (Or.inr ⟨rfl, fun q => ((star_rec hjp zst (by omega)).mp q).elim y1 (fun q2 => by have := q2.1; omega)⟩)) (by omega) H locs hP hD hS ls (lv_sub hl [2, 3, 4, 0] rfl)
                      · skip
                        rw [ti_le, nI_toInt (by omega), nI_toInt (by omega)] at c85_57
                        have hxn : x < nv := by omega
                        refine lv_aload_n hx hb dX4_like_88 rfl (lv_at hl 1 rfl) ?_
                        refine va_get (D := (dC, dI)) (ci := 4) (v := .ref mc) (C := RX4) (T := TX4) (N := 12) hx hb hw inX4 hown hK hP 0 rfl rfl 8 (by decide) (hw _ mw252) (fun _ h9 => h9) rfl dX4_like_89 ?_
                        refine lv_bipush (v := 101) hx hb dX4_like_92 (by decide) ?_
                        refine lv_iload_n hx hb dX4_like_94 rfl (lv_at hl 3 rfl) ?_
                        refine lv_imul hx hb dX4_like_95 ?_
                        refine lv_topi (fun x61 ex61 => ?_)
                        obtain rfl : x61 = nI (101 * j) := by rw [ex61]; exact pk_mul 101 j
                        refine lv_iload_n hx hb dX4_like_96 rfl (lv_at hl 4 rfl) ?_
                        refine lv_iadd hx hb dX4_like_97 ?_
                        refine lv_topi (fun x62 ex62 => ?_)
                        obtain rfl : x62 = nI (101 * j + x) := by rw [ex62]; exact nI_add (101 * j) x
                        refine lv_iconst (v := 1) hx hb dX4_like_98 (by decide) ?_
                        refine lv_iadd hx hb dX4_like_99 ?_
                        refine lv_topi (fun x63 ex63 => ?_)
                        obtain rfl : x63 = nI (101 * j + x + 1) := by rw [ex63]; exact nI_add (101 * j + x) 1
                        refine va_zald hx hb hK hP 5 4 rfl rfl (i := (nI (101 * j + x + 1))) (vp_in_nI (by omega) (by omega)) dX4_like_100 ?_
                        refine lv_topi (fun x64 ex64 => ?_)
                        obtain rfl : x64 = w4 (101 * j + x + 1) := by rw [ex64, nI_clamp (by omega)]
                        refine lv_if_eq (tgt := 108) hx hb dX4_like_101 (by decide) (fun c101_64 => ?_) (fun c101_64 => ?_)
                        · skip
                          have y2 := cel_f (i := 101 * j + x + 1) (by omega) (hd2 (x + 1) (Nat.le_refl _) (by omega)) c101_64
                          refine lv_iconst (v := 0) hx hb dX4_like_108 (by decide) ?_
                          refine lv_istore (lv' := [(4, .int (0)), (0, .ref mo), (1, .int (cp)), (2, .int (nI j)), (3, .int (nI x))]) hx hb dX4_like_109 hl (by decide) rfl (fun ls hl => ?_)
                          refine lv_goto (tgt := 187) hx hb dX4_like_111 (by decide) ?_
                          refine lv_aload_n hx hb dX4_like_187 rfl (lv_at hl 1 rfl) ?_
                          refine va_get (D := (dC, dI)) (ci := 4) (v := .ref mc) (C := RX4) (T := TX4) (N := 12) hx hb hw inX4 hown hK hP 0 rfl rfl 8 (by decide) (hw _ mw252) (fun _ h9 => h9) rfl dX4_like_188 ?_
                          refine lv_bipush (v := 101) hx hb dX4_like_191 (by decide) ?_
                          refine lv_iload_n hx hb dX4_like_193 rfl (lv_at hl 3 rfl) ?_
                          refine lv_imul hx hb dX4_like_194 ?_
                          refine lv_topi (fun x66 ex66 => ?_)
                          obtain rfl : x66 = nI (101 * j) := by rw [ex66]; exact pk_mul 101 j
                          refine lv_iload_n hx hb dX4_like_195 rfl (lv_at hl 4 rfl) ?_
                          refine lv_iadd hx hb dX4_like_196 ?_
                          refine lv_topi (fun x67 ex67 => ?_)
                          obtain rfl : x67 = nI (101 * j + x) := by rw [ex67]; exact nI_add (101 * j) x
                          refine lv_iload hx hb dX4_like_197 (lv_at hl 0 rfl) ?_
                          refine va_zast hx hb hK hP hD hS 5 4 rfl rfl (i := (nI (101 * j + x))) (vp_in_nI (by omega) (by omega)) dX4_like_199 (fun H locs hP hD hS => ?_)
                          rw [nI_clamp (by omega)] at hP hD
                          have hP : va_P (dC, dI) cl5 [(mo, .inr (4, [.int (th), .ref mv, .ref mk, .int (nI nv), .int (nI nk), .int (nI p1), .ref ms, .ref ml, .ref mc, .int (nI 0), .ref mf, .ref mn])), (mv, .inl (jv, 100, .inl fv)), (mk, .inl (jk, 100, .inl fk)), (ms, .inl (js, 100, .inl w1)), (ml, .inl (jl, 100, .inl w2)), (mc, .inl (jc, 10201, .inl (upd w4 (101 * j + x) (0)))), (mf, .inl (jf, 100, .inl gf)), (mn, .inl (jn, 100, .inl gn))] H := hP
                          have hD : va_D A [(mo, .inr (4, [.int (th), .ref mv, .ref mk, .int (nI nv), .int (nI nk), .int (nI p1), .ref ms, .ref ml, .ref mc, .int (nI 0), .ref mf, .ref mn])), (mv, .inl (jv, 100, .inl fv)), (mk, .inl (jk, 100, .inl fk)), (ms, .inl (js, 100, .inl w1)), (ml, .inl (jl, 100, .inl w2)), (mc, .inl (jc, 10201, .inl (upd w4 (101 * j + x) (0)))), (mf, .inl (jf, 100, .inl gf)), (mn, .inl (jn, 100, .inl gn))] := hD
                          refine lv_iinc (v := (nI x) - (1)) (lv' := [(3, .int ((nI x) - (1))), (4, .int (0)), (0, .ref mo), (1, .int (cp)), (2, .int (nI j))]) hx hb dX4_like_200 hl (k := 4) rfl (nI_dec x) (by decide) rfl (fun ls hl => ?_)
                          refine lv_goto (tgt := 18) hx hb dX4_like_203 (by decide) ?_
                          exact ih18 x _ (by omega) (dn_R hv (by omega) hd1) (dn_C hv (by omega) hd2 (Or.inr ⟨rfl, fun q => ((star_rec hjp zst (by omega)).mp q).elim y1 (fun q2 => y2 q2.2)⟩)) (by omega) H locs hP hD hS ls (lv_sub hl [2, 3, 4, 0] rfl)
                        · skip
                          have y2 := cel_t (i := 101 * j + x + 1) (by omega) (hd2 (x + 1) (Nat.le_refl _) (by omega)) c101_64
                          refine lv_iconst (v := 1) hx hb dX4_like_104 (by decide) ?_
                          refine lv_goto (tgt := 109) hx hb dX4_like_105 (by decide) ?_
                          refine lv_istore (lv' := [(4, .int (1)), (0, .ref mo), (1, .int (cp)), (2, .int (nI j)), (3, .int (nI x))]) hx hb dX4_like_109 hl (by decide) rfl (fun ls hl => ?_)
                          refine lv_goto (tgt := 187) hx hb dX4_like_111 (by decide) ?_
                          refine lv_aload_n hx hb dX4_like_187 rfl (lv_at hl 1 rfl) ?_
                          refine va_get (D := (dC, dI)) (ci := 4) (v := .ref mc) (C := RX4) (T := TX4) (N := 12) hx hb hw inX4 hown hK hP 0 rfl rfl 8 (by decide) (hw _ mw252) (fun _ h9 => h9) rfl dX4_like_188 ?_
                          refine lv_bipush (v := 101) hx hb dX4_like_191 (by decide) ?_
                          refine lv_iload_n hx hb dX4_like_193 rfl (lv_at hl 3 rfl) ?_
                          refine lv_imul hx hb dX4_like_194 ?_
                          refine lv_topi (fun x68 ex68 => ?_)
                          obtain rfl : x68 = nI (101 * j) := by rw [ex68]; exact pk_mul 101 j
                          refine lv_iload_n hx hb dX4_like_195 rfl (lv_at hl 4 rfl) ?_
                          refine lv_iadd hx hb dX4_like_196 ?_
                          refine lv_topi (fun x69 ex69 => ?_)
                          obtain rfl : x69 = nI (101 * j + x) := by rw [ex69]; exact nI_add (101 * j) x
                          refine lv_iload hx hb dX4_like_197 (lv_at hl 0 rfl) ?_
                          refine va_zast hx hb hK hP hD hS 5 4 rfl rfl (i := (nI (101 * j + x))) (vp_in_nI (by omega) (by omega)) dX4_like_199 (fun H locs hP hD hS => ?_)
                          rw [nI_clamp (by omega)] at hP hD
                          have hP : va_P (dC, dI) cl5 [(mo, .inr (4, [.int (th), .ref mv, .ref mk, .int (nI nv), .int (nI nk), .int (nI p1), .ref ms, .ref ml, .ref mc, .int (nI 0), .ref mf, .ref mn])), (mv, .inl (jv, 100, .inl fv)), (mk, .inl (jk, 100, .inl fk)), (ms, .inl (js, 100, .inl w1)), (ml, .inl (jl, 100, .inl w2)), (mc, .inl (jc, 10201, .inl (upd w4 (101 * j + x) (1)))), (mf, .inl (jf, 100, .inl gf)), (mn, .inl (jn, 100, .inl gn))] H := hP
                          have hD : va_D A [(mo, .inr (4, [.int (th), .ref mv, .ref mk, .int (nI nv), .int (nI nk), .int (nI p1), .ref ms, .ref ml, .ref mc, .int (nI 0), .ref mf, .ref mn])), (mv, .inl (jv, 100, .inl fv)), (mk, .inl (jk, 100, .inl fk)), (ms, .inl (js, 100, .inl w1)), (ml, .inl (jl, 100, .inl w2)), (mc, .inl (jc, 10201, .inl (upd w4 (101 * j + x) (1)))), (mf, .inl (jf, 100, .inl gf)), (mn, .inl (jn, 100, .inl gn))] := hD
                          refine lv_iinc (v := (nI x) - (1)) (lv' := [(3, .int ((nI x) - (1))), (4, .int (1)), (0, .ref mo), (1, .int (cp)), (2, .int (nI j))]) hx hb dX4_like_200 hl (k := 4) rfl (nI_dec x) (by decide) rfl (fun ls hl => ?_)
                          refine lv_goto (tgt := 18) hx hb dX4_like_203 (by decide) ?_
                          exact ih18 x _ (by omega) (dn_R hv (by omega) hd1) (dn_C hv (by omega) hd2 (Or.inl ⟨rfl, (star_rec hjp zst (by omega)).mpr (Or.inr ⟨hxn, y2⟩)⟩)) (by omega) H locs hP hD hS ls (lv_sub hl [2, 3, 4, 0] rfl)
              · skip
                have zj : j = p1 := (nI_eq (by omega) (by omega)).mp (by first | exact c27_22 | exact Decidable.not_not.mp c27_22)
                refine lv_iload_n hx hb dX4_like_30 rfl (lv_at hl 3 rfl) ?_
                refine lv_aload_n hx hb dX4_like_31 rfl (lv_at hl 0 rfl) ?_
                refine va_get (D := (dC, dI)) (ci := 4) (v := .int (nI nv)) (C := RX4) (T := TX4) (N := 12) hx hb hw inX4 hown hK hP 0 rfl rfl 3 (by decide) (hw _ mw247) (fun _ h9 => h9) rfl dX4_like_32 ?_
                refine lv_icmp_ne (tgt := 42) hx hb dX4_like_35 (by decide) (fun c35_69 => ?_) (fun c35_69 => ?_)
                · skip
                  have zx : ¬ x = nv := fun q => c35_69 (by rw [q])
                  refine lv_iconst (v := 0) hx hb dX4_like_42 (by decide) ?_
                  refine lv_istore (lv' := [(4, .int (0)), (0, .ref mo), (1, .int (cp)), (2, .int (nI j)), (3, .int (nI x))]) hx hb dX4_like_43 hl (by decide) rfl (fun ls hl => ?_)
                  refine lv_iload_n hx hb dX4_like_45 rfl (lv_at hl 3 rfl) ?_
                  refine lv_aload_n hx hb dX4_like_46 rfl (lv_at hl 1 rfl) ?_
                  refine va_get (D := (dC, dI)) (ci := 4) (v := .int (nI p1)) (C := RX4) (T := TX4) (N := 12) hx hb hw inX4 hown hK hP 0 rfl rfl 5 (by decide) (hw _ mw249) (fun _ h9 => h9) rfl dX4_like_47 ?_
                  refine lv_icmp_ge (tgt := 114) hx hb dX4_like_50 (by decide) (fun c50_70 => ?_) (fun c50_70 => ?_)
                  · skip
                    rw [ti_le, nI_toInt (by omega), nI_toInt (by omega)] at c50_70
                    refine lv_iload_n hx hb dX4_like_114 rfl (lv_at hl 3 rfl) ?_
                    refine lv_aload_n hx hb dX4_like_115 rfl (lv_at hl 1 rfl) ?_
                    refine va_get (D := (dC, dI)) (ci := 4) (v := .int (nI p1)) (C := RX4) (T := TX4) (N := 12) hx hb hw inX4 hown hK hP 0 rfl rfl 5 (by decide) (hw _ mw249) (fun _ h9 => h9) rfl dX4_like_116 ?_
                    refine lv_icmp_ge (tgt := 187) hx hb dX4_like_119 (by decide) (fun c119_71 => ?_) (fun c119_71 => ?_)
                    · skip
                      rw [ti_le, nI_toInt (by omega), nI_toInt (by omega)] at c119_71
                      refine lv_aload_n hx hb dX4_like_187 rfl (lv_at hl 1 rfl) ?_
                      refine va_get (D := (dC, dI)) (ci := 4) (v := .ref mc) (C := RX4) (T := TX4) (N := 12) hx hb hw inX4 hown hK hP 0 rfl rfl 8 (by decide) (hw _ mw252) (fun _ h9 => h9) rfl dX4_like_188 ?_
                      refine lv_bipush (v := 101) hx hb dX4_like_191 (by decide) ?_
                      refine lv_iload_n hx hb dX4_like_193 rfl (lv_at hl 3 rfl) ?_
                      refine lv_imul hx hb dX4_like_194 ?_
                      refine lv_topi (fun x73 ex73 => ?_)
                      obtain rfl : x73 = nI (101 * j) := by rw [ex73]; exact pk_mul 101 j
                      refine lv_iload_n hx hb dX4_like_195 rfl (lv_at hl 4 rfl) ?_
                      refine lv_iadd hx hb dX4_like_196 ?_
                      refine lv_topi (fun x74 ex74 => ?_)
                      obtain rfl : x74 = nI (101 * j + x) := by rw [ex74]; exact nI_add (101 * j) x
                      refine lv_iload hx hb dX4_like_197 (lv_at hl 0 rfl) ?_
                      refine va_zast hx hb hK hP hD hS 5 4 rfl rfl (i := (nI (101 * j + x))) (vp_in_nI (by omega) (by omega)) dX4_like_199 (fun H locs hP hD hS => ?_)
                      rw [nI_clamp (by omega)] at hP hD
                      have hP : va_P (dC, dI) cl5 [(mo, .inr (4, [.int (th), .ref mv, .ref mk, .int (nI nv), .int (nI nk), .int (nI p1), .ref ms, .ref ml, .ref mc, .int (nI 0), .ref mf, .ref mn])), (mv, .inl (jv, 100, .inl fv)), (mk, .inl (jk, 100, .inl fk)), (ms, .inl (js, 100, .inl w1)), (ml, .inl (jl, 100, .inl w2)), (mc, .inl (jc, 10201, .inl (upd w4 (101 * j + x) (0)))), (mf, .inl (jf, 100, .inl gf)), (mn, .inl (jn, 100, .inl gn))] H := hP
                      have hD : va_D A [(mo, .inr (4, [.int (th), .ref mv, .ref mk, .int (nI nv), .int (nI nk), .int (nI p1), .ref ms, .ref ml, .ref mc, .int (nI 0), .ref mf, .ref mn])), (mv, .inl (jv, 100, .inl fv)), (mk, .inl (jk, 100, .inl fk)), (ms, .inl (js, 100, .inl w1)), (ml, .inl (jl, 100, .inl w2)), (mc, .inl (jc, 10201, .inl (upd w4 (101 * j + x) (0)))), (mf, .inl (jf, 100, .inl gf)), (mn, .inl (jn, 100, .inl gn))] := hD
                      refine lv_iinc (v := (nI x) - (1)) (lv' := [(3, .int ((nI x) - (1))), (4, .int (0)), (0, .ref mo), (1, .int (cp)), (2, .int (nI j))]) hx hb dX4_like_200 hl (k := 4) rfl (nI_dec x) (by decide) rfl (fun ls hl => ?_)
                      refine lv_goto (tgt := 18) hx hb dX4_like_203 (by decide) ?_
                      exact ih18 x _ (by omega) (dn_R hv (by omega) hd1) (dn_C hv (by omega) hd2 (Or.inr ⟨rfl, end_0 zj zx⟩)) (by omega) H locs hP hD hS ls (lv_sub hl [2, 3, 4, 0] rfl)
                    · skip
                      rw [ti_le, nI_toInt (by omega), nI_toInt (by omega)] at c119_71
                      omega
                  · skip
                    rw [ti_le, nI_toInt (by omega), nI_toInt (by omega)] at c50_70
                    have hjp : j < p1 := by omega
                    omega
                · skip
                  have zx : x = nv := (nI_eq (by omega) (by omega)).mp (by first | exact c35_69 | exact Decidable.not_not.mp c35_69)
                  refine lv_iconst (v := 1) hx hb dX4_like_38 (by decide) ?_
                  refine lv_goto (tgt := 43) hx hb dX4_like_39 (by decide) ?_
                  refine lv_istore (lv' := [(4, .int (1)), (0, .ref mo), (1, .int (cp)), (2, .int (nI j)), (3, .int (nI x))]) hx hb dX4_like_43 hl (by decide) rfl (fun ls hl => ?_)
                  refine lv_iload_n hx hb dX4_like_45 rfl (lv_at hl 3 rfl) ?_
                  refine lv_aload_n hx hb dX4_like_46 rfl (lv_at hl 1 rfl) ?_
                  refine va_get (D := (dC, dI)) (ci := 4) (v := .int (nI p1)) (C := RX4) (T := TX4) (N := 12) hx hb hw inX4 hown hK hP 0 rfl rfl 5 (by decide) (hw _ mw249) (fun _ h9 => h9) rfl dX4_like_47 ?_
                  refine lv_icmp_ge (tgt := 114) hx hb dX4_like_50 (by decide) (fun c50_74 => ?_) (fun c50_74 => ?_)
                  · skip
                    rw [ti_le, nI_toInt (by omega), nI_toInt (by omega)] at c50_74
                    refine lv_iload_n hx hb dX4_like_114 rfl (lv_at hl 3 rfl) ?_
                    refine lv_aload_n hx hb dX4_like_115 rfl (lv_at hl 1 rfl) ?_
                    refine va_get (D := (dC, dI)) (ci := 4) (v := .int (nI p1)) (C := RX4) (T := TX4) (N := 12) hx hb hw inX4 hown hK hP 0 rfl rfl 5 (by decide) (hw _ mw249) (fun _ h9 => h9) rfl dX4_like_116 ?_
                    refine lv_icmp_ge (tgt := 187) hx hb dX4_like_119 (by decide) (fun c119_75 => ?_) (fun c119_75 => ?_)
                    · skip
                      rw [ti_le, nI_toInt (by omega), nI_toInt (by omega)] at c119_75
                      refine lv_aload_n hx hb dX4_like_187 rfl (lv_at hl 1 rfl) ?_
                      refine va_get (D := (dC, dI)) (ci := 4) (v := .ref mc) (C := RX4) (T := TX4) (N := 12) hx hb hw inX4 hown hK hP 0 rfl rfl 8 (by decide) (hw _ mw252) (fun _ h9 => h9) rfl dX4_like_188 ?_
                      refine lv_bipush (v := 101) hx hb dX4_like_191 (by decide) ?_
                      refine lv_iload_n hx hb dX4_like_193 rfl (lv_at hl 3 rfl) ?_
                      refine lv_imul hx hb dX4_like_194 ?_
                      refine lv_topi (fun x77 ex77 => ?_)
                      obtain rfl : x77 = nI (101 * j) := by rw [ex77]; exact pk_mul 101 j
                      refine lv_iload_n hx hb dX4_like_195 rfl (lv_at hl 4 rfl) ?_
                      refine lv_iadd hx hb dX4_like_196 ?_
                      refine lv_topi (fun x78 ex78 => ?_)
                      obtain rfl : x78 = nI (101 * j + x) := by rw [ex78]; exact nI_add (101 * j) x
                      refine lv_iload hx hb dX4_like_197 (lv_at hl 0 rfl) ?_
                      refine va_zast hx hb hK hP hD hS 5 4 rfl rfl (i := (nI (101 * j + x))) (vp_in_nI (by omega) (by omega)) dX4_like_199 (fun H locs hP hD hS => ?_)
                      rw [nI_clamp (by omega)] at hP hD
                      have hP : va_P (dC, dI) cl5 [(mo, .inr (4, [.int (th), .ref mv, .ref mk, .int (nI nv), .int (nI nk), .int (nI p1), .ref ms, .ref ml, .ref mc, .int (nI 0), .ref mf, .ref mn])), (mv, .inl (jv, 100, .inl fv)), (mk, .inl (jk, 100, .inl fk)), (ms, .inl (js, 100, .inl w1)), (ml, .inl (jl, 100, .inl w2)), (mc, .inl (jc, 10201, .inl (upd w4 (101 * j + x) (1)))), (mf, .inl (jf, 100, .inl gf)), (mn, .inl (jn, 100, .inl gn))] H := hP
                      have hD : va_D A [(mo, .inr (4, [.int (th), .ref mv, .ref mk, .int (nI nv), .int (nI nk), .int (nI p1), .ref ms, .ref ml, .ref mc, .int (nI 0), .ref mf, .ref mn])), (mv, .inl (jv, 100, .inl fv)), (mk, .inl (jk, 100, .inl fk)), (ms, .inl (js, 100, .inl w1)), (ml, .inl (jl, 100, .inl w2)), (mc, .inl (jc, 10201, .inl (upd w4 (101 * j + x) (1)))), (mf, .inl (jf, 100, .inl gf)), (mn, .inl (jn, 100, .inl gn))] := hD
                      refine lv_iinc (v := (nI x) - (1)) (lv' := [(3, .int ((nI x) - (1))), (4, .int (1)), (0, .ref mo), (1, .int (cp)), (2, .int (nI j))]) hx hb dX4_like_200 hl (k := 4) rfl (nI_dec x) (by decide) rfl (fun ls hl => ?_)
                      refine lv_goto (tgt := 18) hx hb dX4_like_203 (by decide) ?_
                      exact ih18 x _ (by omega) (dn_R hv (by omega) hd1) (dn_C hv (by omega) hd2 (Or.inl ⟨rfl, end_1 zj zx⟩)) (by omega) H locs hP hD hS ls (lv_sub hl [2, 3, 4, 0] rfl)
                    · skip
                      rw [ti_le, nI_toInt (by omega), nI_toInt (by omega)] at c119_75
                      omega
                  · skip
                    rw [ti_le, nI_toInt (by omega), nI_toInt (by omega)] at c50_74
                    have hjp : j < p1 := by omega
                    omega
        exact loop18 (nv + 1 + 1) (nv + 1) w3 (Nat.le_refl _) hd dn_c0 (by omega) H locs hP hD hS ls (lv_sub hl [1, 2, 3, 0] rfl)
  exact loop9 (p1 + 1 + 1) (p1 + 1) gc (Nat.le_refl _) dn_0 (by omega) H locs hP hD hS ls (lv_sub hl [1, 2, 0] rfl)
end
