-- ===== PART A: goes FIRST, ahead of the names: the tables' words, and 'selects' of the private methods out of them =====
/-- a private method of a class that the tables say can be made, by its rows of tables_1 -/
def lw_okq (q : MethodName × Nat) : Prop := (q.1.cls ≠ "java/lang/invoke/MethodHandle" ∧ q.1.cls ≠ "java/lang/invoke/VarHandle") ∧ Cond.instantiable q.1.cls q.2 ∈ tables_1 ∧ Cond.privateMethod q.1 ∈ tables_1 ∧ Cond.instanceMethod q.1 ∈ tables_1
theorem lw_p0 : lw_okq (⟨"GlobDesk", "rowOf", "(I)LGlobDesk$Row;"⟩, 4) := ⟨⟨by decide +kernel, by decide +kernel⟩, List.mem_of_getElem? (i := 8) (by decide +kernel), List.mem_of_getElem? (i := 80) (by decide +kernel), List.mem_of_getElem? (i := 81) (by decide +kernel)⟩
theorem lw_p1 : lw_okq (⟨"GlobDesk", "matches", "(II)Z"⟩, 4) := ⟨⟨by decide +kernel, by decide +kernel⟩, List.mem_of_getElem? (i := 8) (by decide +kernel), List.mem_of_getElem? (i := 99) (by decide +kernel), List.mem_of_getElem? (i := 100) (by decide +kernel)⟩
theorem lw_p2 : lw_okq (⟨"GlobDesk", "standing", "(I)I"⟩, 4) := ⟨⟨by decide +kernel, by decide +kernel⟩, List.mem_of_getElem? (i := 8) (by decide +kernel), List.mem_of_getElem? (i := 103) (by decide +kernel), List.mem_of_getElem? (i := 104) (by decide +kernel)⟩
theorem lw_p3 : lw_okq (⟨"GlobDesk", "standingAsNumbers", "()I"⟩, 4) := ⟨⟨by decide +kernel, by decide +kernel⟩, List.mem_of_getElem? (i := 8) (by decide +kernel), List.mem_of_getElem? (i := 107) (by decide +kernel), List.mem_of_getElem? (i := 108) (by decide +kernel)⟩
theorem lw_p4 : lw_okq (⟨"GlobDesk", "standingAsBytes", "(I)I"⟩, 4) := ⟨⟨by decide +kernel, by decide +kernel⟩, List.mem_of_getElem? (i := 8) (by decide +kernel), List.mem_of_getElem? (i := 127) (by decide +kernel), List.mem_of_getElem? (i := 128) (by decide +kernel)⟩
theorem lw_p5 : lw_okq (⟨"GlobDesk", "containsKey", "(I)Z"⟩, 4) := ⟨⟨by decide +kernel, by decide +kernel⟩, List.mem_of_getElem? (i := 8) (by decide +kernel), List.mem_of_getElem? (i := 137) (by decide +kernel), List.mem_of_getElem? (i := 138) (by decide +kernel)⟩
theorem lw_p6 : lw_okq (⟨"GlobDesk$Pattern", "append", "(I)V"⟩, 2) := ⟨⟨by decide +kernel, by decide +kernel⟩, List.mem_of_getElem? (i := 32) (by decide +kernel), List.mem_of_getElem? (i := 146) (by decide +kernel), List.mem_of_getElem? (i := 147) (by decide +kernel)⟩
theorem lw_p7 : lw_okq (⟨"GlobDesk", "firstPlace", "(IIII)I"⟩, 4) := ⟨⟨by decide +kernel, by decide +kernel⟩, List.mem_of_getElem? (i := 8) (by decide +kernel), List.mem_of_getElem? (i := 150) (by decide +kernel), List.mem_of_getElem? (i := 151) (by decide +kernel)⟩
theorem lw_p8 : lw_okq (⟨"GlobDesk", "fits", "(IIII)Z"⟩, 4) := ⟨⟨by decide +kernel, by decide +kernel⟩, List.mem_of_getElem? (i := 8) (by decide +kernel), List.mem_of_getElem? (i := 154) (by decide +kernel), List.mem_of_getElem? (i := 155) (by decide +kernel)⟩
theorem lw_p9 : lw_okq (⟨"GlobDesk", "isLikeKey", "(I)Z"⟩, 4) := ⟨⟨by decide +kernel, by decide +kernel⟩, List.mem_of_getElem? (i := 8) (by decide +kernel), List.mem_of_getElem? (i := 166) (by decide +kernel), List.mem_of_getElem? (i := 167) (by decide +kernel)⟩
theorem lw_p10 : lw_okq (⟨"GlobDeskModel", "compare", "(I)I"⟩, 12) := ⟨⟨by decide +kernel, by decide +kernel⟩, List.mem_of_getElem? (i := 224) (by decide +kernel), List.mem_of_getElem? (i := 280) (by decide +kernel), List.mem_of_getElem? (i := 281) (by decide +kernel)⟩
theorem lw_p11 : lw_okq (⟨"GlobDeskModel", "byNumbers", "()I"⟩, 12) := ⟨⟨by decide +kernel, by decide +kernel⟩, List.mem_of_getElem? (i := 224) (by decide +kernel), List.mem_of_getElem? (i := 284) (by decide +kernel), List.mem_of_getElem? (i := 285) (by decide +kernel)⟩
theorem lw_p12 : lw_okq (⟨"GlobDeskModel", "contains", "(I)Z"⟩, 12) := ⟨⟨by decide +kernel, by decide +kernel⟩, List.mem_of_getElem? (i := 224) (by decide +kernel), List.mem_of_getElem? (i := 297) (by decide +kernel), List.mem_of_getElem? (i := 298) (by decide +kernel)⟩
theorem lw_p13 : lw_okq (⟨"GlobDeskModel", "like", "(I)Z"⟩, 12) := ⟨⟨by decide +kernel, by decide +kernel⟩, List.mem_of_getElem? (i := 224) (by decide +kernel), List.mem_of_getElem? (i := 301) (by decide +kernel), List.mem_of_getElem? (i := 302) (by decide +kernel)⟩
theorem lw_p14 : lw_okq (⟨"GlobDeskModel", "findSigns", "()V"⟩, 12) := ⟨⟨by decide +kernel, by decide +kernel⟩, List.mem_of_getElem? (i := 224) (by decide +kernel), List.mem_of_getElem? (i := 305) (by decide +kernel), List.mem_of_getElem? (i := 306) (by decide +kernel)⟩
def lw_privs_1 : List (MethodName × Nat) := [(⟨"GlobDesk", "rowOf", "(I)LGlobDesk$Row;"⟩, 4), (⟨"GlobDesk", "matches", "(II)Z"⟩, 4), (⟨"GlobDesk", "standing", "(I)I"⟩, 4), (⟨"GlobDesk", "standingAsNumbers", "()I"⟩, 4), (⟨"GlobDesk", "standingAsBytes", "(I)I"⟩, 4), (⟨"GlobDesk", "containsKey", "(I)Z"⟩, 4), (⟨"GlobDesk$Pattern", "append", "(I)V"⟩, 2), (⟨"GlobDesk", "firstPlace", "(IIII)I"⟩, 4), (⟨"GlobDesk", "fits", "(IIII)Z"⟩, 4), (⟨"GlobDesk", "isLikeKey", "(I)Z"⟩, 4), (⟨"GlobDeskModel", "compare", "(I)I"⟩, 12), (⟨"GlobDeskModel", "byNumbers", "()I"⟩, 12), (⟨"GlobDeskModel", "contains", "(I)Z"⟩, 12), (⟨"GlobDeskModel", "like", "(I)Z"⟩, 12), (⟨"GlobDeskModel", "findSigns", "()V"⟩, 12)]
theorem lw_r1 : ∀ q ∈ lw_privs_1, lw_okq q := List.forall_mem_cons.mpr ⟨lw_p0, List.forall_mem_cons.mpr ⟨lw_p1, List.forall_mem_cons.mpr ⟨lw_p2, List.forall_mem_cons.mpr ⟨lw_p3, List.forall_mem_cons.mpr ⟨lw_p4, List.forall_mem_cons.mpr ⟨lw_p5, List.forall_mem_cons.mpr ⟨lw_p6, List.forall_mem_cons.mpr ⟨lw_p7, List.forall_mem_cons.mpr ⟨lw_p8, List.forall_mem_cons.mpr ⟨lw_p9, List.forall_mem_cons.mpr ⟨lw_p10, List.forall_mem_cons.mpr ⟨lw_p11, List.forall_mem_cons.mpr ⟨lw_p12, List.forall_mem_cons.mpr ⟨lw_p13, List.forall_mem_cons.mpr ⟨lw_p14, fun _ h => absurd h List.not_mem_nil⟩⟩⟩⟩⟩⟩⟩⟩⟩⟩⟩⟩⟩⟩⟩
def lw_privs : List (MethodName × Nat) := lw_privs_1
def lw_tbl : List Cond := k2_sels lw_privs ++ tables_1
theorem lw_privs_ok : ∀ q ∈ lw_privs, lw_okq q := lw_r1
-- ===== names =====
def RX0 : String := "GlobDesk$Pattern"
def TX0 : u_T := fun k => match k with
  | 0 => ("GlobDesk$Pattern", "marks", "[I", true)
  | _ => ("GlobDesk$Pattern", "length", "I", false)
def tyX0 : Nat → FieldType := fun k => match k with
  | 0 => .array .int
  | _ => .int
theorem nmX0 : ∀ a, a < 2 → ∀ b, b < 2 → a ≠ b → (TX0 a).2.1 ≠ (TX0 b).2.1 := by decide +kernel
theorem tyX0_ok : ∀ k, k < 2 → parseFieldDescriptor (TX0 k).2.2.1 = some (tyX0 k) := by decide +kernel
abbrev cX0_init : ByteArray := prog_2_method_1_code
def yX0_init : MethodName := ⟨RX0, "<init>", "()V"⟩
abbrev cX0_readPlain : ByteArray := prog_2_method_2_code
def yX0_readPlain : MethodName := ⟨RX0, "readPlain", "(LGlobDesk$Row;)V"⟩
abbrev cX0_readStars : ByteArray := prog_2_method_3_code
def yX0_readStars : MethodName := ⟨RX0, "readStars", "(LGlobDesk$Row;)V"⟩
abbrev cX0_at : ByteArray := prog_2_method_4_code
def yX0_at : MethodName := ⟨RX0, "at", "(I)I"⟩
abbrev cX0_starFrom : ByteArray := prog_2_method_5_code
def yX0_starFrom : MethodName := ⟨RX0, "starFrom", "(I)I"⟩
abbrev cX0_append : ByteArray := prog_2_method_6_code
def yX0_append : MethodName := ⟨RX0, "append", "(I)V"⟩
def RX1 : String := "GlobDesk$Row"
def TX1 : u_T := fun k => match k with
  | 0 => ("GlobDesk$Row", "bytes", "[I", true)
  | _ => ("GlobDesk$Row", "length", "I", false)
def tyX1 : Nat → FieldType := fun k => match k with
  | 0 => .array .int
  | _ => .int
theorem nmX1 : ∀ a, a < 2 → ∀ b, b < 2 → a ≠ b → (TX1 a).2.1 ≠ (TX1 b).2.1 := by decide +kernel
theorem tyX1_ok : ∀ k, k < 2 → parseFieldDescriptor (TX1 k).2.2.1 = some (tyX1 k) := by decide +kernel
abbrev cX1_init : ByteArray := prog_3_method_1_code
def yX1_init : MethodName := ⟨RX1, "<init>", "()V"⟩
abbrev cX1_append : ByteArray := prog_3_method_2_code
def yX1_append : MethodName := ⟨RX1, "append", "(JI)Z"⟩
abbrev cX1_at : ByteArray := prog_3_method_3_code
def yX1_at : MethodName := ⟨RX1, "at", "(I)I"⟩
abbrev cX1_digits : ByteArray := prog_3_method_4_code
def yX1_digits : MethodName := ⟨RX1, "digits", "()I"⟩
abbrev cX1_zerosBefore : ByteArray := prog_3_method_5_code
def yX1_zerosBefore : MethodName := ⟨RX1, "zerosBefore", "(I)I"⟩
abbrev cX1_numberUpTo : ByteArray := prog_3_method_6_code
def yX1_numberUpTo : MethodName := ⟨RX1, "numberUpTo", "(J)J"⟩
def RX2 : String := "GlobDesk$Spans"
def TX2 : u_T := fun k => match k with
  | 0 => ("GlobDesk$Spans", "begins", "[I", true)
  | 1 => ("GlobDesk$Spans", "lengths", "[I", true)
  | _ => ("GlobDesk$Spans", "length", "I", false)
def tyX2 : Nat → FieldType := fun k => match k with
  | 0 => .array .int
  | 1 => .array .int
  | _ => .int
theorem nmX2 : ∀ a, a < 3 → ∀ b, b < 3 → a ≠ b → (TX2 a).2.1 ≠ (TX2 b).2.1 := by decide +kernel
theorem tyX2_ok : ∀ k, k < 3 → parseFieldDescriptor (TX2 k).2.2.1 = some (tyX2 k) := by decide +kernel
abbrev cX2_init : ByteArray := prog_4_method_1_code
def yX2_init : MethodName := ⟨RX2, "<init>", "()V"⟩
abbrev cX2_append : ByteArray := prog_4_method_2_code
def yX2_append : MethodName := ⟨RX2, "append", "(II)V"⟩
abbrev cX2_beginOf : ByteArray := prog_4_method_3_code
def yX2_beginOf : MethodName := ⟨RX2, "beginOf", "(I)I"⟩
abbrev cX2_lengthOf : ByteArray := prog_4_method_4_code
def yX2_lengthOf : MethodName := ⟨RX2, "lengthOf", "(I)I"⟩
def RX3 : String := "GlobDesk"
def TX3 : u_T := fun k => match k with
  | 0 => ("GlobDesk", "value", "LGlobDesk$Row;", true)
  | 1 => ("GlobDesk", "key", "LGlobDesk$Row;", true)
  | 2 => ("GlobDesk", "pattern", "LGlobDesk$Pattern;", true)
  | _ => ("GlobDesk", "found", "LGlobDesk$Spans;", true)
def tyX3 : Nat → FieldType := fun k => match k with
  | 0 => .object "GlobDesk$Row"
  | 1 => .object "GlobDesk$Row"
  | 2 => .object "GlobDesk$Pattern"
  | _ => .object "GlobDesk$Spans"
theorem nmX3 : ∀ a, a < 4 → ∀ b, b < 4 → a ≠ b → (TX3 a).2.1 ≠ (TX3 b).2.1 := by decide +kernel
theorem tyX3_ok : ∀ k, k < 4 → parseFieldDescriptor (TX3 k).2.2.1 = some (tyX3 k) := by decide +kernel
abbrev cX3_init : ByteArray := prog_1_method_1_code
def yX3_init : MethodName := ⟨RX3, "<init>", "()V"⟩
abbrev cX3_put : ByteArray := prog_1_method_2_code
def yX3_put : MethodName := ⟨RX3, "put", "(IJI)Z"⟩
abbrev cX3_clear : ByteArray := prog_1_method_3_code
def yX3_clear : MethodName := ⟨RX3, "clear", "(I)I"⟩
abbrev cX3_match : ByteArray := prog_1_method_4_code
def yX3_match : MethodName := ⟨RX3, "match", "(II)I"⟩
abbrev cX3_spans : ByteArray := prog_1_method_5_code
def yX3_spans : MethodName := ⟨RX3, "spans", "()I"⟩
abbrev cX3_span : ByteArray := prog_1_method_6_code
def yX3_span : MethodName := ⟨RX3, "span", "(II)I"⟩
abbrev cX3_order : ByteArray := prog_1_method_7_code
def yX3_order : MethodName := ⟨RX3, "order", "(I)I"⟩
abbrev cX3_counts : ByteArray := prog_1_method_8_code
def yX3_counts : MethodName := ⟨RX3, "counts", "(II)Z"⟩
abbrev cX3_byteAt : ByteArray := prog_1_method_9_code
def yX3_byteAt : MethodName := ⟨RX3, "byteAt", "(II)I"⟩
abbrev cX3_size : ByteArray := prog_1_method_10_code
def yX3_size : MethodName := ⟨RX3, "size", "(I)I"⟩
abbrev cX3_rowOf : ByteArray := prog_1_method_11_code
def yX3_rowOf : MethodName := ⟨RX3, "rowOf", "(I)LGlobDesk$Row;"⟩
abbrev cX3_isComparator : ByteArray := prog_1_method_12_code
def yX3_isComparator : MethodName := ⟨RX3, "isComparator", "(I)Z"⟩
abbrev cX3_matches : ByteArray := prog_1_method_13_code
def yX3_matches : MethodName := ⟨RX3, "matches", "(II)Z"⟩
abbrev cX3_containsKey : ByteArray := prog_1_method_14_code
def yX3_containsKey : MethodName := ⟨RX3, "containsKey", "(I)Z"⟩
abbrev cX3_isLikeKey : ByteArray := prog_1_method_15_code
def yX3_isLikeKey : MethodName := ⟨RX3, "isLikeKey", "(I)Z"⟩
abbrev cX3_firstPlace : ByteArray := prog_1_method_16_code
def yX3_firstPlace : MethodName := ⟨RX3, "firstPlace", "(IIII)I"⟩
abbrev cX3_fits : ByteArray := prog_1_method_17_code
def yX3_fits : MethodName := ⟨RX3, "fits", "(IIII)Z"⟩
abbrev cX3_standing : ByteArray := prog_1_method_18_code
def yX3_standing : MethodName := ⟨RX3, "standing", "(I)I"⟩
abbrev cX3_standingAsBytes : ByteArray := prog_1_method_19_code
def yX3_standingAsBytes : MethodName := ⟨RX3, "standingAsBytes", "(I)I"⟩
abbrev cX3_standingAsNumbers : ByteArray := prog_1_method_20_code
def yX3_standingAsNumbers : MethodName := ⟨RX3, "standingAsNumbers", "()I"⟩
abbrev cX3_signOf : ByteArray := prog_1_method_21_code
def yX3_signOf : MethodName := ⟨RX3, "signOf", "(II)I"⟩
abbrev cX3_folded : ByteArray := prog_1_method_22_code
def yX3_folded : MethodName := ⟨RX3, "folded", "(II)I"⟩
def RL : String := "GlobDeskLaw"
abbrev cL_law : ByteArray := code
def yL_law : MethodName := ⟨RL, "law", "([I)Z"⟩
def RX4 : String := "GlobDeskModel"
def TX4 : u_T := fun k => match k with
  | 0 => ("GlobDeskModel", "thrownCode", "I", false)
  | 1 => ("GlobDeskModel", "value", "[I", true)
  | 2 => ("GlobDeskModel", "key", "[I", true)
  | 3 => ("GlobDeskModel", "values", "I", false)
  | 4 => ("GlobDeskModel", "keys", "I", false)
  | 5 => ("GlobDeskModel", "signs", "I", false)
  | 6 => ("GlobDeskModel", "sign", "[I", true)
  | 7 => ("GlobDeskModel", "literal", "[I", true)
  | 8 => ("GlobDeskModel", "can", "[Z", true)
  | 9 => ("GlobDeskModel", "spanCount", "I", false)
  | 10 => ("GlobDeskModel", "from", "[I", true)
  | _ => ("GlobDeskModel", "many", "[I", true)
def tyX4 : Nat → FieldType := fun k => match k with
  | 0 => .int
  | 1 => .array .int
  | 2 => .array .int
  | 3 => .int
  | 4 => .int
  | 5 => .int
  | 6 => .array .int
  | 7 => .array .int
  | 8 => .array .boolean
  | 9 => .int
  | 10 => .array .int
  | _ => .array .int
theorem nmX4 : ∀ a, a < 12 → ∀ b, b < 12 → a ≠ b → (TX4 a).2.1 ≠ (TX4 b).2.1 := by decide +kernel
theorem tyX4_ok : ∀ k, k < 12 → parseFieldDescriptor (TX4 k).2.2.1 = some (tyX4 k) := by decide +kernel
abbrev cX4_init : ByteArray := prog_6_method_1_code
def yX4_init : MethodName := ⟨RX4, "<init>", "()V"⟩
abbrev cX4_put : ByteArray := prog_6_method_11_code
def yX4_put : MethodName := ⟨RX4, "put", "(IJI)Z"⟩
abbrev cX4_clear : ByteArray := prog_6_method_12_code
def yX4_clear : MethodName := ⟨RX4, "clear", "(I)I"⟩
abbrev cX4_match : ByteArray := prog_6_method_13_code
def yX4_match : MethodName := ⟨RX4, "match", "(II)I"⟩
abbrev cX4_compare : ByteArray := prog_6_method_6_code
def yX4_compare : MethodName := ⟨RX4, "compare", "(I)I"⟩
abbrev cX4_byNumbers : ByteArray := prog_6_method_5_code
def yX4_byNumbers : MethodName := ⟨RX4, "byNumbers", "()I"⟩
abbrev cX4_digits : ByteArray := prog_6_method_3_code
def yX4_digits : MethodName := ⟨RX4, "digits", "([II)I"⟩
abbrev cX4_zeros : ByteArray := prog_6_method_4_code
def yX4_zeros : MethodName := ⟨RX4, "zeros", "([II)I"⟩
abbrev cX4_folded : ByteArray := prog_6_method_2_code
def yX4_folded : MethodName := ⟨RX4, "folded", "(II)I"⟩
abbrev cX4_contains : ByteArray := prog_6_method_7_code
def yX4_contains : MethodName := ⟨RX4, "contains", "(I)Z"⟩
abbrev cX4_like : ByteArray := prog_6_method_9_code
def yX4_like : MethodName := ⟨RX4, "like", "(I)Z"⟩
abbrev cX4_findSigns : ByteArray := prog_6_method_8_code
def yX4_findSigns : MethodName := ⟨RX4, "findSigns", "()V"⟩
abbrev cX4_spans : ByteArray := prog_6_method_14_code
def yX4_spans : MethodName := ⟨RX4, "spans", "()I"⟩
abbrev cX4_span : ByteArray := prog_6_method_15_code
def yX4_span : MethodName := ⟨RX4, "span", "(II)I"⟩
abbrev cX4_order : ByteArray := prog_6_method_16_code
def yX4_order : MethodName := ⟨RX4, "order", "(I)I"⟩
abbrev cX4_counts : ByteArray := prog_6_method_17_code
def yX4_counts : MethodName := ⟨RX4, "counts", "(II)Z"⟩
abbrev cX4_byteAt : ByteArray := prog_6_method_18_code
def yX4_byteAt : MethodName := ⟨RX4, "byteAt", "(II)I"⟩
abbrev cX4_size : ByteArray := prog_6_method_19_code
def yX4_size : MethodName := ⟨RX4, "size", "(I)I"⟩
def wsA : List Cond := lw_tbl.filter goodWord
theorem inA {w : Cond} (i : Nat) (h : lw_tbl[i]? = some w) (g : goodWord w = true) : w ∈ wsA := List.mem_filter.mpr ⟨List.mem_of_getElem? h, g⟩
theorem wsA_tbl : ∀ w ∈ wsA, w ∈ lw_tbl := fun _ h => (List.mem_filter.mp h).1
theorem goodA {ws : List Cond} (h : ∀ w ∈ ws, w ∈ wsA) : GoodIn wsA ws := fun w hw => ⟨h w hw, good_of_word (List.mem_filter.mp (h w hw)).2⟩
theorem mw0 : Cond.selects "GlobDesk" yX3_rowOf yX3_rowOf ∈ wsA := inA 0 rfl rfl
theorem mw1 : Cond.selects "GlobDesk" yX3_matches yX3_matches ∈ wsA := inA 1 rfl rfl
theorem mw2 : Cond.selects "GlobDesk" yX3_standing yX3_standing ∈ wsA := inA 2 rfl rfl
theorem mw3 : Cond.selects "GlobDesk" yX3_standingAsNumbers yX3_standingAsNumbers ∈ wsA := inA 3 rfl rfl
theorem mw4 : Cond.selects "GlobDesk" yX3_standingAsBytes yX3_standingAsBytes ∈ wsA := inA 4 rfl rfl
theorem mw5 : Cond.selects "GlobDesk" yX3_containsKey yX3_containsKey ∈ wsA := inA 5 rfl rfl
theorem mw6 : Cond.selects "GlobDesk$Pattern" yX0_append yX0_append ∈ wsA := inA 6 rfl rfl
theorem mw7 : Cond.selects "GlobDesk" yX3_firstPlace yX3_firstPlace ∈ wsA := inA 7 rfl rfl
theorem mw8 : Cond.selects "GlobDesk" yX3_fits yX3_fits ∈ wsA := inA 8 rfl rfl
theorem mw9 : Cond.selects "GlobDesk" yX3_isLikeKey yX3_isLikeKey ∈ wsA := inA 9 rfl rfl
theorem mw10 : Cond.selects "GlobDeskModel" yX4_compare yX4_compare ∈ wsA := inA 10 rfl rfl
theorem mw11 : Cond.selects "GlobDeskModel" yX4_byNumbers yX4_byNumbers ∈ wsA := inA 11 rfl rfl
theorem mw12 : Cond.selects "GlobDeskModel" yX4_contains yX4_contains ∈ wsA := inA 12 rfl rfl
theorem mw13 : Cond.selects "GlobDeskModel" yX4_like yX4_like ∈ wsA := inA 13 rfl rfl
theorem mw14 : Cond.selects "GlobDeskModel" yX4_findSigns yX4_findSigns ∈ wsA := inA 14 rfl rfl
theorem mw15 : Cond.initialized "GlobDeskLaw" ∈ wsA := inA 15 rfl rfl
theorem mw16 : Cond.initialized "GlobDesk" ∈ wsA := inA 16 rfl rfl
theorem mw17 : Cond.initialized "GlobDesk$Row" ∈ wsA := inA 17 rfl rfl
theorem mw18 : Cond.initialized "GlobDesk$Pattern" ∈ wsA := inA 18 rfl rfl
theorem mw19 : Cond.initialized "GlobDesk$Spans" ∈ wsA := inA 19 rfl rfl
theorem mw20 : Cond.initialized "GlobDeskModel" ∈ wsA := inA 20 rfl rfl
theorem mw21 : Cond.initialized "java/lang/Math" ∈ wsA := inA 21 rfl rfl
theorem mw22 : Cond.classLink "GlobDeskLaw" 7 "GlobDesk" ∈ wsA := inA 22 rfl rfl
theorem mw23 : Cond.instantiable "GlobDesk" 4 ∈ wsA := inA 23 rfl rfl
theorem mw24 : Cond.methodLink "GlobDeskLaw" 9 yX3_init ∈ wsA := inA 24 rfl rfl
theorem mw25 : Cond.instanceMethod yX3_init ∈ wsA := inA 25 rfl rfl
theorem mw26 : Cond.code yX3_init prog_1_method_1_code 1 (Option.none : Option ClassFile.FieldType) ∈ wsA := inA 26 rfl rfl
theorem mw27 : Cond.methodLink "GlobDesk" 1 ({ cls := "java/lang/Object", name := "<init>", desc := "()V" } : MethodName) ∈ wsA := inA 27 rfl rfl
theorem mw28 : Cond.instanceMethod ({ cls := "java/lang/Object", name := "<init>", desc := "()V" } : MethodName) ∈ wsA := inA 28 rfl rfl
theorem mw29 : Cond.code ({ cls := "java/lang/Object", name := "<init>", desc := "()V" } : MethodName) object_method_1_code 1 (Option.none : Option ClassFile.FieldType) ∈ wsA := inA 29 rfl rfl
theorem mw30 : Cond.classLink "GlobDesk" 7 "GlobDesk$Row" ∈ wsA := inA 30 rfl rfl
theorem mw31 : Cond.instantiable "GlobDesk$Row" 2 ∈ wsA := inA 31 rfl rfl
theorem mw33 : Cond.instanceMethod yX1_init ∈ wsA := inA 33 rfl rfl
theorem mw34 : Cond.code yX1_init prog_3_method_1_code 1 (Option.none : Option ClassFile.FieldType) ∈ wsA := inA 34 rfl rfl
theorem mw35 : Cond.methodLink "GlobDesk$Row" 3 ({ cls := "java/lang/Object", name := "<init>", desc := "()V" } : MethodName) ∈ wsA := inA 35 rfl rfl
theorem mw36 : Cond.fieldLink "GlobDesk$Row" 9 "GlobDesk$Row" "bytes" "[I" ∈ wsA := inA 36 rfl rfl
theorem mw37 : Cond.fieldLink "GlobDesk$Row" 15 "GlobDesk$Row" "length" "I" ∈ wsA := inA 37 rfl rfl
theorem mw40 : Cond.laysFinal "GlobDesk$Row" "GlobDesk$Row" "bytes" "[I" ∈ wsA := inA 40 rfl rfl
theorem mw42 : Cond.lays "GlobDesk$Row" "GlobDesk$Row" "length" "I" ∈ wsA := inA 42 rfl rfl
theorem mw45 : Cond.arrayClass ClassFile.FieldType.int ∈ wsA := inA 45 rfl rfl
theorem mw46 : Cond.classLink "GlobDesk" 19 "GlobDesk$Pattern" ∈ wsA := inA 46 rfl rfl
theorem mw47 : Cond.instantiable "GlobDesk$Pattern" 2 ∈ wsA := inA 47 rfl rfl
theorem mw49 : Cond.instanceMethod yX0_init ∈ wsA := inA 49 rfl rfl
theorem mw50 : Cond.code yX0_init prog_2_method_1_code 1 (Option.none : Option ClassFile.FieldType) ∈ wsA := inA 50 rfl rfl
theorem mw51 : Cond.methodLink "GlobDesk$Pattern" 3 ({ cls := "java/lang/Object", name := "<init>", desc := "()V" } : MethodName) ∈ wsA := inA 51 rfl rfl
theorem mw52 : Cond.fieldLink "GlobDesk$Pattern" 9 "GlobDesk$Pattern" "marks" "[I" ∈ wsA := inA 52 rfl rfl
theorem mw53 : Cond.fieldLink "GlobDesk$Pattern" 15 "GlobDesk$Pattern" "length" "I" ∈ wsA := inA 53 rfl rfl
theorem mw55 : Cond.laysFinal "GlobDesk$Pattern" "GlobDesk$Pattern" "marks" "[I" ∈ wsA := inA 55 rfl rfl
theorem mw57 : Cond.lays "GlobDesk$Pattern" "GlobDesk$Pattern" "length" "I" ∈ wsA := inA 57 rfl rfl
theorem mw60 : Cond.classLink "GlobDesk" 26 "GlobDesk$Spans" ∈ wsA := inA 60 rfl rfl
theorem mw61 : Cond.instantiable "GlobDesk$Spans" 3 ∈ wsA := inA 61 rfl rfl
theorem mw63 : Cond.instanceMethod yX2_init ∈ wsA := inA 63 rfl rfl
theorem mw64 : Cond.code yX2_init prog_4_method_1_code 1 (Option.none : Option ClassFile.FieldType) ∈ wsA := inA 64 rfl rfl
theorem mw65 : Cond.methodLink "GlobDesk$Spans" 3 ({ cls := "java/lang/Object", name := "<init>", desc := "()V" } : MethodName) ∈ wsA := inA 65 rfl rfl
theorem mw66 : Cond.fieldLink "GlobDesk$Spans" 9 "GlobDesk$Spans" "begins" "[I" ∈ wsA := inA 66 rfl rfl
theorem mw67 : Cond.fieldLink "GlobDesk$Spans" 15 "GlobDesk$Spans" "lengths" "[I" ∈ wsA := inA 67 rfl rfl
theorem mw68 : Cond.fieldLink "GlobDesk$Spans" 18 "GlobDesk$Spans" "length" "I" ∈ wsA := inA 68 rfl rfl
theorem mw70 : Cond.laysFinal "GlobDesk$Spans" "GlobDesk$Spans" "begins" "[I" ∈ wsA := inA 70 rfl rfl
theorem mw72 : Cond.laysFinal "GlobDesk$Spans" "GlobDesk$Spans" "lengths" "[I" ∈ wsA := inA 72 rfl rfl
theorem mw74 : Cond.lays "GlobDesk$Spans" "GlobDesk$Spans" "length" "I" ∈ wsA := inA 74 rfl rfl
theorem mw77 : Cond.fieldLink "GlobDesk" 10 "GlobDesk" "value" "LGlobDesk$Row;" ∈ wsA := inA 77 rfl rfl
theorem mw78 : Cond.fieldLink "GlobDesk" 16 "GlobDesk" "key" "LGlobDesk$Row;" ∈ wsA := inA 78 rfl rfl
theorem mw79 : Cond.fieldLink "GlobDesk" 22 "GlobDesk" "pattern" "LGlobDesk$Pattern;" ∈ wsA := inA 79 rfl rfl
theorem mw80 : Cond.fieldLink "GlobDesk" 29 "GlobDesk" "found" "LGlobDesk$Spans;" ∈ wsA := inA 80 rfl rfl
theorem mw81 : Cond.laysFinal "GlobDesk" "GlobDesk" "value" "LGlobDesk$Row;" ∈ wsA := inA 81 rfl rfl
theorem mw83 : Cond.laysFinal "GlobDesk" "GlobDesk" "key" "LGlobDesk$Row;" ∈ wsA := inA 83 rfl rfl
theorem mw85 : Cond.laysFinal "GlobDesk" "GlobDesk" "pattern" "LGlobDesk$Pattern;" ∈ wsA := inA 85 rfl rfl
theorem mw87 : Cond.laysFinal "GlobDesk" "GlobDesk" "found" "LGlobDesk$Spans;" ∈ wsA := inA 87 rfl rfl
theorem mw90 : Cond.methodLink "GlobDeskLaw" 15 yX3_put ∈ wsA := inA 90 rfl rfl
theorem mw91 : Cond.instanceMethod yX3_put ∈ wsA := inA 91 rfl rfl
theorem mw92 : Cond.selects "GlobDesk" yX3_put yX3_put ∈ wsA := inA 92 rfl rfl
theorem mw93 : Cond.code yX3_put prog_1_method_2_code 6 (Option.some ClassFile.FieldType.boolean) ∈ wsA := inA 93 rfl rfl
theorem mw94 : Cond.methodLink "GlobDesk" 33 yX3_rowOf ∈ wsA := inA 94 rfl rfl
theorem mw96 : Cond.instanceMethod yX3_rowOf ∈ wsA := inA 96 rfl rfl
theorem mw97 : Cond.code yX3_rowOf prog_1_method_11_code 2 (Option.some (ClassFile.FieldType.object "GlobDesk$Row")) ∈ wsA := inA 97 rfl rfl
theorem mw98 : Cond.methodLink "GlobDesk" 37 yX1_append ∈ wsA := inA 98 rfl rfl
theorem mw99 : Cond.instanceMethod yX1_append ∈ wsA := inA 99 rfl rfl
theorem mw100 : Cond.selects "GlobDesk$Row" yX1_append yX1_append ∈ wsA := inA 100 rfl rfl
theorem mw101 : Cond.code yX1_append prog_3_method_2_code 5 (Option.some ClassFile.FieldType.boolean) ∈ wsA := inA 101 rfl rfl
theorem mw102 : Cond.methodLink "GlobDeskLaw" 20 yX3_clear ∈ wsA := inA 102 rfl rfl
theorem mw103 : Cond.instanceMethod yX3_clear ∈ wsA := inA 103 rfl rfl
theorem mw104 : Cond.selects "GlobDesk" yX3_clear yX3_clear ∈ wsA := inA 104 rfl rfl
theorem mw105 : Cond.code yX3_clear prog_1_method_3_code 4 (Option.some ClassFile.FieldType.int) ∈ wsA := inA 105 rfl rfl
theorem mw106 : Cond.methodLink "GlobDeskLaw" 25 yX3_match ∈ wsA := inA 106 rfl rfl
theorem mw107 : Cond.instanceMethod yX3_match ∈ wsA := inA 107 rfl rfl
theorem mw108 : Cond.selects "GlobDesk" yX3_match yX3_match ∈ wsA := inA 108 rfl rfl
theorem mw109 : Cond.code yX3_match prog_1_method_4_code 3 (Option.some ClassFile.FieldType.int) ∈ wsA := inA 109 rfl rfl
theorem mw110 : Cond.methodLink "GlobDesk" 45 yX3_isComparator ∈ wsA := inA 110 rfl rfl
theorem mw111 : Cond.static yX3_isComparator ∈ wsA := inA 111 rfl rfl
theorem mw112 : Cond.code yX3_isComparator prog_1_method_12_code 1 (Option.some ClassFile.FieldType.boolean) ∈ wsA := inA 112 rfl rfl
theorem mw113 : Cond.methodLink "GlobDesk" 50 yX3_matches ∈ wsA := inA 113 rfl rfl
theorem mw115 : Cond.instanceMethod yX3_matches ∈ wsA := inA 115 rfl rfl
theorem mw116 : Cond.code yX3_matches prog_1_method_13_code 3 (Option.some ClassFile.FieldType.boolean) ∈ wsA := inA 116 rfl rfl
theorem mw117 : Cond.methodLink "GlobDesk" 61 yX3_standing ∈ wsA := inA 117 rfl rfl
theorem mw119 : Cond.instanceMethod yX3_standing ∈ wsA := inA 119 rfl rfl
theorem mw120 : Cond.code yX3_standing prog_1_method_18_code 2 (Option.some ClassFile.FieldType.int) ∈ wsA := inA 120 rfl rfl
theorem mw121 : Cond.methodLink "GlobDesk" 111 yX3_standingAsNumbers ∈ wsA := inA 121 rfl rfl
theorem mw123 : Cond.instanceMethod yX3_standingAsNumbers ∈ wsA := inA 123 rfl rfl
theorem mw124 : Cond.code yX3_standingAsNumbers prog_1_method_20_code 8 (Option.some ClassFile.FieldType.int) ∈ wsA := inA 124 rfl rfl
theorem mw125 : Cond.methodLink "GlobDesk" 124 yX1_digits ∈ wsA := inA 125 rfl rfl
theorem mw126 : Cond.instanceMethod yX1_digits ∈ wsA := inA 126 rfl rfl
theorem mw127 : Cond.selects "GlobDesk$Row" yX1_digits yX1_digits ∈ wsA := inA 127 rfl rfl
theorem mw128 : Cond.code yX1_digits prog_3_method_4_code 2 (Option.some ClassFile.FieldType.int) ∈ wsA := inA 128 rfl rfl
theorem mw129 : Cond.methodLink "GlobDesk" 121 yX3_signOf ∈ wsA := inA 129 rfl rfl
theorem mw130 : Cond.static yX3_signOf ∈ wsA := inA 130 rfl rfl
theorem mw131 : Cond.code yX3_signOf prog_1_method_21_code 2 (Option.some ClassFile.FieldType.int) ∈ wsA := inA 131 rfl rfl
theorem mw132 : Cond.methodLink "GlobDesk" 127 yX1_zerosBefore ∈ wsA := inA 132 rfl rfl
theorem mw133 : Cond.instanceMethod yX1_zerosBefore ∈ wsA := inA 133 rfl rfl
theorem mw134 : Cond.selects "GlobDesk$Row" yX1_zerosBefore yX1_zerosBefore ∈ wsA := inA 134 rfl rfl
theorem mw135 : Cond.code yX1_zerosBefore prog_3_method_5_code 3 (Option.some ClassFile.FieldType.int) ∈ wsA := inA 135 rfl rfl
theorem mw136 : Cond.methodLink "GlobDesk$Row" 19 yX1_at ∈ wsA := inA 136 rfl rfl
theorem mw137 : Cond.instanceMethod yX1_at ∈ wsA := inA 137 rfl rfl
theorem mw138 : Cond.selects "GlobDesk$Row" yX1_at yX1_at ∈ wsA := inA 138 rfl rfl
theorem mw139 : Cond.code yX1_at prog_3_method_3_code 2 (Option.some ClassFile.FieldType.int) ∈ wsA := inA 139 rfl rfl
theorem mw140 : Cond.methodLink "GlobDesk" 70 yX1_at ∈ wsA := inA 140 rfl rfl
theorem mw141 : Cond.methodLink "GlobDesk" 115 yX3_standingAsBytes ∈ wsA := inA 141 rfl rfl
theorem mw143 : Cond.instanceMethod yX3_standingAsBytes ∈ wsA := inA 143 rfl rfl
theorem mw144 : Cond.code yX3_standingAsBytes prog_1_method_19_code 5 (Option.some ClassFile.FieldType.int) ∈ wsA := inA 144 rfl rfl
theorem mw145 : Cond.methodLink "GlobDesk" 118 ({ cls := "java/lang/Math", name := "min", desc := "(II)I" } : MethodName) ∈ wsA := inA 145 rfl rfl
theorem mw146 : Cond.static ({ cls := "java/lang/Math", name := "min", desc := "(II)I" } : MethodName) ∈ wsA := inA 146 rfl rfl
theorem mw147 : Cond.code ({ cls := "java/lang/Math", name := "min", desc := "(II)I" } : MethodName) prog_7_method_69_code 2 (Option.some ClassFile.FieldType.int) ∈ wsA := inA 147 rfl rfl
theorem mw148 : Cond.methodLink "GlobDesk" 108 yX3_folded ∈ wsA := inA 148 rfl rfl
theorem mw149 : Cond.static yX3_folded ∈ wsA := inA 149 rfl rfl
theorem mw150 : Cond.code yX3_folded prog_1_method_22_code 3 (Option.some ClassFile.FieldType.int) ∈ wsA := inA 150 rfl rfl
theorem mw151 : Cond.methodLink "GlobDesk" 73 yX3_containsKey ∈ wsA := inA 151 rfl rfl
theorem mw153 : Cond.instanceMethod yX3_containsKey ∈ wsA := inA 153 rfl rfl
theorem mw154 : Cond.code yX3_containsKey prog_1_method_14_code 3 (Option.some ClassFile.FieldType.boolean) ∈ wsA := inA 154 rfl rfl
theorem mw155 : Cond.methodLink "GlobDesk" 79 yX0_readPlain ∈ wsA := inA 155 rfl rfl
theorem mw156 : Cond.instanceMethod yX0_readPlain ∈ wsA := inA 156 rfl rfl
theorem mw157 : Cond.selects "GlobDesk$Pattern" yX0_readPlain yX0_readPlain ∈ wsA := inA 157 rfl rfl
theorem mw158 : Cond.code yX0_readPlain prog_2_method_2_code 3 (Option.none : Option ClassFile.FieldType) ∈ wsA := inA 158 rfl rfl
theorem mw159 : Cond.methodLink "GlobDesk$Pattern" 22 yX1_at ∈ wsA := inA 159 rfl rfl
theorem mw160 : Cond.methodLink "GlobDesk$Pattern" 26 yX0_append ∈ wsA := inA 160 rfl rfl
theorem mw162 : Cond.instanceMethod yX0_append ∈ wsA := inA 162 rfl rfl
theorem mw163 : Cond.code yX0_append prog_2_method_6_code 2 (Option.none : Option ClassFile.FieldType) ∈ wsA := inA 163 rfl rfl
theorem mw164 : Cond.methodLink "GlobDesk" 84 yX3_firstPlace ∈ wsA := inA 164 rfl rfl
theorem mw166 : Cond.instanceMethod yX3_firstPlace ∈ wsA := inA 166 rfl rfl
theorem mw167 : Cond.code yX3_firstPlace prog_1_method_16_code 7 (Option.some ClassFile.FieldType.int) ∈ wsA := inA 167 rfl rfl
theorem mw168 : Cond.methodLink "GlobDesk" 97 yX3_fits ∈ wsA := inA 168 rfl rfl
theorem mw170 : Cond.instanceMethod yX3_fits ∈ wsA := inA 170 rfl rfl
theorem mw171 : Cond.code yX3_fits prog_1_method_17_code 8 (Option.some ClassFile.FieldType.boolean) ∈ wsA := inA 171 rfl rfl
theorem mw172 : Cond.methodLink "GlobDesk" 107 yX0_at ∈ wsA := inA 172 rfl rfl
theorem mw173 : Cond.instanceMethod yX0_at ∈ wsA := inA 173 rfl rfl
theorem mw174 : Cond.selects "GlobDesk$Pattern" yX0_at yX0_at ∈ wsA := inA 174 rfl rfl
theorem mw175 : Cond.code yX0_at prog_2_method_4_code 2 (Option.some ClassFile.FieldType.int) ∈ wsA := inA 175 rfl rfl
theorem mw176 : Cond.methodLink "GlobDesk" 88 yX2_append ∈ wsA := inA 176 rfl rfl
theorem mw177 : Cond.instanceMethod yX2_append ∈ wsA := inA 177 rfl rfl
theorem mw178 : Cond.selects "GlobDesk$Spans" yX2_append yX2_append ∈ wsA := inA 178 rfl rfl
theorem mw179 : Cond.code yX2_append prog_4_method_2_code 3 (Option.none : Option ClassFile.FieldType) ∈ wsA := inA 179 rfl rfl
theorem mw180 : Cond.methodLink "GlobDesk" 76 yX3_isLikeKey ∈ wsA := inA 180 rfl rfl
theorem mw182 : Cond.instanceMethod yX3_isLikeKey ∈ wsA := inA 182 rfl rfl
theorem mw183 : Cond.code yX3_isLikeKey prog_1_method_15_code 9 (Option.some ClassFile.FieldType.boolean) ∈ wsA := inA 183 rfl rfl
theorem mw184 : Cond.methodLink "GlobDesk" 91 yX0_readStars ∈ wsA := inA 184 rfl rfl
theorem mw185 : Cond.instanceMethod yX0_readStars ∈ wsA := inA 185 rfl rfl
theorem mw186 : Cond.selects "GlobDesk$Pattern" yX0_readStars yX0_readStars ∈ wsA := inA 186 rfl rfl
theorem mw187 : Cond.code yX0_readStars prog_2_method_3_code 4 (Option.none : Option ClassFile.FieldType) ∈ wsA := inA 187 rfl rfl
theorem mw188 : Cond.methodLink "GlobDesk" 94 yX0_starFrom ∈ wsA := inA 188 rfl rfl
theorem mw189 : Cond.instanceMethod yX0_starFrom ∈ wsA := inA 189 rfl rfl
theorem mw190 : Cond.selects "GlobDesk$Pattern" yX0_starFrom yX0_starFrom ∈ wsA := inA 190 rfl rfl
theorem mw191 : Cond.code yX0_starFrom prog_2_method_5_code 3 (Option.some ClassFile.FieldType.int) ∈ wsA := inA 191 rfl rfl
theorem mw192 : Cond.methodLink "GlobDesk$Pattern" 30 yX0_at ∈ wsA := inA 192 rfl rfl
theorem mw193 : Cond.methodLink "GlobDesk" 101 ({ cls := "java/lang/Math", name := "max", desc := "(II)I" } : MethodName) ∈ wsA := inA 193 rfl rfl
theorem mw194 : Cond.static ({ cls := "java/lang/Math", name := "max", desc := "(II)I" } : MethodName) ∈ wsA := inA 194 rfl rfl
theorem mw195 : Cond.code ({ cls := "java/lang/Math", name := "max", desc := "(II)I" } : MethodName) prog_7_method_65_code 2 (Option.some ClassFile.FieldType.int) ∈ wsA := inA 195 rfl rfl
theorem mw196 : Cond.methodLink "GlobDeskLaw" 30 yX3_spans ∈ wsA := inA 196 rfl rfl
theorem mw197 : Cond.instanceMethod yX3_spans ∈ wsA := inA 197 rfl rfl
theorem mw198 : Cond.selects "GlobDesk" yX3_spans yX3_spans ∈ wsA := inA 198 rfl rfl
theorem mw199 : Cond.code yX3_spans prog_1_method_5_code 1 (Option.some ClassFile.FieldType.int) ∈ wsA := inA 199 rfl rfl
theorem mw200 : Cond.methodLink "GlobDeskLaw" 35 yX3_span ∈ wsA := inA 200 rfl rfl
theorem mw201 : Cond.instanceMethod yX3_span ∈ wsA := inA 201 rfl rfl
theorem mw202 : Cond.selects "GlobDesk" yX3_span yX3_span ∈ wsA := inA 202 rfl rfl
theorem mw203 : Cond.code yX3_span prog_1_method_6_code 3 (Option.some ClassFile.FieldType.int) ∈ wsA := inA 203 rfl rfl
theorem mw204 : Cond.methodLink "GlobDesk" 54 yX2_beginOf ∈ wsA := inA 204 rfl rfl
theorem mw205 : Cond.instanceMethod yX2_beginOf ∈ wsA := inA 205 rfl rfl
theorem mw206 : Cond.selects "GlobDesk$Spans" yX2_beginOf yX2_beginOf ∈ wsA := inA 206 rfl rfl
theorem mw207 : Cond.code yX2_beginOf prog_4_method_3_code 2 (Option.some ClassFile.FieldType.int) ∈ wsA := inA 207 rfl rfl
theorem mw208 : Cond.methodLink "GlobDesk" 58 yX2_lengthOf ∈ wsA := inA 208 rfl rfl
theorem mw209 : Cond.instanceMethod yX2_lengthOf ∈ wsA := inA 209 rfl rfl
theorem mw210 : Cond.selects "GlobDesk$Spans" yX2_lengthOf yX2_lengthOf ∈ wsA := inA 210 rfl rfl
theorem mw211 : Cond.code yX2_lengthOf prog_4_method_4_code 2 (Option.some ClassFile.FieldType.int) ∈ wsA := inA 211 rfl rfl
theorem mw212 : Cond.methodLink "GlobDeskLaw" 39 yX3_order ∈ wsA := inA 212 rfl rfl
theorem mw213 : Cond.instanceMethod yX3_order ∈ wsA := inA 213 rfl rfl
theorem mw214 : Cond.selects "GlobDesk" yX3_order yX3_order ∈ wsA := inA 214 rfl rfl
theorem mw215 : Cond.code yX3_order prog_1_method_7_code 2 (Option.some ClassFile.FieldType.int) ∈ wsA := inA 215 rfl rfl
theorem mw216 : Cond.methodLink "GlobDeskLaw" 43 yX3_counts ∈ wsA := inA 216 rfl rfl
theorem mw217 : Cond.instanceMethod yX3_counts ∈ wsA := inA 217 rfl rfl
theorem mw218 : Cond.selects "GlobDesk" yX3_counts yX3_counts ∈ wsA := inA 218 rfl rfl
theorem mw219 : Cond.code yX3_counts prog_1_method_8_code 5 (Option.some ClassFile.FieldType.boolean) ∈ wsA := inA 219 rfl rfl
theorem mw220 : Cond.constantLong "GlobDesk" 64 (10000000000 : Int64) ∈ wsA := inA 220 rfl rfl
theorem mw221 : Cond.methodLink "GlobDesk" 66 yX1_numberUpTo ∈ wsA := inA 221 rfl rfl
theorem mw222 : Cond.instanceMethod yX1_numberUpTo ∈ wsA := inA 222 rfl rfl
theorem mw223 : Cond.selects "GlobDesk$Row" yX1_numberUpTo yX1_numberUpTo ∈ wsA := inA 223 rfl rfl
theorem mw224 : Cond.code yX1_numberUpTo prog_3_method_6_code 7 (Option.some ClassFile.FieldType.long) ∈ wsA := inA 224 rfl rfl
theorem mw225 : Cond.methodLink "GlobDesk$Row" 23 yX1_digits ∈ wsA := inA 225 rfl rfl
theorem mw226 : Cond.constantLong "GlobDesk$Row" 27 (10 : Int64) ∈ wsA := inA 226 rfl rfl
theorem mw227 : Cond.methodLink "GlobDesk$Row" 29 ({ cls := "java/lang/Math", name := "min", desc := "(JJ)J" } : MethodName) ∈ wsA := inA 227 rfl rfl
theorem mw228 : Cond.static ({ cls := "java/lang/Math", name := "min", desc := "(JJ)J" } : MethodName) ∈ wsA := inA 228 rfl rfl
theorem mw229 : Cond.code ({ cls := "java/lang/Math", name := "min", desc := "(JJ)J" } : MethodName) prog_7_method_70_code 4 (Option.some ClassFile.FieldType.long) ∈ wsA := inA 229 rfl rfl
theorem mw230 : Cond.methodLink "GlobDeskLaw" 48 yX3_byteAt ∈ wsA := inA 230 rfl rfl
theorem mw231 : Cond.instanceMethod yX3_byteAt ∈ wsA := inA 231 rfl rfl
theorem mw232 : Cond.selects "GlobDesk" yX3_byteAt yX3_byteAt ∈ wsA := inA 232 rfl rfl
theorem mw233 : Cond.code yX3_byteAt prog_1_method_9_code 4 (Option.some ClassFile.FieldType.int) ∈ wsA := inA 233 rfl rfl
theorem mw234 : Cond.methodLink "GlobDeskLaw" 52 yX3_size ∈ wsA := inA 234 rfl rfl
theorem mw235 : Cond.instanceMethod yX3_size ∈ wsA := inA 235 rfl rfl
theorem mw236 : Cond.selects "GlobDesk" yX3_size yX3_size ∈ wsA := inA 236 rfl rfl
theorem mw237 : Cond.code yX3_size prog_1_method_10_code 3 (Option.some ClassFile.FieldType.int) ∈ wsA := inA 237 rfl rfl
theorem mw238 : Cond.classLink "GlobDeskLaw" 10 "GlobDeskModel" ∈ wsA := inA 238 rfl rfl
theorem mw239 : Cond.instantiable "GlobDeskModel" 12 ∈ wsA := inA 239 rfl rfl
theorem mw240 : Cond.methodLink "GlobDeskLaw" 12 yX4_init ∈ wsA := inA 240 rfl rfl
theorem mw241 : Cond.instanceMethod yX4_init ∈ wsA := inA 241 rfl rfl
theorem mw242 : Cond.code yX4_init prog_6_method_1_code 1 (Option.none : Option ClassFile.FieldType) ∈ wsA := inA 242 rfl rfl
theorem mw243 : Cond.methodLink "GlobDeskModel" 1 ({ cls := "java/lang/Object", name := "<init>", desc := "()V" } : MethodName) ∈ wsA := inA 243 rfl rfl
theorem mw244 : Cond.fieldLink "GlobDeskModel" 7 "GlobDeskModel" "thrownCode" "I" ∈ wsA := inA 244 rfl rfl
theorem mw245 : Cond.fieldLink "GlobDeskModel" 13 "GlobDeskModel" "value" "[I" ∈ wsA := inA 245 rfl rfl
theorem mw246 : Cond.fieldLink "GlobDeskModel" 17 "GlobDeskModel" "key" "[I" ∈ wsA := inA 246 rfl rfl
theorem mw247 : Cond.fieldLink "GlobDeskModel" 20 "GlobDeskModel" "values" "I" ∈ wsA := inA 247 rfl rfl
theorem mw248 : Cond.fieldLink "GlobDeskModel" 23 "GlobDeskModel" "keys" "I" ∈ wsA := inA 248 rfl rfl
theorem mw249 : Cond.fieldLink "GlobDeskModel" 26 "GlobDeskModel" "signs" "I" ∈ wsA := inA 249 rfl rfl
theorem mw250 : Cond.fieldLink "GlobDeskModel" 29 "GlobDeskModel" "sign" "[I" ∈ wsA := inA 250 rfl rfl
theorem mw251 : Cond.fieldLink "GlobDeskModel" 32 "GlobDeskModel" "literal" "[I" ∈ wsA := inA 251 rfl rfl
theorem mw252 : Cond.fieldLink "GlobDeskModel" 35 "GlobDeskModel" "can" "[Z" ∈ wsA := inA 252 rfl rfl
theorem mw253 : Cond.fieldLink "GlobDeskModel" 39 "GlobDeskModel" "spanCount" "I" ∈ wsA := inA 253 rfl rfl
theorem mw254 : Cond.fieldLink "GlobDeskModel" 42 "GlobDeskModel" "from" "[I" ∈ wsA := inA 254 rfl rfl
theorem mw255 : Cond.fieldLink "GlobDeskModel" 45 "GlobDeskModel" "many" "[I" ∈ wsA := inA 255 rfl rfl
theorem mw256 : Cond.lays "GlobDeskModel" "GlobDeskModel" "thrownCode" "I" ∈ wsA := inA 256 rfl rfl
theorem mw258 : Cond.laysFinal "GlobDeskModel" "GlobDeskModel" "value" "[I" ∈ wsA := inA 258 rfl rfl
theorem mw260 : Cond.laysFinal "GlobDeskModel" "GlobDeskModel" "key" "[I" ∈ wsA := inA 260 rfl rfl
theorem mw262 : Cond.lays "GlobDeskModel" "GlobDeskModel" "values" "I" ∈ wsA := inA 262 rfl rfl
theorem mw264 : Cond.lays "GlobDeskModel" "GlobDeskModel" "keys" "I" ∈ wsA := inA 264 rfl rfl
theorem mw266 : Cond.lays "GlobDeskModel" "GlobDeskModel" "signs" "I" ∈ wsA := inA 266 rfl rfl
theorem mw268 : Cond.laysFinal "GlobDeskModel" "GlobDeskModel" "sign" "[I" ∈ wsA := inA 268 rfl rfl
theorem mw270 : Cond.laysFinal "GlobDeskModel" "GlobDeskModel" "literal" "[I" ∈ wsA := inA 270 rfl rfl
theorem mw272 : Cond.laysFinal "GlobDeskModel" "GlobDeskModel" "can" "[Z" ∈ wsA := inA 272 rfl rfl
theorem mw274 : Cond.lays "GlobDeskModel" "GlobDeskModel" "spanCount" "I" ∈ wsA := inA 274 rfl rfl
theorem mw276 : Cond.laysFinal "GlobDeskModel" "GlobDeskModel" "from" "[I" ∈ wsA := inA 276 rfl rfl
theorem mw278 : Cond.laysFinal "GlobDeskModel" "GlobDeskModel" "many" "[I" ∈ wsA := inA 278 rfl rfl
theorem mw281 : Cond.arrayClass ClassFile.FieldType.boolean ∈ wsA := inA 281 rfl rfl
theorem mw282 : Cond.methodLink "GlobDeskLaw" 19 yX4_put ∈ wsA := inA 282 rfl rfl
theorem mw283 : Cond.instanceMethod yX4_put ∈ wsA := inA 283 rfl rfl
theorem mw284 : Cond.selects "GlobDeskModel" yX4_put yX4_put ∈ wsA := inA 284 rfl rfl
theorem mw285 : Cond.code yX4_put prog_6_method_11_code 7 (Option.some ClassFile.FieldType.boolean) ∈ wsA := inA 285 rfl rfl
theorem mw286 : Cond.methodLink "GlobDeskLaw" 24 yX4_clear ∈ wsA := inA 286 rfl rfl
theorem mw287 : Cond.instanceMethod yX4_clear ∈ wsA := inA 287 rfl rfl
theorem mw288 : Cond.selects "GlobDeskModel" yX4_clear yX4_clear ∈ wsA := inA 288 rfl rfl
theorem mw289 : Cond.code yX4_clear prog_6_method_12_code 3 (Option.some ClassFile.FieldType.int) ∈ wsA := inA 289 rfl rfl
theorem mw290 : Cond.methodLink "GlobDeskLaw" 29 yX4_match ∈ wsA := inA 290 rfl rfl
theorem mw291 : Cond.instanceMethod yX4_match ∈ wsA := inA 291 rfl rfl
theorem mw292 : Cond.selects "GlobDeskModel" yX4_match yX4_match ∈ wsA := inA 292 rfl rfl
theorem mw293 : Cond.code yX4_match prog_6_method_13_code 3 (Option.some ClassFile.FieldType.int) ∈ wsA := inA 293 rfl rfl
theorem mw294 : Cond.methodLink "GlobDeskModel" 66 yX4_compare ∈ wsA := inA 294 rfl rfl
theorem mw296 : Cond.instanceMethod yX4_compare ∈ wsA := inA 296 rfl rfl
theorem mw297 : Cond.code yX4_compare prog_6_method_6_code 5 (Option.some ClassFile.FieldType.int) ∈ wsA := inA 297 rfl rfl
theorem mw298 : Cond.methodLink "GlobDeskModel" 55 yX4_byNumbers ∈ wsA := inA 298 rfl rfl
theorem mw300 : Cond.instanceMethod yX4_byNumbers ∈ wsA := inA 300 rfl rfl
theorem mw301 : Cond.code yX4_byNumbers prog_6_method_5_code 5 (Option.some ClassFile.FieldType.int) ∈ wsA := inA 301 rfl rfl
theorem mw302 : Cond.methodLink "GlobDeskModel" 48 yX4_digits ∈ wsA := inA 302 rfl rfl
theorem mw303 : Cond.static yX4_digits ∈ wsA := inA 303 rfl rfl
theorem mw304 : Cond.code yX4_digits prog_6_method_3_code 3 (Option.some ClassFile.FieldType.int) ∈ wsA := inA 304 rfl rfl
theorem mw305 : Cond.methodLink "GlobDeskModel" 52 yX4_zeros ∈ wsA := inA 305 rfl rfl
theorem mw306 : Cond.static yX4_zeros ∈ wsA := inA 306 rfl rfl
theorem mw307 : Cond.code yX4_zeros prog_6_method_4_code 3 (Option.some ClassFile.FieldType.int) ∈ wsA := inA 307 rfl rfl
theorem mw308 : Cond.methodLink "GlobDeskModel" 59 yX4_folded ∈ wsA := inA 308 rfl rfl
theorem mw309 : Cond.static yX4_folded ∈ wsA := inA 309 rfl rfl
theorem mw310 : Cond.code yX4_folded prog_6_method_2_code 2 (Option.some ClassFile.FieldType.int) ∈ wsA := inA 310 rfl rfl
theorem mw311 : Cond.methodLink "GlobDeskModel" 70 yX4_contains ∈ wsA := inA 311 rfl rfl
theorem mw313 : Cond.instanceMethod yX4_contains ∈ wsA := inA 313 rfl rfl
theorem mw314 : Cond.code yX4_contains prog_6_method_7_code 4 (Option.some ClassFile.FieldType.boolean) ∈ wsA := inA 314 rfl rfl
theorem mw315 : Cond.methodLink "GlobDeskModel" 74 yX4_like ∈ wsA := inA 315 rfl rfl
theorem mw317 : Cond.instanceMethod yX4_like ∈ wsA := inA 317 rfl rfl
theorem mw318 : Cond.code yX4_like prog_6_method_9_code 5 (Option.some ClassFile.FieldType.boolean) ∈ wsA := inA 318 rfl rfl
theorem mw319 : Cond.methodLink "GlobDeskModel" 63 yX4_findSigns ∈ wsA := inA 319 rfl rfl
theorem mw321 : Cond.instanceMethod yX4_findSigns ∈ wsA := inA 321 rfl rfl
theorem mw322 : Cond.code yX4_findSigns prog_6_method_8_code 3 (Option.none : Option ClassFile.FieldType) ∈ wsA := inA 322 rfl rfl
theorem mw323 : Cond.methodLink "GlobDeskLaw" 34 yX4_spans ∈ wsA := inA 323 rfl rfl
theorem mw324 : Cond.instanceMethod yX4_spans ∈ wsA := inA 324 rfl rfl
theorem mw325 : Cond.selects "GlobDeskModel" yX4_spans yX4_spans ∈ wsA := inA 325 rfl rfl
theorem mw326 : Cond.code yX4_spans prog_6_method_14_code 1 (Option.some ClassFile.FieldType.int) ∈ wsA := inA 326 rfl rfl
theorem mw327 : Cond.methodLink "GlobDeskLaw" 38 yX4_span ∈ wsA := inA 327 rfl rfl
theorem mw328 : Cond.instanceMethod yX4_span ∈ wsA := inA 328 rfl rfl
theorem mw329 : Cond.selects "GlobDeskModel" yX4_span yX4_span ∈ wsA := inA 329 rfl rfl
theorem mw330 : Cond.code yX4_span prog_6_method_15_code 3 (Option.some ClassFile.FieldType.int) ∈ wsA := inA 330 rfl rfl
theorem mw331 : Cond.methodLink "GlobDeskLaw" 42 yX4_order ∈ wsA := inA 331 rfl rfl
theorem mw332 : Cond.instanceMethod yX4_order ∈ wsA := inA 332 rfl rfl
theorem mw333 : Cond.selects "GlobDeskModel" yX4_order yX4_order ∈ wsA := inA 333 rfl rfl
theorem mw334 : Cond.code yX4_order prog_6_method_16_code 2 (Option.some ClassFile.FieldType.int) ∈ wsA := inA 334 rfl rfl
theorem mw335 : Cond.methodLink "GlobDeskLaw" 47 yX4_counts ∈ wsA := inA 335 rfl rfl
theorem mw336 : Cond.instanceMethod yX4_counts ∈ wsA := inA 336 rfl rfl
theorem mw337 : Cond.selects "GlobDeskModel" yX4_counts yX4_counts ∈ wsA := inA 337 rfl rfl
theorem mw338 : Cond.code yX4_counts prog_6_method_17_code 7 (Option.some ClassFile.FieldType.boolean) ∈ wsA := inA 338 rfl rfl
theorem mw339 : Cond.constantLong "GlobDeskModel" 77 (4000000000 : Int64) ∈ wsA := inA 339 rfl rfl
theorem mw340 : Cond.constantLong "GlobDeskModel" 79 (3000000000 : Int64) ∈ wsA := inA 340 rfl rfl
theorem mw341 : Cond.constantLong "GlobDeskModel" 81 (10 : Int64) ∈ wsA := inA 341 rfl rfl
theorem mw342 : Cond.constantLong "GlobDeskModel" 83 (48 : Int64) ∈ wsA := inA 342 rfl rfl
theorem mw343 : Cond.methodLink "GlobDeskLaw" 51 yX4_byteAt ∈ wsA := inA 343 rfl rfl
theorem mw344 : Cond.instanceMethod yX4_byteAt ∈ wsA := inA 344 rfl rfl
theorem mw345 : Cond.selects "GlobDeskModel" yX4_byteAt yX4_byteAt ∈ wsA := inA 345 rfl rfl
theorem mw346 : Cond.code yX4_byteAt prog_6_method_18_code 3 (Option.some ClassFile.FieldType.int) ∈ wsA := inA 346 rfl rfl
theorem mw347 : Cond.methodLink "GlobDeskLaw" 55 yX4_size ∈ wsA := inA 347 rfl rfl
theorem mw348 : Cond.instanceMethod yX4_size ∈ wsA := inA 348 rfl rfl
theorem mw349 : Cond.selects "GlobDeskModel" yX4_size yX4_size ∈ wsA := inA 349 rfl rfl
theorem mw350 : Cond.code yX4_size prog_6_method_19_code 2 (Option.some ClassFile.FieldType.int) ∈ wsA := inA 350 rfl rfl
theorem mw351 : Cond.constantLong "GlobDeskLaw" 13 (4294967295 : Int64) ∈ wsA := inA 351 rfl rfl
