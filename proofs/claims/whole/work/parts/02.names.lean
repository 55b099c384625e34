/-! ===== BEGIN printed: names, fields, word lists, decode rows ===== -/
def RX0 : String := "FacetCounts"
def TX0 : u_T := fun k => match k with
  | 0 => ("FacetCounts", "given", "[I", true)
  | 1 => ("FacetCounts", "kinds", "[I", true)
  | 2 => ("FacetCounts", "uppers", "[I", true)
  | 3 => ("FacetCounts", "chosen", "[I", true)
  | 4 => ("FacetCounts", "before", "[I", true)
  | 5 => ("FacetCounts", "counts", "[I", true)
  | _ => ("FacetCounts", "rowCount", "I", false)
def tyX0 : Nat → FieldType := fun k => match k with
  | 0 => .array .int
  | 1 => .array .int
  | 2 => .array .int
  | 3 => .array .int
  | 4 => .array .int
  | 5 => .array .int
  | _ => .int
abbrev wsX00 : List Cond := u_ws RX0 TX0 7
theorem nmX0 : ∀ a, a < 7 → ∀ b, b < 7 → a ≠ b → (TX0 a).2.1 ≠ (TX0 b).2.1 := by decide +kernel
theorem tyX0_ok : ∀ k, k < 7 → parseFieldDescriptor (TX0 k).2.2.1 = some (tyX0 k) := by decide +kernel
abbrev cX0_init : ByteArray := prog_1_method_1_code
def yX0_init : MethodName := ⟨RX0, "<init>", "()V"⟩
abbrev cX0_row : ByteArray := prog_1_method_2_code
def yX0_row : MethodName := ⟨RX0, "row", "(III)I"⟩
abbrev cX0_drop : ByteArray := prog_1_method_3_code
def yX0_drop : MethodName := ⟨RX0, "drop", "(III)I"⟩
abbrev cX0_above : ByteArray := prog_1_method_4_code
def yX0_above : MethodName := ⟨RX0, "above", "(II)I"⟩
abbrev cX0_choose : ByteArray := prog_1_method_5_code
def yX0_choose : MethodName := ⟨RX0, "choose", "(IIZ)I"⟩
abbrev cX0_kept : ByteArray := prog_1_method_6_code
def yX0_kept : MethodName := ⟨RX0, "kept", "()I"⟩
abbrev cX0_isKept : ByteArray := prog_1_method_7_code
def yX0_isKept : MethodName := ⟨RX0, "isKept", "(I)I"⟩
abbrev cX0_facet : ByteArray := prog_1_method_8_code
def yX0_facet : MethodName := ⟨RX0, "facet", "(II)I"⟩
abbrev cX0_top : ByteArray := prog_1_method_9_code
def yX0_top : MethodName := ⟨RX0, "top", "(II)I"⟩
abbrev cX0_range : ByteArray := prog_1_method_10_code
def yX0_range : MethodName := ⟨RX0, "range", "(III)I"⟩
abbrev cX0_sum : ByteArray := prog_1_method_11_code
def yX0_sum : MethodName := ⟨RX0, "sum", "(III)I"⟩
abbrev cX0_share : ByteArray := prog_1_method_12_code
def yX0_share : MethodName := ⟨RX0, "share", "(IIZ)I"⟩
abbrev cX0_changed : ByteArray := prog_1_method_13_code
def yX0_changed : MethodName := ⟨RX0, "changed", "()I"⟩
abbrev cX0_rows : ByteArray := prog_1_method_14_code
def yX0_rows : MethodName := ⟨RX0, "rows", "()I"⟩
abbrev cX0_isThing : ByteArray := prog_1_method_15_code
def yX0_isThing : MethodName := ⟨RX0, "isThing", "(I)Z"⟩
abbrev cX0_isHead : ByteArray := prog_1_method_16_code
def yX0_isHead : MethodName := ⟨RX0, "isHead", "(I)Z"⟩
abbrev cX0_isValue : ByteArray := prog_1_method_17_code
def yX0_isValue : MethodName := ⟨RX0, "isValue", "(I)Z"⟩
abbrev cX0_holds : ByteArray := prog_1_method_18_code
def yX0_holds : MethodName := ⟨RX0, "holds", "(II)Z"⟩
abbrev cX0_valuesOf : ByteArray := prog_1_method_19_code
def yX0_valuesOf : MethodName := ⟨RX0, "valuesOf", "(II)I"⟩
abbrev cX0_renewKinds : ByteArray := prog_1_method_20_code
def yX0_renewKinds : MethodName := ⟨RX0, "renewKinds", "(I)V"⟩
abbrev cX0_withUppers : ByteArray := prog_1_method_21_code
def yX0_withUppers : MethodName := ⟨RX0, "withUppers", "(II)I"⟩
abbrev cX0_lackedHeads : ByteArray := prog_1_method_22_code
def yX0_lackedHeads : MethodName := ⟨RX0, "lackedHeads", "(I)I"⟩
abbrev cX0_isKeptBut : ByteArray := prog_1_method_23_code
def yX0_isKeptBut : MethodName := ⟨RX0, "isKeptBut", "(II)Z"⟩
abbrev cX0_countKept : ByteArray := prog_1_method_24_code
def yX0_countKept : MethodName := ⟨RX0, "countKept", "()I"⟩
abbrev cX0_countKeptBut : ByteArray := prog_1_method_25_code
def yX0_countKeptBut : MethodName := ⟨RX0, "countKeptBut", "(I)I"⟩
abbrev cX0_countWithAny : ByteArray := prog_1_method_26_code
def yX0_countWithAny : MethodName := ⟨RX0, "countWithAny", "(II)I"⟩
abbrev cX0_countAll : ByteArray := prog_1_method_27_code
def yX0_countAll : MethodName := ⟨RX0, "countAll", "()V"⟩
abbrev cX0_countValues : ByteArray := prog_1_method_28_code
def yX0_countValues : MethodName := ⟨RX0, "countValues", "(II)V"⟩
abbrev cX0_rankOf : ByteArray := prog_1_method_29_code
def yX0_rankOf : MethodName := ⟨RX0, "rankOf", "(II)I"⟩
abbrev cX0_span : ByteArray := prog_1_method_30_code
def yX0_span : MethodName := ⟨RX0, "span", "(II)I"⟩
abbrev cX0_sumOf : ByteArray := prog_1_method_31_code
def yX0_sumOf : MethodName := ⟨RX0, "sumOf", "(I)I"⟩
abbrev cX0_inLeastTerms : ByteArray := prog_1_method_32_code
def yX0_inLeastTerms : MethodName := ⟨RX0, "inLeastTerms", "(III)I"⟩
def RX1 : String := "FacetCountsModel"
def TX1 : u_T := fun k => match k with
  | _ => ("", "", "", false)
def tyX1 : Nat → FieldType := fun k => match k with
  | _ => .int
abbrev wsX10 : List Cond := u_ws RX1 TX1 0
theorem nmX1 : ∀ a, a < 0 → ∀ b, b < 0 → a ≠ b → (TX1 a).2.1 ≠ (TX1 b).2.1 := by decide +kernel
theorem tyX1_ok : ∀ k, k < 0 → parseFieldDescriptor (TX1 k).2.2.1 = some (tyX1 k) := by decide +kernel
def RJ9 : String := "java/lang/Math"
def TJ9 : u_T := fun k => match k with
  | _ => ("", "", "", false)
def tyJ9 : Nat → FieldType := fun k => match k with
  | _ => .int
abbrev wsJ90 : List Cond := u_ws RJ9 TJ9 0
theorem nmJ9 : ∀ a, a < 0 → ∀ b, b < 0 → a ≠ b → (TJ9 a).2.1 ≠ (TJ9 b).2.1 := by decide +kernel
theorem tyJ9_ok : ∀ k, k < 0 → parseFieldDescriptor (TJ9 k).2.2.1 = some (tyJ9 k) := by decide +kernel
abbrev cJ9_max_7cf53 : ByteArray := prog_6_method_65_code
def yJ9_max_7cf53 : MethodName := ⟨RJ9, "max", "(II)I"⟩
abbrev cJ9_min_7cf53 : ByteArray := prog_6_method_69_code
def yJ9_min_7cf53 : MethodName := ⟨RJ9, "min", "(II)I"⟩
def RJ0 : String := "java/lang/String"
def TJ0 : u_T := fun k => match k with
  | _ => ("", "", "", false)
def tyJ0 : Nat → FieldType := fun k => match k with
  | _ => .int
abbrev wsJ00 : List Cond := u_ws RJ0 TJ0 0
theorem nmJ0 : ∀ a, a < 0 → ∀ b, b < 0 → a ≠ b → (TJ0 a).2.1 ≠ (TJ0 b).2.1 := by decide +kernel
theorem tyJ0_ok : ∀ k, k < 0 → parseFieldDescriptor (TJ0 k).2.2.1 = some (tyJ0 k) := by decide +kernel
def RJ7 : String := "java/util/Arrays"
def TJ7 : u_T := fun k => match k with
  | _ => ("", "", "", false)
def tyJ7 : Nat → FieldType := fun k => match k with
  | _ => .int
abbrev wsJ70 : List Cond := u_ws RJ7 TJ7 0
theorem nmJ7 : ∀ a, a < 0 → ∀ b, b < 0 → a ≠ b → (TJ7 a).2.1 ≠ (TJ7 b).2.1 := by decide +kernel
theorem tyJ7_ok : ∀ k, k < 0 → parseFieldDescriptor (TJ7 k).2.2.1 = some (tyJ7 k) := by decide +kernel
abbrev cJ7_fill_53178 : ByteArray := prog_10_method_103_code
def yJ7_fill_53178 : MethodName := ⟨RJ7, "fill", "([II)V"⟩
def RL : String := "FacetCountsLaw"
abbrev cL_share : ByteArray := method_3_code
def yL_share : MethodName := ⟨RL, "share", "(LFacetCounts;IIZ[J)I"⟩
abbrev cL_law : ByteArray := code
def yL_law : MethodName := ⟨RL, "law", "([I)Z"⟩
def wsJ7_fill_53178 : List Cond := .code yJ7_fill_53178 cJ7_fill_53178 4 none :: ([])
def wsX0_init : List Cond := .code yX0_init cX0_init 1 none :: ([.methodLink RX0 1 objectInit, .instanceMethod objectInit, .code objectInit ⟨#[0xb1]⟩ 1 none, .arrayClass .int, .fieldLink RX0 9 "FacetCounts" "given" "[I", .fieldLink RX0 13 "FacetCounts" "kinds" "[I", .fieldLink RX0 16 "FacetCounts" "uppers" "[I", .fieldLink RX0 19 "FacetCounts" "chosen" "[I", .fieldLink RX0 22 "FacetCounts" "before" "[I", .fieldLink RX0 25 "FacetCounts" "counts" "[I", .fieldLink RX0 28 "FacetCounts" "rowCount" "I", .methodLink RX0 32 yJ7_fill_53178, .static yJ7_fill_53178, .initialized RJ7, .code yJ7_fill_53178 cJ7_fill_53178 4 none] ++ wsX00)
def wsX0_isThing : List Cond := .code yX0_isThing cX0_isThing 1 (some .boolean) :: ([])
def wsX0_isHead : List Cond := .code yX0_isHead cX0_isHead 1 (some .boolean) :: ([])
def wsX0_isValue : List Cond := .code yX0_isValue cX0_isValue 1 (some .boolean) :: ([])
def wsX0_holds : List Cond := .code yX0_holds cX0_holds 2 (some .boolean) :: ([])
def wsX0_withUppers : List Cond := .code yX0_withUppers cX0_withUppers 6 (some .int) :: ([.fieldLink RX0 16 "FacetCounts" "uppers" "[I", .methodLink RX0 45 yX0_isValue, .static yX0_isValue, .initialized RX0, .code yX0_isValue cX0_isValue 1 (some .boolean), .methodLink RX0 48 yX0_holds, .static yX0_holds, .code yX0_holds cX0_holds 2 (some .boolean)] ++ wsX00)
def wsX0_renewKinds : List Cond := .code yX0_renewKinds cX0_renewKinds 5 none :: ([.fieldLink RX0 9 "FacetCounts" "given" "[I", .fieldLink RX0 13 "FacetCounts" "kinds" "[I", .methodLink RX0 48 yX0_holds, .static yX0_holds, .initialized RX0, .code yX0_holds cX0_holds 2 (some .boolean), .methodLink RX0 56 yX0_withUppers, .instanceMethod yX0_withUppers, .selects RX0 yX0_withUppers yX0_withUppers, .code yX0_withUppers cX0_withUppers 6 (some .int), .fieldLink RX0 16 "FacetCounts" "uppers" "[I", .methodLink RX0 45 yX0_isValue, .static yX0_isValue, .code yX0_isValue cX0_isValue 1 (some .boolean)] ++ wsX00)
def wsX0_row_r1 : List Cond := [Cond.fieldLink RX0 9 "FacetCounts" "given" "[I", Cond.fieldLink RX0 28 "FacetCounts" "rowCount" "I", Cond.methodLink RX0 38 yX0_isThing, Cond.static yX0_isThing, Cond.initialized RX0, Cond.code yX0_isThing cX0_isThing 1 (some .boolean), Cond.methodLink RX0 42 yX0_isHead, Cond.static yX0_isHead, Cond.code yX0_isHead cX0_isHead 1 (some .boolean), Cond.methodLink RX0 45 yX0_isValue, Cond.static yX0_isValue, Cond.code yX0_isValue cX0_isValue 1 (some .boolean), Cond.methodLink RX0 48 yX0_holds, Cond.static yX0_holds, Cond.code yX0_holds cX0_holds 2 (some .boolean), Cond.methodLink RX0 52 yX0_renewKinds, Cond.instanceMethod yX0_renewKinds, Cond.selects RX0 yX0_renewKinds yX0_renewKinds, Cond.code yX0_renewKinds cX0_renewKinds 5 none, Cond.fieldLink RX0 13 "FacetCounts" "kinds" "[I", Cond.methodLink RX0 56 yX0_withUppers, Cond.instanceMethod yX0_withUppers, Cond.selects RX0 yX0_withUppers yX0_withUppers, Cond.code yX0_withUppers cX0_withUppers 6 (some .int)]
def wsX0_row_r2 : List Cond := [Cond.fieldLink RX0 16 "FacetCounts" "uppers" "[I"]
def wsX0_row : List Cond := .code yX0_row cX0_row 5 (some .int) :: ((wsX0_row_r1 ++ wsX0_row_r2) ++ wsX00)
def wsX0_drop_r1 : List Cond := [Cond.fieldLink RX0 9 "FacetCounts" "given" "[I", Cond.fieldLink RX0 28 "FacetCounts" "rowCount" "I", Cond.methodLink RX0 38 yX0_isThing, Cond.static yX0_isThing, Cond.initialized RX0, Cond.code yX0_isThing cX0_isThing 1 (some .boolean), Cond.methodLink RX0 42 yX0_isHead, Cond.static yX0_isHead, Cond.code yX0_isHead cX0_isHead 1 (some .boolean), Cond.methodLink RX0 45 yX0_isValue, Cond.static yX0_isValue, Cond.code yX0_isValue cX0_isValue 1 (some .boolean), Cond.methodLink RX0 48 yX0_holds, Cond.static yX0_holds, Cond.code yX0_holds cX0_holds 2 (some .boolean), Cond.methodLink RX0 52 yX0_renewKinds, Cond.instanceMethod yX0_renewKinds, Cond.selects RX0 yX0_renewKinds yX0_renewKinds, Cond.code yX0_renewKinds cX0_renewKinds 5 none, Cond.fieldLink RX0 13 "FacetCounts" "kinds" "[I", Cond.methodLink RX0 56 yX0_withUppers, Cond.instanceMethod yX0_withUppers, Cond.selects RX0 yX0_withUppers yX0_withUppers, Cond.code yX0_withUppers cX0_withUppers 6 (some .int)]
def wsX0_drop_r2 : List Cond := [Cond.fieldLink RX0 16 "FacetCounts" "uppers" "[I"]
def wsX0_drop : List Cond := .code yX0_drop cX0_drop 5 (some .int) :: ((wsX0_drop_r1 ++ wsX0_drop_r2) ++ wsX00)
def wsX0_above : List Cond := .code yX0_above cX0_above 4 (some .int) :: ([.fieldLink RX0 16 "FacetCounts" "uppers" "[I", .methodLink RX0 45 yX0_isValue, .static yX0_isValue, .initialized RX0, .code yX0_isValue cX0_isValue 1 (some .boolean), .methodLink RX0 56 yX0_withUppers, .instanceMethod yX0_withUppers, .selects RX0 yX0_withUppers yX0_withUppers, .code yX0_withUppers cX0_withUppers 6 (some .int), .methodLink RX0 48 yX0_holds, .static yX0_holds, .code yX0_holds cX0_holds 2 (some .boolean), .methodLink RX0 52 yX0_renewKinds, .instanceMethod yX0_renewKinds, .selects RX0 yX0_renewKinds yX0_renewKinds, .code yX0_renewKinds cX0_renewKinds 5 none, .fieldLink RX0 9 "FacetCounts" "given" "[I", .fieldLink RX0 13 "FacetCounts" "kinds" "[I"] ++ wsX00)
def wsX0_valuesOf : List Cond := .code yX0_valuesOf cX0_valuesOf 3 (some .int) :: ([.fieldLink RX0 13 "FacetCounts" "kinds" "[I", .fieldLink RX0 9 "FacetCounts" "given" "[I"] ++ wsX00)
def wsX0_lackedHeads : List Cond := .code yX0_lackedHeads cX0_lackedHeads 4 (some .int) :: ([.fieldLink RX0 19 "FacetCounts" "chosen" "[I", .methodLink RX0 80 yX0_valuesOf, .instanceMethod yX0_valuesOf, .selects RX0 yX0_valuesOf yX0_valuesOf, .initialized RX0, .code yX0_valuesOf cX0_valuesOf 3 (some .int), .fieldLink RX0 13 "FacetCounts" "kinds" "[I", .fieldLink RX0 9 "FacetCounts" "given" "[I"] ++ wsX00)
def wsX0_countKept : List Cond := .code yX0_countKept cX0_countKept 3 (some .int) :: ([.methodLink RX0 64 yX0_lackedHeads, .instanceMethod yX0_lackedHeads, .selects RX0 yX0_lackedHeads yX0_lackedHeads, .initialized RX0, .code yX0_lackedHeads cX0_lackedHeads 4 (some .int), .fieldLink RX0 19 "FacetCounts" "chosen" "[I", .methodLink RX0 80 yX0_valuesOf, .instanceMethod yX0_valuesOf, .selects RX0 yX0_valuesOf yX0_valuesOf, .code yX0_valuesOf cX0_valuesOf 3 (some .int), .fieldLink RX0 13 "FacetCounts" "kinds" "[I", .fieldLink RX0 9 "FacetCounts" "given" "[I"] ++ wsX00)
def wsX0_choose : List Cond := .code yX0_choose cX0_choose 4 (some .int) :: ([.fieldLink RX0 19 "FacetCounts" "chosen" "[I", .methodLink RX0 42 yX0_isHead, .static yX0_isHead, .initialized RX0, .code yX0_isHead cX0_isHead 1 (some .boolean), .methodLink RX0 45 yX0_isValue, .static yX0_isValue, .code yX0_isValue cX0_isValue 1 (some .boolean), .methodLink RX0 60 yX0_countKept, .instanceMethod yX0_countKept, .selects RX0 yX0_countKept yX0_countKept, .code yX0_countKept cX0_countKept 3 (some .int), .methodLink RX0 64 yX0_lackedHeads, .instanceMethod yX0_lackedHeads, .selects RX0 yX0_lackedHeads yX0_lackedHeads, .code yX0_lackedHeads cX0_lackedHeads 4 (some .int), .methodLink RX0 80 yX0_valuesOf, .instanceMethod yX0_valuesOf, .selects RX0 yX0_valuesOf yX0_valuesOf, .code yX0_valuesOf cX0_valuesOf 3 (some .int), .fieldLink RX0 13 "FacetCounts" "kinds" "[I", .fieldLink RX0 9 "FacetCounts" "given" "[I"] ++ wsX00)
def wsX0_kept : List Cond := .code yX0_kept cX0_kept 1 (some .int) :: ([.methodLink RX0 60 yX0_countKept, .instanceMethod yX0_countKept, .selects RX0 yX0_countKept yX0_countKept, .initialized RX0, .code yX0_countKept cX0_countKept 3 (some .int), .methodLink RX0 64 yX0_lackedHeads, .instanceMethod yX0_lackedHeads, .selects RX0 yX0_lackedHeads yX0_lackedHeads, .code yX0_lackedHeads cX0_lackedHeads 4 (some .int), .fieldLink RX0 19 "FacetCounts" "chosen" "[I", .methodLink RX0 80 yX0_valuesOf, .instanceMethod yX0_valuesOf, .selects RX0 yX0_valuesOf yX0_valuesOf, .code yX0_valuesOf cX0_valuesOf 3 (some .int), .fieldLink RX0 13 "FacetCounts" "kinds" "[I", .fieldLink RX0 9 "FacetCounts" "given" "[I"] ++ wsX00)
def wsX0_isKept : List Cond := .code yX0_isKept cX0_isKept 2 (some .int) :: ([.methodLink RX0 38 yX0_isThing, .static yX0_isThing, .initialized RX0, .code yX0_isThing cX0_isThing 1 (some .boolean), .methodLink RX0 64 yX0_lackedHeads, .instanceMethod yX0_lackedHeads, .selects RX0 yX0_lackedHeads yX0_lackedHeads, .code yX0_lackedHeads cX0_lackedHeads 4 (some .int), .fieldLink RX0 19 "FacetCounts" "chosen" "[I", .methodLink RX0 80 yX0_valuesOf, .instanceMethod yX0_valuesOf, .selects RX0 yX0_valuesOf yX0_valuesOf, .code yX0_valuesOf cX0_valuesOf 3 (some .int), .fieldLink RX0 13 "FacetCounts" "kinds" "[I", .fieldLink RX0 9 "FacetCounts" "given" "[I"] ++ wsX00)
def wsX0_isKeptBut : List Cond := .code yX0_isKeptBut cX0_isKeptBut 3 (some .boolean) :: ([.methodLink RX0 64 yX0_lackedHeads, .instanceMethod yX0_lackedHeads, .selects RX0 yX0_lackedHeads yX0_lackedHeads, .initialized RX0, .code yX0_lackedHeads cX0_lackedHeads 4 (some .int), .fieldLink RX0 19 "FacetCounts" "chosen" "[I", .methodLink RX0 80 yX0_valuesOf, .instanceMethod yX0_valuesOf, .selects RX0 yX0_valuesOf yX0_valuesOf, .code yX0_valuesOf cX0_valuesOf 3 (some .int), .fieldLink RX0 13 "FacetCounts" "kinds" "[I", .fieldLink RX0 9 "FacetCounts" "given" "[I"] ++ wsX00)
def wsX0_countWithAny : List Cond := .code yX0_countWithAny cX0_countWithAny 5 (some .int) :: ([.methodLink RX0 80 yX0_valuesOf, .instanceMethod yX0_valuesOf, .selects RX0 yX0_valuesOf yX0_valuesOf, .initialized RX0, .code yX0_valuesOf cX0_valuesOf 3 (some .int), .fieldLink RX0 13 "FacetCounts" "kinds" "[I", .fieldLink RX0 9 "FacetCounts" "given" "[I", .methodLink RX0 102 yX0_isKeptBut, .instanceMethod yX0_isKeptBut, .selects RX0 yX0_isKeptBut yX0_isKeptBut, .code yX0_isKeptBut cX0_isKeptBut 3 (some .boolean), .methodLink RX0 64 yX0_lackedHeads, .instanceMethod yX0_lackedHeads, .selects RX0 yX0_lackedHeads yX0_lackedHeads, .code yX0_lackedHeads cX0_lackedHeads 4 (some .int), .fieldLink RX0 19 "FacetCounts" "chosen" "[I"] ++ wsX00)
def wsX0_facet_r1 : List Cond := [Cond.methodLink RX0 42 yX0_isHead, Cond.static yX0_isHead, Cond.initialized RX0, Cond.code yX0_isHead cX0_isHead 1 (some .boolean), Cond.methodLink RX0 45 yX0_isValue, Cond.static yX0_isValue, Cond.code yX0_isValue cX0_isValue 1 (some .boolean), Cond.methodLink RX0 68 yX0_countWithAny, Cond.instanceMethod yX0_countWithAny, Cond.selects RX0 yX0_countWithAny yX0_countWithAny, Cond.code yX0_countWithAny cX0_countWithAny 5 (some .int), Cond.methodLink RX0 80 yX0_valuesOf, Cond.instanceMethod yX0_valuesOf, Cond.selects RX0 yX0_valuesOf yX0_valuesOf, Cond.code yX0_valuesOf cX0_valuesOf 3 (some .int), Cond.fieldLink RX0 13 "FacetCounts" "kinds" "[I", Cond.fieldLink RX0 9 "FacetCounts" "given" "[I", Cond.methodLink RX0 102 yX0_isKeptBut, Cond.instanceMethod yX0_isKeptBut, Cond.selects RX0 yX0_isKeptBut yX0_isKeptBut, Cond.code yX0_isKeptBut cX0_isKeptBut 3 (some .boolean), Cond.methodLink RX0 64 yX0_lackedHeads, Cond.instanceMethod yX0_lackedHeads, Cond.selects RX0 yX0_lackedHeads yX0_lackedHeads]
def wsX0_facet_r2 : List Cond := [Cond.code yX0_lackedHeads cX0_lackedHeads 4 (some .int), Cond.fieldLink RX0 19 "FacetCounts" "chosen" "[I"]
def wsX0_facet : List Cond := .code yX0_facet cX0_facet 3 (some .int) :: ((wsX0_facet_r1 ++ wsX0_facet_r2) ++ wsX00)
def wsX0_countValues : List Cond := .code yX0_countValues cX0_countValues 4 none :: ([.fieldLink RX0 25 "FacetCounts" "counts" "[I", .methodLink RX0 48 yX0_holds, .static yX0_holds, .initialized RX0, .code yX0_holds cX0_holds 2 (some .boolean)] ++ wsX00)
def wsX0_countAll : List Cond := .code yX0_countAll cX0_countAll 4 none :: ([.fieldLink RX0 25 "FacetCounts" "counts" "[I", .methodLink RX0 32 yJ7_fill_53178, .static yJ7_fill_53178, .initialized RJ7, .code yJ7_fill_53178 cJ7_fill_53178 4 none, .methodLink RX0 64 yX0_lackedHeads, .instanceMethod yX0_lackedHeads, .selects RX0 yX0_lackedHeads yX0_lackedHeads, .initialized RX0, .code yX0_lackedHeads cX0_lackedHeads 4 (some .int), .fieldLink RX0 19 "FacetCounts" "chosen" "[I", .methodLink RX0 80 yX0_valuesOf, .instanceMethod yX0_valuesOf, .selects RX0 yX0_valuesOf yX0_valuesOf, .code yX0_valuesOf cX0_valuesOf 3 (some .int), .fieldLink RX0 13 "FacetCounts" "kinds" "[I", .fieldLink RX0 9 "FacetCounts" "given" "[I", .methodLink RX0 105 yX0_countValues, .instanceMethod yX0_countValues, .selects RX0 yX0_countValues yX0_countValues, .code yX0_countValues cX0_countValues 4 none, .methodLink RX0 48 yX0_holds, .static yX0_holds, .code yX0_holds cX0_holds 2 (some .boolean)] ++ wsX00)
def wsX0_rankOf : List Cond := .code yX0_rankOf cX0_rankOf 7 (some .int) :: ([.fieldLink RX0 25 "FacetCounts" "counts" "[I"] ++ wsX00)
def wsX0_top_r1 : List Cond := [Cond.fieldLink RX0 25 "FacetCounts" "counts" "[I", Cond.methodLink RX0 42 yX0_isHead, Cond.static yX0_isHead, Cond.initialized RX0, Cond.code yX0_isHead cX0_isHead 1 (some .boolean), Cond.methodLink RX0 71 yX0_countAll, Cond.instanceMethod yX0_countAll, Cond.selects RX0 yX0_countAll yX0_countAll, Cond.code yX0_countAll cX0_countAll 4 none, Cond.methodLink RX0 32 yJ7_fill_53178, Cond.static yJ7_fill_53178, Cond.initialized RJ7, Cond.code yJ7_fill_53178 cJ7_fill_53178 4 none, Cond.methodLink RX0 64 yX0_lackedHeads, Cond.instanceMethod yX0_lackedHeads, Cond.selects RX0 yX0_lackedHeads yX0_lackedHeads, Cond.code yX0_lackedHeads cX0_lackedHeads 4 (some .int), Cond.fieldLink RX0 19 "FacetCounts" "chosen" "[I", Cond.methodLink RX0 80 yX0_valuesOf, Cond.instanceMethod yX0_valuesOf, Cond.selects RX0 yX0_valuesOf yX0_valuesOf, Cond.code yX0_valuesOf cX0_valuesOf 3 (some .int), Cond.fieldLink RX0 13 "FacetCounts" "kinds" "[I", Cond.fieldLink RX0 9 "FacetCounts" "given" "[I"]
def wsX0_top_r2 : List Cond := [Cond.methodLink RX0 105 yX0_countValues, Cond.instanceMethod yX0_countValues, Cond.selects RX0 yX0_countValues yX0_countValues, Cond.code yX0_countValues cX0_countValues 4 none, Cond.methodLink RX0 48 yX0_holds, Cond.static yX0_holds, Cond.code yX0_holds cX0_holds 2 (some .boolean), Cond.methodLink RX0 74 yX0_rankOf, Cond.instanceMethod yX0_rankOf, Cond.selects RX0 yX0_rankOf yX0_rankOf, Cond.code yX0_rankOf cX0_rankOf 7 (some .int)]
def wsX0_top : List Cond := .code yX0_top cX0_top 4 (some .int) :: ((wsX0_top_r1 ++ wsX0_top_r2) ++ wsX00)
def wsX0_span : List Cond := .code yX0_span cX0_span 6 (some .int) :: ([.methodLink RX0 109 Lib.Math.max.name, .static Lib.Math.max.name, .initialized "java/lang/Math", .code Lib.Math.max.name Lib.Math.max.code 2 (some .int), .methodLink RX0 114 Lib.Math.min.name, .static Lib.Math.min.name, .code Lib.Math.min.name Lib.Math.min.code 2 (some .int)])
def wsX0_range_r1 : List Cond := [Cond.methodLink RX0 42 yX0_isHead, Cond.static yX0_isHead, Cond.initialized RX0, Cond.code yX0_isHead cX0_isHead 1 (some .boolean), Cond.methodLink RX0 77 yX0_span, Cond.static yX0_span, Cond.code yX0_span cX0_span 6 (some .int), Cond.methodLink RX0 109 Lib.Math.max.name, Cond.static Lib.Math.max.name, Cond.initialized "java/lang/Math", Cond.code Lib.Math.max.name Lib.Math.max.code 2 (some .int), Cond.methodLink RX0 114 Lib.Math.min.name, Cond.static Lib.Math.min.name, Cond.code Lib.Math.min.name Lib.Math.min.code 2 (some .int), Cond.methodLink RX0 68 yX0_countWithAny, Cond.instanceMethod yX0_countWithAny, Cond.selects RX0 yX0_countWithAny yX0_countWithAny, Cond.code yX0_countWithAny cX0_countWithAny 5 (some .int), Cond.methodLink RX0 80 yX0_valuesOf, Cond.instanceMethod yX0_valuesOf, Cond.selects RX0 yX0_valuesOf yX0_valuesOf, Cond.code yX0_valuesOf cX0_valuesOf 3 (some .int), Cond.fieldLink RX0 13 "FacetCounts" "kinds" "[I", Cond.fieldLink RX0 9 "FacetCounts" "given" "[I"]
def wsX0_range_r2 : List Cond := [Cond.methodLink RX0 102 yX0_isKeptBut, Cond.instanceMethod yX0_isKeptBut, Cond.selects RX0 yX0_isKeptBut yX0_isKeptBut, Cond.code yX0_isKeptBut cX0_isKeptBut 3 (some .boolean), Cond.methodLink RX0 64 yX0_lackedHeads, Cond.instanceMethod yX0_lackedHeads, Cond.selects RX0 yX0_lackedHeads yX0_lackedHeads, Cond.code yX0_lackedHeads cX0_lackedHeads 4 (some .int), Cond.fieldLink RX0 19 "FacetCounts" "chosen" "[I"]
def wsX0_range : List Cond := .code yX0_range cX0_range 4 (some .int) :: ((wsX0_range_r1 ++ wsX0_range_r2) ++ wsX00)
def wsX0_sumOf : List Cond := .code yX0_sumOf cX0_sumOf 3 (some .int) :: ([.methodLink RX0 48 yX0_holds, .static yX0_holds, .initialized RX0, .code yX0_holds cX0_holds 2 (some .boolean)])
def wsX0_sum : List Cond := .code yX0_sum cX0_sum 6 (some .int) :: ([.methodLink RX0 42 yX0_isHead, .static yX0_isHead, .initialized RX0, .code yX0_isHead cX0_isHead 1 (some .boolean), .methodLink RX0 45 yX0_isValue, .static yX0_isValue, .code yX0_isValue cX0_isValue 1 (some .boolean), .methodLink RX0 80 yX0_valuesOf, .instanceMethod yX0_valuesOf, .selects RX0 yX0_valuesOf yX0_valuesOf, .code yX0_valuesOf cX0_valuesOf 3 (some .int), .fieldLink RX0 13 "FacetCounts" "kinds" "[I", .fieldLink RX0 9 "FacetCounts" "given" "[I", .methodLink RX0 48 yX0_holds, .static yX0_holds, .code yX0_holds cX0_holds 2 (some .boolean), .methodLink RX0 64 yX0_lackedHeads, .instanceMethod yX0_lackedHeads, .selects RX0 yX0_lackedHeads yX0_lackedHeads, .code yX0_lackedHeads cX0_lackedHeads 4 (some .int), .fieldLink RX0 19 "FacetCounts" "chosen" "[I", .methodLink RX0 83 yX0_sumOf, .static yX0_sumOf, .code yX0_sumOf cX0_sumOf 3 (some .int)] ++ wsX00)
def wsX0_countKeptBut : List Cond := .code yX0_countKeptBut cX0_countKeptBut 4 (some .int) :: ([.methodLink RX0 102 yX0_isKeptBut, .instanceMethod yX0_isKeptBut, .selects RX0 yX0_isKeptBut yX0_isKeptBut, .initialized RX0, .code yX0_isKeptBut cX0_isKeptBut 3 (some .boolean), .methodLink RX0 64 yX0_lackedHeads, .instanceMethod yX0_lackedHeads, .selects RX0 yX0_lackedHeads yX0_lackedHeads, .code yX0_lackedHeads cX0_lackedHeads 4 (some .int), .fieldLink RX0 19 "FacetCounts" "chosen" "[I", .methodLink RX0 80 yX0_valuesOf, .instanceMethod yX0_valuesOf, .selects RX0 yX0_valuesOf yX0_valuesOf, .code yX0_valuesOf cX0_valuesOf 3 (some .int), .fieldLink RX0 13 "FacetCounts" "kinds" "[I", .fieldLink RX0 9 "FacetCounts" "given" "[I"] ++ wsX00)
def wsX0_inLeastTerms : List Cond := .code yX0_inLeastTerms cX0_inLeastTerms 4 (some .int) :: ([])
def wsX0_share_r1 : List Cond := [Cond.classLink RX0 86 "java/lang/ArithmeticException", Cond.initialized "java/lang/ArithmeticException", Cond.methodLink RX0 42 yX0_isHead, Cond.static yX0_isHead, Cond.initialized RX0, Cond.code yX0_isHead cX0_isHead 1 (some .boolean), Cond.methodLink RX0 45 yX0_isValue, Cond.static yX0_isValue, Cond.code yX0_isValue cX0_isValue 1 (some .boolean), Cond.methodLink RX0 93 yX0_countKeptBut, Cond.instanceMethod yX0_countKeptBut, Cond.selects RX0 yX0_countKeptBut yX0_countKeptBut, Cond.code yX0_countKeptBut cX0_countKeptBut 4 (some .int), Cond.methodLink RX0 102 yX0_isKeptBut, Cond.instanceMethod yX0_isKeptBut, Cond.selects RX0 yX0_isKeptBut yX0_isKeptBut, Cond.code yX0_isKeptBut cX0_isKeptBut 3 (some .boolean), Cond.methodLink RX0 64 yX0_lackedHeads, Cond.instanceMethod yX0_lackedHeads, Cond.selects RX0 yX0_lackedHeads yX0_lackedHeads, Cond.code yX0_lackedHeads cX0_lackedHeads 4 (some .int), Cond.fieldLink RX0 19 "FacetCounts" "chosen" "[I", Cond.methodLink RX0 80 yX0_valuesOf, Cond.instanceMethod yX0_valuesOf]
def wsX0_share_r2 : List Cond := [Cond.selects RX0 yX0_valuesOf yX0_valuesOf, Cond.code yX0_valuesOf cX0_valuesOf 3 (some .int), Cond.fieldLink RX0 13 "FacetCounts" "kinds" "[I", Cond.fieldLink RX0 9 "FacetCounts" "given" "[I", Cond.methodLink RX0 68 yX0_countWithAny, Cond.instanceMethod yX0_countWithAny, Cond.selects RX0 yX0_countWithAny yX0_countWithAny, Cond.code yX0_countWithAny cX0_countWithAny 5 (some .int), Cond.methodLink RX0 98 yX0_inLeastTerms, Cond.static yX0_inLeastTerms, Cond.code yX0_inLeastTerms cX0_inLeastTerms 4 (some .int)]
def wsX0_share : List Cond := .code yX0_share cX0_share 6 (some .int) :: ((wsX0_share_r1 ++ wsX0_share_r2) ++ wsX00 ++ (vx_atS RX0 90 "java/lang/ArithmeticException" ["java/lang/RuntimeException", "java/lang/Exception"]).filter goodWord)
def wsX0_changed_r1 : List Cond := [Cond.fieldLink RX0 25 "FacetCounts" "counts" "[I", Cond.fieldLink RX0 22 "FacetCounts" "before" "[I", Cond.methodLink RX0 71 yX0_countAll, Cond.instanceMethod yX0_countAll, Cond.selects RX0 yX0_countAll yX0_countAll, Cond.initialized RX0, Cond.code yX0_countAll cX0_countAll 4 none, Cond.methodLink RX0 32 yJ7_fill_53178, Cond.static yJ7_fill_53178, Cond.initialized RJ7, Cond.code yJ7_fill_53178 cJ7_fill_53178 4 none, Cond.methodLink RX0 64 yX0_lackedHeads, Cond.instanceMethod yX0_lackedHeads, Cond.selects RX0 yX0_lackedHeads yX0_lackedHeads, Cond.code yX0_lackedHeads cX0_lackedHeads 4 (some .int), Cond.fieldLink RX0 19 "FacetCounts" "chosen" "[I", Cond.methodLink RX0 80 yX0_valuesOf, Cond.instanceMethod yX0_valuesOf, Cond.selects RX0 yX0_valuesOf yX0_valuesOf, Cond.code yX0_valuesOf cX0_valuesOf 3 (some .int), Cond.fieldLink RX0 13 "FacetCounts" "kinds" "[I", Cond.fieldLink RX0 9 "FacetCounts" "given" "[I", Cond.methodLink RX0 105 yX0_countValues, Cond.instanceMethod yX0_countValues]
def wsX0_changed_r2 : List Cond := [Cond.selects RX0 yX0_countValues yX0_countValues, Cond.code yX0_countValues cX0_countValues 4 none, Cond.methodLink RX0 48 yX0_holds, Cond.static yX0_holds, Cond.code yX0_holds cX0_holds 2 (some .boolean)]
def wsX0_changed : List Cond := .code yX0_changed cX0_changed 3 (some .int) :: ((wsX0_changed_r1 ++ wsX0_changed_r2) ++ wsX00)
def wsX0_rows : List Cond := .code yX0_rows cX0_rows 1 (some .int) :: ([.fieldLink RX0 28 "FacetCounts" "rowCount" "I"] ++ wsX00)
def wsJ9_max_7cf53 : List Cond := .code yJ9_max_7cf53 cJ9_max_7cf53 2 (some .int) :: ([])
def wsJ9_min_7cf53 : List Cond := .code yJ9_min_7cf53 cJ9_min_7cf53 2 (some .int) :: ([])
def wsL_share_r1 : List Cond := [Cond.classLink RL 13 "java/lang/ArithmeticException", Cond.methodLink RL 7 yX0_share, Cond.instanceMethod yX0_share, Cond.selects RX0 yX0_share yX0_share, Cond.initialized RX0, Cond.code yX0_share cX0_share 6 (some .int), Cond.classLink RX0 86 "java/lang/ArithmeticException", Cond.initialized "java/lang/ArithmeticException", Cond.methodLink RX0 42 yX0_isHead, Cond.static yX0_isHead, Cond.code yX0_isHead cX0_isHead 1 (some .boolean), Cond.methodLink RX0 45 yX0_isValue, Cond.static yX0_isValue, Cond.code yX0_isValue cX0_isValue 1 (some .boolean), Cond.methodLink RX0 93 yX0_countKeptBut, Cond.instanceMethod yX0_countKeptBut, Cond.selects RX0 yX0_countKeptBut yX0_countKeptBut, Cond.code yX0_countKeptBut cX0_countKeptBut 4 (some .int), Cond.methodLink RX0 102 yX0_isKeptBut, Cond.instanceMethod yX0_isKeptBut, Cond.selects RX0 yX0_isKeptBut yX0_isKeptBut, Cond.code yX0_isKeptBut cX0_isKeptBut 3 (some .boolean), Cond.methodLink RX0 64 yX0_lackedHeads, Cond.instanceMethod yX0_lackedHeads]
def wsL_share_r2 : List Cond := [Cond.selects RX0 yX0_lackedHeads yX0_lackedHeads, Cond.code yX0_lackedHeads cX0_lackedHeads 4 (some .int), Cond.fieldLink RX0 19 "FacetCounts" "chosen" "[I", Cond.methodLink RX0 80 yX0_valuesOf, Cond.instanceMethod yX0_valuesOf, Cond.selects RX0 yX0_valuesOf yX0_valuesOf, Cond.code yX0_valuesOf cX0_valuesOf 3 (some .int), Cond.fieldLink RX0 13 "FacetCounts" "kinds" "[I", Cond.fieldLink RX0 9 "FacetCounts" "given" "[I", Cond.methodLink RX0 68 yX0_countWithAny, Cond.instanceMethod yX0_countWithAny, Cond.selects RX0 yX0_countWithAny yX0_countWithAny, Cond.code yX0_countWithAny cX0_countWithAny 5 (some .int), Cond.methodLink RX0 98 yX0_inLeastTerms, Cond.static yX0_inLeastTerms, Cond.code yX0_inLeastTerms cX0_inLeastTerms 4 (some .int)]
def wsL_share : List Cond := .codeWith yL_share cL_share 6 (some .int) [(0, 12, 15, 13)] :: ((wsL_share_r1 ++ wsL_share_r2) ++ wsX00 ++ (vx_atS RX0 90 "java/lang/ArithmeticException" ["java/lang/RuntimeException", "java/lang/Exception"]).filter goodWord)
def wsL_law0_r1 : List Cond := [Cond.classLink RL 8 RX0, Cond.instantiable RX0 7, Cond.initialized RX0, Cond.classLink RL 16 RX1, Cond.instantiable RX1 7, Cond.initialized RX1, Cond.methodLink RL 15 yX0_init, Cond.instanceMethod yX0_init, Cond.code yX0_init cX0_init 1 none, Cond.methodLink RX0 1 objectInit, Cond.instanceMethod objectInit, Cond.code objectInit ⟨#[0xb1]⟩ 1 none, Cond.arrayClass .int, Cond.fieldLink RX0 9 "FacetCounts" "given" "[I", Cond.fieldLink RX0 13 "FacetCounts" "kinds" "[I", Cond.fieldLink RX0 16 "FacetCounts" "uppers" "[I", Cond.fieldLink RX0 19 "FacetCounts" "chosen" "[I", Cond.fieldLink RX0 22 "FacetCounts" "before" "[I", Cond.fieldLink RX0 25 "FacetCounts" "counts" "[I", Cond.fieldLink RX0 28 "FacetCounts" "rowCount" "I", Cond.methodLink RX0 32 yJ7_fill_53178, Cond.static yJ7_fill_53178, Cond.initialized RJ7, Cond.code yJ7_fill_53178 cJ7_fill_53178 4 none]
def wsL_law0_r2 : List Cond := [Cond.methodLink RL 19 yX0_row, Cond.instanceMethod yX0_row, Cond.selects RX0 yX0_row yX0_row, Cond.code yX0_row cX0_row 5 (some .int), Cond.methodLink RX0 38 yX0_isThing, Cond.static yX0_isThing, Cond.code yX0_isThing cX0_isThing 1 (some .boolean), Cond.methodLink RX0 42 yX0_isHead, Cond.static yX0_isHead, Cond.code yX0_isHead cX0_isHead 1 (some .boolean), Cond.methodLink RX0 45 yX0_isValue, Cond.static yX0_isValue, Cond.code yX0_isValue cX0_isValue 1 (some .boolean), Cond.methodLink RX0 48 yX0_holds, Cond.static yX0_holds, Cond.code yX0_holds cX0_holds 2 (some .boolean), Cond.methodLink RX0 52 yX0_renewKinds, Cond.instanceMethod yX0_renewKinds, Cond.selects RX0 yX0_renewKinds yX0_renewKinds, Cond.code yX0_renewKinds cX0_renewKinds 5 none, Cond.methodLink RX0 56 yX0_withUppers, Cond.instanceMethod yX0_withUppers, Cond.selects RX0 yX0_withUppers yX0_withUppers, Cond.code yX0_withUppers cX0_withUppers 6 (some .int)]
def wsL_law0_r3 : List Cond := [Cond.methodLink RL 24 yX0_drop, Cond.instanceMethod yX0_drop, Cond.selects RX0 yX0_drop yX0_drop, Cond.code yX0_drop cX0_drop 5 (some .int), Cond.methodLink RL 28 yX0_above, Cond.instanceMethod yX0_above, Cond.selects RX0 yX0_above yX0_above, Cond.code yX0_above cX0_above 4 (some .int), Cond.methodLink RL 33 yX0_choose, Cond.instanceMethod yX0_choose, Cond.selects RX0 yX0_choose yX0_choose, Cond.code yX0_choose cX0_choose 4 (some .int), Cond.methodLink RX0 60 yX0_countKept, Cond.instanceMethod yX0_countKept, Cond.selects RX0 yX0_countKept yX0_countKept, Cond.code yX0_countKept cX0_countKept 3 (some .int), Cond.methodLink RX0 64 yX0_lackedHeads, Cond.instanceMethod yX0_lackedHeads, Cond.selects RX0 yX0_lackedHeads yX0_lackedHeads, Cond.code yX0_lackedHeads cX0_lackedHeads 4 (some .int), Cond.methodLink RX0 80 yX0_valuesOf, Cond.instanceMethod yX0_valuesOf, Cond.selects RX0 yX0_valuesOf yX0_valuesOf, Cond.code yX0_valuesOf cX0_valuesOf 3 (some .int)]
def wsL_law0_r4 : List Cond := [Cond.methodLink RL 37 yX0_kept, Cond.instanceMethod yX0_kept, Cond.selects RX0 yX0_kept yX0_kept, Cond.code yX0_kept cX0_kept 1 (some .int), Cond.methodLink RL 42 yX0_isKept, Cond.instanceMethod yX0_isKept, Cond.selects RX0 yX0_isKept yX0_isKept, Cond.code yX0_isKept cX0_isKept 2 (some .int), Cond.methodLink RL 47 yX0_facet, Cond.instanceMethod yX0_facet, Cond.selects RX0 yX0_facet yX0_facet, Cond.code yX0_facet cX0_facet 3 (some .int), Cond.methodLink RX0 68 yX0_countWithAny, Cond.instanceMethod yX0_countWithAny, Cond.selects RX0 yX0_countWithAny yX0_countWithAny, Cond.code yX0_countWithAny cX0_countWithAny 5 (some .int), Cond.methodLink RX0 102 yX0_isKeptBut, Cond.instanceMethod yX0_isKeptBut, Cond.selects RX0 yX0_isKeptBut yX0_isKeptBut, Cond.code yX0_isKeptBut cX0_isKeptBut 3 (some .boolean), Cond.methodLink RL 51 yX0_top, Cond.instanceMethod yX0_top, Cond.selects RX0 yX0_top yX0_top, Cond.code yX0_top cX0_top 4 (some .int)]
def wsL_law0_r5 : List Cond := [Cond.methodLink RX0 71 yX0_countAll, Cond.instanceMethod yX0_countAll, Cond.selects RX0 yX0_countAll yX0_countAll, Cond.code yX0_countAll cX0_countAll 4 none, Cond.methodLink RX0 105 yX0_countValues, Cond.instanceMethod yX0_countValues, Cond.selects RX0 yX0_countValues yX0_countValues, Cond.code yX0_countValues cX0_countValues 4 none, Cond.methodLink RX0 74 yX0_rankOf, Cond.instanceMethod yX0_rankOf, Cond.selects RX0 yX0_rankOf yX0_rankOf, Cond.code yX0_rankOf cX0_rankOf 7 (some .int), Cond.methodLink RL 55 yX0_range, Cond.instanceMethod yX0_range, Cond.selects RX0 yX0_range yX0_range, Cond.code yX0_range cX0_range 4 (some .int), Cond.methodLink RX0 77 yX0_span, Cond.static yX0_span, Cond.code yX0_span cX0_span 6 (some .int), Cond.methodLink RX0 109 Lib.Math.max.name, Cond.static Lib.Math.max.name, Cond.initialized "java/lang/Math", Cond.code Lib.Math.max.name Lib.Math.max.code 2 (some .int), Cond.methodLink RX0 114 Lib.Math.min.name]
def wsL_law0_r6 : List Cond := [Cond.static Lib.Math.min.name, Cond.code Lib.Math.min.name Lib.Math.min.code 2 (some .int), Cond.methodLink RL 59 yX0_sum, Cond.instanceMethod yX0_sum, Cond.selects RX0 yX0_sum yX0_sum, Cond.code yX0_sum cX0_sum 6 (some .int), Cond.methodLink RX0 83 yX0_sumOf, Cond.static yX0_sumOf, Cond.code yX0_sumOf cX0_sumOf 3 (some .int), Cond.methodLink RL 63 yL_share, Cond.static yL_share, Cond.initialized RL, Cond.codeWith yL_share cL_share 6 (some .int) [(0, 12, 15, 13)], Cond.classLink RL 13 "java/lang/ArithmeticException", Cond.methodLink RL 7 yX0_share, Cond.instanceMethod yX0_share, Cond.selects RX0 yX0_share yX0_share, Cond.code yX0_share cX0_share 6 (some .int), Cond.classLink RX0 86 "java/lang/ArithmeticException", Cond.initialized "java/lang/ArithmeticException", Cond.methodLink RX0 93 yX0_countKeptBut, Cond.instanceMethod yX0_countKeptBut, Cond.selects RX0 yX0_countKeptBut yX0_countKeptBut, Cond.code yX0_countKeptBut cX0_countKeptBut 4 (some .int)]
def wsL_law0_r7 : List Cond := [Cond.methodLink RX0 98 yX0_inLeastTerms, Cond.static yX0_inLeastTerms, Cond.code yX0_inLeastTerms cX0_inLeastTerms 4 (some .int), Cond.methodLink RL 72 yX0_changed, Cond.instanceMethod yX0_changed, Cond.selects RX0 yX0_changed yX0_changed, Cond.code yX0_changed cX0_changed 3 (some .int), Cond.methodLink RL 76 yX0_rows, Cond.instanceMethod yX0_rows, Cond.selects RX0 yX0_rows yX0_rows, Cond.code yX0_rows cX0_rows 1 (some .int)]
def wsL_law0 : List Cond := (wsL_law0_r1 ++ (wsL_law0_r2 ++ (wsL_law0_r3 ++ (wsL_law0_r4 ++ (wsL_law0_r5 ++ (wsL_law0_r6 ++ wsL_law0_r7)))))) ++ wsX00 ++ wsX10 ++ ([] : List Cond)
def wsL_law : List Cond := wsL_law0 ++ (vx_atS RX0 90 "java/lang/ArithmeticException" ["java/lang/RuntimeException", "java/lang/Exception"]).filter goodWord
set_option maxRecDepth 20000 in
theorem wsL_law_in0 : ∀ w ∈ wsL_law0, w ∈ lw_tbl := fun w h => (goodIn_p wsL_law0 [31, 34, 37, 64, 67, 70, 73, 76, 80, 84, 88, 92, 96, 100, 104, 108, 112, 116, 120, 124, 128, 132, 136, 140, 144, 148, 151, 154, 157, 161, 164, 180, 250, 254, 168, 172] (by decide +kernel) (by decide +kernel) w h).1
theorem wsL_law_x0 : ∀ w ∈ (vx_atS RX0 90 "java/lang/ArithmeticException" ["java/lang/RuntimeException", "java/lang/Exception"]).filter goodWord, w ∈ lw_tbl := by decide +kernel
theorem wsL_law_in : ∀ w ∈ wsL_law, w ∈ lw_tbl := fun w h => (List.mem_append.mp h).elim (fun h => wsL_law_in0 w h) (fun h => wsL_law_x0 w h)
theorem inlX0 : ∀ w ∈ wsX00, w ∈ wsL_law := fun _ h => List.mem_append_left _ (List.mem_append_left _ (List.mem_append_left _ (List.mem_append_right _ h)))
theorem inX0 : ∀ w ∈ wsX00, w ∈ lw_tbl := fun w h => wsL_law_in w (inlX0 w h)
theorem inlX1 : ∀ w ∈ wsX10, w ∈ wsL_law := fun _ h => List.mem_append_left _ (List.mem_append_left _ (List.mem_append_right _ h))
theorem inX1 : ∀ w ∈ wsX10, w ∈ lw_tbl := fun w h => wsL_law_in w (inlX1 w h)
theorem inJ9 : ∀ w ∈ wsJ90, w ∈ lw_tbl := by decide +kernel
theorem inJ0 : ∀ w ∈ wsJ00, w ∈ lw_tbl := by decide +kernel
theorem inJ7 : ∀ w ∈ wsJ70, w ∈ lw_tbl := by decide +kernel
set_option maxRecDepth 20000 in
theorem ggX0_init_J7_fill_53178 : GoodIn wsX0_init wsJ7_fill_53178 := goodIn_r _ [15] (by decide +kernel) (by decide +kernel)
set_option maxRecDepth 20000 in
theorem gX0_init_J7_fill_53178 : GoodIn wsX0_init (va_wsS RX0 32 yJ7_fill_53178 wsJ7_fill_53178) := goodIn_app (goodIn_of _ (by decide +kernel)) ggX0_init_J7_fill_53178
theorem dX0_init_0 : decode cX0_init 0 = .ok (.aload_n 0, 1) := by decide +kernel
theorem dX0_init_1 : decode cX0_init 1 = .ok (.invokespecial 1, 3) := by decide +kernel
theorem dX0_init_4 : decode cX0_init 4 = .ok (.aload_n 0, 1) := by decide +kernel
theorem dX0_init_5 : decode cX0_init 5 = .ok (.sipush 320, 3) := by decide +kernel
theorem dX0_init_8 : decode cX0_init 8 = .ok (.newarray .int, 2) := by decide +kernel
theorem dX0_init_10 : decode cX0_init 10 = .ok (.putfield 9, 3) := by decide +kernel
theorem dX0_init_13 : decode cX0_init 13 = .ok (.aload_n 0, 1) := by decide +kernel
theorem dX0_init_14 : decode cX0_init 14 = .ok (.bipush 40, 2) := by decide +kernel
theorem dX0_init_16 : decode cX0_init 16 = .ok (.newarray .int, 2) := by decide +kernel
theorem dX0_init_18 : decode cX0_init 18 = .ok (.putfield 13, 3) := by decide +kernel
theorem dX0_init_21 : decode cX0_init 21 = .ok (.aload_n 0, 1) := by decide +kernel
theorem dX0_init_22 : decode cX0_init 22 = .ok (.bipush 32, 2) := by decide +kernel
theorem dX0_init_24 : decode cX0_init 24 = .ok (.newarray .int, 2) := by decide +kernel
theorem dX0_init_26 : decode cX0_init 26 = .ok (.putfield 16, 3) := by decide +kernel
theorem dX0_init_29 : decode cX0_init 29 = .ok (.aload_n 0, 1) := by decide +kernel
theorem dX0_init_30 : decode cX0_init 30 = .ok (.bipush 8, 2) := by decide +kernel
theorem dX0_init_32 : decode cX0_init 32 = .ok (.newarray .int, 2) := by decide +kernel
theorem dX0_init_34 : decode cX0_init 34 = .ok (.putfield 19, 3) := by decide +kernel
theorem dX0_init_37 : decode cX0_init 37 = .ok (.aload_n 0, 1) := by decide +kernel
theorem dX0_init_38 : decode cX0_init 38 = .ok (.sipush 256, 3) := by decide +kernel
theorem dX0_init_41 : decode cX0_init 41 = .ok (.newarray .int, 2) := by decide +kernel
theorem dX0_init_43 : decode cX0_init 43 = .ok (.putfield 22, 3) := by decide +kernel
theorem dX0_init_46 : decode cX0_init 46 = .ok (.aload_n 0, 1) := by decide +kernel
theorem dX0_init_47 : decode cX0_init 47 = .ok (.sipush 256, 3) := by decide +kernel
theorem dX0_init_50 : decode cX0_init 50 = .ok (.newarray .int, 2) := by decide +kernel
theorem dX0_init_52 : decode cX0_init 52 = .ok (.putfield 25, 3) := by decide +kernel
theorem dX0_init_55 : decode cX0_init 55 = .ok (.aload_n 0, 1) := by decide +kernel
theorem dX0_init_56 : decode cX0_init 56 = .ok (.iconst 0, 1) := by decide +kernel
theorem dX0_init_57 : decode cX0_init 57 = .ok (.putfield 28, 3) := by decide +kernel
theorem dX0_init_60 : decode cX0_init 60 = .ok (.aload_n 0, 1) := by decide +kernel
theorem dX0_init_61 : decode cX0_init 61 = .ok (.getfield 16, 3) := by decide +kernel
theorem dX0_init_64 : decode cX0_init 64 = .ok (.iconst (-1), 1) := by decide +kernel
theorem dX0_init_65 : decode cX0_init 65 = .ok (.invokestatic 32, 3) := by decide +kernel
theorem dX0_init_68 : decode cX0_init 68 = .ok (.return_, 1) := by decide +kernel
set_option maxRecDepth 20000 in
theorem ggX0_row_X0_isThing : GoodIn wsX0_row wsX0_isThing := goodIn_r _ [6] (by decide +kernel) (by decide +kernel)
set_option maxRecDepth 20000 in
theorem gX0_row_X0_isThing : GoodIn wsX0_row (va_wsS RX0 38 yX0_isThing wsX0_isThing) := goodIn_app (goodIn_of _ (by decide +kernel)) ggX0_row_X0_isThing
set_option maxRecDepth 20000 in
theorem ggX0_row_X0_isHead : GoodIn wsX0_row wsX0_isHead := goodIn_r _ [9] (by decide +kernel) (by decide +kernel)
set_option maxRecDepth 20000 in
theorem gX0_row_X0_isHead : GoodIn wsX0_row (va_wsS RX0 42 yX0_isHead wsX0_isHead) := goodIn_app (goodIn_of _ (by decide +kernel)) ggX0_row_X0_isHead
set_option maxRecDepth 20000 in
theorem ggX0_row_X0_isValue : GoodIn wsX0_row wsX0_isValue := goodIn_r _ [12] (by decide +kernel) (by decide +kernel)
set_option maxRecDepth 20000 in
theorem gX0_row_X0_isValue : GoodIn wsX0_row (va_wsS RX0 45 yX0_isValue wsX0_isValue) := goodIn_app (goodIn_of _ (by decide +kernel)) ggX0_row_X0_isValue
set_option maxRecDepth 20000 in
theorem ggX0_row_X0_holds : GoodIn wsX0_row wsX0_holds := goodIn_r _ [15] (by decide +kernel) (by decide +kernel)
set_option maxRecDepth 20000 in
theorem gX0_row_X0_holds : GoodIn wsX0_row (va_wsS RX0 48 yX0_holds wsX0_holds) := goodIn_app (goodIn_of _ (by decide +kernel)) ggX0_row_X0_holds
set_option maxRecDepth 20000 in
theorem ggX0_row_X0_renewKinds : GoodIn wsX0_row wsX0_renewKinds := goodIn_r _ [19, 1, 20, 13, 14, 5, 15, 21, 22, 23, 24, 25, 10, 11, 12, 26, 27, 28, 29, 30, 31, 32] (by decide +kernel) (by decide +kernel)
set_option maxRecDepth 20000 in
theorem gX0_row_X0_renewKinds : GoodIn wsX0_row (wsV RX0 52 RX0 yX0_renewKinds wsX0_renewKinds) := goodIn_app (goodIn_of _ (by decide +kernel)) ggX0_row_X0_renewKinds
theorem dX0_row_0 : decode cX0_row 0 = .ok (.iload_n 1, 1) := by decide +kernel
theorem dX0_row_1 : decode cX0_row 1 = .ok (.invokestatic 38, 3) := by decide +kernel
theorem dX0_row_4 : decode cX0_row 4 = .ok (.ifCond .eq 17, 3) := by decide +kernel
theorem dX0_row_7 : decode cX0_row 7 = .ok (.iload_n 2, 1) := by decide +kernel
theorem dX0_row_8 : decode cX0_row 8 = .ok (.invokestatic 42, 3) := by decide +kernel
theorem dX0_row_11 : decode cX0_row 11 = .ok (.ifCond .eq 10, 3) := by decide +kernel
theorem dX0_row_14 : decode cX0_row 14 = .ok (.iload_n 3, 1) := by decide +kernel
theorem dX0_row_15 : decode cX0_row 15 = .ok (.invokestatic 45, 3) := by decide +kernel
theorem dX0_row_18 : decode cX0_row 18 = .ok (.ifCond .ne 5, 3) := by decide +kernel
theorem dX0_row_21 : decode cX0_row 21 = .ok (.iconst (-1), 1) := by decide +kernel
theorem dX0_row_22 : decode cX0_row 22 = .ok (.ireturn, 1) := by decide +kernel
theorem dX0_row_23 : decode cX0_row 23 = .ok (.iload_n 1, 1) := by decide +kernel
theorem dX0_row_24 : decode cX0_row 24 = .ok (.bipush 8, 2) := by decide +kernel
theorem dX0_row_26 : decode cX0_row 26 = .ok (.imul, 1) := by decide +kernel
theorem dX0_row_27 : decode cX0_row 27 = .ok (.iload_n 2, 1) := by decide +kernel
theorem dX0_row_28 : decode cX0_row 28 = .ok (.iadd, 1) := by decide +kernel
theorem dX0_row_29 : decode cX0_row 29 = .ok (.istore 4, 2) := by decide +kernel
theorem dX0_row_31 : decode cX0_row 31 = .ok (.aload_n 0, 1) := by decide +kernel
theorem dX0_row_32 : decode cX0_row 32 = .ok (.getfield 9, 3) := by decide +kernel
theorem dX0_row_35 : decode cX0_row 35 = .ok (.iload 4, 2) := by decide +kernel
theorem dX0_row_37 : decode cX0_row 37 = .ok (.iaload, 1) := by decide +kernel
theorem dX0_row_38 : decode cX0_row 38 = .ok (.iload_n 3, 1) := by decide +kernel
theorem dX0_row_39 : decode cX0_row 39 = .ok (.invokestatic 48, 3) := by decide +kernel
theorem dX0_row_42 : decode cX0_row 42 = .ok (.ifCond .eq 5, 3) := by decide +kernel
theorem dX0_row_45 : decode cX0_row 45 = .ok (.iconst 0, 1) := by decide +kernel
theorem dX0_row_46 : decode cX0_row 46 = .ok (.ireturn, 1) := by decide +kernel
theorem dX0_row_47 : decode cX0_row 47 = .ok (.aload_n 0, 1) := by decide +kernel
theorem dX0_row_48 : decode cX0_row 48 = .ok (.getfield 28, 3) := by decide +kernel
theorem dX0_row_51 : decode cX0_row 51 = .ok (.sipush 300, 3) := by decide +kernel
theorem dX0_row_54 : decode cX0_row 54 = .ok (.if_icmp .lt 6, 3) := by decide +kernel
theorem dX0_row_57 : decode cX0_row 57 = .ok (.bipush (-2), 2) := by decide +kernel
theorem dX0_row_59 : decode cX0_row 59 = .ok (.ireturn, 1) := by decide +kernel
theorem dX0_row_60 : decode cX0_row 60 = .ok (.aload_n 0, 1) := by decide +kernel
theorem dX0_row_61 : decode cX0_row 61 = .ok (.getfield 9, 3) := by decide +kernel
theorem dX0_row_64 : decode cX0_row 64 = .ok (.iload 4, 2) := by decide +kernel
theorem dX0_row_66 : decode cX0_row 66 = .ok (.dup2, 1) := by decide +kernel
theorem dX0_row_67 : decode cX0_row 67 = .ok (.iaload, 1) := by decide +kernel
theorem dX0_row_68 : decode cX0_row 68 = .ok (.iconst 1, 1) := by decide +kernel
theorem dX0_row_69 : decode cX0_row 69 = .ok (.iload_n 3, 1) := by decide +kernel
theorem dX0_row_70 : decode cX0_row 70 = .ok (.ishl, 1) := by decide +kernel
theorem dX0_row_71 : decode cX0_row 71 = .ok (.ior, 1) := by decide +kernel
theorem dX0_row_72 : decode cX0_row 72 = .ok (.iastore, 1) := by decide +kernel
theorem dX0_row_73 : decode cX0_row 73 = .ok (.aload_n 0, 1) := by decide +kernel
theorem dX0_row_74 : decode cX0_row 74 = .ok (.dup, 1) := by decide +kernel
theorem dX0_row_75 : decode cX0_row 75 = .ok (.getfield 28, 3) := by decide +kernel
theorem dX0_row_78 : decode cX0_row 78 = .ok (.iconst 1, 1) := by decide +kernel
theorem dX0_row_79 : decode cX0_row 79 = .ok (.iadd, 1) := by decide +kernel
theorem dX0_row_80 : decode cX0_row 80 = .ok (.putfield 28, 3) := by decide +kernel
theorem dX0_row_83 : decode cX0_row 83 = .ok (.aload_n 0, 1) := by decide +kernel
theorem dX0_row_84 : decode cX0_row 84 = .ok (.iload_n 1, 1) := by decide +kernel
theorem dX0_row_85 : decode cX0_row 85 = .ok (.invokevirtual 52, 3) := by decide +kernel
theorem dX0_row_88 : decode cX0_row 88 = .ok (.iconst 1, 1) := by decide +kernel
theorem dX0_row_89 : decode cX0_row 89 = .ok (.ireturn, 1) := by decide +kernel
set_option maxRecDepth 20000 in
theorem ggX0_drop_X0_isThing : GoodIn wsX0_drop wsX0_isThing := goodIn_r _ [6] (by decide +kernel) (by decide +kernel)
set_option maxRecDepth 20000 in
theorem gX0_drop_X0_isThing : GoodIn wsX0_drop (va_wsS RX0 38 yX0_isThing wsX0_isThing) := goodIn_app (goodIn_of _ (by decide +kernel)) ggX0_drop_X0_isThing
set_option maxRecDepth 20000 in
theorem ggX0_drop_X0_isHead : GoodIn wsX0_drop wsX0_isHead := goodIn_r _ [9] (by decide +kernel) (by decide +kernel)
set_option maxRecDepth 20000 in
theorem gX0_drop_X0_isHead : GoodIn wsX0_drop (va_wsS RX0 42 yX0_isHead wsX0_isHead) := goodIn_app (goodIn_of _ (by decide +kernel)) ggX0_drop_X0_isHead
set_option maxRecDepth 20000 in
theorem ggX0_drop_X0_isValue : GoodIn wsX0_drop wsX0_isValue := goodIn_r _ [12] (by decide +kernel) (by decide +kernel)
set_option maxRecDepth 20000 in
theorem gX0_drop_X0_isValue : GoodIn wsX0_drop (va_wsS RX0 45 yX0_isValue wsX0_isValue) := goodIn_app (goodIn_of _ (by decide +kernel)) ggX0_drop_X0_isValue
set_option maxRecDepth 20000 in
theorem ggX0_drop_X0_holds : GoodIn wsX0_drop wsX0_holds := goodIn_r _ [15] (by decide +kernel) (by decide +kernel)
set_option maxRecDepth 20000 in
theorem gX0_drop_X0_holds : GoodIn wsX0_drop (va_wsS RX0 48 yX0_holds wsX0_holds) := goodIn_app (goodIn_of _ (by decide +kernel)) ggX0_drop_X0_holds
set_option maxRecDepth 20000 in
theorem ggX0_drop_X0_renewKinds : GoodIn wsX0_drop wsX0_renewKinds := goodIn_r _ [19, 1, 20, 13, 14, 5, 15, 21, 22, 23, 24, 25, 10, 11, 12, 26, 27, 28, 29, 30, 31, 32] (by decide +kernel) (by decide +kernel)
set_option maxRecDepth 20000 in
theorem gX0_drop_X0_renewKinds : GoodIn wsX0_drop (wsV RX0 52 RX0 yX0_renewKinds wsX0_renewKinds) := goodIn_app (goodIn_of _ (by decide +kernel)) ggX0_drop_X0_renewKinds
theorem dX0_drop_0 : decode cX0_drop 0 = .ok (.iload_n 1, 1) := by decide +kernel
theorem dX0_drop_1 : decode cX0_drop 1 = .ok (.invokestatic 38, 3) := by decide +kernel
theorem dX0_drop_4 : decode cX0_drop 4 = .ok (.ifCond .eq 17, 3) := by decide +kernel
theorem dX0_drop_7 : decode cX0_drop 7 = .ok (.iload_n 2, 1) := by decide +kernel
theorem dX0_drop_8 : decode cX0_drop 8 = .ok (.invokestatic 42, 3) := by decide +kernel
theorem dX0_drop_11 : decode cX0_drop 11 = .ok (.ifCond .eq 10, 3) := by decide +kernel
theorem dX0_drop_14 : decode cX0_drop 14 = .ok (.iload_n 3, 1) := by decide +kernel
theorem dX0_drop_15 : decode cX0_drop 15 = .ok (.invokestatic 45, 3) := by decide +kernel
theorem dX0_drop_18 : decode cX0_drop 18 = .ok (.ifCond .ne 5, 3) := by decide +kernel
theorem dX0_drop_21 : decode cX0_drop 21 = .ok (.iconst (-1), 1) := by decide +kernel
theorem dX0_drop_22 : decode cX0_drop 22 = .ok (.ireturn, 1) := by decide +kernel
theorem dX0_drop_23 : decode cX0_drop 23 = .ok (.iload_n 1, 1) := by decide +kernel
theorem dX0_drop_24 : decode cX0_drop 24 = .ok (.bipush 8, 2) := by decide +kernel
theorem dX0_drop_26 : decode cX0_drop 26 = .ok (.imul, 1) := by decide +kernel
theorem dX0_drop_27 : decode cX0_drop 27 = .ok (.iload_n 2, 1) := by decide +kernel
theorem dX0_drop_28 : decode cX0_drop 28 = .ok (.iadd, 1) := by decide +kernel
theorem dX0_drop_29 : decode cX0_drop 29 = .ok (.istore 4, 2) := by decide +kernel
theorem dX0_drop_31 : decode cX0_drop 31 = .ok (.aload_n 0, 1) := by decide +kernel
theorem dX0_drop_32 : decode cX0_drop 32 = .ok (.getfield 9, 3) := by decide +kernel
theorem dX0_drop_35 : decode cX0_drop 35 = .ok (.iload 4, 2) := by decide +kernel
theorem dX0_drop_37 : decode cX0_drop 37 = .ok (.iaload, 1) := by decide +kernel
theorem dX0_drop_38 : decode cX0_drop 38 = .ok (.iload_n 3, 1) := by decide +kernel
theorem dX0_drop_39 : decode cX0_drop 39 = .ok (.invokestatic 48, 3) := by decide +kernel
theorem dX0_drop_42 : decode cX0_drop 42 = .ok (.ifCond .ne 5, 3) := by decide +kernel
theorem dX0_drop_45 : decode cX0_drop 45 = .ok (.iconst 0, 1) := by decide +kernel
theorem dX0_drop_46 : decode cX0_drop 46 = .ok (.ireturn, 1) := by decide +kernel
theorem dX0_drop_47 : decode cX0_drop 47 = .ok (.aload_n 0, 1) := by decide +kernel
theorem dX0_drop_48 : decode cX0_drop 48 = .ok (.getfield 9, 3) := by decide +kernel
theorem dX0_drop_51 : decode cX0_drop 51 = .ok (.iload 4, 2) := by decide +kernel
theorem dX0_drop_53 : decode cX0_drop 53 = .ok (.dup2, 1) := by decide +kernel
theorem dX0_drop_54 : decode cX0_drop 54 = .ok (.iaload, 1) := by decide +kernel
theorem dX0_drop_55 : decode cX0_drop 55 = .ok (.iconst 1, 1) := by decide +kernel
theorem dX0_drop_56 : decode cX0_drop 56 = .ok (.iload_n 3, 1) := by decide +kernel
theorem dX0_drop_57 : decode cX0_drop 57 = .ok (.ishl, 1) := by decide +kernel
theorem dX0_drop_58 : decode cX0_drop 58 = .ok (.iconst (-1), 1) := by decide +kernel
theorem dX0_drop_59 : decode cX0_drop 59 = .ok (.ixor, 1) := by decide +kernel
theorem dX0_drop_60 : decode cX0_drop 60 = .ok (.iand, 1) := by decide +kernel
theorem dX0_drop_61 : decode cX0_drop 61 = .ok (.iastore, 1) := by decide +kernel
theorem dX0_drop_62 : decode cX0_drop 62 = .ok (.aload_n 0, 1) := by decide +kernel
theorem dX0_drop_63 : decode cX0_drop 63 = .ok (.dup, 1) := by decide +kernel
theorem dX0_drop_64 : decode cX0_drop 64 = .ok (.getfield 28, 3) := by decide +kernel
theorem dX0_drop_67 : decode cX0_drop 67 = .ok (.iconst 1, 1) := by decide +kernel
theorem dX0_drop_68 : decode cX0_drop 68 = .ok (.isub, 1) := by decide +kernel
theorem dX0_drop_69 : decode cX0_drop 69 = .ok (.putfield 28, 3) := by decide +kernel
theorem dX0_drop_72 : decode cX0_drop 72 = .ok (.aload_n 0, 1) := by decide +kernel
theorem dX0_drop_73 : decode cX0_drop 73 = .ok (.iload_n 1, 1) := by decide +kernel
theorem dX0_drop_74 : decode cX0_drop 74 = .ok (.invokevirtual 52, 3) := by decide +kernel
theorem dX0_drop_77 : decode cX0_drop 77 = .ok (.iconst 1, 1) := by decide +kernel
theorem dX0_drop_78 : decode cX0_drop 78 = .ok (.ireturn, 1) := by decide +kernel
set_option maxRecDepth 20000 in
theorem ggX0_above_X0_isValue : GoodIn wsX0_above wsX0_isValue := goodIn_r _ [5] (by decide +kernel) (by decide +kernel)
set_option maxRecDepth 20000 in
theorem gX0_above_X0_isValue : GoodIn wsX0_above (va_wsS RX0 45 yX0_isValue wsX0_isValue) := goodIn_app (goodIn_of _ (by decide +kernel)) ggX0_above_X0_isValue
set_option maxRecDepth 20000 in
theorem ggX0_above_X0_withUppers : GoodIn wsX0_above wsX0_withUppers := goodIn_r _ [9, 1, 2, 3, 4, 5, 10, 11, 12, 19, 20, 21, 22, 23, 24, 25] (by decide +kernel) (by decide +kernel)
set_option maxRecDepth 20000 in
theorem gX0_above_X0_withUppers : GoodIn wsX0_above (wsV RX0 56 RX0 yX0_withUppers wsX0_withUppers) := goodIn_app (goodIn_of _ (by decide +kernel)) ggX0_above_X0_withUppers
set_option maxRecDepth 20000 in
theorem ggX0_above_X0_holds : GoodIn wsX0_above wsX0_holds := goodIn_r _ [12] (by decide +kernel) (by decide +kernel)
set_option maxRecDepth 20000 in
theorem gX0_above_X0_holds : GoodIn wsX0_above (va_wsS RX0 48 yX0_holds wsX0_holds) := goodIn_app (goodIn_of _ (by decide +kernel)) ggX0_above_X0_holds
set_option maxRecDepth 20000 in
theorem ggX0_above_X0_renewKinds : GoodIn wsX0_above wsX0_renewKinds := goodIn_r _ [16, 17, 18, 10, 11, 4, 12, 6, 7, 8, 9, 1, 2, 3, 5, 19, 20, 21, 22, 23, 24, 25] (by decide +kernel) (by decide +kernel)
set_option maxRecDepth 20000 in
theorem gX0_above_X0_renewKinds : GoodIn wsX0_above (wsV RX0 52 RX0 yX0_renewKinds wsX0_renewKinds) := goodIn_app (goodIn_of _ (by decide +kernel)) ggX0_above_X0_renewKinds
theorem dX0_above_0 : decode cX0_above 0 = .ok (.iload_n 1, 1) := by decide +kernel
theorem dX0_above_1 : decode cX0_above 1 = .ok (.invokestatic 45, 3) := by decide +kernel
theorem dX0_above_4 : decode cX0_above 4 = .ok (.ifCond .eq 15, 3) := by decide +kernel
theorem dX0_above_7 : decode cX0_above 7 = .ok (.iload_n 2, 1) := by decide +kernel
theorem dX0_above_8 : decode cX0_above 8 = .ok (.iconst (-1), 1) := by decide +kernel
theorem dX0_above_9 : decode cX0_above 9 = .ok (.if_icmp .eq 12, 3) := by decide +kernel
theorem dX0_above_12 : decode cX0_above 12 = .ok (.iload_n 2, 1) := by decide +kernel
theorem dX0_above_13 : decode cX0_above 13 = .ok (.invokestatic 45, 3) := by decide +kernel
theorem dX0_above_16 : decode cX0_above 16 = .ok (.ifCond .ne 5, 3) := by decide +kernel
theorem dX0_above_19 : decode cX0_above 19 = .ok (.iconst (-1), 1) := by decide +kernel
theorem dX0_above_20 : decode cX0_above 20 = .ok (.ireturn, 1) := by decide +kernel
theorem dX0_above_21 : decode cX0_above 21 = .ok (.aload_n 0, 1) := by decide +kernel
theorem dX0_above_22 : decode cX0_above 22 = .ok (.getfield 16, 3) := by decide +kernel
theorem dX0_above_25 : decode cX0_above 25 = .ok (.iload_n 1, 1) := by decide +kernel
theorem dX0_above_26 : decode cX0_above 26 = .ok (.iaload, 1) := by decide +kernel
theorem dX0_above_27 : decode cX0_above 27 = .ok (.iload_n 2, 1) := by decide +kernel
theorem dX0_above_28 : decode cX0_above 28 = .ok (.if_icmp .ne 5, 3) := by decide +kernel
theorem dX0_above_31 : decode cX0_above 31 = .ok (.iconst 0, 1) := by decide +kernel
theorem dX0_above_32 : decode cX0_above 32 = .ok (.ireturn, 1) := by decide +kernel
theorem dX0_above_33 : decode cX0_above 33 = .ok (.iload_n 2, 1) := by decide +kernel
theorem dX0_above_34 : decode cX0_above 34 = .ok (.iconst (-1), 1) := by decide +kernel
theorem dX0_above_35 : decode cX0_above 35 = .ok (.if_icmp .eq 19, 3) := by decide +kernel
theorem dX0_above_38 : decode cX0_above 38 = .ok (.aload_n 0, 1) := by decide +kernel
theorem dX0_above_39 : decode cX0_above 39 = .ok (.iload_n 2, 1) := by decide +kernel
theorem dX0_above_40 : decode cX0_above 40 = .ok (.iconst 0, 1) := by decide +kernel
theorem dX0_above_41 : decode cX0_above 41 = .ok (.invokevirtual 56, 3) := by decide +kernel
theorem dX0_above_44 : decode cX0_above 44 = .ok (.iload_n 1, 1) := by decide +kernel
theorem dX0_above_45 : decode cX0_above 45 = .ok (.invokestatic 48, 3) := by decide +kernel
theorem dX0_above_48 : decode cX0_above 48 = .ok (.ifCond .eq 6, 3) := by decide +kernel
theorem dX0_above_51 : decode cX0_above 51 = .ok (.bipush (-3), 2) := by decide +kernel
theorem dX0_above_53 : decode cX0_above 53 = .ok (.ireturn, 1) := by decide +kernel
theorem dX0_above_54 : decode cX0_above 54 = .ok (.aload_n 0, 1) := by decide +kernel
theorem dX0_above_55 : decode cX0_above 55 = .ok (.getfield 16, 3) := by decide +kernel
theorem dX0_above_58 : decode cX0_above 58 = .ok (.iload_n 1, 1) := by decide +kernel
theorem dX0_above_59 : decode cX0_above 59 = .ok (.iload_n 2, 1) := by decide +kernel
theorem dX0_above_60 : decode cX0_above 60 = .ok (.iastore, 1) := by decide +kernel
theorem dX0_above_61 : decode cX0_above 61 = .ok (.iconst 0, 1) := by decide +kernel
theorem dX0_above_62 : decode cX0_above 62 = .ok (.istore_n 3, 1) := by decide +kernel
theorem dX0_above_63 : decode cX0_above 63 = .ok (.iload_n 3, 1) := by decide +kernel
theorem dX0_above_64 : decode cX0_above 64 = .ok (.bipush 40, 2) := by decide +kernel
theorem dX0_above_66 : decode cX0_above 66 = .ok (.if_icmp .ge 14, 3) := by decide +kernel
theorem dX0_above_69 : decode cX0_above 69 = .ok (.aload_n 0, 1) := by decide +kernel
theorem dX0_above_70 : decode cX0_above 70 = .ok (.iload_n 3, 1) := by decide +kernel
theorem dX0_above_71 : decode cX0_above 71 = .ok (.invokevirtual 52, 3) := by decide +kernel
theorem dX0_above_74 : decode cX0_above 74 = .ok (.iinc 3 1, 3) := by decide +kernel
theorem dX0_above_77 : decode cX0_above 77 = .ok (.goto (-14), 3) := by decide +kernel
theorem dX0_above_80 : decode cX0_above 80 = .ok (.iconst 1, 1) := by decide +kernel
theorem dX0_above_81 : decode cX0_above 81 = .ok (.ireturn, 1) := by decide +kernel
set_option maxRecDepth 20000 in
theorem ggX0_choose_X0_isHead : GoodIn wsX0_choose wsX0_isHead := goodIn_r _ [5] (by decide +kernel) (by decide +kernel)
set_option maxRecDepth 20000 in
theorem gX0_choose_X0_isHead : GoodIn wsX0_choose (va_wsS RX0 42 yX0_isHead wsX0_isHead) := goodIn_app (goodIn_of _ (by decide +kernel)) ggX0_choose_X0_isHead
set_option maxRecDepth 20000 in
theorem ggX0_choose_X0_isValue : GoodIn wsX0_choose wsX0_isValue := goodIn_r _ [8] (by decide +kernel) (by decide +kernel)
set_option maxRecDepth 20000 in
theorem gX0_choose_X0_isValue : GoodIn wsX0_choose (va_wsS RX0 45 yX0_isValue wsX0_isValue) := goodIn_app (goodIn_of _ (by decide +kernel)) ggX0_choose_X0_isValue
set_option maxRecDepth 20000 in
theorem ggX0_choose_X0_countKept : GoodIn wsX0_choose wsX0_countKept := goodIn_r _ [12, 13, 14, 15, 4, 16, 1, 17, 18, 19, 20, 21, 22, 23, 24, 25, 26, 27, 28, 29] (by decide +kernel) (by decide +kernel)
set_option maxRecDepth 20000 in
theorem gX0_choose_X0_countKept : GoodIn wsX0_choose (wsV RX0 60 RX0 yX0_countKept wsX0_countKept) := goodIn_app (goodIn_of _ (by decide +kernel)) ggX0_choose_X0_countKept
theorem dX0_choose_0 : decode cX0_choose 0 = .ok (.iload_n 1, 1) := by decide +kernel
theorem dX0_choose_1 : decode cX0_choose 1 = .ok (.invokestatic 42, 3) := by decide +kernel
theorem dX0_choose_4 : decode cX0_choose 4 = .ok (.ifCond .eq 10, 3) := by decide +kernel
theorem dX0_choose_7 : decode cX0_choose 7 = .ok (.iload_n 2, 1) := by decide +kernel
theorem dX0_choose_8 : decode cX0_choose 8 = .ok (.invokestatic 45, 3) := by decide +kernel
theorem dX0_choose_11 : decode cX0_choose 11 = .ok (.ifCond .ne 5, 3) := by decide +kernel
theorem dX0_choose_14 : decode cX0_choose 14 = .ok (.iconst (-1), 1) := by decide +kernel
theorem dX0_choose_15 : decode cX0_choose 15 = .ok (.ireturn, 1) := by decide +kernel
theorem dX0_choose_16 : decode cX0_choose 16 = .ok (.iload_n 3, 1) := by decide +kernel
theorem dX0_choose_17 : decode cX0_choose 17 = .ok (.ifCond .eq 18, 3) := by decide +kernel
theorem dX0_choose_20 : decode cX0_choose 20 = .ok (.aload_n 0, 1) := by decide +kernel
theorem dX0_choose_21 : decode cX0_choose 21 = .ok (.getfield 19, 3) := by decide +kernel
theorem dX0_choose_24 : decode cX0_choose 24 = .ok (.iload_n 1, 1) := by decide +kernel
theorem dX0_choose_25 : decode cX0_choose 25 = .ok (.dup2, 1) := by decide +kernel
theorem dX0_choose_26 : decode cX0_choose 26 = .ok (.iaload, 1) := by decide +kernel
theorem dX0_choose_27 : decode cX0_choose 27 = .ok (.iconst 1, 1) := by decide +kernel
theorem dX0_choose_28 : decode cX0_choose 28 = .ok (.iload_n 2, 1) := by decide +kernel
theorem dX0_choose_29 : decode cX0_choose 29 = .ok (.ishl, 1) := by decide +kernel
theorem dX0_choose_30 : decode cX0_choose 30 = .ok (.ior, 1) := by decide +kernel
theorem dX0_choose_31 : decode cX0_choose 31 = .ok (.iastore, 1) := by decide +kernel
theorem dX0_choose_32 : decode cX0_choose 32 = .ok (.goto 17, 3) := by decide +kernel
theorem dX0_choose_35 : decode cX0_choose 35 = .ok (.aload_n 0, 1) := by decide +kernel
theorem dX0_choose_36 : decode cX0_choose 36 = .ok (.getfield 19, 3) := by decide +kernel
theorem dX0_choose_39 : decode cX0_choose 39 = .ok (.iload_n 1, 1) := by decide +kernel
theorem dX0_choose_40 : decode cX0_choose 40 = .ok (.dup2, 1) := by decide +kernel
theorem dX0_choose_41 : decode cX0_choose 41 = .ok (.iaload, 1) := by decide +kernel
theorem dX0_choose_42 : decode cX0_choose 42 = .ok (.iconst 1, 1) := by decide +kernel
theorem dX0_choose_43 : decode cX0_choose 43 = .ok (.iload_n 2, 1) := by decide +kernel
theorem dX0_choose_44 : decode cX0_choose 44 = .ok (.ishl, 1) := by decide +kernel
theorem dX0_choose_45 : decode cX0_choose 45 = .ok (.iconst (-1), 1) := by decide +kernel
theorem dX0_choose_46 : decode cX0_choose 46 = .ok (.ixor, 1) := by decide +kernel
theorem dX0_choose_47 : decode cX0_choose 47 = .ok (.iand, 1) := by decide +kernel
theorem dX0_choose_48 : decode cX0_choose 48 = .ok (.iastore, 1) := by decide +kernel
theorem dX0_choose_49 : decode cX0_choose 49 = .ok (.aload_n 0, 1) := by decide +kernel
theorem dX0_choose_50 : decode cX0_choose 50 = .ok (.invokevirtual 60, 3) := by decide +kernel
theorem dX0_choose_53 : decode cX0_choose 53 = .ok (.ireturn, 1) := by decide +kernel
set_option maxRecDepth 20000 in
theorem ggX0_kept_X0_countKept : GoodIn wsX0_kept wsX0_countKept := goodIn_r _ [5, 6, 7, 8, 4, 9, 10, 11, 12, 13, 14, 15, 16, 17, 18, 19, 20, 21, 22, 23] (by decide +kernel) (by decide +kernel)
set_option maxRecDepth 20000 in
theorem gX0_kept_X0_countKept : GoodIn wsX0_kept (wsV RX0 60 RX0 yX0_countKept wsX0_countKept) := goodIn_app (goodIn_of _ (by decide +kernel)) ggX0_kept_X0_countKept
theorem dX0_kept_0 : decode cX0_kept 0 = .ok (.aload_n 0, 1) := by decide +kernel
theorem dX0_kept_1 : decode cX0_kept 1 = .ok (.invokevirtual 60, 3) := by decide +kernel
theorem dX0_kept_4 : decode cX0_kept 4 = .ok (.ireturn, 1) := by decide +kernel
set_option maxRecDepth 20000 in
theorem ggX0_isKept_X0_isThing : GoodIn wsX0_isKept wsX0_isThing := goodIn_r _ [4] (by decide +kernel) (by decide +kernel)
set_option maxRecDepth 20000 in
theorem gX0_isKept_X0_isThing : GoodIn wsX0_isKept (va_wsS RX0 38 yX0_isThing wsX0_isThing) := goodIn_app (goodIn_of _ (by decide +kernel)) ggX0_isKept_X0_isThing
set_option maxRecDepth 20000 in
theorem ggX0_isKept_X0_lackedHeads : GoodIn wsX0_isKept wsX0_lackedHeads := goodIn_r _ [8, 9, 10, 11, 12, 3, 13, 14, 15, 16, 17, 18, 19, 20, 21, 22] (by decide +kernel) (by decide +kernel)
set_option maxRecDepth 20000 in
theorem gX0_isKept_X0_lackedHeads : GoodIn wsX0_isKept (wsV RX0 64 RX0 yX0_lackedHeads wsX0_lackedHeads) := goodIn_app (goodIn_of _ (by decide +kernel)) ggX0_isKept_X0_lackedHeads
theorem dX0_isKept_0 : decode cX0_isKept 0 = .ok (.iload_n 1, 1) := by decide +kernel
theorem dX0_isKept_1 : decode cX0_isKept 1 = .ok (.invokestatic 38, 3) := by decide +kernel
theorem dX0_isKept_4 : decode cX0_isKept 4 = .ok (.ifCond .ne 5, 3) := by decide +kernel
theorem dX0_isKept_7 : decode cX0_isKept 7 = .ok (.iconst (-1), 1) := by decide +kernel
theorem dX0_isKept_8 : decode cX0_isKept 8 = .ok (.ireturn, 1) := by decide +kernel
theorem dX0_isKept_9 : decode cX0_isKept 9 = .ok (.aload_n 0, 1) := by decide +kernel
theorem dX0_isKept_10 : decode cX0_isKept 10 = .ok (.iload_n 1, 1) := by decide +kernel
theorem dX0_isKept_11 : decode cX0_isKept 11 = .ok (.invokevirtual 64, 3) := by decide +kernel
theorem dX0_isKept_14 : decode cX0_isKept 14 = .ok (.ifCond .ne 7, 3) := by decide +kernel
theorem dX0_isKept_17 : decode cX0_isKept 17 = .ok (.iconst 1, 1) := by decide +kernel
theorem dX0_isKept_18 : decode cX0_isKept 18 = .ok (.goto 4, 3) := by decide +kernel
theorem dX0_isKept_21 : decode cX0_isKept 21 = .ok (.iconst 0, 1) := by decide +kernel
theorem dX0_isKept_22 : decode cX0_isKept 22 = .ok (.ireturn, 1) := by decide +kernel
set_option maxRecDepth 20000 in
theorem ggX0_facet_X0_isHead : GoodIn wsX0_facet wsX0_isHead := goodIn_r _ [4] (by decide +kernel) (by decide +kernel)
set_option maxRecDepth 20000 in
theorem gX0_facet_X0_isHead : GoodIn wsX0_facet (va_wsS RX0 42 yX0_isHead wsX0_isHead) := goodIn_app (goodIn_of _ (by decide +kernel)) ggX0_facet_X0_isHead
set_option maxRecDepth 20000 in
theorem ggX0_facet_X0_isValue : GoodIn wsX0_facet wsX0_isValue := goodIn_r _ [7] (by decide +kernel) (by decide +kernel)
set_option maxRecDepth 20000 in
theorem gX0_facet_X0_isValue : GoodIn wsX0_facet (va_wsS RX0 45 yX0_isValue wsX0_isValue) := goodIn_app (goodIn_of _ (by decide +kernel)) ggX0_facet_X0_isValue
set_option maxRecDepth 20000 in
theorem ggX0_facet_X0_countWithAny : GoodIn wsX0_facet wsX0_countWithAny := goodIn_r _ [11, 12, 13, 14, 3, 15, 16, 17, 18, 19, 20, 21, 22, 23, 24, 25, 26, 27, 28, 29, 30, 31, 32, 33] (by decide +kernel) (by decide +kernel)
set_option maxRecDepth 20000 in
theorem gX0_facet_X0_countWithAny : GoodIn wsX0_facet (wsV RX0 68 RX0 yX0_countWithAny wsX0_countWithAny) := goodIn_app (goodIn_of _ (by decide +kernel)) ggX0_facet_X0_countWithAny
theorem dX0_facet_0 : decode cX0_facet 0 = .ok (.iload_n 1, 1) := by decide +kernel
theorem dX0_facet_1 : decode cX0_facet 1 = .ok (.invokestatic 42, 3) := by decide +kernel
theorem dX0_facet_4 : decode cX0_facet 4 = .ok (.ifCond .eq 10, 3) := by decide +kernel
theorem dX0_facet_7 : decode cX0_facet 7 = .ok (.iload_n 2, 1) := by decide +kernel
theorem dX0_facet_8 : decode cX0_facet 8 = .ok (.invokestatic 45, 3) := by decide +kernel
theorem dX0_facet_11 : decode cX0_facet 11 = .ok (.ifCond .ne 5, 3) := by decide +kernel
theorem dX0_facet_14 : decode cX0_facet 14 = .ok (.iconst (-1), 1) := by decide +kernel
theorem dX0_facet_15 : decode cX0_facet 15 = .ok (.ireturn, 1) := by decide +kernel
theorem dX0_facet_16 : decode cX0_facet 16 = .ok (.aload_n 0, 1) := by decide +kernel
theorem dX0_facet_17 : decode cX0_facet 17 = .ok (.iload_n 1, 1) := by decide +kernel
theorem dX0_facet_18 : decode cX0_facet 18 = .ok (.iconst 1, 1) := by decide +kernel
theorem dX0_facet_19 : decode cX0_facet 19 = .ok (.iload_n 2, 1) := by decide +kernel
theorem dX0_facet_20 : decode cX0_facet 20 = .ok (.ishl, 1) := by decide +kernel
theorem dX0_facet_21 : decode cX0_facet 21 = .ok (.invokevirtual 68, 3) := by decide +kernel
theorem dX0_facet_24 : decode cX0_facet 24 = .ok (.ireturn, 1) := by decide +kernel
set_option maxRecDepth 20000 in
theorem ggX0_top_X0_isHead : GoodIn wsX0_top wsX0_isHead := goodIn_r _ [5] (by decide +kernel) (by decide +kernel)
set_option maxRecDepth 20000 in
theorem gX0_top_X0_isHead : GoodIn wsX0_top (va_wsS RX0 42 yX0_isHead wsX0_isHead) := goodIn_app (goodIn_of _ (by decide +kernel)) ggX0_top_X0_isHead
set_option maxRecDepth 20000 in
theorem ggX0_top_X0_countAll : GoodIn wsX0_top wsX0_countAll := goodIn_r _ [9, 1, 10, 11, 12, 13, 14, 15, 16, 4, 17, 18, 19, 20, 21, 22, 23, 24, 25, 26, 27, 28, 29, 30, 31, 36, 37, 38, 39, 40, 41, 42] (by decide +kernel) (by decide +kernel)
set_option maxRecDepth 20000 in
theorem gX0_top_X0_countAll : GoodIn wsX0_top (wsV RX0 71 RX0 yX0_countAll wsX0_countAll) := goodIn_app (goodIn_of _ (by decide +kernel)) ggX0_top_X0_countAll
set_option maxRecDepth 20000 in
theorem ggX0_top_X0_rankOf : GoodIn wsX0_top wsX0_rankOf := goodIn_r _ [35, 1, 36, 37, 38, 39, 40, 41, 42] (by decide +kernel) (by decide +kernel)
set_option maxRecDepth 20000 in
theorem gX0_top_X0_rankOf : GoodIn wsX0_top (wsV RX0 74 RX0 yX0_rankOf wsX0_rankOf) := goodIn_app (goodIn_of _ (by decide +kernel)) ggX0_top_X0_rankOf
theorem dX0_top_0 : decode cX0_top 0 = .ok (.iload_n 1, 1) := by decide +kernel
theorem dX0_top_1 : decode cX0_top 1 = .ok (.invokestatic 42, 3) := by decide +kernel
theorem dX0_top_4 : decode cX0_top 4 = .ok (.ifCond .eq 13, 3) := by decide +kernel
theorem dX0_top_7 : decode cX0_top 7 = .ok (.iload_n 2, 1) := by decide +kernel
theorem dX0_top_8 : decode cX0_top 8 = .ok (.ifCond .lt 9, 3) := by decide +kernel
theorem dX0_top_11 : decode cX0_top 11 = .ok (.iload_n 2, 1) := by decide +kernel
theorem dX0_top_12 : decode cX0_top 12 = .ok (.bipush 32, 2) := by decide +kernel
theorem dX0_top_14 : decode cX0_top 14 = .ok (.if_icmp .lt 5, 3) := by decide +kernel
theorem dX0_top_17 : decode cX0_top 17 = .ok (.iconst (-1), 1) := by decide +kernel
theorem dX0_top_18 : decode cX0_top 18 = .ok (.ireturn, 1) := by decide +kernel
theorem dX0_top_19 : decode cX0_top 19 = .ok (.aload_n 0, 1) := by decide +kernel
theorem dX0_top_20 : decode cX0_top 20 = .ok (.invokevirtual 71, 3) := by decide +kernel
theorem dX0_top_23 : decode cX0_top 23 = .ok (.iconst 0, 1) := by decide +kernel
theorem dX0_top_24 : decode cX0_top 24 = .ok (.istore_n 3, 1) := by decide +kernel
theorem dX0_top_25 : decode cX0_top 25 = .ok (.iload_n 3, 1) := by decide +kernel
theorem dX0_top_26 : decode cX0_top 26 = .ok (.bipush 32, 2) := by decide +kernel
theorem dX0_top_28 : decode cX0_top 28 = .ok (.if_icmp .ge 35, 3) := by decide +kernel
theorem dX0_top_31 : decode cX0_top 31 = .ok (.aload_n 0, 1) := by decide +kernel
theorem dX0_top_32 : decode cX0_top 32 = .ok (.getfield 25, 3) := by decide +kernel
theorem dX0_top_35 : decode cX0_top 35 = .ok (.iload_n 1, 1) := by decide +kernel
theorem dX0_top_36 : decode cX0_top 36 = .ok (.bipush 32, 2) := by decide +kernel
theorem dX0_top_38 : decode cX0_top 38 = .ok (.imul, 1) := by decide +kernel
theorem dX0_top_39 : decode cX0_top 39 = .ok (.iload_n 3, 1) := by decide +kernel
theorem dX0_top_40 : decode cX0_top 40 = .ok (.iadd, 1) := by decide +kernel
theorem dX0_top_41 : decode cX0_top 41 = .ok (.iaload, 1) := by decide +kernel
theorem dX0_top_42 : decode cX0_top 42 = .ok (.ifCond .eq 15, 3) := by decide +kernel
theorem dX0_top_45 : decode cX0_top 45 = .ok (.aload_n 0, 1) := by decide +kernel
theorem dX0_top_46 : decode cX0_top 46 = .ok (.iload_n 1, 1) := by decide +kernel
theorem dX0_top_47 : decode cX0_top 47 = .ok (.iload_n 3, 1) := by decide +kernel
theorem dX0_top_48 : decode cX0_top 48 = .ok (.invokevirtual 74, 3) := by decide +kernel
theorem dX0_top_51 : decode cX0_top 51 = .ok (.iload_n 2, 1) := by decide +kernel
theorem dX0_top_52 : decode cX0_top 52 = .ok (.if_icmp .ne 5, 3) := by decide +kernel
theorem dX0_top_55 : decode cX0_top 55 = .ok (.iload_n 3, 1) := by decide +kernel
theorem dX0_top_56 : decode cX0_top 56 = .ok (.ireturn, 1) := by decide +kernel
theorem dX0_top_57 : decode cX0_top 57 = .ok (.iinc 3 1, 3) := by decide +kernel
theorem dX0_top_60 : decode cX0_top 60 = .ok (.goto (-35), 3) := by decide +kernel
theorem dX0_top_63 : decode cX0_top 63 = .ok (.iconst (-1), 1) := by decide +kernel
theorem dX0_top_64 : decode cX0_top 64 = .ok (.ireturn, 1) := by decide +kernel
set_option maxRecDepth 20000 in
theorem ggX0_range_X0_isHead : GoodIn wsX0_range wsX0_isHead := goodIn_r _ [4] (by decide +kernel) (by decide +kernel)
set_option maxRecDepth 20000 in
theorem gX0_range_X0_isHead : GoodIn wsX0_range (va_wsS RX0 42 yX0_isHead wsX0_isHead) := goodIn_app (goodIn_of _ (by decide +kernel)) ggX0_range_X0_isHead
set_option maxRecDepth 20000 in
theorem ggX0_range_X0_span : GoodIn wsX0_range wsX0_span := goodIn_r _ [7, 8, 9, 10, 11, 12, 13, 14] (by decide +kernel) (by decide +kernel)
set_option maxRecDepth 20000 in
theorem gX0_range_X0_span : GoodIn wsX0_range (va_wsS RX0 77 yX0_span wsX0_span) := goodIn_app (goodIn_of _ (by decide +kernel)) ggX0_range_X0_span
set_option maxRecDepth 20000 in
theorem ggX0_range_X0_countWithAny : GoodIn wsX0_range wsX0_countWithAny := goodIn_r _ [18, 19, 20, 21, 3, 22, 23, 24, 25, 26, 27, 28, 29, 30, 31, 32, 33, 34, 35, 36, 37, 38, 39, 40] (by decide +kernel) (by decide +kernel)
set_option maxRecDepth 20000 in
theorem gX0_range_X0_countWithAny : GoodIn wsX0_range (wsV RX0 68 RX0 yX0_countWithAny wsX0_countWithAny) := goodIn_app (goodIn_of _ (by decide +kernel)) ggX0_range_X0_countWithAny
theorem dX0_range_0 : decode cX0_range 0 = .ok (.iload_n 1, 1) := by decide +kernel
theorem dX0_range_1 : decode cX0_range 1 = .ok (.invokestatic 42, 3) := by decide +kernel
theorem dX0_range_4 : decode cX0_range 4 = .ok (.ifCond .ne 5, 3) := by decide +kernel
theorem dX0_range_7 : decode cX0_range 7 = .ok (.iconst (-1), 1) := by decide +kernel
theorem dX0_range_8 : decode cX0_range 8 = .ok (.ireturn, 1) := by decide +kernel
theorem dX0_range_9 : decode cX0_range 9 = .ok (.aload_n 0, 1) := by decide +kernel
theorem dX0_range_10 : decode cX0_range 10 = .ok (.iload_n 1, 1) := by decide +kernel
theorem dX0_range_11 : decode cX0_range 11 = .ok (.iload_n 2, 1) := by decide +kernel
theorem dX0_range_12 : decode cX0_range 12 = .ok (.iload_n 3, 1) := by decide +kernel
theorem dX0_range_13 : decode cX0_range 13 = .ok (.invokestatic 77, 3) := by decide +kernel
theorem dX0_range_16 : decode cX0_range 16 = .ok (.invokevirtual 68, 3) := by decide +kernel
theorem dX0_range_19 : decode cX0_range 19 = .ok (.ireturn, 1) := by decide +kernel
set_option maxRecDepth 20000 in
theorem ggX0_sum_X0_isHead : GoodIn wsX0_sum wsX0_isHead := goodIn_r _ [4] (by decide +kernel) (by decide +kernel)
set_option maxRecDepth 20000 in
theorem gX0_sum_X0_isHead : GoodIn wsX0_sum (va_wsS RX0 42 yX0_isHead wsX0_isHead) := goodIn_app (goodIn_of _ (by decide +kernel)) ggX0_sum_X0_isHead
set_option maxRecDepth 20000 in
theorem ggX0_sum_X0_isValue : GoodIn wsX0_sum wsX0_isValue := goodIn_r _ [7] (by decide +kernel) (by decide +kernel)
set_option maxRecDepth 20000 in
theorem gX0_sum_X0_isValue : GoodIn wsX0_sum (va_wsS RX0 45 yX0_isValue wsX0_isValue) := goodIn_app (goodIn_of _ (by decide +kernel)) ggX0_sum_X0_isValue
set_option maxRecDepth 20000 in
theorem ggX0_sum_X0_valuesOf : GoodIn wsX0_sum wsX0_valuesOf := goodIn_r _ [11, 12, 13, 25, 26, 27, 28, 29, 30, 31] (by decide +kernel) (by decide +kernel)
set_option maxRecDepth 20000 in
theorem gX0_sum_X0_valuesOf : GoodIn wsX0_sum (wsV RX0 80 RX0 yX0_valuesOf wsX0_valuesOf) := goodIn_app (goodIn_of _ (by decide +kernel)) ggX0_sum_X0_valuesOf
set_option maxRecDepth 20000 in
theorem ggX0_sum_X0_holds : GoodIn wsX0_sum wsX0_holds := goodIn_r _ [16] (by decide +kernel) (by decide +kernel)
set_option maxRecDepth 20000 in
theorem gX0_sum_X0_holds : GoodIn wsX0_sum (va_wsS RX0 48 yX0_holds wsX0_holds) := goodIn_app (goodIn_of _ (by decide +kernel)) ggX0_sum_X0_holds
set_option maxRecDepth 20000 in
theorem ggX0_sum_X0_lackedHeads : GoodIn wsX0_sum wsX0_lackedHeads := goodIn_r _ [20, 21, 8, 9, 10, 3, 11, 12, 13, 25, 26, 27, 28, 29, 30, 31] (by decide +kernel) (by decide +kernel)
set_option maxRecDepth 20000 in
theorem gX0_sum_X0_lackedHeads : GoodIn wsX0_sum (wsV RX0 64 RX0 yX0_lackedHeads wsX0_lackedHeads) := goodIn_app (goodIn_of _ (by decide +kernel)) ggX0_sum_X0_lackedHeads
set_option maxRecDepth 20000 in
theorem ggX0_sum_X0_sumOf : GoodIn wsX0_sum wsX0_sumOf := goodIn_r _ [24, 14, 15, 3, 16] (by decide +kernel) (by decide +kernel)
set_option maxRecDepth 20000 in
theorem gX0_sum_X0_sumOf : GoodIn wsX0_sum (va_wsS RX0 83 yX0_sumOf wsX0_sumOf) := goodIn_app (goodIn_of _ (by decide +kernel)) ggX0_sum_X0_sumOf
theorem dX0_sum_0 : decode cX0_sum 0 = .ok (.iload_n 1, 1) := by decide +kernel
theorem dX0_sum_1 : decode cX0_sum 1 = .ok (.invokestatic 42, 3) := by decide +kernel
theorem dX0_sum_4 : decode cX0_sum 4 = .ok (.ifCond .eq 17, 3) := by decide +kernel
theorem dX0_sum_7 : decode cX0_sum 7 = .ok (.iload_n 2, 1) := by decide +kernel
theorem dX0_sum_8 : decode cX0_sum 8 = .ok (.invokestatic 45, 3) := by decide +kernel
theorem dX0_sum_11 : decode cX0_sum 11 = .ok (.ifCond .eq 10, 3) := by decide +kernel
theorem dX0_sum_14 : decode cX0_sum 14 = .ok (.iload_n 3, 1) := by decide +kernel
theorem dX0_sum_15 : decode cX0_sum 15 = .ok (.invokestatic 42, 3) := by decide +kernel
theorem dX0_sum_18 : decode cX0_sum 18 = .ok (.ifCond .ne 5, 3) := by decide +kernel
theorem dX0_sum_21 : decode cX0_sum 21 = .ok (.iconst (-1), 1) := by decide +kernel
theorem dX0_sum_22 : decode cX0_sum 22 = .ok (.ireturn, 1) := by decide +kernel
theorem dX0_sum_23 : decode cX0_sum 23 = .ok (.iconst 0, 1) := by decide +kernel
theorem dX0_sum_24 : decode cX0_sum 24 = .ok (.istore 4, 2) := by decide +kernel
theorem dX0_sum_26 : decode cX0_sum 26 = .ok (.iconst 0, 1) := by decide +kernel
theorem dX0_sum_27 : decode cX0_sum 27 = .ok (.istore 5, 2) := by decide +kernel
theorem dX0_sum_29 : decode cX0_sum 29 = .ok (.iload 5, 2) := by decide +kernel
theorem dX0_sum_31 : decode cX0_sum 31 = .ok (.bipush 40, 2) := by decide +kernel
theorem dX0_sum_33 : decode cX0_sum 33 = .ok (.if_icmp .ge 47, 3) := by decide +kernel
theorem dX0_sum_36 : decode cX0_sum 36 = .ok (.aload_n 0, 1) := by decide +kernel
theorem dX0_sum_37 : decode cX0_sum 37 = .ok (.iload 5, 2) := by decide +kernel
theorem dX0_sum_39 : decode cX0_sum 39 = .ok (.iload_n 1, 1) := by decide +kernel
theorem dX0_sum_40 : decode cX0_sum 40 = .ok (.invokevirtual 80, 3) := by decide +kernel
theorem dX0_sum_43 : decode cX0_sum 43 = .ok (.iload_n 2, 1) := by decide +kernel
theorem dX0_sum_44 : decode cX0_sum 44 = .ok (.invokestatic 48, 3) := by decide +kernel
theorem dX0_sum_47 : decode cX0_sum 47 = .ok (.ifCond .eq 27, 3) := by decide +kernel
theorem dX0_sum_50 : decode cX0_sum 50 = .ok (.aload_n 0, 1) := by decide +kernel
theorem dX0_sum_51 : decode cX0_sum 51 = .ok (.iload 5, 2) := by decide +kernel
theorem dX0_sum_53 : decode cX0_sum 53 = .ok (.invokevirtual 64, 3) := by decide +kernel
theorem dX0_sum_56 : decode cX0_sum 56 = .ok (.ifCond .ne 18, 3) := by decide +kernel
theorem dX0_sum_59 : decode cX0_sum 59 = .ok (.iload 4, 2) := by decide +kernel
theorem dX0_sum_61 : decode cX0_sum 61 = .ok (.aload_n 0, 1) := by decide +kernel
theorem dX0_sum_62 : decode cX0_sum 62 = .ok (.iload 5, 2) := by decide +kernel
theorem dX0_sum_64 : decode cX0_sum 64 = .ok (.iload_n 3, 1) := by decide +kernel
theorem dX0_sum_65 : decode cX0_sum 65 = .ok (.invokevirtual 80, 3) := by decide +kernel
theorem dX0_sum_68 : decode cX0_sum 68 = .ok (.invokestatic 83, 3) := by decide +kernel
theorem dX0_sum_71 : decode cX0_sum 71 = .ok (.iadd, 1) := by decide +kernel
theorem dX0_sum_72 : decode cX0_sum 72 = .ok (.istore 4, 2) := by decide +kernel
theorem dX0_sum_74 : decode cX0_sum 74 = .ok (.iinc 5 1, 3) := by decide +kernel
theorem dX0_sum_77 : decode cX0_sum 77 = .ok (.goto (-48), 3) := by decide +kernel
theorem dX0_sum_80 : decode cX0_sum 80 = .ok (.iload 4, 2) := by decide +kernel
theorem dX0_sum_82 : decode cX0_sum 82 = .ok (.ireturn, 1) := by decide +kernel
set_option maxRecDepth 20000 in
theorem ggX0_share_X0_isHead : GoodIn wsX0_share wsX0_isHead := goodIn_r _ [6] (by decide +kernel) (by decide +kernel)
set_option maxRecDepth 20000 in
theorem gX0_share_X0_isHead : GoodIn wsX0_share (va_wsS RX0 42 yX0_isHead wsX0_isHead) := goodIn_app (goodIn_of _ (by decide +kernel)) ggX0_share_X0_isHead
set_option maxRecDepth 20000 in
theorem ggX0_share_X0_isValue : GoodIn wsX0_share wsX0_isValue := goodIn_r _ [9] (by decide +kernel) (by decide +kernel)
set_option maxRecDepth 20000 in
theorem gX0_share_X0_isValue : GoodIn wsX0_share (va_wsS RX0 45 yX0_isValue wsX0_isValue) := goodIn_app (goodIn_of _ (by decide +kernel)) ggX0_share_X0_isValue
set_option maxRecDepth 20000 in
theorem ggX0_share_X0_countKeptBut : GoodIn wsX0_share wsX0_countKeptBut := goodIn_r _ [13, 14, 15, 16, 5, 17, 18, 19, 20, 21, 22, 23, 24, 25, 26, 27, 28, 36, 37, 38, 39, 40, 41, 42] (by decide +kernel) (by decide +kernel)
set_option maxRecDepth 20000 in
theorem gX0_share_X0_countKeptBut : GoodIn wsX0_share (wsV RX0 93 RX0 yX0_countKeptBut wsX0_countKeptBut) := goodIn_app (goodIn_of _ (by decide +kernel)) ggX0_share_X0_countKeptBut
set_option maxRecDepth 20000 in
theorem ggX0_share_X0_countWithAny : GoodIn wsX0_share wsX0_countWithAny := goodIn_r _ [32, 23, 24, 25, 5, 26, 27, 28, 14, 15, 16, 17, 18, 19, 20, 21, 22, 36, 37, 38, 39, 40, 41, 42] (by decide +kernel) (by decide +kernel)
set_option maxRecDepth 20000 in
theorem gX0_share_X0_countWithAny : GoodIn wsX0_share (wsV RX0 68 RX0 yX0_countWithAny wsX0_countWithAny) := goodIn_app (goodIn_of _ (by decide +kernel)) ggX0_share_X0_countWithAny
set_option maxRecDepth 20000 in
theorem ggX0_share_X0_inLeastTerms : GoodIn wsX0_share wsX0_inLeastTerms := goodIn_r _ [35] (by decide +kernel) (by decide +kernel)
set_option maxRecDepth 20000 in
theorem gX0_share_X0_inLeastTerms : GoodIn wsX0_share (va_wsS RX0 98 yX0_inLeastTerms wsX0_inLeastTerms) := goodIn_app (goodIn_of _ (by decide +kernel)) ggX0_share_X0_inLeastTerms
theorem dX0_share_0 : decode cX0_share 0 = .ok (.iload_n 1, 1) := by decide +kernel
theorem dX0_share_1 : decode cX0_share 1 = .ok (.invokestatic 42, 3) := by decide +kernel
theorem dX0_share_4 : decode cX0_share 4 = .ok (.ifCond .eq 10, 3) := by decide +kernel
theorem dX0_share_7 : decode cX0_share 7 = .ok (.iload_n 2, 1) := by decide +kernel
theorem dX0_share_8 : decode cX0_share 8 = .ok (.invokestatic 45, 3) := by decide +kernel
theorem dX0_share_11 : decode cX0_share 11 = .ok (.ifCond .ne 13, 3) := by decide +kernel
theorem dX0_share_14 : decode cX0_share 14 = .ok (.new 86, 3) := by decide +kernel
theorem dX0_share_17 : decode cX0_share 17 = .ok (.dup, 1) := by decide +kernel
theorem dX0_share_18 : decode cX0_share 18 = .ok (.ldc 88, 2) := by decide +kernel
theorem dX0_share_20 : decode cX0_share 20 = .ok (.invokespecial 90, 3) := by decide +kernel
theorem dX0_share_23 : decode cX0_share 23 = .ok (.athrow, 1) := by decide +kernel
theorem dX0_share_24 : decode cX0_share 24 = .ok (.aload_n 0, 1) := by decide +kernel
theorem dX0_share_25 : decode cX0_share 25 = .ok (.iload_n 1, 1) := by decide +kernel
theorem dX0_share_26 : decode cX0_share 26 = .ok (.invokevirtual 93, 3) := by decide +kernel
theorem dX0_share_29 : decode cX0_share 29 = .ok (.istore 4, 2) := by decide +kernel
theorem dX0_share_31 : decode cX0_share 31 = .ok (.iload 4, 2) := by decide +kernel
theorem dX0_share_33 : decode cX0_share 33 = .ok (.ifCond .ne 13, 3) := by decide +kernel
theorem dX0_share_36 : decode cX0_share 36 = .ok (.new 86, 3) := by decide +kernel
theorem dX0_share_39 : decode cX0_share 39 = .ok (.dup, 1) := by decide +kernel
theorem dX0_share_40 : decode cX0_share 40 = .ok (.ldc 96, 2) := by decide +kernel
theorem dX0_share_42 : decode cX0_share 42 = .ok (.invokespecial 90, 3) := by decide +kernel
theorem dX0_share_45 : decode cX0_share 45 = .ok (.athrow, 1) := by decide +kernel
theorem dX0_share_46 : decode cX0_share 46 = .ok (.aload_n 0, 1) := by decide +kernel
theorem dX0_share_47 : decode cX0_share 47 = .ok (.iload_n 1, 1) := by decide +kernel
theorem dX0_share_48 : decode cX0_share 48 = .ok (.iconst 1, 1) := by decide +kernel
theorem dX0_share_49 : decode cX0_share 49 = .ok (.iload_n 2, 1) := by decide +kernel
theorem dX0_share_50 : decode cX0_share 50 = .ok (.ishl, 1) := by decide +kernel
theorem dX0_share_51 : decode cX0_share 51 = .ok (.invokevirtual 68, 3) := by decide +kernel
theorem dX0_share_54 : decode cX0_share 54 = .ok (.istore 5, 2) := by decide +kernel
theorem dX0_share_56 : decode cX0_share 56 = .ok (.iload_n 3, 1) := by decide +kernel
theorem dX0_share_57 : decode cX0_share 57 = .ok (.ifCond .eq 8, 3) := by decide +kernel
theorem dX0_share_60 : decode cX0_share 60 = .ok (.iload 4, 2) := by decide +kernel
theorem dX0_share_62 : decode cX0_share 62 = .ok (.goto 5, 3) := by decide +kernel
theorem dX0_share_65 : decode cX0_share 65 = .ok (.iload 5, 2) := by decide +kernel
theorem dX0_share_67 : decode cX0_share 67 = .ok (.iload 5, 2) := by decide +kernel
theorem dX0_share_69 : decode cX0_share 69 = .ok (.iload 4, 2) := by decide +kernel
theorem dX0_share_71 : decode cX0_share 71 = .ok (.invokestatic 98, 3) := by decide +kernel
theorem dX0_share_74 : decode cX0_share 74 = .ok (.ireturn, 1) := by decide +kernel
set_option maxRecDepth 20000 in
theorem ggX0_changed_X0_countAll : GoodIn wsX0_changed wsX0_countAll := goodIn_r _ [7, 1, 8, 9, 10, 11, 12, 13, 14, 6, 15, 16, 17, 18, 19, 20, 21, 22, 23, 24, 25, 26, 27, 28, 29, 30, 31, 32, 33, 34, 35, 36] (by decide +kernel) (by decide +kernel)
set_option maxRecDepth 20000 in
theorem gX0_changed_X0_countAll : GoodIn wsX0_changed (wsV RX0 71 RX0 yX0_countAll wsX0_countAll) := goodIn_app (goodIn_of _ (by decide +kernel)) ggX0_changed_X0_countAll
theorem dX0_changed_0 : decode cX0_changed 0 = .ok (.aload_n 0, 1) := by decide +kernel
theorem dX0_changed_1 : decode cX0_changed 1 = .ok (.invokevirtual 71, 3) := by decide +kernel
theorem dX0_changed_4 : decode cX0_changed 4 = .ok (.iconst 0, 1) := by decide +kernel
theorem dX0_changed_5 : decode cX0_changed 5 = .ok (.istore_n 1, 1) := by decide +kernel
theorem dX0_changed_6 : decode cX0_changed 6 = .ok (.iconst 0, 1) := by decide +kernel
theorem dX0_changed_7 : decode cX0_changed 7 = .ok (.istore_n 2, 1) := by decide +kernel
theorem dX0_changed_8 : decode cX0_changed 8 = .ok (.iload_n 2, 1) := by decide +kernel
theorem dX0_changed_9 : decode cX0_changed 9 = .ok (.sipush 256, 3) := by decide +kernel
theorem dX0_changed_12 : decode cX0_changed 12 = .ok (.if_icmp .ge 39, 3) := by decide +kernel
theorem dX0_changed_15 : decode cX0_changed 15 = .ok (.aload_n 0, 1) := by decide +kernel
theorem dX0_changed_16 : decode cX0_changed 16 = .ok (.getfield 25, 3) := by decide +kernel
theorem dX0_changed_19 : decode cX0_changed 19 = .ok (.iload_n 2, 1) := by decide +kernel
theorem dX0_changed_20 : decode cX0_changed 20 = .ok (.iaload, 1) := by decide +kernel
theorem dX0_changed_21 : decode cX0_changed 21 = .ok (.aload_n 0, 1) := by decide +kernel
theorem dX0_changed_22 : decode cX0_changed 22 = .ok (.getfield 22, 3) := by decide +kernel
theorem dX0_changed_25 : decode cX0_changed 25 = .ok (.iload_n 2, 1) := by decide +kernel
theorem dX0_changed_26 : decode cX0_changed 26 = .ok (.iaload, 1) := by decide +kernel
theorem dX0_changed_27 : decode cX0_changed 27 = .ok (.if_icmp .eq 6, 3) := by decide +kernel
theorem dX0_changed_30 : decode cX0_changed 30 = .ok (.iinc 1 1, 3) := by decide +kernel
theorem dX0_changed_33 : decode cX0_changed 33 = .ok (.aload_n 0, 1) := by decide +kernel
theorem dX0_changed_34 : decode cX0_changed 34 = .ok (.getfield 22, 3) := by decide +kernel
theorem dX0_changed_37 : decode cX0_changed 37 = .ok (.iload_n 2, 1) := by decide +kernel
theorem dX0_changed_38 : decode cX0_changed 38 = .ok (.aload_n 0, 1) := by decide +kernel
theorem dX0_changed_39 : decode cX0_changed 39 = .ok (.getfield 25, 3) := by decide +kernel
theorem dX0_changed_42 : decode cX0_changed 42 = .ok (.iload_n 2, 1) := by decide +kernel
theorem dX0_changed_43 : decode cX0_changed 43 = .ok (.iaload, 1) := by decide +kernel
theorem dX0_changed_44 : decode cX0_changed 44 = .ok (.iastore, 1) := by decide +kernel
theorem dX0_changed_45 : decode cX0_changed 45 = .ok (.iinc 2 1, 3) := by decide +kernel
theorem dX0_changed_48 : decode cX0_changed 48 = .ok (.goto (-40), 3) := by decide +kernel
theorem dX0_changed_51 : decode cX0_changed 51 = .ok (.iload_n 1, 1) := by decide +kernel
theorem dX0_changed_52 : decode cX0_changed 52 = .ok (.ireturn, 1) := by decide +kernel
theorem dX0_rows_0 : decode cX0_rows 0 = .ok (.aload_n 0, 1) := by decide +kernel
theorem dX0_rows_1 : decode cX0_rows 1 = .ok (.getfield 28, 3) := by decide +kernel
theorem dX0_rows_4 : decode cX0_rows 4 = .ok (.ireturn, 1) := by decide +kernel
theorem dX0_isThing_0 : decode cX0_isThing 0 = .ok (.iload_n 0, 1) := by decide +kernel
theorem dX0_isThing_1 : decode cX0_isThing 1 = .ok (.ifCond .lt 13, 3) := by decide +kernel
theorem dX0_isThing_4 : decode cX0_isThing 4 = .ok (.iload_n 0, 1) := by decide +kernel
theorem dX0_isThing_5 : decode cX0_isThing 5 = .ok (.bipush 40, 2) := by decide +kernel
theorem dX0_isThing_7 : decode cX0_isThing 7 = .ok (.if_icmp .ge 7, 3) := by decide +kernel
theorem dX0_isThing_10 : decode cX0_isThing 10 = .ok (.iconst 1, 1) := by decide +kernel
theorem dX0_isThing_11 : decode cX0_isThing 11 = .ok (.goto 4, 3) := by decide +kernel
theorem dX0_isThing_14 : decode cX0_isThing 14 = .ok (.iconst 0, 1) := by decide +kernel
theorem dX0_isThing_15 : decode cX0_isThing 15 = .ok (.ireturn, 1) := by decide +kernel
theorem dX0_isHead_0 : decode cX0_isHead 0 = .ok (.iload_n 0, 1) := by decide +kernel
theorem dX0_isHead_1 : decode cX0_isHead 1 = .ok (.ifCond .lt 13, 3) := by decide +kernel
theorem dX0_isHead_4 : decode cX0_isHead 4 = .ok (.iload_n 0, 1) := by decide +kernel
theorem dX0_isHead_5 : decode cX0_isHead 5 = .ok (.bipush 8, 2) := by decide +kernel
theorem dX0_isHead_7 : decode cX0_isHead 7 = .ok (.if_icmp .ge 7, 3) := by decide +kernel
theorem dX0_isHead_10 : decode cX0_isHead 10 = .ok (.iconst 1, 1) := by decide +kernel
theorem dX0_isHead_11 : decode cX0_isHead 11 = .ok (.goto 4, 3) := by decide +kernel
theorem dX0_isHead_14 : decode cX0_isHead 14 = .ok (.iconst 0, 1) := by decide +kernel
theorem dX0_isHead_15 : decode cX0_isHead 15 = .ok (.ireturn, 1) := by decide +kernel
theorem dX0_isValue_0 : decode cX0_isValue 0 = .ok (.iload_n 0, 1) := by decide +kernel
theorem dX0_isValue_1 : decode cX0_isValue 1 = .ok (.ifCond .lt 13, 3) := by decide +kernel
theorem dX0_isValue_4 : decode cX0_isValue 4 = .ok (.iload_n 0, 1) := by decide +kernel
theorem dX0_isValue_5 : decode cX0_isValue 5 = .ok (.bipush 32, 2) := by decide +kernel
theorem dX0_isValue_7 : decode cX0_isValue 7 = .ok (.if_icmp .ge 7, 3) := by decide +kernel
theorem dX0_isValue_10 : decode cX0_isValue 10 = .ok (.iconst 1, 1) := by decide +kernel
theorem dX0_isValue_11 : decode cX0_isValue 11 = .ok (.goto 4, 3) := by decide +kernel
theorem dX0_isValue_14 : decode cX0_isValue 14 = .ok (.iconst 0, 1) := by decide +kernel
theorem dX0_isValue_15 : decode cX0_isValue 15 = .ok (.ireturn, 1) := by decide +kernel
theorem dX0_holds_0 : decode cX0_holds 0 = .ok (.iload_n 0, 1) := by decide +kernel
theorem dX0_holds_1 : decode cX0_holds 1 = .ok (.iconst 1, 1) := by decide +kernel
theorem dX0_holds_2 : decode cX0_holds 2 = .ok (.iload_n 1, 1) := by decide +kernel
theorem dX0_holds_3 : decode cX0_holds 3 = .ok (.ishl, 1) := by decide +kernel
theorem dX0_holds_4 : decode cX0_holds 4 = .ok (.iand, 1) := by decide +kernel
theorem dX0_holds_5 : decode cX0_holds 5 = .ok (.ifCond .eq 7, 3) := by decide +kernel
theorem dX0_holds_8 : decode cX0_holds 8 = .ok (.iconst 1, 1) := by decide +kernel
theorem dX0_holds_9 : decode cX0_holds 9 = .ok (.goto 4, 3) := by decide +kernel
theorem dX0_holds_12 : decode cX0_holds 12 = .ok (.iconst 0, 1) := by decide +kernel
theorem dX0_holds_13 : decode cX0_holds 13 = .ok (.ireturn, 1) := by decide +kernel
theorem dX0_valuesOf_0 : decode cX0_valuesOf 0 = .ok (.iload_n 2, 1) := by decide +kernel
theorem dX0_valuesOf_1 : decode cX0_valuesOf 1 = .ok (.ifCond .ne 12, 3) := by decide +kernel
theorem dX0_valuesOf_4 : decode cX0_valuesOf 4 = .ok (.aload_n 0, 1) := by decide +kernel
theorem dX0_valuesOf_5 : decode cX0_valuesOf 5 = .ok (.getfield 13, 3) := by decide +kernel
theorem dX0_valuesOf_8 : decode cX0_valuesOf 8 = .ok (.iload_n 1, 1) := by decide +kernel
theorem dX0_valuesOf_9 : decode cX0_valuesOf 9 = .ok (.iaload, 1) := by decide +kernel
theorem dX0_valuesOf_10 : decode cX0_valuesOf 10 = .ok (.goto 14, 3) := by decide +kernel
theorem dX0_valuesOf_13 : decode cX0_valuesOf 13 = .ok (.aload_n 0, 1) := by decide +kernel
theorem dX0_valuesOf_14 : decode cX0_valuesOf 14 = .ok (.getfield 9, 3) := by decide +kernel
theorem dX0_valuesOf_17 : decode cX0_valuesOf 17 = .ok (.iload_n 1, 1) := by decide +kernel
theorem dX0_valuesOf_18 : decode cX0_valuesOf 18 = .ok (.bipush 8, 2) := by decide +kernel
theorem dX0_valuesOf_20 : decode cX0_valuesOf 20 = .ok (.imul, 1) := by decide +kernel
theorem dX0_valuesOf_21 : decode cX0_valuesOf 21 = .ok (.iload_n 2, 1) := by decide +kernel
theorem dX0_valuesOf_22 : decode cX0_valuesOf 22 = .ok (.iadd, 1) := by decide +kernel
theorem dX0_valuesOf_23 : decode cX0_valuesOf 23 = .ok (.iaload, 1) := by decide +kernel
theorem dX0_valuesOf_24 : decode cX0_valuesOf 24 = .ok (.ireturn, 1) := by decide +kernel
set_option maxRecDepth 20000 in
theorem ggX0_renewKinds_X0_holds : GoodIn wsX0_renewKinds wsX0_holds := goodIn_r _ [6] (by decide +kernel) (by decide +kernel)
set_option maxRecDepth 20000 in
theorem gX0_renewKinds_X0_holds : GoodIn wsX0_renewKinds (va_wsS RX0 48 yX0_holds wsX0_holds) := goodIn_app (goodIn_of _ (by decide +kernel)) ggX0_renewKinds_X0_holds
set_option maxRecDepth 20000 in
theorem ggX0_renewKinds_X0_withUppers : GoodIn wsX0_renewKinds wsX0_withUppers := goodIn_r _ [10, 11, 12, 13, 5, 14, 3, 4, 6, 15, 16, 17, 18, 19, 20, 21] (by decide +kernel) (by decide +kernel)
set_option maxRecDepth 20000 in
theorem gX0_renewKinds_X0_withUppers : GoodIn wsX0_renewKinds (wsV RX0 56 RX0 yX0_withUppers wsX0_withUppers) := goodIn_app (goodIn_of _ (by decide +kernel)) ggX0_renewKinds_X0_withUppers
theorem dX0_renewKinds_0 : decode cX0_renewKinds 0 = .ok (.aload_n 0, 1) := by decide +kernel
theorem dX0_renewKinds_1 : decode cX0_renewKinds 1 = .ok (.getfield 9, 3) := by decide +kernel
theorem dX0_renewKinds_4 : decode cX0_renewKinds 4 = .ok (.iload_n 1, 1) := by decide +kernel
theorem dX0_renewKinds_5 : decode cX0_renewKinds 5 = .ok (.bipush 8, 2) := by decide +kernel
theorem dX0_renewKinds_7 : decode cX0_renewKinds 7 = .ok (.imul, 1) := by decide +kernel
theorem dX0_renewKinds_8 : decode cX0_renewKinds 8 = .ok (.iconst 0, 1) := by decide +kernel
theorem dX0_renewKinds_9 : decode cX0_renewKinds 9 = .ok (.iadd, 1) := by decide +kernel
theorem dX0_renewKinds_10 : decode cX0_renewKinds 10 = .ok (.iaload, 1) := by decide +kernel
theorem dX0_renewKinds_11 : decode cX0_renewKinds 11 = .ok (.istore_n 2, 1) := by decide +kernel
theorem dX0_renewKinds_12 : decode cX0_renewKinds 12 = .ok (.iconst 0, 1) := by decide +kernel
theorem dX0_renewKinds_13 : decode cX0_renewKinds 13 = .ok (.istore_n 3, 1) := by decide +kernel
theorem dX0_renewKinds_14 : decode cX0_renewKinds 14 = .ok (.iconst 0, 1) := by decide +kernel
theorem dX0_renewKinds_15 : decode cX0_renewKinds 15 = .ok (.istore 4, 2) := by decide +kernel
theorem dX0_renewKinds_17 : decode cX0_renewKinds 17 = .ok (.iload 4, 2) := by decide +kernel
theorem dX0_renewKinds_19 : decode cX0_renewKinds 19 = .ok (.bipush 32, 2) := by decide +kernel
theorem dX0_renewKinds_21 : decode cX0_renewKinds 21 = .ok (.if_icmp .ge 26, 3) := by decide +kernel
theorem dX0_renewKinds_24 : decode cX0_renewKinds 24 = .ok (.iload_n 2, 1) := by decide +kernel
theorem dX0_renewKinds_25 : decode cX0_renewKinds 25 = .ok (.iload 4, 2) := by decide +kernel
theorem dX0_renewKinds_27 : decode cX0_renewKinds 27 = .ok (.invokestatic 48, 3) := by decide +kernel
theorem dX0_renewKinds_30 : decode cX0_renewKinds 30 = .ok (.ifCond .eq 11, 3) := by decide +kernel
theorem dX0_renewKinds_33 : decode cX0_renewKinds 33 = .ok (.aload_n 0, 1) := by decide +kernel
theorem dX0_renewKinds_34 : decode cX0_renewKinds 34 = .ok (.iload 4, 2) := by decide +kernel
theorem dX0_renewKinds_36 : decode cX0_renewKinds 36 = .ok (.iload_n 3, 1) := by decide +kernel
theorem dX0_renewKinds_37 : decode cX0_renewKinds 37 = .ok (.invokevirtual 56, 3) := by decide +kernel
theorem dX0_renewKinds_40 : decode cX0_renewKinds 40 = .ok (.istore_n 3, 1) := by decide +kernel
theorem dX0_renewKinds_41 : decode cX0_renewKinds 41 = .ok (.iinc 4 1, 3) := by decide +kernel
theorem dX0_renewKinds_44 : decode cX0_renewKinds 44 = .ok (.goto (-27), 3) := by decide +kernel
theorem dX0_renewKinds_47 : decode cX0_renewKinds 47 = .ok (.aload_n 0, 1) := by decide +kernel
theorem dX0_renewKinds_48 : decode cX0_renewKinds 48 = .ok (.getfield 13, 3) := by decide +kernel
theorem dX0_renewKinds_51 : decode cX0_renewKinds 51 = .ok (.iload_n 1, 1) := by decide +kernel
theorem dX0_renewKinds_52 : decode cX0_renewKinds 52 = .ok (.iload_n 3, 1) := by decide +kernel
theorem dX0_renewKinds_53 : decode cX0_renewKinds 53 = .ok (.iastore, 1) := by decide +kernel
theorem dX0_renewKinds_54 : decode cX0_renewKinds 54 = .ok (.return_, 1) := by decide +kernel
set_option maxRecDepth 20000 in
theorem ggX0_withUppers_X0_isValue : GoodIn wsX0_withUppers wsX0_isValue := goodIn_r _ [5] (by decide +kernel) (by decide +kernel)
set_option maxRecDepth 20000 in
theorem gX0_withUppers_X0_isValue : GoodIn wsX0_withUppers (va_wsS RX0 45 yX0_isValue wsX0_isValue) := goodIn_app (goodIn_of _ (by decide +kernel)) ggX0_withUppers_X0_isValue
set_option maxRecDepth 20000 in
theorem ggX0_withUppers_X0_holds : GoodIn wsX0_withUppers wsX0_holds := goodIn_r _ [8] (by decide +kernel) (by decide +kernel)
set_option maxRecDepth 20000 in
theorem gX0_withUppers_X0_holds : GoodIn wsX0_withUppers (va_wsS RX0 48 yX0_holds wsX0_holds) := goodIn_app (goodIn_of _ (by decide +kernel)) ggX0_withUppers_X0_holds
theorem dX0_withUppers_0 : decode cX0_withUppers 0 = .ok (.iload_n 2, 1) := by decide +kernel
theorem dX0_withUppers_1 : decode cX0_withUppers 1 = .ok (.istore_n 3, 1) := by decide +kernel
theorem dX0_withUppers_2 : decode cX0_withUppers 2 = .ok (.iload_n 1, 1) := by decide +kernel
theorem dX0_withUppers_3 : decode cX0_withUppers 3 = .ok (.istore 4, 2) := by decide +kernel
theorem dX0_withUppers_5 : decode cX0_withUppers 5 = .ok (.iconst 0, 1) := by decide +kernel
theorem dX0_withUppers_6 : decode cX0_withUppers 6 = .ok (.istore 5, 2) := by decide +kernel
theorem dX0_withUppers_8 : decode cX0_withUppers 8 = .ok (.iload 5, 2) := by decide +kernel
theorem dX0_withUppers_10 : decode cX0_withUppers 10 = .ok (.bipush 32, 2) := by decide +kernel
theorem dX0_withUppers_12 : decode cX0_withUppers 12 = .ok (.if_icmp .ge 42, 3) := by decide +kernel
theorem dX0_withUppers_15 : decode cX0_withUppers 15 = .ok (.iload 4, 2) := by decide +kernel
theorem dX0_withUppers_17 : decode cX0_withUppers 17 = .ok (.invokestatic 45, 3) := by decide +kernel
theorem dX0_withUppers_20 : decode cX0_withUppers 20 = .ok (.ifCond .eq 34, 3) := by decide +kernel
theorem dX0_withUppers_23 : decode cX0_withUppers 23 = .ok (.iload_n 3, 1) := by decide +kernel
theorem dX0_withUppers_24 : decode cX0_withUppers 24 = .ok (.iload 4, 2) := by decide +kernel
theorem dX0_withUppers_26 : decode cX0_withUppers 26 = .ok (.invokestatic 48, 3) := by decide +kernel
theorem dX0_withUppers_29 : decode cX0_withUppers 29 = .ok (.ifCond .ne 25, 3) := by decide +kernel
theorem dX0_withUppers_32 : decode cX0_withUppers 32 = .ok (.iload_n 3, 1) := by decide +kernel
theorem dX0_withUppers_33 : decode cX0_withUppers 33 = .ok (.iconst 1, 1) := by decide +kernel
theorem dX0_withUppers_34 : decode cX0_withUppers 34 = .ok (.iload 4, 2) := by decide +kernel
theorem dX0_withUppers_36 : decode cX0_withUppers 36 = .ok (.ishl, 1) := by decide +kernel
theorem dX0_withUppers_37 : decode cX0_withUppers 37 = .ok (.ior, 1) := by decide +kernel
theorem dX0_withUppers_38 : decode cX0_withUppers 38 = .ok (.istore_n 3, 1) := by decide +kernel
theorem dX0_withUppers_39 : decode cX0_withUppers 39 = .ok (.aload_n 0, 1) := by decide +kernel
theorem dX0_withUppers_40 : decode cX0_withUppers 40 = .ok (.getfield 16, 3) := by decide +kernel
theorem dX0_withUppers_43 : decode cX0_withUppers 43 = .ok (.iload 4, 2) := by decide +kernel
theorem dX0_withUppers_45 : decode cX0_withUppers 45 = .ok (.iaload, 1) := by decide +kernel
theorem dX0_withUppers_46 : decode cX0_withUppers 46 = .ok (.istore 4, 2) := by decide +kernel
theorem dX0_withUppers_48 : decode cX0_withUppers 48 = .ok (.iinc 5 1, 3) := by decide +kernel
theorem dX0_withUppers_51 : decode cX0_withUppers 51 = .ok (.goto (-43), 3) := by decide +kernel
theorem dX0_withUppers_54 : decode cX0_withUppers 54 = .ok (.iload_n 3, 1) := by decide +kernel
theorem dX0_withUppers_55 : decode cX0_withUppers 55 = .ok (.ireturn, 1) := by decide +kernel
set_option maxRecDepth 20000 in
theorem ggX0_lackedHeads_X0_valuesOf : GoodIn wsX0_lackedHeads wsX0_valuesOf := goodIn_r _ [6, 7, 8, 9, 10, 11, 12, 13, 14, 15] (by decide +kernel) (by decide +kernel)
set_option maxRecDepth 20000 in
theorem gX0_lackedHeads_X0_valuesOf : GoodIn wsX0_lackedHeads (wsV RX0 80 RX0 yX0_valuesOf wsX0_valuesOf) := goodIn_app (goodIn_of _ (by decide +kernel)) ggX0_lackedHeads_X0_valuesOf
theorem dX0_lackedHeads_0 : decode cX0_lackedHeads 0 = .ok (.iconst 0, 1) := by decide +kernel
theorem dX0_lackedHeads_1 : decode cX0_lackedHeads 1 = .ok (.istore_n 2, 1) := by decide +kernel
theorem dX0_lackedHeads_2 : decode cX0_lackedHeads 2 = .ok (.iconst 0, 1) := by decide +kernel
theorem dX0_lackedHeads_3 : decode cX0_lackedHeads 3 = .ok (.istore_n 3, 1) := by decide +kernel
theorem dX0_lackedHeads_4 : decode cX0_lackedHeads 4 = .ok (.iload_n 3, 1) := by decide +kernel
theorem dX0_lackedHeads_5 : decode cX0_lackedHeads 5 = .ok (.bipush 8, 2) := by decide +kernel
theorem dX0_lackedHeads_7 : decode cX0_lackedHeads 7 = .ok (.if_icmp .ge 40, 3) := by decide +kernel
theorem dX0_lackedHeads_10 : decode cX0_lackedHeads 10 = .ok (.aload_n 0, 1) := by decide +kernel
theorem dX0_lackedHeads_11 : decode cX0_lackedHeads 11 = .ok (.getfield 19, 3) := by decide +kernel
theorem dX0_lackedHeads_14 : decode cX0_lackedHeads 14 = .ok (.iload_n 3, 1) := by decide +kernel
theorem dX0_lackedHeads_15 : decode cX0_lackedHeads 15 = .ok (.iaload, 1) := by decide +kernel
theorem dX0_lackedHeads_16 : decode cX0_lackedHeads 16 = .ok (.ifCond .eq 25, 3) := by decide +kernel
theorem dX0_lackedHeads_19 : decode cX0_lackedHeads 19 = .ok (.aload_n 0, 1) := by decide +kernel
theorem dX0_lackedHeads_20 : decode cX0_lackedHeads 20 = .ok (.getfield 19, 3) := by decide +kernel
theorem dX0_lackedHeads_23 : decode cX0_lackedHeads 23 = .ok (.iload_n 3, 1) := by decide +kernel
theorem dX0_lackedHeads_24 : decode cX0_lackedHeads 24 = .ok (.iaload, 1) := by decide +kernel
theorem dX0_lackedHeads_25 : decode cX0_lackedHeads 25 = .ok (.aload_n 0, 1) := by decide +kernel
theorem dX0_lackedHeads_26 : decode cX0_lackedHeads 26 = .ok (.iload_n 1, 1) := by decide +kernel
theorem dX0_lackedHeads_27 : decode cX0_lackedHeads 27 = .ok (.iload_n 3, 1) := by decide +kernel
theorem dX0_lackedHeads_28 : decode cX0_lackedHeads 28 = .ok (.invokevirtual 80, 3) := by decide +kernel
theorem dX0_lackedHeads_31 : decode cX0_lackedHeads 31 = .ok (.iand, 1) := by decide +kernel
theorem dX0_lackedHeads_32 : decode cX0_lackedHeads 32 = .ok (.ifCond .ne 9, 3) := by decide +kernel
theorem dX0_lackedHeads_35 : decode cX0_lackedHeads 35 = .ok (.iload_n 2, 1) := by decide +kernel
theorem dX0_lackedHeads_36 : decode cX0_lackedHeads 36 = .ok (.iconst 1, 1) := by decide +kernel
theorem dX0_lackedHeads_37 : decode cX0_lackedHeads 37 = .ok (.iload_n 3, 1) := by decide +kernel
theorem dX0_lackedHeads_38 : decode cX0_lackedHeads 38 = .ok (.ishl, 1) := by decide +kernel
theorem dX0_lackedHeads_39 : decode cX0_lackedHeads 39 = .ok (.ior, 1) := by decide +kernel
theorem dX0_lackedHeads_40 : decode cX0_lackedHeads 40 = .ok (.istore_n 2, 1) := by decide +kernel
theorem dX0_lackedHeads_41 : decode cX0_lackedHeads 41 = .ok (.iinc 3 1, 3) := by decide +kernel
theorem dX0_lackedHeads_44 : decode cX0_lackedHeads 44 = .ok (.goto (-40), 3) := by decide +kernel
theorem dX0_lackedHeads_47 : decode cX0_lackedHeads 47 = .ok (.iload_n 2, 1) := by decide +kernel
theorem dX0_lackedHeads_48 : decode cX0_lackedHeads 48 = .ok (.ireturn, 1) := by decide +kernel
set_option maxRecDepth 20000 in
theorem ggX0_isKeptBut_X0_lackedHeads : GoodIn wsX0_isKeptBut wsX0_lackedHeads := goodIn_r _ [5, 6, 7, 8, 9, 4, 10, 11, 12, 13, 14, 15, 16, 17, 18, 19] (by decide +kernel) (by decide +kernel)
set_option maxRecDepth 20000 in
theorem gX0_isKeptBut_X0_lackedHeads : GoodIn wsX0_isKeptBut (wsV RX0 64 RX0 yX0_lackedHeads wsX0_lackedHeads) := goodIn_app (goodIn_of _ (by decide +kernel)) ggX0_isKeptBut_X0_lackedHeads
theorem dX0_isKeptBut_0 : decode cX0_isKeptBut 0 = .ok (.aload_n 0, 1) := by decide +kernel
theorem dX0_isKeptBut_1 : decode cX0_isKeptBut 1 = .ok (.iload_n 1, 1) := by decide +kernel
theorem dX0_isKeptBut_2 : decode cX0_isKeptBut 2 = .ok (.invokevirtual 64, 3) := by decide +kernel
theorem dX0_isKeptBut_5 : decode cX0_isKeptBut 5 = .ok (.iconst 1, 1) := by decide +kernel
theorem dX0_isKeptBut_6 : decode cX0_isKeptBut 6 = .ok (.iload_n 2, 1) := by decide +kernel
theorem dX0_isKeptBut_7 : decode cX0_isKeptBut 7 = .ok (.ishl, 1) := by decide +kernel
theorem dX0_isKeptBut_8 : decode cX0_isKeptBut 8 = .ok (.iconst (-1), 1) := by decide +kernel
theorem dX0_isKeptBut_9 : decode cX0_isKeptBut 9 = .ok (.ixor, 1) := by decide +kernel
theorem dX0_isKeptBut_10 : decode cX0_isKeptBut 10 = .ok (.iand, 1) := by decide +kernel
theorem dX0_isKeptBut_11 : decode cX0_isKeptBut 11 = .ok (.ifCond .ne 7, 3) := by decide +kernel
theorem dX0_isKeptBut_14 : decode cX0_isKeptBut 14 = .ok (.iconst 1, 1) := by decide +kernel
theorem dX0_isKeptBut_15 : decode cX0_isKeptBut 15 = .ok (.goto 4, 3) := by decide +kernel
theorem dX0_isKeptBut_18 : decode cX0_isKeptBut 18 = .ok (.iconst 0, 1) := by decide +kernel
theorem dX0_isKeptBut_19 : decode cX0_isKeptBut 19 = .ok (.ireturn, 1) := by decide +kernel
set_option maxRecDepth 20000 in
theorem ggX0_countKept_X0_lackedHeads : GoodIn wsX0_countKept wsX0_lackedHeads := goodIn_r _ [5, 6, 7, 8, 9, 4, 10, 11, 12, 13, 14, 15, 16, 17, 18, 19] (by decide +kernel) (by decide +kernel)
set_option maxRecDepth 20000 in
theorem gX0_countKept_X0_lackedHeads : GoodIn wsX0_countKept (wsV RX0 64 RX0 yX0_lackedHeads wsX0_lackedHeads) := goodIn_app (goodIn_of _ (by decide +kernel)) ggX0_countKept_X0_lackedHeads
theorem dX0_countKept_0 : decode cX0_countKept 0 = .ok (.iconst 0, 1) := by decide +kernel
theorem dX0_countKept_1 : decode cX0_countKept 1 = .ok (.istore_n 1, 1) := by decide +kernel
theorem dX0_countKept_2 : decode cX0_countKept 2 = .ok (.iconst 0, 1) := by decide +kernel
theorem dX0_countKept_3 : decode cX0_countKept 3 = .ok (.istore_n 2, 1) := by decide +kernel
theorem dX0_countKept_4 : decode cX0_countKept 4 = .ok (.iload_n 2, 1) := by decide +kernel
theorem dX0_countKept_5 : decode cX0_countKept 5 = .ok (.bipush 40, 2) := by decide +kernel
theorem dX0_countKept_7 : decode cX0_countKept 7 = .ok (.if_icmp .ge 20, 3) := by decide +kernel
theorem dX0_countKept_10 : decode cX0_countKept 10 = .ok (.aload_n 0, 1) := by decide +kernel
theorem dX0_countKept_11 : decode cX0_countKept 11 = .ok (.iload_n 2, 1) := by decide +kernel
theorem dX0_countKept_12 : decode cX0_countKept 12 = .ok (.invokevirtual 64, 3) := by decide +kernel
theorem dX0_countKept_15 : decode cX0_countKept 15 = .ok (.ifCond .ne 6, 3) := by decide +kernel
theorem dX0_countKept_18 : decode cX0_countKept 18 = .ok (.iinc 1 1, 3) := by decide +kernel
theorem dX0_countKept_21 : decode cX0_countKept 21 = .ok (.iinc 2 1, 3) := by decide +kernel
theorem dX0_countKept_24 : decode cX0_countKept 24 = .ok (.goto (-20), 3) := by decide +kernel
theorem dX0_countKept_27 : decode cX0_countKept 27 = .ok (.iload_n 1, 1) := by decide +kernel
theorem dX0_countKept_28 : decode cX0_countKept 28 = .ok (.ireturn, 1) := by decide +kernel
set_option maxRecDepth 20000 in
theorem ggX0_countKeptBut_X0_isKeptBut : GoodIn wsX0_countKeptBut wsX0_isKeptBut := goodIn_r _ [5, 6, 7, 8, 4, 9, 10, 11, 12, 13, 14, 15, 16, 17, 18, 19, 20, 21, 22, 23] (by decide +kernel) (by decide +kernel)
set_option maxRecDepth 20000 in
theorem gX0_countKeptBut_X0_isKeptBut : GoodIn wsX0_countKeptBut (wsV RX0 102 RX0 yX0_isKeptBut wsX0_isKeptBut) := goodIn_app (goodIn_of _ (by decide +kernel)) ggX0_countKeptBut_X0_isKeptBut
theorem dX0_countKeptBut_0 : decode cX0_countKeptBut 0 = .ok (.iconst 0, 1) := by decide +kernel
theorem dX0_countKeptBut_1 : decode cX0_countKeptBut 1 = .ok (.istore_n 2, 1) := by decide +kernel
theorem dX0_countKeptBut_2 : decode cX0_countKeptBut 2 = .ok (.iconst 0, 1) := by decide +kernel
theorem dX0_countKeptBut_3 : decode cX0_countKeptBut 3 = .ok (.istore_n 3, 1) := by decide +kernel
theorem dX0_countKeptBut_4 : decode cX0_countKeptBut 4 = .ok (.iload_n 3, 1) := by decide +kernel
theorem dX0_countKeptBut_5 : decode cX0_countKeptBut 5 = .ok (.bipush 40, 2) := by decide +kernel
theorem dX0_countKeptBut_7 : decode cX0_countKeptBut 7 = .ok (.if_icmp .ge 21, 3) := by decide +kernel
theorem dX0_countKeptBut_10 : decode cX0_countKeptBut 10 = .ok (.aload_n 0, 1) := by decide +kernel
theorem dX0_countKeptBut_11 : decode cX0_countKeptBut 11 = .ok (.iload_n 3, 1) := by decide +kernel
theorem dX0_countKeptBut_12 : decode cX0_countKeptBut 12 = .ok (.iload_n 1, 1) := by decide +kernel
theorem dX0_countKeptBut_13 : decode cX0_countKeptBut 13 = .ok (.invokevirtual 102, 3) := by decide +kernel
theorem dX0_countKeptBut_16 : decode cX0_countKeptBut 16 = .ok (.ifCond .eq 6, 3) := by decide +kernel
theorem dX0_countKeptBut_19 : decode cX0_countKeptBut 19 = .ok (.iinc 2 1, 3) := by decide +kernel
theorem dX0_countKeptBut_22 : decode cX0_countKeptBut 22 = .ok (.iinc 3 1, 3) := by decide +kernel
theorem dX0_countKeptBut_25 : decode cX0_countKeptBut 25 = .ok (.goto (-21), 3) := by decide +kernel
theorem dX0_countKeptBut_28 : decode cX0_countKeptBut 28 = .ok (.iload_n 2, 1) := by decide +kernel
theorem dX0_countKeptBut_29 : decode cX0_countKeptBut 29 = .ok (.ireturn, 1) := by decide +kernel
set_option maxRecDepth 20000 in
theorem ggX0_countWithAny_X0_valuesOf : GoodIn wsX0_countWithAny wsX0_valuesOf := goodIn_r _ [5, 6, 7, 17, 18, 19, 20, 21, 22, 23] (by decide +kernel) (by decide +kernel)
set_option maxRecDepth 20000 in
theorem gX0_countWithAny_X0_valuesOf : GoodIn wsX0_countWithAny (wsV RX0 80 RX0 yX0_valuesOf wsX0_valuesOf) := goodIn_app (goodIn_of _ (by decide +kernel)) ggX0_countWithAny_X0_valuesOf
set_option maxRecDepth 20000 in
theorem ggX0_countWithAny_X0_isKeptBut : GoodIn wsX0_countWithAny wsX0_isKeptBut := goodIn_r _ [11, 12, 13, 14, 4, 15, 16, 1, 2, 3, 5, 6, 7, 17, 18, 19, 20, 21, 22, 23] (by decide +kernel) (by decide +kernel)
set_option maxRecDepth 20000 in
theorem gX0_countWithAny_X0_isKeptBut : GoodIn wsX0_countWithAny (wsV RX0 102 RX0 yX0_isKeptBut wsX0_isKeptBut) := goodIn_app (goodIn_of _ (by decide +kernel)) ggX0_countWithAny_X0_isKeptBut
theorem dX0_countWithAny_0 : decode cX0_countWithAny 0 = .ok (.iconst 0, 1) := by decide +kernel
theorem dX0_countWithAny_1 : decode cX0_countWithAny 1 = .ok (.istore_n 3, 1) := by decide +kernel
theorem dX0_countWithAny_2 : decode cX0_countWithAny 2 = .ok (.iconst 0, 1) := by decide +kernel
theorem dX0_countWithAny_3 : decode cX0_countWithAny 3 = .ok (.istore 4, 2) := by decide +kernel
theorem dX0_countWithAny_5 : decode cX0_countWithAny 5 = .ok (.iload 4, 2) := by decide +kernel
theorem dX0_countWithAny_7 : decode cX0_countWithAny 7 = .ok (.bipush 40, 2) := by decide +kernel
theorem dX0_countWithAny_9 : decode cX0_countWithAny 9 = .ok (.if_icmp .ge 34, 3) := by decide +kernel
theorem dX0_countWithAny_12 : decode cX0_countWithAny 12 = .ok (.aload_n 0, 1) := by decide +kernel
theorem dX0_countWithAny_13 : decode cX0_countWithAny 13 = .ok (.iload 4, 2) := by decide +kernel
theorem dX0_countWithAny_15 : decode cX0_countWithAny 15 = .ok (.iload_n 1, 1) := by decide +kernel
theorem dX0_countWithAny_16 : decode cX0_countWithAny 16 = .ok (.invokevirtual 80, 3) := by decide +kernel
theorem dX0_countWithAny_19 : decode cX0_countWithAny 19 = .ok (.iload_n 2, 1) := by decide +kernel
theorem dX0_countWithAny_20 : decode cX0_countWithAny 20 = .ok (.iand, 1) := by decide +kernel
theorem dX0_countWithAny_21 : decode cX0_countWithAny 21 = .ok (.ifCond .eq 16, 3) := by decide +kernel
theorem dX0_countWithAny_24 : decode cX0_countWithAny 24 = .ok (.aload_n 0, 1) := by decide +kernel
theorem dX0_countWithAny_25 : decode cX0_countWithAny 25 = .ok (.iload 4, 2) := by decide +kernel
theorem dX0_countWithAny_27 : decode cX0_countWithAny 27 = .ok (.iload_n 1, 1) := by decide +kernel
theorem dX0_countWithAny_28 : decode cX0_countWithAny 28 = .ok (.invokevirtual 102, 3) := by decide +kernel
theorem dX0_countWithAny_31 : decode cX0_countWithAny 31 = .ok (.ifCond .eq 6, 3) := by decide +kernel
theorem dX0_countWithAny_34 : decode cX0_countWithAny 34 = .ok (.iinc 3 1, 3) := by decide +kernel
theorem dX0_countWithAny_37 : decode cX0_countWithAny 37 = .ok (.iinc 4 1, 3) := by decide +kernel
theorem dX0_countWithAny_40 : decode cX0_countWithAny 40 = .ok (.goto (-35), 3) := by decide +kernel
theorem dX0_countWithAny_43 : decode cX0_countWithAny 43 = .ok (.iload_n 3, 1) := by decide +kernel
theorem dX0_countWithAny_44 : decode cX0_countWithAny 44 = .ok (.ireturn, 1) := by decide +kernel
set_option maxRecDepth 20000 in
theorem ggX0_countAll_J7_fill_53178 : GoodIn wsX0_countAll wsJ7_fill_53178 := goodIn_r _ [5] (by decide +kernel) (by decide +kernel)
set_option maxRecDepth 20000 in
theorem gX0_countAll_J7_fill_53178 : GoodIn wsX0_countAll (va_wsS RX0 32 yJ7_fill_53178 wsJ7_fill_53178) := goodIn_app (goodIn_of _ (by decide +kernel)) ggX0_countAll_J7_fill_53178
set_option maxRecDepth 20000 in
theorem ggX0_countAll_X0_lackedHeads : GoodIn wsX0_countAll wsX0_lackedHeads := goodIn_r _ [10, 11, 12, 13, 14, 9, 15, 16, 17, 25, 26, 27, 28, 29, 30, 31] (by decide +kernel) (by decide +kernel)
set_option maxRecDepth 20000 in
theorem gX0_countAll_X0_lackedHeads : GoodIn wsX0_countAll (wsV RX0 64 RX0 yX0_lackedHeads wsX0_lackedHeads) := goodIn_app (goodIn_of _ (by decide +kernel)) ggX0_countAll_X0_lackedHeads
set_option maxRecDepth 20000 in
theorem ggX0_countAll_X0_valuesOf : GoodIn wsX0_countAll wsX0_valuesOf := goodIn_r _ [15, 16, 17, 25, 26, 27, 28, 29, 30, 31] (by decide +kernel) (by decide +kernel)
set_option maxRecDepth 20000 in
theorem gX0_countAll_X0_valuesOf : GoodIn wsX0_countAll (wsV RX0 80 RX0 yX0_valuesOf wsX0_valuesOf) := goodIn_app (goodIn_of _ (by decide +kernel)) ggX0_countAll_X0_valuesOf
set_option maxRecDepth 20000 in
theorem ggX0_countAll_X0_countValues : GoodIn wsX0_countAll wsX0_countValues := goodIn_r _ [21, 1, 22, 23, 9, 24, 25, 26, 27, 28, 29, 30, 31] (by decide +kernel) (by decide +kernel)
set_option maxRecDepth 20000 in
theorem gX0_countAll_X0_countValues : GoodIn wsX0_countAll (wsV RX0 105 RX0 yX0_countValues wsX0_countValues) := goodIn_app (goodIn_of _ (by decide +kernel)) ggX0_countAll_X0_countValues
theorem dX0_countAll_0 : decode cX0_countAll 0 = .ok (.aload_n 0, 1) := by decide +kernel
theorem dX0_countAll_1 : decode cX0_countAll 1 = .ok (.getfield 25, 3) := by decide +kernel
theorem dX0_countAll_4 : decode cX0_countAll 4 = .ok (.iconst 0, 1) := by decide +kernel
theorem dX0_countAll_5 : decode cX0_countAll 5 = .ok (.invokestatic 32, 3) := by decide +kernel
theorem dX0_countAll_8 : decode cX0_countAll 8 = .ok (.iconst 0, 1) := by decide +kernel
theorem dX0_countAll_9 : decode cX0_countAll 9 = .ok (.istore_n 1, 1) := by decide +kernel
theorem dX0_countAll_10 : decode cX0_countAll 10 = .ok (.iload_n 1, 1) := by decide +kernel
theorem dX0_countAll_11 : decode cX0_countAll 11 = .ok (.bipush 40, 2) := by decide +kernel
theorem dX0_countAll_13 : decode cX0_countAll 13 = .ok (.if_icmp .ge 50, 3) := by decide +kernel
theorem dX0_countAll_16 : decode cX0_countAll 16 = .ok (.aload_n 0, 1) := by decide +kernel
theorem dX0_countAll_17 : decode cX0_countAll 17 = .ok (.iload_n 1, 1) := by decide +kernel
theorem dX0_countAll_18 : decode cX0_countAll 18 = .ok (.invokevirtual 64, 3) := by decide +kernel
theorem dX0_countAll_21 : decode cX0_countAll 21 = .ok (.istore_n 2, 1) := by decide +kernel
theorem dX0_countAll_22 : decode cX0_countAll 22 = .ok (.iconst 0, 1) := by decide +kernel
theorem dX0_countAll_23 : decode cX0_countAll 23 = .ok (.istore_n 3, 1) := by decide +kernel
theorem dX0_countAll_24 : decode cX0_countAll 24 = .ok (.iload_n 3, 1) := by decide +kernel
theorem dX0_countAll_25 : decode cX0_countAll 25 = .ok (.bipush 8, 2) := by decide +kernel
theorem dX0_countAll_27 : decode cX0_countAll 27 = .ok (.if_icmp .ge 30, 3) := by decide +kernel
theorem dX0_countAll_30 : decode cX0_countAll 30 = .ok (.iload_n 2, 1) := by decide +kernel
theorem dX0_countAll_31 : decode cX0_countAll 31 = .ok (.iconst 1, 1) := by decide +kernel
theorem dX0_countAll_32 : decode cX0_countAll 32 = .ok (.iload_n 3, 1) := by decide +kernel
theorem dX0_countAll_33 : decode cX0_countAll 33 = .ok (.ishl, 1) := by decide +kernel
theorem dX0_countAll_34 : decode cX0_countAll 34 = .ok (.iconst (-1), 1) := by decide +kernel
theorem dX0_countAll_35 : decode cX0_countAll 35 = .ok (.ixor, 1) := by decide +kernel
theorem dX0_countAll_36 : decode cX0_countAll 36 = .ok (.iand, 1) := by decide +kernel
theorem dX0_countAll_37 : decode cX0_countAll 37 = .ok (.ifCond .ne 14, 3) := by decide +kernel
theorem dX0_countAll_40 : decode cX0_countAll 40 = .ok (.aload_n 0, 1) := by decide +kernel
theorem dX0_countAll_41 : decode cX0_countAll 41 = .ok (.iload_n 3, 1) := by decide +kernel
theorem dX0_countAll_42 : decode cX0_countAll 42 = .ok (.aload_n 0, 1) := by decide +kernel
theorem dX0_countAll_43 : decode cX0_countAll 43 = .ok (.iload_n 1, 1) := by decide +kernel
theorem dX0_countAll_44 : decode cX0_countAll 44 = .ok (.iload_n 3, 1) := by decide +kernel
theorem dX0_countAll_45 : decode cX0_countAll 45 = .ok (.invokevirtual 80, 3) := by decide +kernel
theorem dX0_countAll_48 : decode cX0_countAll 48 = .ok (.invokevirtual 105, 3) := by decide +kernel
theorem dX0_countAll_51 : decode cX0_countAll 51 = .ok (.iinc 3 1, 3) := by decide +kernel
theorem dX0_countAll_54 : decode cX0_countAll 54 = .ok (.goto (-30), 3) := by decide +kernel
theorem dX0_countAll_57 : decode cX0_countAll 57 = .ok (.iinc 1 1, 3) := by decide +kernel
theorem dX0_countAll_60 : decode cX0_countAll 60 = .ok (.goto (-50), 3) := by decide +kernel
theorem dX0_countAll_63 : decode cX0_countAll 63 = .ok (.return_, 1) := by decide +kernel
set_option maxRecDepth 20000 in
theorem ggX0_countValues_X0_holds : GoodIn wsX0_countValues wsX0_holds := goodIn_r _ [5] (by decide +kernel) (by decide +kernel)
set_option maxRecDepth 20000 in
theorem gX0_countValues_X0_holds : GoodIn wsX0_countValues (va_wsS RX0 48 yX0_holds wsX0_holds) := goodIn_app (goodIn_of _ (by decide +kernel)) ggX0_countValues_X0_holds
theorem dX0_countValues_0 : decode cX0_countValues 0 = .ok (.iload_n 2, 1) := by decide +kernel
theorem dX0_countValues_1 : decode cX0_countValues 1 = .ok (.ifCond .ne 4, 3) := by decide +kernel
theorem dX0_countValues_4 : decode cX0_countValues 4 = .ok (.return_, 1) := by decide +kernel
theorem dX0_countValues_5 : decode cX0_countValues 5 = .ok (.iconst 0, 1) := by decide +kernel
theorem dX0_countValues_6 : decode cX0_countValues 6 = .ok (.istore_n 3, 1) := by decide +kernel
theorem dX0_countValues_7 : decode cX0_countValues 7 = .ok (.iload_n 3, 1) := by decide +kernel
theorem dX0_countValues_8 : decode cX0_countValues 8 = .ok (.bipush 32, 2) := by decide +kernel
theorem dX0_countValues_10 : decode cX0_countValues 10 = .ok (.if_icmp .ge 32, 3) := by decide +kernel
theorem dX0_countValues_13 : decode cX0_countValues 13 = .ok (.iload_n 2, 1) := by decide +kernel
theorem dX0_countValues_14 : decode cX0_countValues 14 = .ok (.iload_n 3, 1) := by decide +kernel
theorem dX0_countValues_15 : decode cX0_countValues 15 = .ok (.invokestatic 48, 3) := by decide +kernel
theorem dX0_countValues_18 : decode cX0_countValues 18 = .ok (.ifCond .eq 18, 3) := by decide +kernel
theorem dX0_countValues_21 : decode cX0_countValues 21 = .ok (.aload_n 0, 1) := by decide +kernel
theorem dX0_countValues_22 : decode cX0_countValues 22 = .ok (.getfield 25, 3) := by decide +kernel
theorem dX0_countValues_25 : decode cX0_countValues 25 = .ok (.iload_n 1, 1) := by decide +kernel
theorem dX0_countValues_26 : decode cX0_countValues 26 = .ok (.bipush 32, 2) := by decide +kernel
theorem dX0_countValues_28 : decode cX0_countValues 28 = .ok (.imul, 1) := by decide +kernel
theorem dX0_countValues_29 : decode cX0_countValues 29 = .ok (.iload_n 3, 1) := by decide +kernel
theorem dX0_countValues_30 : decode cX0_countValues 30 = .ok (.iadd, 1) := by decide +kernel
theorem dX0_countValues_31 : decode cX0_countValues 31 = .ok (.dup2, 1) := by decide +kernel
theorem dX0_countValues_32 : decode cX0_countValues 32 = .ok (.iaload, 1) := by decide +kernel
theorem dX0_countValues_33 : decode cX0_countValues 33 = .ok (.iconst 1, 1) := by decide +kernel
theorem dX0_countValues_34 : decode cX0_countValues 34 = .ok (.iadd, 1) := by decide +kernel
theorem dX0_countValues_35 : decode cX0_countValues 35 = .ok (.iastore, 1) := by decide +kernel
theorem dX0_countValues_36 : decode cX0_countValues 36 = .ok (.iinc 3 1, 3) := by decide +kernel
theorem dX0_countValues_39 : decode cX0_countValues 39 = .ok (.goto (-32), 3) := by decide +kernel
theorem dX0_countValues_42 : decode cX0_countValues 42 = .ok (.return_, 1) := by decide +kernel
theorem dX0_rankOf_0 : decode cX0_rankOf 0 = .ok (.aload_n 0, 1) := by decide +kernel
theorem dX0_rankOf_1 : decode cX0_rankOf 1 = .ok (.getfield 25, 3) := by decide +kernel
theorem dX0_rankOf_4 : decode cX0_rankOf 4 = .ok (.iload_n 1, 1) := by decide +kernel
theorem dX0_rankOf_5 : decode cX0_rankOf 5 = .ok (.bipush 32, 2) := by decide +kernel
theorem dX0_rankOf_7 : decode cX0_rankOf 7 = .ok (.imul, 1) := by decide +kernel
theorem dX0_rankOf_8 : decode cX0_rankOf 8 = .ok (.iload_n 2, 1) := by decide +kernel
theorem dX0_rankOf_9 : decode cX0_rankOf 9 = .ok (.iadd, 1) := by decide +kernel
theorem dX0_rankOf_10 : decode cX0_rankOf 10 = .ok (.iaload, 1) := by decide +kernel
theorem dX0_rankOf_11 : decode cX0_rankOf 11 = .ok (.istore_n 3, 1) := by decide +kernel
theorem dX0_rankOf_12 : decode cX0_rankOf 12 = .ok (.iconst 0, 1) := by decide +kernel
theorem dX0_rankOf_13 : decode cX0_rankOf 13 = .ok (.istore 4, 2) := by decide +kernel
theorem dX0_rankOf_15 : decode cX0_rankOf 15 = .ok (.iconst 0, 1) := by decide +kernel
theorem dX0_rankOf_16 : decode cX0_rankOf 16 = .ok (.istore 5, 2) := by decide +kernel
theorem dX0_rankOf_18 : decode cX0_rankOf 18 = .ok (.iload 5, 2) := by decide +kernel
theorem dX0_rankOf_20 : decode cX0_rankOf 20 = .ok (.bipush 32, 2) := by decide +kernel
theorem dX0_rankOf_22 : decode cX0_rankOf 22 = .ok (.if_icmp .ge 44, 3) := by decide +kernel
theorem dX0_rankOf_25 : decode cX0_rankOf 25 = .ok (.aload_n 0, 1) := by decide +kernel
theorem dX0_rankOf_26 : decode cX0_rankOf 26 = .ok (.getfield 25, 3) := by decide +kernel
theorem dX0_rankOf_29 : decode cX0_rankOf 29 = .ok (.iload_n 1, 1) := by decide +kernel
theorem dX0_rankOf_30 : decode cX0_rankOf 30 = .ok (.bipush 32, 2) := by decide +kernel
theorem dX0_rankOf_32 : decode cX0_rankOf 32 = .ok (.imul, 1) := by decide +kernel
theorem dX0_rankOf_33 : decode cX0_rankOf 33 = .ok (.iload 5, 2) := by decide +kernel
theorem dX0_rankOf_35 : decode cX0_rankOf 35 = .ok (.iadd, 1) := by decide +kernel
theorem dX0_rankOf_36 : decode cX0_rankOf 36 = .ok (.iaload, 1) := by decide +kernel
theorem dX0_rankOf_37 : decode cX0_rankOf 37 = .ok (.istore 6, 2) := by decide +kernel
theorem dX0_rankOf_39 : decode cX0_rankOf 39 = .ok (.iload 6, 2) := by decide +kernel
theorem dX0_rankOf_41 : decode cX0_rankOf 41 = .ok (.iload_n 3, 1) := by decide +kernel
theorem dX0_rankOf_42 : decode cX0_rankOf 42 = .ok (.if_icmp .gt 15, 3) := by decide +kernel
theorem dX0_rankOf_45 : decode cX0_rankOf 45 = .ok (.iload 6, 2) := by decide +kernel
theorem dX0_rankOf_47 : decode cX0_rankOf 47 = .ok (.iload_n 3, 1) := by decide +kernel
theorem dX0_rankOf_48 : decode cX0_rankOf 48 = .ok (.if_icmp .ne 12, 3) := by decide +kernel
theorem dX0_rankOf_51 : decode cX0_rankOf 51 = .ok (.iload 5, 2) := by decide +kernel
theorem dX0_rankOf_53 : decode cX0_rankOf 53 = .ok (.iload_n 2, 1) := by decide +kernel
theorem dX0_rankOf_54 : decode cX0_rankOf 54 = .ok (.if_icmp .ge 6, 3) := by decide +kernel
theorem dX0_rankOf_57 : decode cX0_rankOf 57 = .ok (.iinc 4 1, 3) := by decide +kernel
theorem dX0_rankOf_60 : decode cX0_rankOf 60 = .ok (.iinc 5 1, 3) := by decide +kernel
theorem dX0_rankOf_63 : decode cX0_rankOf 63 = .ok (.goto (-45), 3) := by decide +kernel
theorem dX0_rankOf_66 : decode cX0_rankOf 66 = .ok (.iload 4, 2) := by decide +kernel
theorem dX0_rankOf_68 : decode cX0_rankOf 68 = .ok (.ireturn, 1) := by decide +kernel
theorem dX0_span_0 : decode cX0_span 0 = .ok (.iload_n 0, 1) := by decide +kernel
theorem dX0_span_1 : decode cX0_span 1 = .ok (.iconst 0, 1) := by decide +kernel
theorem dX0_span_2 : decode cX0_span 2 = .ok (.invokestatic 109, 3) := by decide +kernel
theorem dX0_span_5 : decode cX0_span 5 = .ok (.istore_n 2, 1) := by decide +kernel
theorem dX0_span_6 : decode cX0_span 6 = .ok (.iload_n 1, 1) := by decide +kernel
theorem dX0_span_7 : decode cX0_span 7 = .ok (.bipush 31, 2) := by decide +kernel
theorem dX0_span_9 : decode cX0_span 9 = .ok (.invokestatic 114, 3) := by decide +kernel
theorem dX0_span_12 : decode cX0_span 12 = .ok (.istore_n 3, 1) := by decide +kernel
theorem dX0_span_13 : decode cX0_span 13 = .ok (.iconst 0, 1) := by decide +kernel
theorem dX0_span_14 : decode cX0_span 14 = .ok (.istore 4, 2) := by decide +kernel
theorem dX0_span_16 : decode cX0_span 16 = .ok (.iload_n 2, 1) := by decide +kernel
theorem dX0_span_17 : decode cX0_span 17 = .ok (.istore 5, 2) := by decide +kernel
theorem dX0_span_19 : decode cX0_span 19 = .ok (.iload 5, 2) := by decide +kernel
theorem dX0_span_21 : decode cX0_span 21 = .ok (.iload_n 3, 1) := by decide +kernel
theorem dX0_span_22 : decode cX0_span 22 = .ok (.if_icmp .gt 18, 3) := by decide +kernel
theorem dX0_span_25 : decode cX0_span 25 = .ok (.iload 4, 2) := by decide +kernel
theorem dX0_span_27 : decode cX0_span 27 = .ok (.iconst 1, 1) := by decide +kernel
theorem dX0_span_28 : decode cX0_span 28 = .ok (.iload 5, 2) := by decide +kernel
theorem dX0_span_30 : decode cX0_span 30 = .ok (.ishl, 1) := by decide +kernel
theorem dX0_span_31 : decode cX0_span 31 = .ok (.ior, 1) := by decide +kernel
theorem dX0_span_32 : decode cX0_span 32 = .ok (.istore 4, 2) := by decide +kernel
theorem dX0_span_34 : decode cX0_span 34 = .ok (.iinc 5 1, 3) := by decide +kernel
theorem dX0_span_37 : decode cX0_span 37 = .ok (.goto (-18), 3) := by decide +kernel
theorem dX0_span_40 : decode cX0_span 40 = .ok (.iload 4, 2) := by decide +kernel
theorem dX0_span_42 : decode cX0_span 42 = .ok (.ireturn, 1) := by decide +kernel
set_option maxRecDepth 20000 in
theorem ggX0_sumOf_X0_holds : GoodIn wsX0_sumOf wsX0_holds := goodIn_r _ [4] (by decide +kernel) (by decide +kernel)
set_option maxRecDepth 20000 in
theorem gX0_sumOf_X0_holds : GoodIn wsX0_sumOf (va_wsS RX0 48 yX0_holds wsX0_holds) := goodIn_app (goodIn_of _ (by decide +kernel)) ggX0_sumOf_X0_holds
theorem dX0_sumOf_0 : decode cX0_sumOf 0 = .ok (.iconst 0, 1) := by decide +kernel
theorem dX0_sumOf_1 : decode cX0_sumOf 1 = .ok (.istore_n 1, 1) := by decide +kernel
theorem dX0_sumOf_2 : decode cX0_sumOf 2 = .ok (.iconst 0, 1) := by decide +kernel
theorem dX0_sumOf_3 : decode cX0_sumOf 3 = .ok (.istore_n 2, 1) := by decide +kernel
theorem dX0_sumOf_4 : decode cX0_sumOf 4 = .ok (.iload_n 2, 1) := by decide +kernel
theorem dX0_sumOf_5 : decode cX0_sumOf 5 = .ok (.bipush 32, 2) := by decide +kernel
theorem dX0_sumOf_7 : decode cX0_sumOf 7 = .ok (.if_icmp .ge 21, 3) := by decide +kernel
theorem dX0_sumOf_10 : decode cX0_sumOf 10 = .ok (.iload_n 0, 1) := by decide +kernel
theorem dX0_sumOf_11 : decode cX0_sumOf 11 = .ok (.iload_n 2, 1) := by decide +kernel
theorem dX0_sumOf_12 : decode cX0_sumOf 12 = .ok (.invokestatic 48, 3) := by decide +kernel
theorem dX0_sumOf_15 : decode cX0_sumOf 15 = .ok (.ifCond .eq 7, 3) := by decide +kernel
theorem dX0_sumOf_18 : decode cX0_sumOf 18 = .ok (.iload_n 1, 1) := by decide +kernel
theorem dX0_sumOf_19 : decode cX0_sumOf 19 = .ok (.iload_n 2, 1) := by decide +kernel
theorem dX0_sumOf_20 : decode cX0_sumOf 20 = .ok (.iadd, 1) := by decide +kernel
theorem dX0_sumOf_21 : decode cX0_sumOf 21 = .ok (.istore_n 1, 1) := by decide +kernel
theorem dX0_sumOf_22 : decode cX0_sumOf 22 = .ok (.iinc 2 1, 3) := by decide +kernel
theorem dX0_sumOf_25 : decode cX0_sumOf 25 = .ok (.goto (-21), 3) := by decide +kernel
theorem dX0_sumOf_28 : decode cX0_sumOf 28 = .ok (.iload_n 1, 1) := by decide +kernel
theorem dX0_sumOf_29 : decode cX0_sumOf 29 = .ok (.ireturn, 1) := by decide +kernel
theorem dX0_inLeastTerms_0 : decode cX0_inLeastTerms 0 = .ok (.iload_n 2, 1) := by decide +kernel
theorem dX0_inLeastTerms_1 : decode cX0_inLeastTerms 1 = .ok (.istore_n 3, 1) := by decide +kernel
theorem dX0_inLeastTerms_2 : decode cX0_inLeastTerms 2 = .ok (.iload_n 3, 1) := by decide +kernel
theorem dX0_inLeastTerms_3 : decode cX0_inLeastTerms 3 = .ok (.iconst 1, 1) := by decide +kernel
theorem dX0_inLeastTerms_4 : decode cX0_inLeastTerms 4 = .ok (.if_icmp .le 25, 3) := by decide +kernel
theorem dX0_inLeastTerms_7 : decode cX0_inLeastTerms 7 = .ok (.iload_n 1, 1) := by decide +kernel
theorem dX0_inLeastTerms_8 : decode cX0_inLeastTerms 8 = .ok (.iload_n 3, 1) := by decide +kernel
theorem dX0_inLeastTerms_9 : decode cX0_inLeastTerms 9 = .ok (.irem, 1) := by decide +kernel
theorem dX0_inLeastTerms_10 : decode cX0_inLeastTerms 10 = .ok (.ifCond .ne 13, 3) := by decide +kernel
theorem dX0_inLeastTerms_13 : decode cX0_inLeastTerms 13 = .ok (.iload_n 2, 1) := by decide +kernel
theorem dX0_inLeastTerms_14 : decode cX0_inLeastTerms 14 = .ok (.iload_n 3, 1) := by decide +kernel
theorem dX0_inLeastTerms_15 : decode cX0_inLeastTerms 15 = .ok (.irem, 1) := by decide +kernel
theorem dX0_inLeastTerms_16 : decode cX0_inLeastTerms 16 = .ok (.ifCond .ne 7, 3) := by decide +kernel
theorem dX0_inLeastTerms_19 : decode cX0_inLeastTerms 19 = .ok (.iload_n 0, 1) := by decide +kernel
theorem dX0_inLeastTerms_20 : decode cX0_inLeastTerms 20 = .ok (.iload_n 3, 1) := by decide +kernel
theorem dX0_inLeastTerms_21 : decode cX0_inLeastTerms 21 = .ok (.idiv, 1) := by decide +kernel
theorem dX0_inLeastTerms_22 : decode cX0_inLeastTerms 22 = .ok (.ireturn, 1) := by decide +kernel
theorem dX0_inLeastTerms_23 : decode cX0_inLeastTerms 23 = .ok (.iinc 3 (-1), 3) := by decide +kernel
theorem dX0_inLeastTerms_26 : decode cX0_inLeastTerms 26 = .ok (.goto (-24), 3) := by decide +kernel
theorem dX0_inLeastTerms_29 : decode cX0_inLeastTerms 29 = .ok (.iload_n 0, 1) := by decide +kernel
theorem dX0_inLeastTerms_30 : decode cX0_inLeastTerms 30 = .ok (.ireturn, 1) := by decide +kernel
theorem dJ9_max_7cf53_0 : decode cJ9_max_7cf53 0 = .ok (.iload_n 0, 1) := by decide +kernel
theorem dJ9_max_7cf53_1 : decode cJ9_max_7cf53 1 = .ok (.iload_n 1, 1) := by decide +kernel
theorem dJ9_max_7cf53_2 : decode cJ9_max_7cf53 2 = .ok (.if_icmp .lt 7, 3) := by decide +kernel
theorem dJ9_max_7cf53_5 : decode cJ9_max_7cf53 5 = .ok (.iload_n 0, 1) := by decide +kernel
theorem dJ9_max_7cf53_6 : decode cJ9_max_7cf53 6 = .ok (.goto 4, 3) := by decide +kernel
theorem dJ9_max_7cf53_9 : decode cJ9_max_7cf53 9 = .ok (.iload_n 1, 1) := by decide +kernel
theorem dJ9_max_7cf53_10 : decode cJ9_max_7cf53 10 = .ok (.ireturn, 1) := by decide +kernel
theorem dJ9_min_7cf53_0 : decode cJ9_min_7cf53 0 = .ok (.iload_n 0, 1) := by decide +kernel
theorem dJ9_min_7cf53_1 : decode cJ9_min_7cf53 1 = .ok (.iload_n 1, 1) := by decide +kernel
theorem dJ9_min_7cf53_2 : decode cJ9_min_7cf53 2 = .ok (.if_icmp .gt 7, 3) := by decide +kernel
theorem dJ9_min_7cf53_5 : decode cJ9_min_7cf53 5 = .ok (.iload_n 0, 1) := by decide +kernel
theorem dJ9_min_7cf53_6 : decode cJ9_min_7cf53 6 = .ok (.goto 4, 3) := by decide +kernel
theorem dJ9_min_7cf53_9 : decode cJ9_min_7cf53 9 = .ok (.iload_n 1, 1) := by decide +kernel
theorem dJ9_min_7cf53_10 : decode cJ9_min_7cf53 10 = .ok (.ireturn, 1) := by decide +kernel
theorem dJ7_fill_53178_0 : decode cJ7_fill_53178 0 = .ok (.iconst 0, 1) := by decide +kernel
theorem dJ7_fill_53178_1 : decode cJ7_fill_53178 1 = .ok (.istore_n 2, 1) := by decide +kernel
theorem dJ7_fill_53178_2 : decode cJ7_fill_53178 2 = .ok (.aload_n 0, 1) := by decide +kernel
theorem dJ7_fill_53178_3 : decode cJ7_fill_53178 3 = .ok (.arraylength, 1) := by decide +kernel
theorem dJ7_fill_53178_4 : decode cJ7_fill_53178 4 = .ok (.istore_n 3, 1) := by decide +kernel
theorem dJ7_fill_53178_5 : decode cJ7_fill_53178 5 = .ok (.iload_n 2, 1) := by decide +kernel
theorem dJ7_fill_53178_6 : decode cJ7_fill_53178 6 = .ok (.iload_n 3, 1) := by decide +kernel
theorem dJ7_fill_53178_7 : decode cJ7_fill_53178 7 = .ok (.if_icmp .ge 13, 3) := by decide +kernel
theorem dJ7_fill_53178_10 : decode cJ7_fill_53178 10 = .ok (.aload_n 0, 1) := by decide +kernel
theorem dJ7_fill_53178_11 : decode cJ7_fill_53178 11 = .ok (.iload_n 2, 1) := by decide +kernel
theorem dJ7_fill_53178_12 : decode cJ7_fill_53178 12 = .ok (.iload_n 1, 1) := by decide +kernel
theorem dJ7_fill_53178_13 : decode cJ7_fill_53178 13 = .ok (.iastore, 1) := by decide +kernel
theorem dJ7_fill_53178_14 : decode cJ7_fill_53178 14 = .ok (.iinc 2 1, 3) := by decide +kernel
theorem dJ7_fill_53178_17 : decode cJ7_fill_53178 17 = .ok (.goto (-12), 3) := by decide +kernel
theorem dJ7_fill_53178_20 : decode cJ7_fill_53178 20 = .ok (.return_, 1) := by decide +kernel
set_option maxRecDepth 20000 in
theorem ggL_share_X0_share : GoodIn wsL_share wsX0_share := goodIn_ca (goodIn_r _ [6, 7, 8, 9, 10, 5, 11, 12, 13, 14, 15, 16, 17, 18, 19, 20, 21, 22, 23, 24, 25, 26, 27, 28, 29, 30, 31, 32, 33, 34, 35, 36, 37, 38, 39, 40, 41, 42, 43, 44, 45, 46, 47] (by decide +kernel) (by decide +kernel)) (goodIn_sub (fun _ h => List.mem_cons_of_mem _ (List.mem_append_right _ h)) (by decide +kernel))
set_option maxRecDepth 20000 in
theorem gL_share_X0_share : GoodIn wsL_share (wsV RL 7 RX0 yX0_share wsX0_share) := goodIn_app (goodIn_of _ (by decide +kernel)) ggL_share_X0_share
theorem dL_share_0 : decode cL_share 0 = .ok (.aload 4, 2) := by decide +kernel
theorem dL_share_2 : decode cL_share 2 = .ok (.iconst 0, 1) := by decide +kernel
theorem dL_share_3 : decode cL_share 3 = .ok (.aload_n 0, 1) := by decide +kernel
theorem dL_share_4 : decode cL_share 4 = .ok (.iload_n 1, 1) := by decide +kernel
theorem dL_share_5 : decode cL_share 5 = .ok (.iload_n 2, 1) := by decide +kernel
theorem dL_share_6 : decode cL_share 6 = .ok (.iload_n 3, 1) := by decide +kernel
theorem dL_share_7 : decode cL_share 7 = .ok (.invokevirtual 7, 3) := by decide +kernel
theorem dL_share_10 : decode cL_share 10 = .ok (.i2l, 1) := by decide +kernel
theorem dL_share_11 : decode cL_share 11 = .ok (.lastore, 1) := by decide +kernel
theorem dL_share_12 : decode cL_share 12 = .ok (.goto 7, 3) := by decide +kernel
theorem dL_share_15 : decode cL_share 15 = .ok (.astore 5, 2) := by decide +kernel
theorem dL_share_17 : decode cL_share 17 = .ok (.iconst 1, 1) := by decide +kernel
theorem dL_share_18 : decode cL_share 18 = .ok (.ireturn, 1) := by decide +kernel
theorem dL_share_19 : decode cL_share 19 = .ok (.iconst 0, 1) := by decide +kernel
theorem dL_share_20 : decode cL_share 20 = .ok (.ireturn, 1) := by decide +kernel
set_option maxRecDepth 20000 in
theorem ggL_law_X0_init : GoodIn wsL_law wsX0_init := goodIn_r _ [8, 9, 10, 11, 12, 13, 14, 15, 16, 17, 18, 19, 20, 21, 22, 23, 155, 156, 157, 158, 159, 160, 161] (by decide +kernel) (by decide +kernel)
set_option maxRecDepth 20000 in
theorem gL_law_X0_init : GoodIn wsL_law (wsX0_init) := ggL_law_X0_init
set_option maxRecDepth 20000 in
theorem ggL_law_X0_row : GoodIn wsL_law wsX0_row := goodIn_r _ [27, 13, 19, 28, 29, 2, 30, 31, 32, 33, 34, 35, 36, 37, 38, 39, 40, 41, 42, 43, 14, 44, 45, 46, 47, 15, 155, 156, 157, 158, 159, 160, 161] (by decide +kernel) (by decide +kernel)
set_option maxRecDepth 20000 in
theorem gL_law_X0_row : GoodIn wsL_law (wsV RL 19 RX0 yX0_row wsX0_row) := goodIn_app (goodIn_of _ (by decide +kernel)) ggL_law_X0_row
set_option maxRecDepth 20000 in
theorem ggL_law_X0_drop : GoodIn wsL_law wsX0_drop := goodIn_r _ [51, 13, 19, 28, 29, 2, 30, 31, 32, 33, 34, 35, 36, 37, 38, 39, 40, 41, 42, 43, 14, 44, 45, 46, 47, 15, 155, 156, 157, 158, 159, 160, 161] (by decide +kernel) (by decide +kernel)
set_option maxRecDepth 20000 in
theorem gL_law_X0_drop : GoodIn wsL_law (wsV RL 24 RX0 yX0_drop wsX0_drop) := goodIn_app (goodIn_of _ (by decide +kernel)) ggL_law_X0_drop
set_option maxRecDepth 20000 in
theorem ggL_law_X0_above : GoodIn wsL_law wsX0_above := goodIn_r _ [55, 15, 34, 35, 2, 36, 44, 45, 46, 47, 37, 38, 39, 40, 41, 42, 43, 13, 14, 155, 156, 157, 158, 159, 160, 161] (by decide +kernel) (by decide +kernel)
set_option maxRecDepth 20000 in
theorem gL_law_X0_above : GoodIn wsL_law (wsV RL 28 RX0 yX0_above wsX0_above) := goodIn_app (goodIn_of _ (by decide +kernel)) ggL_law_X0_above
set_option maxRecDepth 20000 in
theorem ggL_law_X0_choose : GoodIn wsL_law wsX0_choose := goodIn_r _ [59, 16, 31, 32, 2, 33, 34, 35, 36, 60, 61, 62, 63, 64, 65, 66, 67, 68, 69, 70, 71, 14, 13, 155, 156, 157, 158, 159, 160, 161] (by decide +kernel) (by decide +kernel)
set_option maxRecDepth 20000 in
theorem gL_law_X0_choose : GoodIn wsL_law (wsV RL 33 RX0 yX0_choose wsX0_choose) := goodIn_app (goodIn_of _ (by decide +kernel)) ggL_law_X0_choose
set_option maxRecDepth 20000 in
theorem ggL_law_X0_kept : GoodIn wsL_law wsX0_kept := goodIn_r _ [75, 60, 61, 62, 2, 63, 64, 65, 66, 67, 16, 68, 69, 70, 71, 14, 13, 155, 156, 157, 158, 159, 160, 161] (by decide +kernel) (by decide +kernel)
set_option maxRecDepth 20000 in
theorem gL_law_X0_kept : GoodIn wsL_law (wsV RL 37 RX0 yX0_kept wsX0_kept) := goodIn_app (goodIn_of _ (by decide +kernel)) ggL_law_X0_kept
set_option maxRecDepth 20000 in
theorem ggL_law_X0_isKept : GoodIn wsL_law wsX0_isKept := goodIn_r _ [79, 28, 29, 2, 30, 64, 65, 66, 67, 16, 68, 69, 70, 71, 14, 13, 155, 156, 157, 158, 159, 160, 161] (by decide +kernel) (by decide +kernel)
set_option maxRecDepth 20000 in
theorem gL_law_X0_isKept : GoodIn wsL_law (wsV RL 42 RX0 yX0_isKept wsX0_isKept) := goodIn_app (goodIn_of _ (by decide +kernel)) ggL_law_X0_isKept
set_option maxRecDepth 20000 in
theorem ggL_law_X0_facet : GoodIn wsL_law wsX0_facet := goodIn_r _ [83, 31, 32, 2, 33, 34, 35, 36, 84, 85, 86, 87, 68, 69, 70, 71, 14, 13, 88, 89, 90, 91, 64, 65, 66, 67, 16, 155, 156, 157, 158, 159, 160, 161] (by decide +kernel) (by decide +kernel)
set_option maxRecDepth 20000 in
theorem gL_law_X0_facet : GoodIn wsL_law (wsV RL 47 RX0 yX0_facet wsX0_facet) := goodIn_app (goodIn_of _ (by decide +kernel)) ggL_law_X0_facet
set_option maxRecDepth 20000 in
theorem ggL_law_X0_top : GoodIn wsL_law wsX0_top := goodIn_r _ [95, 18, 31, 32, 2, 33, 96, 97, 98, 99, 20, 21, 22, 23, 64, 65, 66, 67, 16, 68, 69, 70, 71, 14, 13, 100, 101, 102, 103, 37, 38, 39, 104, 105, 106, 107, 155, 156, 157, 158, 159, 160, 161] (by decide +kernel) (by decide +kernel)
set_option maxRecDepth 20000 in
theorem gL_law_X0_top : GoodIn wsL_law (wsV RL 51 RX0 yX0_top wsX0_top) := goodIn_app (goodIn_of _ (by decide +kernel)) ggL_law_X0_top
set_option maxRecDepth 20000 in
theorem ggL_law_X0_range : GoodIn wsL_law wsX0_range := goodIn_r _ [111, 31, 32, 2, 33, 112, 113, 114, 115, 116, 117, 118, 119, 120, 121, 84, 85, 86, 87, 68, 69, 70, 71, 14, 13, 88, 89, 90, 91, 64, 65, 66, 67, 16, 155, 156, 157, 158, 159, 160, 161] (by decide +kernel) (by decide +kernel)
set_option maxRecDepth 20000 in
theorem gL_law_X0_range : GoodIn wsL_law (wsV RL 55 RX0 yX0_range wsX0_range) := goodIn_app (goodIn_of _ (by decide +kernel)) ggL_law_X0_range
set_option maxRecDepth 20000 in
theorem ggL_law_X0_sum : GoodIn wsL_law wsX0_sum := goodIn_r _ [125, 31, 32, 2, 33, 34, 35, 36, 68, 69, 70, 71, 14, 13, 37, 38, 39, 64, 65, 66, 67, 16, 126, 127, 128, 155, 156, 157, 158, 159, 160, 161] (by decide +kernel) (by decide +kernel)
set_option maxRecDepth 20000 in
theorem gL_law_X0_sum : GoodIn wsL_law (wsV RL 59 RX0 yX0_sum wsX0_sum) := goodIn_app (goodIn_of _ (by decide +kernel)) ggL_law_X0_sum
set_option maxRecDepth 20000 in
theorem ggL_law_L_share : GoodIn wsL_law wsL_share := goodIn_ca (goodIn_r _ [132, 133, 134, 135, 136, 2, 137, 138, 139, 31, 32, 33, 34, 35, 36, 140, 141, 142, 143, 88, 89, 90, 91, 64, 65, 66, 67, 16, 68, 69, 70, 71, 14, 13, 84, 85, 86, 87, 144, 145, 146, 155, 156, 157, 158, 159, 160, 161] (by decide +kernel) (by decide +kernel)) (goodIn_sub (fun _ h => List.mem_append_right _ h) (by decide +kernel))
set_option maxRecDepth 20000 in
theorem gL_law_L_share : GoodIn wsL_law (va_wsS RL 63 yL_share wsL_share) := goodIn_app (goodIn_of _ (by decide +kernel)) ggL_law_L_share
set_option maxRecDepth 20000 in
theorem ggL_law_X0_changed : GoodIn wsL_law wsX0_changed := goodIn_r _ [150, 18, 17, 96, 97, 98, 2, 99, 20, 21, 22, 23, 64, 65, 66, 67, 16, 68, 69, 70, 71, 14, 13, 100, 101, 102, 103, 37, 38, 39, 155, 156, 157, 158, 159, 160, 161] (by decide +kernel) (by decide +kernel)
set_option maxRecDepth 20000 in
theorem gL_law_X0_changed : GoodIn wsL_law (wsV RL 72 RX0 yX0_changed wsX0_changed) := goodIn_app (goodIn_of _ (by decide +kernel)) ggL_law_X0_changed
set_option maxRecDepth 20000 in
theorem ggL_law_X0_rows : GoodIn wsL_law wsX0_rows := goodIn_r _ [154, 19, 155, 156, 157, 158, 159, 160, 161] (by decide +kernel) (by decide +kernel)
set_option maxRecDepth 20000 in
theorem gL_law_X0_rows : GoodIn wsL_law (wsV RL 76 RX0 yX0_rows wsX0_rows) := goodIn_app (goodIn_of _ (by decide +kernel)) ggL_law_X0_rows
theorem dL_law_0 : decode cL_law 0 = .ok (.new 8, 3) := by decide +kernel
theorem dL_law_3 : decode cL_law 3 = .ok (.dup, 1) := by decide +kernel
theorem dL_law_4 : decode cL_law 4 = .ok (.invokespecial 15, 3) := by decide +kernel
theorem dL_law_7 : decode cL_law 7 = .ok (.astore_n 1, 1) := by decide +kernel
theorem dL_law_8 : decode cL_law 8 = .ok (.new 16, 3) := by decide +kernel
theorem dL_law_11 : decode cL_law 11 = .ok (.dup, 1) := by decide +kernel
theorem dL_law_12 : decode cL_law 12 = .ok (.invokespecial 18, 3) := by decide +kernel
theorem dL_law_15 : decode cL_law 15 = .ok (.astore_n 2, 1) := by decide +kernel
theorem dL_law_16 : decode cL_law 16 = .ok (.iconst 1, 1) := by decide +kernel
theorem dL_law_17 : decode cL_law 17 = .ok (.newarray .long, 2) := by decide +kernel
theorem dL_law_19 : decode cL_law 19 = .ok (.astore_n 3, 1) := by decide +kernel
theorem dL_law_20 : decode cL_law 20 = .ok (.iconst 0, 1) := by decide +kernel
theorem dL_law_21 : decode cL_law 21 = .ok (.istore 4, 2) := by decide +kernel
theorem dL_law_23 : decode cL_law 23 = .ok (.iload 4, 2) := by decide +kernel
theorem dL_law_25 : decode cL_law 25 = .ok (.aload_n 0, 1) := by decide +kernel
theorem dL_law_26 : decode cL_law 26 = .ok (.arraylength, 1) := by decide +kernel
theorem dL_law_27 : decode cL_law 27 = .ok (.iconst 4, 1) := by decide +kernel
theorem dL_law_28 : decode cL_law 28 = .ok (.isub, 1) := by decide +kernel
theorem dL_law_29 : decode cL_law 29 = .ok (.if_icmp .gt 613, 3) := by decide +kernel
theorem dL_law_32 : decode cL_law 32 = .ok (.aload_n 0, 1) := by decide +kernel
theorem dL_law_33 : decode cL_law 33 = .ok (.iload 4, 2) := by decide +kernel
theorem dL_law_35 : decode cL_law 35 = .ok (.iaload, 1) := by decide +kernel
theorem dL_law_36 : decode cL_law 36 = .ok (.bipush 15, 2) := by decide +kernel
theorem dL_law_38 : decode cL_law 38 = .ok (.iand, 1) := by decide +kernel
theorem dL_law_39 : decode cL_law 39 = .ok (.tableswitch 597 0 12 #[65, 114, 163, 200, 265, 278, 303, 340, 377, 426, 475, 571, 584], 65) := by decide +kernel
theorem dL_law_104 : decode cL_law 104 = .ok (.aload_n 1, 1) := by decide +kernel
theorem dL_law_105 : decode cL_law 105 = .ok (.aload_n 0, 1) := by decide +kernel
theorem dL_law_106 : decode cL_law 106 = .ok (.iload 4, 2) := by decide +kernel
theorem dL_law_108 : decode cL_law 108 = .ok (.iconst 1, 1) := by decide +kernel
theorem dL_law_109 : decode cL_law 109 = .ok (.iadd, 1) := by decide +kernel
theorem dL_law_110 : decode cL_law 110 = .ok (.iaload, 1) := by decide +kernel
theorem dL_law_111 : decode cL_law 111 = .ok (.aload_n 0, 1) := by decide +kernel
theorem dL_law_112 : decode cL_law 112 = .ok (.iload 4, 2) := by decide +kernel
theorem dL_law_114 : decode cL_law 114 = .ok (.iconst 2, 1) := by decide +kernel
theorem dL_law_115 : decode cL_law 115 = .ok (.iadd, 1) := by decide +kernel
theorem dL_law_116 : decode cL_law 116 = .ok (.iaload, 1) := by decide +kernel
theorem dL_law_117 : decode cL_law 117 = .ok (.aload_n 0, 1) := by decide +kernel
theorem dL_law_118 : decode cL_law 118 = .ok (.iload 4, 2) := by decide +kernel
theorem dL_law_120 : decode cL_law 120 = .ok (.iconst 3, 1) := by decide +kernel
theorem dL_law_121 : decode cL_law 121 = .ok (.iadd, 1) := by decide +kernel
theorem dL_law_122 : decode cL_law 122 = .ok (.iaload, 1) := by decide +kernel
theorem dL_law_123 : decode cL_law 123 = .ok (.invokevirtual 19, 3) := by decide +kernel
theorem dL_law_126 : decode cL_law 126 = .ok (.aload_n 2, 1) := by decide +kernel
theorem dL_law_127 : decode cL_law 127 = .ok (.aload_n 0, 1) := by decide +kernel
theorem dL_law_128 : decode cL_law 128 = .ok (.iload 4, 2) := by decide +kernel
theorem dL_law_130 : decode cL_law 130 = .ok (.iconst 1, 1) := by decide +kernel
theorem dL_law_131 : decode cL_law 131 = .ok (.iadd, 1) := by decide +kernel
theorem dL_law_132 : decode cL_law 132 = .ok (.iaload, 1) := by decide +kernel
theorem dL_law_133 : decode cL_law 133 = .ok (.aload_n 0, 1) := by decide +kernel
theorem dL_law_134 : decode cL_law 134 = .ok (.iload 4, 2) := by decide +kernel
theorem dL_law_136 : decode cL_law 136 = .ok (.iconst 2, 1) := by decide +kernel
theorem dL_law_137 : decode cL_law 137 = .ok (.iadd, 1) := by decide +kernel
theorem dL_law_138 : decode cL_law 138 = .ok (.iaload, 1) := by decide +kernel
theorem dL_law_139 : decode cL_law 139 = .ok (.aload_n 0, 1) := by decide +kernel
theorem dL_law_140 : decode cL_law 140 = .ok (.iload 4, 2) := by decide +kernel
theorem dL_law_142 : decode cL_law 142 = .ok (.iconst 3, 1) := by decide +kernel
theorem dL_law_143 : decode cL_law 143 = .ok (.iadd, 1) := by decide +kernel
theorem dL_law_144 : decode cL_law 144 = .ok (.iaload, 1) := by decide +kernel
theorem dL_law_145 : decode cL_law 145 = .ok (.invokevirtual 23, 3) := by decide +kernel
theorem dL_law_148 : decode cL_law 148 = .ok (.if_icmp .eq 488, 3) := by decide +kernel
theorem dL_law_151 : decode cL_law 151 = .ok (.iconst 0, 1) := by decide +kernel
theorem dL_law_152 : decode cL_law 152 = .ok (.ireturn, 1) := by decide +kernel
theorem dL_law_153 : decode cL_law 153 = .ok (.aload_n 1, 1) := by decide +kernel
theorem dL_law_154 : decode cL_law 154 = .ok (.aload_n 0, 1) := by decide +kernel
theorem dL_law_155 : decode cL_law 155 = .ok (.iload 4, 2) := by decide +kernel
theorem dL_law_157 : decode cL_law 157 = .ok (.iconst 1, 1) := by decide +kernel
theorem dL_law_158 : decode cL_law 158 = .ok (.iadd, 1) := by decide +kernel
theorem dL_law_159 : decode cL_law 159 = .ok (.iaload, 1) := by decide +kernel
theorem dL_law_160 : decode cL_law 160 = .ok (.aload_n 0, 1) := by decide +kernel
theorem dL_law_161 : decode cL_law 161 = .ok (.iload 4, 2) := by decide +kernel
theorem dL_law_163 : decode cL_law 163 = .ok (.iconst 2, 1) := by decide +kernel
theorem dL_law_164 : decode cL_law 164 = .ok (.iadd, 1) := by decide +kernel
theorem dL_law_165 : decode cL_law 165 = .ok (.iaload, 1) := by decide +kernel
theorem dL_law_166 : decode cL_law 166 = .ok (.aload_n 0, 1) := by decide +kernel
theorem dL_law_167 : decode cL_law 167 = .ok (.iload 4, 2) := by decide +kernel
theorem dL_law_169 : decode cL_law 169 = .ok (.iconst 3, 1) := by decide +kernel
theorem dL_law_170 : decode cL_law 170 = .ok (.iadd, 1) := by decide +kernel
theorem dL_law_171 : decode cL_law 171 = .ok (.iaload, 1) := by decide +kernel
theorem dL_law_172 : decode cL_law 172 = .ok (.invokevirtual 24, 3) := by decide +kernel
theorem dL_law_175 : decode cL_law 175 = .ok (.aload_n 2, 1) := by decide +kernel
theorem dL_law_176 : decode cL_law 176 = .ok (.aload_n 0, 1) := by decide +kernel
theorem dL_law_177 : decode cL_law 177 = .ok (.iload 4, 2) := by decide +kernel
theorem dL_law_179 : decode cL_law 179 = .ok (.iconst 1, 1) := by decide +kernel
theorem dL_law_180 : decode cL_law 180 = .ok (.iadd, 1) := by decide +kernel
theorem dL_law_181 : decode cL_law 181 = .ok (.iaload, 1) := by decide +kernel
theorem dL_law_182 : decode cL_law 182 = .ok (.aload_n 0, 1) := by decide +kernel
theorem dL_law_183 : decode cL_law 183 = .ok (.iload 4, 2) := by decide +kernel
theorem dL_law_185 : decode cL_law 185 = .ok (.iconst 2, 1) := by decide +kernel
theorem dL_law_186 : decode cL_law 186 = .ok (.iadd, 1) := by decide +kernel
theorem dL_law_187 : decode cL_law 187 = .ok (.iaload, 1) := by decide +kernel
theorem dL_law_188 : decode cL_law 188 = .ok (.aload_n 0, 1) := by decide +kernel
theorem dL_law_189 : decode cL_law 189 = .ok (.iload 4, 2) := by decide +kernel
theorem dL_law_191 : decode cL_law 191 = .ok (.iconst 3, 1) := by decide +kernel
theorem dL_law_192 : decode cL_law 192 = .ok (.iadd, 1) := by decide +kernel
theorem dL_law_193 : decode cL_law 193 = .ok (.iaload, 1) := by decide +kernel
theorem dL_law_194 : decode cL_law 194 = .ok (.invokevirtual 27, 3) := by decide +kernel
theorem dL_law_197 : decode cL_law 197 = .ok (.if_icmp .eq 439, 3) := by decide +kernel
theorem dL_law_200 : decode cL_law 200 = .ok (.iconst 0, 1) := by decide +kernel
theorem dL_law_201 : decode cL_law 201 = .ok (.ireturn, 1) := by decide +kernel
theorem dL_law_202 : decode cL_law 202 = .ok (.aload_n 1, 1) := by decide +kernel
theorem dL_law_203 : decode cL_law 203 = .ok (.aload_n 0, 1) := by decide +kernel
theorem dL_law_204 : decode cL_law 204 = .ok (.iload 4, 2) := by decide +kernel
theorem dL_law_206 : decode cL_law 206 = .ok (.iconst 1, 1) := by decide +kernel
theorem dL_law_207 : decode cL_law 207 = .ok (.iadd, 1) := by decide +kernel
theorem dL_law_208 : decode cL_law 208 = .ok (.iaload, 1) := by decide +kernel
theorem dL_law_209 : decode cL_law 209 = .ok (.aload_n 0, 1) := by decide +kernel
theorem dL_law_210 : decode cL_law 210 = .ok (.iload 4, 2) := by decide +kernel
theorem dL_law_212 : decode cL_law 212 = .ok (.iconst 2, 1) := by decide +kernel
theorem dL_law_213 : decode cL_law 213 = .ok (.iadd, 1) := by decide +kernel
theorem dL_law_214 : decode cL_law 214 = .ok (.iaload, 1) := by decide +kernel
theorem dL_law_215 : decode cL_law 215 = .ok (.invokevirtual 28, 3) := by decide +kernel
theorem dL_law_218 : decode cL_law 218 = .ok (.aload_n 2, 1) := by decide +kernel
theorem dL_law_219 : decode cL_law 219 = .ok (.aload_n 0, 1) := by decide +kernel
theorem dL_law_220 : decode cL_law 220 = .ok (.iload 4, 2) := by decide +kernel
theorem dL_law_222 : decode cL_law 222 = .ok (.iconst 1, 1) := by decide +kernel
theorem dL_law_223 : decode cL_law 223 = .ok (.iadd, 1) := by decide +kernel
theorem dL_law_224 : decode cL_law 224 = .ok (.iaload, 1) := by decide +kernel
theorem dL_law_225 : decode cL_law 225 = .ok (.aload_n 0, 1) := by decide +kernel
theorem dL_law_226 : decode cL_law 226 = .ok (.iload 4, 2) := by decide +kernel
theorem dL_law_228 : decode cL_law 228 = .ok (.iconst 2, 1) := by decide +kernel
theorem dL_law_229 : decode cL_law 229 = .ok (.iadd, 1) := by decide +kernel
theorem dL_law_230 : decode cL_law 230 = .ok (.iaload, 1) := by decide +kernel
theorem dL_law_231 : decode cL_law 231 = .ok (.invokevirtual 32, 3) := by decide +kernel
theorem dL_law_234 : decode cL_law 234 = .ok (.if_icmp .eq 402, 3) := by decide +kernel
theorem dL_law_237 : decode cL_law 237 = .ok (.iconst 0, 1) := by decide +kernel
theorem dL_law_238 : decode cL_law 238 = .ok (.ireturn, 1) := by decide +kernel
theorem dL_law_239 : decode cL_law 239 = .ok (.aload_n 1, 1) := by decide +kernel
theorem dL_law_240 : decode cL_law 240 = .ok (.aload_n 0, 1) := by decide +kernel
theorem dL_law_241 : decode cL_law 241 = .ok (.iload 4, 2) := by decide +kernel
theorem dL_law_243 : decode cL_law 243 = .ok (.iconst 1, 1) := by decide +kernel
theorem dL_law_244 : decode cL_law 244 = .ok (.iadd, 1) := by decide +kernel
theorem dL_law_245 : decode cL_law 245 = .ok (.iaload, 1) := by decide +kernel
theorem dL_law_246 : decode cL_law 246 = .ok (.aload_n 0, 1) := by decide +kernel
theorem dL_law_247 : decode cL_law 247 = .ok (.iload 4, 2) := by decide +kernel
theorem dL_law_249 : decode cL_law 249 = .ok (.iconst 2, 1) := by decide +kernel
theorem dL_law_250 : decode cL_law 250 = .ok (.iadd, 1) := by decide +kernel
theorem dL_law_251 : decode cL_law 251 = .ok (.iaload, 1) := by decide +kernel
theorem dL_law_252 : decode cL_law 252 = .ok (.aload_n 0, 1) := by decide +kernel
theorem dL_law_253 : decode cL_law 253 = .ok (.iload 4, 2) := by decide +kernel
theorem dL_law_255 : decode cL_law 255 = .ok (.iconst 3, 1) := by decide +kernel
theorem dL_law_256 : decode cL_law 256 = .ok (.iadd, 1) := by decide +kernel
theorem dL_law_257 : decode cL_law 257 = .ok (.iaload, 1) := by decide +kernel
theorem dL_law_258 : decode cL_law 258 = .ok (.ifCond .eq 7, 3) := by decide +kernel
theorem dL_law_261 : decode cL_law 261 = .ok (.iconst 1, 1) := by decide +kernel
theorem dL_law_262 : decode cL_law 262 = .ok (.goto 4, 3) := by decide +kernel
theorem dL_law_265 : decode cL_law 265 = .ok (.iconst 0, 1) := by decide +kernel
theorem dL_law_266 : decode cL_law 266 = .ok (.invokevirtual 33, 3) := by decide +kernel
theorem dL_law_269 : decode cL_law 269 = .ok (.aload_n 2, 1) := by decide +kernel
theorem dL_law_270 : decode cL_law 270 = .ok (.aload_n 0, 1) := by decide +kernel
theorem dL_law_271 : decode cL_law 271 = .ok (.iload 4, 2) := by decide +kernel
theorem dL_law_273 : decode cL_law 273 = .ok (.iconst 1, 1) := by decide +kernel
theorem dL_law_274 : decode cL_law 274 = .ok (.iadd, 1) := by decide +kernel
theorem dL_law_275 : decode cL_law 275 = .ok (.iaload, 1) := by decide +kernel
theorem dL_law_276 : decode cL_law 276 = .ok (.aload_n 0, 1) := by decide +kernel
theorem dL_law_277 : decode cL_law 277 = .ok (.iload 4, 2) := by decide +kernel
theorem dL_law_279 : decode cL_law 279 = .ok (.iconst 2, 1) := by decide +kernel
theorem dL_law_280 : decode cL_law 280 = .ok (.iadd, 1) := by decide +kernel
theorem dL_law_281 : decode cL_law 281 = .ok (.iaload, 1) := by decide +kernel
theorem dL_law_282 : decode cL_law 282 = .ok (.aload_n 0, 1) := by decide +kernel
theorem dL_law_283 : decode cL_law 283 = .ok (.iload 4, 2) := by decide +kernel
theorem dL_law_285 : decode cL_law 285 = .ok (.iconst 3, 1) := by decide +kernel
theorem dL_law_286 : decode cL_law 286 = .ok (.iadd, 1) := by decide +kernel
theorem dL_law_287 : decode cL_law 287 = .ok (.iaload, 1) := by decide +kernel
theorem dL_law_288 : decode cL_law 288 = .ok (.ifCond .eq 7, 3) := by decide +kernel
theorem dL_law_291 : decode cL_law 291 = .ok (.iconst 1, 1) := by decide +kernel
theorem dL_law_292 : decode cL_law 292 = .ok (.goto 4, 3) := by decide +kernel
theorem dL_law_295 : decode cL_law 295 = .ok (.iconst 0, 1) := by decide +kernel
theorem dL_law_296 : decode cL_law 296 = .ok (.invokevirtual 36, 3) := by decide +kernel
theorem dL_law_299 : decode cL_law 299 = .ok (.if_icmp .eq 337, 3) := by decide +kernel
theorem dL_law_302 : decode cL_law 302 = .ok (.iconst 0, 1) := by decide +kernel
theorem dL_law_303 : decode cL_law 303 = .ok (.ireturn, 1) := by decide +kernel
theorem dL_law_304 : decode cL_law 304 = .ok (.aload_n 1, 1) := by decide +kernel
theorem dL_law_305 : decode cL_law 305 = .ok (.invokevirtual 37, 3) := by decide +kernel
theorem dL_law_308 : decode cL_law 308 = .ok (.aload_n 2, 1) := by decide +kernel
theorem dL_law_309 : decode cL_law 309 = .ok (.invokevirtual 41, 3) := by decide +kernel
theorem dL_law_312 : decode cL_law 312 = .ok (.if_icmp .eq 324, 3) := by decide +kernel
theorem dL_law_315 : decode cL_law 315 = .ok (.iconst 0, 1) := by decide +kernel
theorem dL_law_316 : decode cL_law 316 = .ok (.ireturn, 1) := by decide +kernel
theorem dL_law_317 : decode cL_law 317 = .ok (.aload_n 1, 1) := by decide +kernel
theorem dL_law_318 : decode cL_law 318 = .ok (.aload_n 0, 1) := by decide +kernel
theorem dL_law_319 : decode cL_law 319 = .ok (.iload 4, 2) := by decide +kernel
theorem dL_law_321 : decode cL_law 321 = .ok (.iconst 1, 1) := by decide +kernel
theorem dL_law_322 : decode cL_law 322 = .ok (.iadd, 1) := by decide +kernel
theorem dL_law_323 : decode cL_law 323 = .ok (.iaload, 1) := by decide +kernel
theorem dL_law_324 : decode cL_law 324 = .ok (.invokevirtual 42, 3) := by decide +kernel
theorem dL_law_327 : decode cL_law 327 = .ok (.aload_n 2, 1) := by decide +kernel
theorem dL_law_328 : decode cL_law 328 = .ok (.aload_n 0, 1) := by decide +kernel
theorem dL_law_329 : decode cL_law 329 = .ok (.iload 4, 2) := by decide +kernel
theorem dL_law_331 : decode cL_law 331 = .ok (.iconst 1, 1) := by decide +kernel
theorem dL_law_332 : decode cL_law 332 = .ok (.iadd, 1) := by decide +kernel
theorem dL_law_333 : decode cL_law 333 = .ok (.iaload, 1) := by decide +kernel
theorem dL_law_334 : decode cL_law 334 = .ok (.invokevirtual 46, 3) := by decide +kernel
theorem dL_law_337 : decode cL_law 337 = .ok (.if_icmp .eq 299, 3) := by decide +kernel
theorem dL_law_340 : decode cL_law 340 = .ok (.iconst 0, 1) := by decide +kernel
theorem dL_law_341 : decode cL_law 341 = .ok (.ireturn, 1) := by decide +kernel
theorem dL_law_342 : decode cL_law 342 = .ok (.aload_n 1, 1) := by decide +kernel
theorem dL_law_343 : decode cL_law 343 = .ok (.aload_n 0, 1) := by decide +kernel
theorem dL_law_344 : decode cL_law 344 = .ok (.iload 4, 2) := by decide +kernel
theorem dL_law_346 : decode cL_law 346 = .ok (.iconst 1, 1) := by decide +kernel
theorem dL_law_347 : decode cL_law 347 = .ok (.iadd, 1) := by decide +kernel
theorem dL_law_348 : decode cL_law 348 = .ok (.iaload, 1) := by decide +kernel
theorem dL_law_349 : decode cL_law 349 = .ok (.aload_n 0, 1) := by decide +kernel
theorem dL_law_350 : decode cL_law 350 = .ok (.iload 4, 2) := by decide +kernel
theorem dL_law_352 : decode cL_law 352 = .ok (.iconst 2, 1) := by decide +kernel
theorem dL_law_353 : decode cL_law 353 = .ok (.iadd, 1) := by decide +kernel
theorem dL_law_354 : decode cL_law 354 = .ok (.iaload, 1) := by decide +kernel
theorem dL_law_355 : decode cL_law 355 = .ok (.invokevirtual 47, 3) := by decide +kernel
theorem dL_law_358 : decode cL_law 358 = .ok (.aload_n 2, 1) := by decide +kernel
theorem dL_law_359 : decode cL_law 359 = .ok (.aload_n 0, 1) := by decide +kernel
theorem dL_law_360 : decode cL_law 360 = .ok (.iload 4, 2) := by decide +kernel
theorem dL_law_362 : decode cL_law 362 = .ok (.iconst 1, 1) := by decide +kernel
theorem dL_law_363 : decode cL_law 363 = .ok (.iadd, 1) := by decide +kernel
theorem dL_law_364 : decode cL_law 364 = .ok (.iaload, 1) := by decide +kernel
theorem dL_law_365 : decode cL_law 365 = .ok (.aload_n 0, 1) := by decide +kernel
theorem dL_law_366 : decode cL_law 366 = .ok (.iload 4, 2) := by decide +kernel
theorem dL_law_368 : decode cL_law 368 = .ok (.iconst 2, 1) := by decide +kernel
theorem dL_law_369 : decode cL_law 369 = .ok (.iadd, 1) := by decide +kernel
theorem dL_law_370 : decode cL_law 370 = .ok (.iaload, 1) := by decide +kernel
theorem dL_law_371 : decode cL_law 371 = .ok (.invokevirtual 50, 3) := by decide +kernel
theorem dL_law_374 : decode cL_law 374 = .ok (.if_icmp .eq 262, 3) := by decide +kernel
theorem dL_law_377 : decode cL_law 377 = .ok (.iconst 0, 1) := by decide +kernel
theorem dL_law_378 : decode cL_law 378 = .ok (.ireturn, 1) := by decide +kernel
theorem dL_law_379 : decode cL_law 379 = .ok (.aload_n 1, 1) := by decide +kernel
theorem dL_law_380 : decode cL_law 380 = .ok (.aload_n 0, 1) := by decide +kernel
theorem dL_law_381 : decode cL_law 381 = .ok (.iload 4, 2) := by decide +kernel
theorem dL_law_383 : decode cL_law 383 = .ok (.iconst 1, 1) := by decide +kernel
theorem dL_law_384 : decode cL_law 384 = .ok (.iadd, 1) := by decide +kernel
theorem dL_law_385 : decode cL_law 385 = .ok (.iaload, 1) := by decide +kernel
theorem dL_law_386 : decode cL_law 386 = .ok (.aload_n 0, 1) := by decide +kernel
theorem dL_law_387 : decode cL_law 387 = .ok (.iload 4, 2) := by decide +kernel
theorem dL_law_389 : decode cL_law 389 = .ok (.iconst 2, 1) := by decide +kernel
theorem dL_law_390 : decode cL_law 390 = .ok (.iadd, 1) := by decide +kernel
theorem dL_law_391 : decode cL_law 391 = .ok (.iaload, 1) := by decide +kernel
theorem dL_law_392 : decode cL_law 392 = .ok (.invokevirtual 51, 3) := by decide +kernel
theorem dL_law_395 : decode cL_law 395 = .ok (.aload_n 2, 1) := by decide +kernel
theorem dL_law_396 : decode cL_law 396 = .ok (.aload_n 0, 1) := by decide +kernel
theorem dL_law_397 : decode cL_law 397 = .ok (.iload 4, 2) := by decide +kernel
theorem dL_law_399 : decode cL_law 399 = .ok (.iconst 1, 1) := by decide +kernel
theorem dL_law_400 : decode cL_law 400 = .ok (.iadd, 1) := by decide +kernel
theorem dL_law_401 : decode cL_law 401 = .ok (.iaload, 1) := by decide +kernel
theorem dL_law_402 : decode cL_law 402 = .ok (.aload_n 0, 1) := by decide +kernel
theorem dL_law_403 : decode cL_law 403 = .ok (.iload 4, 2) := by decide +kernel
theorem dL_law_405 : decode cL_law 405 = .ok (.iconst 2, 1) := by decide +kernel
theorem dL_law_406 : decode cL_law 406 = .ok (.iadd, 1) := by decide +kernel
theorem dL_law_407 : decode cL_law 407 = .ok (.iaload, 1) := by decide +kernel
theorem dL_law_408 : decode cL_law 408 = .ok (.invokevirtual 54, 3) := by decide +kernel
theorem dL_law_411 : decode cL_law 411 = .ok (.if_icmp .eq 225, 3) := by decide +kernel
theorem dL_law_414 : decode cL_law 414 = .ok (.iconst 0, 1) := by decide +kernel
theorem dL_law_415 : decode cL_law 415 = .ok (.ireturn, 1) := by decide +kernel
theorem dL_law_416 : decode cL_law 416 = .ok (.aload_n 1, 1) := by decide +kernel
theorem dL_law_417 : decode cL_law 417 = .ok (.aload_n 0, 1) := by decide +kernel
theorem dL_law_418 : decode cL_law 418 = .ok (.iload 4, 2) := by decide +kernel
theorem dL_law_420 : decode cL_law 420 = .ok (.iconst 1, 1) := by decide +kernel
theorem dL_law_421 : decode cL_law 421 = .ok (.iadd, 1) := by decide +kernel
theorem dL_law_422 : decode cL_law 422 = .ok (.iaload, 1) := by decide +kernel
theorem dL_law_423 : decode cL_law 423 = .ok (.aload_n 0, 1) := by decide +kernel
theorem dL_law_424 : decode cL_law 424 = .ok (.iload 4, 2) := by decide +kernel
theorem dL_law_426 : decode cL_law 426 = .ok (.iconst 2, 1) := by decide +kernel
theorem dL_law_427 : decode cL_law 427 = .ok (.iadd, 1) := by decide +kernel
theorem dL_law_428 : decode cL_law 428 = .ok (.iaload, 1) := by decide +kernel
theorem dL_law_429 : decode cL_law 429 = .ok (.aload_n 0, 1) := by decide +kernel
theorem dL_law_430 : decode cL_law 430 = .ok (.iload 4, 2) := by decide +kernel
theorem dL_law_432 : decode cL_law 432 = .ok (.iconst 3, 1) := by decide +kernel
theorem dL_law_433 : decode cL_law 433 = .ok (.iadd, 1) := by decide +kernel
theorem dL_law_434 : decode cL_law 434 = .ok (.iaload, 1) := by decide +kernel
theorem dL_law_435 : decode cL_law 435 = .ok (.invokevirtual 55, 3) := by decide +kernel
theorem dL_law_438 : decode cL_law 438 = .ok (.aload_n 2, 1) := by decide +kernel
theorem dL_law_439 : decode cL_law 439 = .ok (.aload_n 0, 1) := by decide +kernel
theorem dL_law_440 : decode cL_law 440 = .ok (.iload 4, 2) := by decide +kernel
theorem dL_law_442 : decode cL_law 442 = .ok (.iconst 1, 1) := by decide +kernel
theorem dL_law_443 : decode cL_law 443 = .ok (.iadd, 1) := by decide +kernel
theorem dL_law_444 : decode cL_law 444 = .ok (.iaload, 1) := by decide +kernel
theorem dL_law_445 : decode cL_law 445 = .ok (.aload_n 0, 1) := by decide +kernel
theorem dL_law_446 : decode cL_law 446 = .ok (.iload 4, 2) := by decide +kernel
theorem dL_law_448 : decode cL_law 448 = .ok (.iconst 2, 1) := by decide +kernel
theorem dL_law_449 : decode cL_law 449 = .ok (.iadd, 1) := by decide +kernel
theorem dL_law_450 : decode cL_law 450 = .ok (.iaload, 1) := by decide +kernel
theorem dL_law_451 : decode cL_law 451 = .ok (.aload_n 0, 1) := by decide +kernel
theorem dL_law_452 : decode cL_law 452 = .ok (.iload 4, 2) := by decide +kernel
theorem dL_law_454 : decode cL_law 454 = .ok (.iconst 3, 1) := by decide +kernel
theorem dL_law_455 : decode cL_law 455 = .ok (.iadd, 1) := by decide +kernel
theorem dL_law_456 : decode cL_law 456 = .ok (.iaload, 1) := by decide +kernel
theorem dL_law_457 : decode cL_law 457 = .ok (.invokevirtual 58, 3) := by decide +kernel
theorem dL_law_460 : decode cL_law 460 = .ok (.if_icmp .eq 176, 3) := by decide +kernel
theorem dL_law_463 : decode cL_law 463 = .ok (.iconst 0, 1) := by decide +kernel
theorem dL_law_464 : decode cL_law 464 = .ok (.ireturn, 1) := by decide +kernel
theorem dL_law_465 : decode cL_law 465 = .ok (.aload_n 1, 1) := by decide +kernel
theorem dL_law_466 : decode cL_law 466 = .ok (.aload_n 0, 1) := by decide +kernel
theorem dL_law_467 : decode cL_law 467 = .ok (.iload 4, 2) := by decide +kernel
theorem dL_law_469 : decode cL_law 469 = .ok (.iconst 1, 1) := by decide +kernel
theorem dL_law_470 : decode cL_law 470 = .ok (.iadd, 1) := by decide +kernel
theorem dL_law_471 : decode cL_law 471 = .ok (.iaload, 1) := by decide +kernel
theorem dL_law_472 : decode cL_law 472 = .ok (.aload_n 0, 1) := by decide +kernel
theorem dL_law_473 : decode cL_law 473 = .ok (.iload 4, 2) := by decide +kernel
theorem dL_law_475 : decode cL_law 475 = .ok (.iconst 2, 1) := by decide +kernel
theorem dL_law_476 : decode cL_law 476 = .ok (.iadd, 1) := by decide +kernel
theorem dL_law_477 : decode cL_law 477 = .ok (.iaload, 1) := by decide +kernel
theorem dL_law_478 : decode cL_law 478 = .ok (.aload_n 0, 1) := by decide +kernel
theorem dL_law_479 : decode cL_law 479 = .ok (.iload 4, 2) := by decide +kernel
theorem dL_law_481 : decode cL_law 481 = .ok (.iconst 3, 1) := by decide +kernel
theorem dL_law_482 : decode cL_law 482 = .ok (.iadd, 1) := by decide +kernel
theorem dL_law_483 : decode cL_law 483 = .ok (.iaload, 1) := by decide +kernel
theorem dL_law_484 : decode cL_law 484 = .ok (.invokevirtual 59, 3) := by decide +kernel
theorem dL_law_487 : decode cL_law 487 = .ok (.aload_n 2, 1) := by decide +kernel
theorem dL_law_488 : decode cL_law 488 = .ok (.aload_n 0, 1) := by decide +kernel
theorem dL_law_489 : decode cL_law 489 = .ok (.iload 4, 2) := by decide +kernel
theorem dL_law_491 : decode cL_law 491 = .ok (.iconst 1, 1) := by decide +kernel
theorem dL_law_492 : decode cL_law 492 = .ok (.iadd, 1) := by decide +kernel
theorem dL_law_493 : decode cL_law 493 = .ok (.iaload, 1) := by decide +kernel
theorem dL_law_494 : decode cL_law 494 = .ok (.aload_n 0, 1) := by decide +kernel
theorem dL_law_495 : decode cL_law 495 = .ok (.iload 4, 2) := by decide +kernel
theorem dL_law_497 : decode cL_law 497 = .ok (.iconst 2, 1) := by decide +kernel
theorem dL_law_498 : decode cL_law 498 = .ok (.iadd, 1) := by decide +kernel
theorem dL_law_499 : decode cL_law 499 = .ok (.iaload, 1) := by decide +kernel
theorem dL_law_500 : decode cL_law 500 = .ok (.aload_n 0, 1) := by decide +kernel
theorem dL_law_501 : decode cL_law 501 = .ok (.iload 4, 2) := by decide +kernel
theorem dL_law_503 : decode cL_law 503 = .ok (.iconst 3, 1) := by decide +kernel
theorem dL_law_504 : decode cL_law 504 = .ok (.iadd, 1) := by decide +kernel
theorem dL_law_505 : decode cL_law 505 = .ok (.iaload, 1) := by decide +kernel
theorem dL_law_506 : decode cL_law 506 = .ok (.invokevirtual 62, 3) := by decide +kernel
theorem dL_law_509 : decode cL_law 509 = .ok (.if_icmp .eq 127, 3) := by decide +kernel
theorem dL_law_512 : decode cL_law 512 = .ok (.iconst 0, 1) := by decide +kernel
theorem dL_law_513 : decode cL_law 513 = .ok (.ireturn, 1) := by decide +kernel
theorem dL_law_514 : decode cL_law 514 = .ok (.aload_n 1, 1) := by decide +kernel
theorem dL_law_515 : decode cL_law 515 = .ok (.aload_n 0, 1) := by decide +kernel
theorem dL_law_516 : decode cL_law 516 = .ok (.iload 4, 2) := by decide +kernel
theorem dL_law_518 : decode cL_law 518 = .ok (.iconst 1, 1) := by decide +kernel
theorem dL_law_519 : decode cL_law 519 = .ok (.iadd, 1) := by decide +kernel
theorem dL_law_520 : decode cL_law 520 = .ok (.iaload, 1) := by decide +kernel
theorem dL_law_521 : decode cL_law 521 = .ok (.aload_n 0, 1) := by decide +kernel
theorem dL_law_522 : decode cL_law 522 = .ok (.iload 4, 2) := by decide +kernel
theorem dL_law_524 : decode cL_law 524 = .ok (.iconst 2, 1) := by decide +kernel
theorem dL_law_525 : decode cL_law 525 = .ok (.iadd, 1) := by decide +kernel
theorem dL_law_526 : decode cL_law 526 = .ok (.iaload, 1) := by decide +kernel
theorem dL_law_527 : decode cL_law 527 = .ok (.aload_n 0, 1) := by decide +kernel
theorem dL_law_528 : decode cL_law 528 = .ok (.iload 4, 2) := by decide +kernel
theorem dL_law_530 : decode cL_law 530 = .ok (.iconst 3, 1) := by decide +kernel
theorem dL_law_531 : decode cL_law 531 = .ok (.iadd, 1) := by decide +kernel
theorem dL_law_532 : decode cL_law 532 = .ok (.iaload, 1) := by decide +kernel
theorem dL_law_533 : decode cL_law 533 = .ok (.ifCond .eq 7, 3) := by decide +kernel
theorem dL_law_536 : decode cL_law 536 = .ok (.iconst 1, 1) := by decide +kernel
theorem dL_law_537 : decode cL_law 537 = .ok (.goto 4, 3) := by decide +kernel
theorem dL_law_540 : decode cL_law 540 = .ok (.iconst 0, 1) := by decide +kernel
theorem dL_law_541 : decode cL_law 541 = .ok (.aload_n 3, 1) := by decide +kernel
theorem dL_law_542 : decode cL_law 542 = .ok (.invokestatic 63, 3) := by decide +kernel
theorem dL_law_545 : decode cL_law 545 = .ok (.istore 5, 2) := by decide +kernel
theorem dL_law_547 : decode cL_law 547 = .ok (.aload_n 2, 1) := by decide +kernel
theorem dL_law_548 : decode cL_law 548 = .ok (.aload_n 0, 1) := by decide +kernel
theorem dL_law_549 : decode cL_law 549 = .ok (.iload 4, 2) := by decide +kernel
theorem dL_law_551 : decode cL_law 551 = .ok (.iconst 1, 1) := by decide +kernel
theorem dL_law_552 : decode cL_law 552 = .ok (.iadd, 1) := by decide +kernel
theorem dL_law_553 : decode cL_law 553 = .ok (.iaload, 1) := by decide +kernel
theorem dL_law_554 : decode cL_law 554 = .ok (.aload_n 0, 1) := by decide +kernel
theorem dL_law_555 : decode cL_law 555 = .ok (.iload 4, 2) := by decide +kernel
theorem dL_law_557 : decode cL_law 557 = .ok (.iconst 2, 1) := by decide +kernel
theorem dL_law_558 : decode cL_law 558 = .ok (.iadd, 1) := by decide +kernel
theorem dL_law_559 : decode cL_law 559 = .ok (.iaload, 1) := by decide +kernel
theorem dL_law_560 : decode cL_law 560 = .ok (.aload_n 0, 1) := by decide +kernel
theorem dL_law_561 : decode cL_law 561 = .ok (.iload 4, 2) := by decide +kernel
theorem dL_law_563 : decode cL_law 563 = .ok (.iconst 3, 1) := by decide +kernel
theorem dL_law_564 : decode cL_law 564 = .ok (.iadd, 1) := by decide +kernel
theorem dL_law_565 : decode cL_law 565 = .ok (.iaload, 1) := by decide +kernel
theorem dL_law_566 : decode cL_law 566 = .ok (.ifCond .eq 7, 3) := by decide +kernel
theorem dL_law_569 : decode cL_law 569 = .ok (.iconst 1, 1) := by decide +kernel
theorem dL_law_570 : decode cL_law 570 = .ok (.goto 4, 3) := by decide +kernel
theorem dL_law_573 : decode cL_law 573 = .ok (.iconst 0, 1) := by decide +kernel
theorem dL_law_574 : decode cL_law 574 = .ok (.invokevirtual 68, 3) := by decide +kernel
theorem dL_law_577 : decode cL_law 577 = .ok (.istore 6, 2) := by decide +kernel
theorem dL_law_579 : decode cL_law 579 = .ok (.aload_n 2, 1) := by decide +kernel
theorem dL_law_580 : decode cL_law 580 = .ok (.invokevirtual 69, 3) := by decide +kernel
theorem dL_law_583 : decode cL_law 583 = .ok (.iload 5, 2) := by decide +kernel
theorem dL_law_585 : decode cL_law 585 = .ok (.if_icmp .eq 5, 3) := by decide +kernel
theorem dL_law_588 : decode cL_law 588 = .ok (.iconst 0, 1) := by decide +kernel
theorem dL_law_589 : decode cL_law 589 = .ok (.ireturn, 1) := by decide +kernel
theorem dL_law_590 : decode cL_law 590 = .ok (.iload 5, 2) := by decide +kernel
theorem dL_law_592 : decode cL_law 592 = .ok (.ifCond .ne 15, 3) := by decide +kernel
theorem dL_law_595 : decode cL_law 595 = .ok (.aload_n 3, 1) := by decide +kernel
theorem dL_law_596 : decode cL_law 596 = .ok (.iconst 0, 1) := by decide +kernel
theorem dL_law_597 : decode cL_law 597 = .ok (.laload, 1) := by decide +kernel
theorem dL_law_598 : decode cL_law 598 = .ok (.iload 6, 2) := by decide +kernel
theorem dL_law_600 : decode cL_law 600 = .ok (.i2l, 1) := by decide +kernel
theorem dL_law_601 : decode cL_law 601 = .ok (.lcmp, 1) := by decide +kernel
theorem dL_law_602 : decode cL_law 602 = .ok (.ifCond .eq 5, 3) := by decide +kernel
theorem dL_law_605 : decode cL_law 605 = .ok (.iconst 0, 1) := by decide +kernel
theorem dL_law_606 : decode cL_law 606 = .ok (.ireturn, 1) := by decide +kernel
theorem dL_law_607 : decode cL_law 607 = .ok (.goto 29, 3) := by decide +kernel
theorem dL_law_610 : decode cL_law 610 = .ok (.aload_n 1, 1) := by decide +kernel
theorem dL_law_611 : decode cL_law 611 = .ok (.invokevirtual 72, 3) := by decide +kernel
theorem dL_law_614 : decode cL_law 614 = .ok (.aload_n 2, 1) := by decide +kernel
theorem dL_law_615 : decode cL_law 615 = .ok (.invokevirtual 75, 3) := by decide +kernel
theorem dL_law_618 : decode cL_law 618 = .ok (.if_icmp .eq 18, 3) := by decide +kernel
theorem dL_law_621 : decode cL_law 621 = .ok (.iconst 0, 1) := by decide +kernel
theorem dL_law_622 : decode cL_law 622 = .ok (.ireturn, 1) := by decide +kernel
theorem dL_law_623 : decode cL_law 623 = .ok (.aload_n 1, 1) := by decide +kernel
theorem dL_law_624 : decode cL_law 624 = .ok (.invokevirtual 76, 3) := by decide +kernel
theorem dL_law_627 : decode cL_law 627 = .ok (.aload_n 2, 1) := by decide +kernel
theorem dL_law_628 : decode cL_law 628 = .ok (.invokevirtual 79, 3) := by decide +kernel
theorem dL_law_631 : decode cL_law 631 = .ok (.if_icmp .eq 5, 3) := by decide +kernel
theorem dL_law_634 : decode cL_law 634 = .ok (.iconst 0, 1) := by decide +kernel
theorem dL_law_635 : decode cL_law 635 = .ok (.ireturn, 1) := by decide +kernel
theorem dL_law_636 : decode cL_law 636 = .ok (.iinc 4 4, 3) := by decide +kernel
theorem dL_law_639 : decode cL_law 639 = .ok (.goto (-616), 3) := by decide +kernel
theorem dL_law_642 : decode cL_law 642 = .ok (.iconst 1, 1) := by decide +kernel
theorem dL_law_643 : decode cL_law 643 = .ok (.ireturn, 1) := by decide +kernel
