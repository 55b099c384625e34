/-! the reference's names, as the claim's printed text has the class's -/
def TM : u_T := fun k => match k with
  | 0 => ("FacetCountsModel", "code", "I", false)
  | 1 => ("FacetCountsModel", "has", "[Z", true)
  | 2 => ("FacetCountsModel", "above", "[I", true)
  | 3 => ("FacetCountsModel", "chosen", "[Z", true)
  | 4 => ("FacetCountsModel", "told", "[I", true)
  | 5 => ("FacetCountsModel", "counts", "[I", true)
  | _ => ("FacetCountsModel", "rows", "I", false)
def tyM : Nat → FieldType := fun k => match k with
  | 0 => .int
  | 1 => .array .boolean
  | 2 => .array .int
  | 3 => .array .boolean
  | 4 => .array .int
  | 5 => .array .int
  | _ => .int
abbrev wsM0 : List Cond := u_ws RX1 TM 7
theorem nmM : ∀ a, a < 7 → ∀ b, b < 7 → a ≠ b → (TM a).2.1 ≠ (TM b).2.1 := by decide +kernel
theorem tyM_ok : ∀ k, k < 7 → parseFieldDescriptor (TM k).2.2.1 = some (tyM k) := by decide +kernel
abbrev cM_init : ByteArray := prog_3_method_1_code
def yM_init : MethodName := ⟨RX1, "<init>", "()V"⟩
abbrev cM_thrown : ByteArray := prog_3_method_2_code
def yM_thrown : MethodName := ⟨RX1, "thrown", "()I"⟩
abbrev cM_row : ByteArray := prog_3_method_7_code
def yM_row : MethodName := ⟨RX1, "row", "(III)I"⟩
abbrev cM_isThing : ByteArray := prog_3_method_3_code
def yM_isThing : MethodName := ⟨RX1, "isThing", "(I)Z"⟩
abbrev cM_isHead : ByteArray := prog_3_method_4_code
def yM_isHead : MethodName := ⟨RX1, "isHead", "(I)Z"⟩
abbrev cM_isValue : ByteArray := prog_3_method_5_code
def yM_isValue : MethodName := ⟨RX1, "isValue", "(I)Z"⟩
abbrev cM_at : ByteArray := prog_3_method_6_code
def yM_at : MethodName := ⟨RX1, "at", "(III)I"⟩
abbrev cM_drop : ByteArray := prog_3_method_8_code
def yM_drop : MethodName := ⟨RX1, "drop", "(III)I"⟩
abbrev cM_above : ByteArray := prog_3_method_10_code
def yM_above : MethodName := ⟨RX1, "above", "(II)I"⟩
abbrev cM_isUnder : ByteArray := prog_3_method_9_code
def yM_isUnder : MethodName := ⟨RX1, "isUnder", "(II)Z"⟩
abbrev cM_choose : ByteArray := prog_3_method_16_code
def yM_choose : MethodName := ⟨RX1, "choose", "(IIZ)I"⟩
abbrev cM_all : ByteArray := prog_3_method_15_code
def yM_all : MethodName := ⟨RX1, "all", "(I)I"⟩
abbrev cM_isKeptBut : ByteArray := prog_3_method_13_code
def yM_isKeptBut : MethodName := ⟨RX1, "isKeptBut", "(II)Z"⟩
abbrev cM_isMet : ByteArray := prog_3_method_12_code
def yM_isMet : MethodName := ⟨RX1, "isMet", "(II)Z"⟩
abbrev cM_owns : ByteArray := prog_3_method_11_code
def yM_owns : MethodName := ⟨RX1, "owns", "(III)Z"⟩
abbrev cM_kept : ByteArray := prog_3_method_17_code
def yM_kept : MethodName := ⟨RX1, "kept", "()I"⟩
abbrev cM_isKept : ByteArray := prog_3_method_18_code
def yM_isKept : MethodName := ⟨RX1, "isKept", "(I)I"⟩
abbrev cM_facet : ByteArray := prog_3_method_19_code
def yM_facet : MethodName := ⟨RX1, "facet", "(II)I"⟩
abbrev cM_count : ByteArray := prog_3_method_14_code
def yM_count : MethodName := ⟨RX1, "count", "(II)I"⟩
abbrev cM_top : ByteArray := prog_3_method_20_code
def yM_top : MethodName := ⟨RX1, "top", "(II)I"⟩
abbrev cM_range : ByteArray := prog_3_method_21_code
def yM_range : MethodName := ⟨RX1, "range", "(III)I"⟩
abbrev cM_sum : ByteArray := prog_3_method_22_code
def yM_sum : MethodName := ⟨RX1, "sum", "(III)I"⟩
abbrev cM_share : ByteArray := prog_3_method_23_code
def yM_share : MethodName := ⟨RX1, "share", "(IIZ)I"⟩
abbrev cM_changed : ByteArray := prog_3_method_24_code
def yM_changed : MethodName := ⟨RX1, "changed", "()I"⟩
abbrev cM_rows : ByteArray := prog_3_method_25_code
def yM_rows : MethodName := ⟨RX1, "rows", "()I"⟩
def fmW : List Cond := [.initialized RX1, .methodLink RX1 1 objectInit, .instanceMethod objectInit, .arrayClass .int, .arrayClass .boolean, .fieldLink RX1 26 "FacetCountsModel" "code" "I", .fieldLink RX1 7 "FacetCountsModel" "has" "[Z", .fieldLink RX1 13 "FacetCountsModel" "above" "[I", .fieldLink RX1 17 "FacetCountsModel" "chosen" "[Z", .fieldLink RX1 20 "FacetCountsModel" "told" "[I", .fieldLink RX1 23 "FacetCountsModel" "counts" "[I", .fieldLink RX1 44 "FacetCountsModel" "rows" "I", .methodLink RX1 30 yM_isThing, .static yM_isThing, .methodLink RX1 34 yM_isHead, .static yM_isHead, .methodLink RX1 37 yM_isValue, .static yM_isValue, .methodLink RX1 40 yM_at, .static yM_at, .methodLink RX1 47 yM_isUnder, .instanceMethod yM_isUnder, .selects RX1 yM_isUnder yM_isUnder, .methodLink RX1 61 yM_all, .instanceMethod yM_all, .selects RX1 yM_all yM_all, .methodLink RX1 58 yM_isKeptBut, .instanceMethod yM_isKeptBut, .selects RX1 yM_isKeptBut yM_isKeptBut, .methodLink RX1 55 yM_isMet, .instanceMethod yM_isMet, .selects RX1 yM_isMet yM_isMet, .methodLink RX1 51 yM_owns, .instanceMethod yM_owns, .selects RX1 yM_owns yM_owns, .methodLink RX1 65 yM_count, .instanceMethod yM_count, .selects RX1 yM_count yM_count]
def fmK : List Cond := [.code objectInit ⟨#[0xb1]⟩ 1 none, .code yM_isThing cM_isThing 1 (some .boolean), .code yM_isHead cM_isHead 1 (some .boolean), .code yM_isValue cM_isValue 1 (some .boolean), .code yM_at cM_at 3 (some .int), .code yM_isUnder cM_isUnder 4 (some .boolean), .code yM_all cM_all 4 (some .int), .code yM_isKeptBut cM_isKeptBut 5 (some .boolean), .code yM_isMet cM_isMet 6 (some .boolean), .code yM_owns cM_owns 6 (some .boolean), .code yM_count cM_count 5 (some .int)]
def fmT : List Cond := fmK ++ (fmW ++ wsM0)
set_option maxRecDepth 20000 in
theorem fmK_in : GoodIn lw_tbl fmK := goodIn_r _ [34, 294, 297, 300, 303, 315, 323, 327, 331, 335, 351] (by decide +kernel) (by decide +kernel)
set_option maxRecDepth 20000 in
theorem fmW_in : GoodIn lw_tbl (fmW ++ wsM0) := goodIn_of _ (by decide +kernel)
theorem fmT_in : GoodIn lw_tbl fmT := goodIn_app fmK_in fmW_in
theorem fmT_self {me : Cond} : GoodIn (me :: fmT) fmT := fun w h => ⟨List.mem_cons_of_mem _ h, (fmT_in w h).2⟩
theorem fmT_good {me w0 : Cond} {hd : List Cond} (h : ∀ w ∈ hd, w ∈ fmT) (h0 : w0 ∈ fmT) : GoodIn (me :: fmT) (hd ++ (w0 :: fmT)) := fun w hw => (List.mem_append.mp hw).elim (fun q => fmT_self w (h w q)) (fun q => (List.mem_cons.mp q).elim (fun e => by rw [e]; exact fmT_self w0 h0) (fmT_self w))
theorem fmT_law {w0 : Cond} {hd : List Cond} (h : GoodIn lw_tbl hd) (h0 : GoodIn lw_tbl [w0]) : GoodIn lw_tbl (hd ++ (w0 :: fmT)) := goodIn_app h (fun w q => (List.mem_cons.mp q).elim (fun e => h0 w (List.mem_cons.mpr (Or.inl e))) (fmT_in w))
def wsM_init : List Cond := .code yM_init cM_init 2 none :: fmT
def wsM_thrown : List Cond := .code yM_thrown cM_thrown 1 (some .int) :: fmT
def wsM_row : List Cond := .code yM_row cM_row 4 (some .int) :: fmT
def wsM_isThing : List Cond := .code yM_isThing cM_isThing 1 (some .boolean) :: fmT
def wsM_isHead : List Cond := .code yM_isHead cM_isHead 1 (some .boolean) :: fmT
def wsM_isValue : List Cond := .code yM_isValue cM_isValue 1 (some .boolean) :: fmT
def wsM_at : List Cond := .code yM_at cM_at 3 (some .int) :: fmT
def wsM_drop : List Cond := .code yM_drop cM_drop 4 (some .int) :: fmT
def wsM_above : List Cond := .code yM_above cM_above 3 (some .int) :: fmT
def wsM_isUnder : List Cond := .code yM_isUnder cM_isUnder 4 (some .boolean) :: fmT
def wsM_choose : List Cond := .code yM_choose cM_choose 4 (some .int) :: fmT
def wsM_all : List Cond := .code yM_all cM_all 4 (some .int) :: fmT
def wsM_isKeptBut : List Cond := .code yM_isKeptBut cM_isKeptBut 5 (some .boolean) :: fmT
def wsM_isMet : List Cond := .code yM_isMet cM_isMet 6 (some .boolean) :: fmT
def wsM_owns : List Cond := .code yM_owns cM_owns 6 (some .boolean) :: fmT
def wsM_kept : List Cond := .code yM_kept cM_kept 1 (some .int) :: fmT
def wsM_isKept : List Cond := .code yM_isKept cM_isKept 2 (some .int) :: fmT
def wsM_facet : List Cond := .code yM_facet cM_facet 3 (some .int) :: fmT
def wsM_count : List Cond := .code yM_count cM_count 5 (some .int) :: fmT
def wsM_top : List Cond := .code yM_top cM_top 7 (some .int) :: fmT
def wsM_range : List Cond := .code yM_range cM_range 8 (some .int) :: fmT
def wsM_sum : List Cond := .code yM_sum cM_sum 8 (some .int) :: fmT
def wsM_share : List Cond := .code yM_share cM_share 8 (some .int) :: fmT
def wsM_changed : List Cond := .code yM_changed cM_changed 5 (some .int) :: fmT
def wsM_rows : List Cond := .code yM_rows cM_rows 1 (some .int) :: fmT
set_option maxRecDepth 20000 in
theorem gM_row_isThing : GoodIn wsM_row (va_wsS RX1 30 yM_isThing wsM_isThing) := fmT_good (by decide +kernel) (List.mem_append_left _ (List.mem_of_getElem? (i := 1) rfl))
set_option maxRecDepth 20000 in
theorem gM_row_isHead : GoodIn wsM_row (va_wsS RX1 34 yM_isHead wsM_isHead) := fmT_good (by decide +kernel) (List.mem_append_left _ (List.mem_of_getElem? (i := 2) rfl))
set_option maxRecDepth 20000 in
theorem gM_row_isValue : GoodIn wsM_row (va_wsS RX1 37 yM_isValue wsM_isValue) := fmT_good (by decide +kernel) (List.mem_append_left _ (List.mem_of_getElem? (i := 3) rfl))
set_option maxRecDepth 20000 in
theorem gM_row_at : GoodIn wsM_row (va_wsS RX1 40 yM_at wsM_at) := fmT_good (by decide +kernel) (List.mem_append_left _ (List.mem_of_getElem? (i := 4) rfl))
set_option maxRecDepth 20000 in
theorem gM_drop_isThing : GoodIn wsM_drop (va_wsS RX1 30 yM_isThing wsM_isThing) := fmT_good (by decide +kernel) (List.mem_append_left _ (List.mem_of_getElem? (i := 1) rfl))
set_option maxRecDepth 20000 in
theorem gM_drop_isHead : GoodIn wsM_drop (va_wsS RX1 34 yM_isHead wsM_isHead) := fmT_good (by decide +kernel) (List.mem_append_left _ (List.mem_of_getElem? (i := 2) rfl))
set_option maxRecDepth 20000 in
theorem gM_drop_isValue : GoodIn wsM_drop (va_wsS RX1 37 yM_isValue wsM_isValue) := fmT_good (by decide +kernel) (List.mem_append_left _ (List.mem_of_getElem? (i := 3) rfl))
set_option maxRecDepth 20000 in
theorem gM_drop_at : GoodIn wsM_drop (va_wsS RX1 40 yM_at wsM_at) := fmT_good (by decide +kernel) (List.mem_append_left _ (List.mem_of_getElem? (i := 4) rfl))
set_option maxRecDepth 20000 in
theorem gM_above_isValue : GoodIn wsM_above (va_wsS RX1 37 yM_isValue wsM_isValue) := fmT_good (by decide +kernel) (List.mem_append_left _ (List.mem_of_getElem? (i := 3) rfl))
set_option maxRecDepth 20000 in
theorem gM_above_isUnder : GoodIn wsM_above (wsV RX1 47 RX1 yM_isUnder wsM_isUnder) := fmT_good (by decide +kernel) (List.mem_append_left _ (List.mem_of_getElem? (i := 5) rfl))
set_option maxRecDepth 20000 in
theorem gM_owns_at : GoodIn wsM_owns (va_wsS RX1 40 yM_at wsM_at) := fmT_good (by decide +kernel) (List.mem_append_left _ (List.mem_of_getElem? (i := 4) rfl))
set_option maxRecDepth 20000 in
theorem gM_owns_isUnder : GoodIn wsM_owns (wsV RX1 47 RX1 yM_isUnder wsM_isUnder) := fmT_good (by decide +kernel) (List.mem_append_left _ (List.mem_of_getElem? (i := 5) rfl))
set_option maxRecDepth 20000 in
theorem gM_isMet_owns : GoodIn wsM_isMet (wsV RX1 51 RX1 yM_owns wsM_owns) := fmT_good (by decide +kernel) (List.mem_append_left _ (List.mem_of_getElem? (i := 9) rfl))
set_option maxRecDepth 20000 in
theorem gM_isKeptBut_isMet : GoodIn wsM_isKeptBut (wsV RX1 55 RX1 yM_isMet wsM_isMet) := fmT_good (by decide +kernel) (List.mem_append_left _ (List.mem_of_getElem? (i := 8) rfl))
set_option maxRecDepth 20000 in
theorem gM_count_owns : GoodIn wsM_count (wsV RX1 51 RX1 yM_owns wsM_owns) := fmT_good (by decide +kernel) (List.mem_append_left _ (List.mem_of_getElem? (i := 9) rfl))
set_option maxRecDepth 20000 in
theorem gM_count_isKeptBut : GoodIn wsM_count (wsV RX1 58 RX1 yM_isKeptBut wsM_isKeptBut) := fmT_good (by decide +kernel) (List.mem_append_left _ (List.mem_of_getElem? (i := 7) rfl))
set_option maxRecDepth 20000 in
theorem gM_all_isKeptBut : GoodIn wsM_all (wsV RX1 58 RX1 yM_isKeptBut wsM_isKeptBut) := fmT_good (by decide +kernel) (List.mem_append_left _ (List.mem_of_getElem? (i := 7) rfl))
set_option maxRecDepth 20000 in
theorem gM_choose_isHead : GoodIn wsM_choose (va_wsS RX1 34 yM_isHead wsM_isHead) := fmT_good (by decide +kernel) (List.mem_append_left _ (List.mem_of_getElem? (i := 2) rfl))
set_option maxRecDepth 20000 in
theorem gM_choose_isValue : GoodIn wsM_choose (va_wsS RX1 37 yM_isValue wsM_isValue) := fmT_good (by decide +kernel) (List.mem_append_left _ (List.mem_of_getElem? (i := 3) rfl))
set_option maxRecDepth 20000 in
theorem gM_choose_all : GoodIn wsM_choose (wsV RX1 61 RX1 yM_all wsM_all) := fmT_good (by decide +kernel) (List.mem_append_left _ (List.mem_of_getElem? (i := 6) rfl))
set_option maxRecDepth 20000 in
theorem gM_kept_all : GoodIn wsM_kept (wsV RX1 61 RX1 yM_all wsM_all) := fmT_good (by decide +kernel) (List.mem_append_left _ (List.mem_of_getElem? (i := 6) rfl))
set_option maxRecDepth 20000 in
theorem gM_isKept_isThing : GoodIn wsM_isKept (va_wsS RX1 30 yM_isThing wsM_isThing) := fmT_good (by decide +kernel) (List.mem_append_left _ (List.mem_of_getElem? (i := 1) rfl))
set_option maxRecDepth 20000 in
theorem gM_isKept_isKeptBut : GoodIn wsM_isKept (wsV RX1 58 RX1 yM_isKeptBut wsM_isKeptBut) := fmT_good (by decide +kernel) (List.mem_append_left _ (List.mem_of_getElem? (i := 7) rfl))
set_option maxRecDepth 20000 in
theorem gM_facet_isHead : GoodIn wsM_facet (va_wsS RX1 34 yM_isHead wsM_isHead) := fmT_good (by decide +kernel) (List.mem_append_left _ (List.mem_of_getElem? (i := 2) rfl))
set_option maxRecDepth 20000 in
theorem gM_facet_isValue : GoodIn wsM_facet (va_wsS RX1 37 yM_isValue wsM_isValue) := fmT_good (by decide +kernel) (List.mem_append_left _ (List.mem_of_getElem? (i := 3) rfl))
set_option maxRecDepth 20000 in
theorem gM_facet_count : GoodIn wsM_facet (wsV RX1 65 RX1 yM_count wsM_count) := fmT_good (by decide +kernel) (List.mem_append_left _ (List.mem_of_getElem? (i := 10) rfl))
set_option maxRecDepth 20000 in
theorem gM_top_isHead : GoodIn wsM_top (va_wsS RX1 34 yM_isHead wsM_isHead) := fmT_good (by decide +kernel) (List.mem_append_left _ (List.mem_of_getElem? (i := 2) rfl))
set_option maxRecDepth 20000 in
theorem gM_top_count : GoodIn wsM_top (wsV RX1 65 RX1 yM_count wsM_count) := fmT_good (by decide +kernel) (List.mem_append_left _ (List.mem_of_getElem? (i := 10) rfl))
set_option maxRecDepth 20000 in
theorem gM_range_isHead : GoodIn wsM_range (va_wsS RX1 34 yM_isHead wsM_isHead) := fmT_good (by decide +kernel) (List.mem_append_left _ (List.mem_of_getElem? (i := 2) rfl))
set_option maxRecDepth 20000 in
theorem gM_range_owns : GoodIn wsM_range (wsV RX1 51 RX1 yM_owns wsM_owns) := fmT_good (by decide +kernel) (List.mem_append_left _ (List.mem_of_getElem? (i := 9) rfl))
set_option maxRecDepth 20000 in
theorem gM_range_isKeptBut : GoodIn wsM_range (wsV RX1 58 RX1 yM_isKeptBut wsM_isKeptBut) := fmT_good (by decide +kernel) (List.mem_append_left _ (List.mem_of_getElem? (i := 7) rfl))
set_option maxRecDepth 20000 in
theorem gM_sum_isHead : GoodIn wsM_sum (va_wsS RX1 34 yM_isHead wsM_isHead) := fmT_good (by decide +kernel) (List.mem_append_left _ (List.mem_of_getElem? (i := 2) rfl))
set_option maxRecDepth 20000 in
theorem gM_sum_isValue : GoodIn wsM_sum (va_wsS RX1 37 yM_isValue wsM_isValue) := fmT_good (by decide +kernel) (List.mem_append_left _ (List.mem_of_getElem? (i := 3) rfl))
set_option maxRecDepth 20000 in
theorem gM_sum_owns : GoodIn wsM_sum (wsV RX1 51 RX1 yM_owns wsM_owns) := fmT_good (by decide +kernel) (List.mem_append_left _ (List.mem_of_getElem? (i := 9) rfl))
set_option maxRecDepth 20000 in
theorem gM_sum_isKeptBut : GoodIn wsM_sum (wsV RX1 58 RX1 yM_isKeptBut wsM_isKeptBut) := fmT_good (by decide +kernel) (List.mem_append_left _ (List.mem_of_getElem? (i := 7) rfl))
set_option maxRecDepth 20000 in
theorem gM_share_isHead : GoodIn wsM_share (va_wsS RX1 34 yM_isHead wsM_isHead) := fmT_good (by decide +kernel) (List.mem_append_left _ (List.mem_of_getElem? (i := 2) rfl))
set_option maxRecDepth 20000 in
theorem gM_share_isValue : GoodIn wsM_share (va_wsS RX1 37 yM_isValue wsM_isValue) := fmT_good (by decide +kernel) (List.mem_append_left _ (List.mem_of_getElem? (i := 3) rfl))
set_option maxRecDepth 20000 in
theorem gM_share_all : GoodIn wsM_share (wsV RX1 61 RX1 yM_all wsM_all) := fmT_good (by decide +kernel) (List.mem_append_left _ (List.mem_of_getElem? (i := 6) rfl))
set_option maxRecDepth 20000 in
theorem gM_share_count : GoodIn wsM_share (wsV RX1 65 RX1 yM_count wsM_count) := fmT_good (by decide +kernel) (List.mem_append_left _ (List.mem_of_getElem? (i := 10) rfl))
set_option maxRecDepth 20000 in
theorem gM_changed_count : GoodIn wsM_changed (wsV RX1 65 RX1 yM_count wsM_count) := fmT_good (by decide +kernel) (List.mem_append_left _ (List.mem_of_getElem? (i := 10) rfl))
set_option maxRecDepth 20000 in
theorem gL_M_init : GoodIn lw_tbl wsM_init := fmT_law (hd := []) (fun w h => nomatch h) (goodIn_r _ [259] (by decide +kernel) (by decide +kernel))
set_option maxRecDepth 20000 in
theorem gL_M_thrown : GoodIn lw_tbl (wsV RL 69 RX1 yM_thrown wsM_thrown) := fmT_law (goodIn_of _ (by decide +kernel)) (goodIn_r _ [287] (by decide +kernel) (by decide +kernel))
set_option maxRecDepth 20000 in
theorem gL_M_row : GoodIn lw_tbl (wsV RL 23 RX1 yM_row wsM_row) := fmT_law (goodIn_of _ (by decide +kernel)) (goodIn_r _ [291] (by decide +kernel) (by decide +kernel))
set_option maxRecDepth 20000 in
theorem gL_M_drop : GoodIn lw_tbl (wsV RL 27 RX1 yM_drop wsM_drop) := fmT_law (goodIn_of _ (by decide +kernel)) (goodIn_r _ [307] (by decide +kernel) (by decide +kernel))
set_option maxRecDepth 20000 in
theorem gL_M_above : GoodIn lw_tbl (wsV RL 32 RX1 yM_above wsM_above) := fmT_law (goodIn_of _ (by decide +kernel)) (goodIn_r _ [311] (by decide +kernel) (by decide +kernel))
set_option maxRecDepth 20000 in
theorem gL_M_choose : GoodIn lw_tbl (wsV RL 36 RX1 yM_choose wsM_choose) := fmT_law (goodIn_of _ (by decide +kernel)) (goodIn_r _ [319] (by decide +kernel) (by decide +kernel))
set_option maxRecDepth 20000 in
theorem gL_M_kept : GoodIn lw_tbl (wsV RL 41 RX1 yM_kept wsM_kept) := fmT_law (goodIn_of _ (by decide +kernel)) (goodIn_r _ [339] (by decide +kernel) (by decide +kernel))
set_option maxRecDepth 20000 in
theorem gL_M_isKept : GoodIn lw_tbl (wsV RL 46 RX1 yM_isKept wsM_isKept) := fmT_law (goodIn_of _ (by decide +kernel)) (goodIn_r _ [343] (by decide +kernel) (by decide +kernel))
set_option maxRecDepth 20000 in
theorem gL_M_facet : GoodIn lw_tbl (wsV RL 50 RX1 yM_facet wsM_facet) := fmT_law (goodIn_of _ (by decide +kernel)) (goodIn_r _ [347] (by decide +kernel) (by decide +kernel))
set_option maxRecDepth 20000 in
theorem gL_M_top : GoodIn lw_tbl (wsV RL 54 RX1 yM_top wsM_top) := fmT_law (goodIn_of _ (by decide +kernel)) (goodIn_r _ [355] (by decide +kernel) (by decide +kernel))
set_option maxRecDepth 20000 in
theorem gL_M_range : GoodIn lw_tbl (wsV RL 58 RX1 yM_range wsM_range) := fmT_law (goodIn_of _ (by decide +kernel)) (goodIn_r _ [359] (by decide +kernel) (by decide +kernel))
set_option maxRecDepth 20000 in
theorem gL_M_sum : GoodIn lw_tbl (wsV RL 62 RX1 yM_sum wsM_sum) := fmT_law (goodIn_of _ (by decide +kernel)) (goodIn_r _ [363] (by decide +kernel) (by decide +kernel))
set_option maxRecDepth 20000 in
theorem gL_M_share : GoodIn lw_tbl (wsV RL 68 RX1 yM_share wsM_share) := fmT_law (goodIn_of _ (by decide +kernel)) (goodIn_r _ [367] (by decide +kernel) (by decide +kernel))
set_option maxRecDepth 20000 in
theorem gL_M_changed : GoodIn lw_tbl (wsV RL 75 RX1 yM_changed wsM_changed) := fmT_law (goodIn_of _ (by decide +kernel)) (goodIn_r _ [371] (by decide +kernel) (by decide +kernel))
set_option maxRecDepth 20000 in
theorem gL_M_rows : GoodIn lw_tbl (wsV RL 79 RX1 yM_rows wsM_rows) := fmT_law (goodIn_of _ (by decide +kernel)) (goodIn_r _ [375] (by decide +kernel) (by decide +kernel))
theorem dM_init_0 : decode cM_init 0 = .ok (.aload_n 0, 1) := by decide +kernel
theorem dM_init_1 : decode cM_init 1 = .ok (.invokespecial 1, 3) := by decide +kernel
theorem dM_init_4 : decode cM_init 4 = .ok (.aload_n 0, 1) := by decide +kernel
theorem dM_init_5 : decode cM_init 5 = .ok (.sipush 10240, 3) := by decide +kernel
theorem dM_init_8 : decode cM_init 8 = .ok (.newarray .boolean, 2) := by decide +kernel
theorem dM_init_10 : decode cM_init 10 = .ok (.putfield 7, 3) := by decide +kernel
theorem dM_init_13 : decode cM_init 13 = .ok (.aload_n 0, 1) := by decide +kernel
theorem dM_init_14 : decode cM_init 14 = .ok (.bipush 32, 2) := by decide +kernel
theorem dM_init_16 : decode cM_init 16 = .ok (.newarray .int, 2) := by decide +kernel
theorem dM_init_18 : decode cM_init 18 = .ok (.putfield 13, 3) := by decide +kernel
theorem dM_init_21 : decode cM_init 21 = .ok (.aload_n 0, 1) := by decide +kernel
theorem dM_init_22 : decode cM_init 22 = .ok (.sipush 256, 3) := by decide +kernel
theorem dM_init_25 : decode cM_init 25 = .ok (.newarray .boolean, 2) := by decide +kernel
theorem dM_init_27 : decode cM_init 27 = .ok (.putfield 17, 3) := by decide +kernel
theorem dM_init_30 : decode cM_init 30 = .ok (.aload_n 0, 1) := by decide +kernel
theorem dM_init_31 : decode cM_init 31 = .ok (.sipush 256, 3) := by decide +kernel
theorem dM_init_34 : decode cM_init 34 = .ok (.newarray .int, 2) := by decide +kernel
theorem dM_init_36 : decode cM_init 36 = .ok (.putfield 20, 3) := by decide +kernel
theorem dM_init_39 : decode cM_init 39 = .ok (.aload_n 0, 1) := by decide +kernel
theorem dM_init_40 : decode cM_init 40 = .ok (.bipush 32, 2) := by decide +kernel
theorem dM_init_42 : decode cM_init 42 = .ok (.newarray .int, 2) := by decide +kernel
theorem dM_init_44 : decode cM_init 44 = .ok (.putfield 23, 3) := by decide +kernel
theorem dM_init_47 : decode cM_init 47 = .ok (.iconst 0, 1) := by decide +kernel
theorem dM_init_48 : decode cM_init 48 = .ok (.istore_n 1, 1) := by decide +kernel
theorem dM_init_49 : decode cM_init 49 = .ok (.iload_n 1, 1) := by decide +kernel
theorem dM_init_50 : decode cM_init 50 = .ok (.bipush 32, 2) := by decide +kernel
theorem dM_init_52 : decode cM_init 52 = .ok (.if_icmp .ge 16, 3) := by decide +kernel
theorem dM_init_55 : decode cM_init 55 = .ok (.aload_n 0, 1) := by decide +kernel
theorem dM_init_56 : decode cM_init 56 = .ok (.getfield 13, 3) := by decide +kernel
theorem dM_init_59 : decode cM_init 59 = .ok (.iload_n 1, 1) := by decide +kernel
theorem dM_init_60 : decode cM_init 60 = .ok (.iconst (-1), 1) := by decide +kernel
theorem dM_init_61 : decode cM_init 61 = .ok (.iastore, 1) := by decide +kernel
theorem dM_init_62 : decode cM_init 62 = .ok (.iinc 1 1, 3) := by decide +kernel
theorem dM_init_65 : decode cM_init 65 = .ok (.goto (-16), 3) := by decide +kernel
theorem dM_init_68 : decode cM_init 68 = .ok (.return_, 1) := by decide +kernel
theorem dM_thrown_0 : decode cM_thrown 0 = .ok (.aload_n 0, 1) := by decide +kernel
theorem dM_thrown_1 : decode cM_thrown 1 = .ok (.getfield 26, 3) := by decide +kernel
theorem dM_thrown_4 : decode cM_thrown 4 = .ok (.ireturn, 1) := by decide +kernel
theorem dM_isThing_0 : decode cM_isThing 0 = .ok (.iload_n 0, 1) := by decide +kernel
theorem dM_isThing_1 : decode cM_isThing 1 = .ok (.ifCond .lt 13, 3) := by decide +kernel
theorem dM_isThing_4 : decode cM_isThing 4 = .ok (.iload_n 0, 1) := by decide +kernel
theorem dM_isThing_5 : decode cM_isThing 5 = .ok (.bipush 40, 2) := by decide +kernel
theorem dM_isThing_7 : decode cM_isThing 7 = .ok (.if_icmp .ge 7, 3) := by decide +kernel
theorem dM_isThing_10 : decode cM_isThing 10 = .ok (.iconst 1, 1) := by decide +kernel
theorem dM_isThing_11 : decode cM_isThing 11 = .ok (.goto 4, 3) := by decide +kernel
theorem dM_isThing_14 : decode cM_isThing 14 = .ok (.iconst 0, 1) := by decide +kernel
theorem dM_isThing_15 : decode cM_isThing 15 = .ok (.ireturn, 1) := by decide +kernel
theorem dM_isHead_0 : decode cM_isHead 0 = .ok (.iload_n 0, 1) := by decide +kernel
theorem dM_isHead_1 : decode cM_isHead 1 = .ok (.ifCond .lt 13, 3) := by decide +kernel
theorem dM_isHead_4 : decode cM_isHead 4 = .ok (.iload_n 0, 1) := by decide +kernel
theorem dM_isHead_5 : decode cM_isHead 5 = .ok (.bipush 8, 2) := by decide +kernel
theorem dM_isHead_7 : decode cM_isHead 7 = .ok (.if_icmp .ge 7, 3) := by decide +kernel
theorem dM_isHead_10 : decode cM_isHead 10 = .ok (.iconst 1, 1) := by decide +kernel
theorem dM_isHead_11 : decode cM_isHead 11 = .ok (.goto 4, 3) := by decide +kernel
theorem dM_isHead_14 : decode cM_isHead 14 = .ok (.iconst 0, 1) := by decide +kernel
theorem dM_isHead_15 : decode cM_isHead 15 = .ok (.ireturn, 1) := by decide +kernel
theorem dM_isValue_0 : decode cM_isValue 0 = .ok (.iload_n 0, 1) := by decide +kernel
theorem dM_isValue_1 : decode cM_isValue 1 = .ok (.ifCond .lt 13, 3) := by decide +kernel
theorem dM_isValue_4 : decode cM_isValue 4 = .ok (.iload_n 0, 1) := by decide +kernel
theorem dM_isValue_5 : decode cM_isValue 5 = .ok (.bipush 32, 2) := by decide +kernel
theorem dM_isValue_7 : decode cM_isValue 7 = .ok (.if_icmp .ge 7, 3) := by decide +kernel
theorem dM_isValue_10 : decode cM_isValue 10 = .ok (.iconst 1, 1) := by decide +kernel
theorem dM_isValue_11 : decode cM_isValue 11 = .ok (.goto 4, 3) := by decide +kernel
theorem dM_isValue_14 : decode cM_isValue 14 = .ok (.iconst 0, 1) := by decide +kernel
theorem dM_isValue_15 : decode cM_isValue 15 = .ok (.ireturn, 1) := by decide +kernel
theorem dM_at_0 : decode cM_at 0 = .ok (.iload_n 0, 1) := by decide +kernel
theorem dM_at_1 : decode cM_at 1 = .ok (.bipush 8, 2) := by decide +kernel
theorem dM_at_3 : decode cM_at 3 = .ok (.imul, 1) := by decide +kernel
theorem dM_at_4 : decode cM_at 4 = .ok (.iload_n 1, 1) := by decide +kernel
theorem dM_at_5 : decode cM_at 5 = .ok (.iadd, 1) := by decide +kernel
theorem dM_at_6 : decode cM_at 6 = .ok (.bipush 32, 2) := by decide +kernel
theorem dM_at_8 : decode cM_at 8 = .ok (.imul, 1) := by decide +kernel
theorem dM_at_9 : decode cM_at 9 = .ok (.iload_n 2, 1) := by decide +kernel
theorem dM_at_10 : decode cM_at 10 = .ok (.iadd, 1) := by decide +kernel
theorem dM_at_11 : decode cM_at 11 = .ok (.ireturn, 1) := by decide +kernel
theorem dM_row_0 : decode cM_row 0 = .ok (.aload_n 0, 1) := by decide +kernel
theorem dM_row_1 : decode cM_row 1 = .ok (.iconst 0, 1) := by decide +kernel
theorem dM_row_2 : decode cM_row 2 = .ok (.putfield 26, 3) := by decide +kernel
theorem dM_row_5 : decode cM_row 5 = .ok (.iload_n 1, 1) := by decide +kernel
theorem dM_row_6 : decode cM_row 6 = .ok (.invokestatic 30, 3) := by decide +kernel
theorem dM_row_9 : decode cM_row 9 = .ok (.ifCond .eq 17, 3) := by decide +kernel
theorem dM_row_12 : decode cM_row 12 = .ok (.iload_n 2, 1) := by decide +kernel
theorem dM_row_13 : decode cM_row 13 = .ok (.invokestatic 34, 3) := by decide +kernel
theorem dM_row_16 : decode cM_row 16 = .ok (.ifCond .eq 10, 3) := by decide +kernel
theorem dM_row_19 : decode cM_row 19 = .ok (.iload_n 3, 1) := by decide +kernel
theorem dM_row_20 : decode cM_row 20 = .ok (.invokestatic 37, 3) := by decide +kernel
theorem dM_row_23 : decode cM_row 23 = .ok (.ifCond .ne 5, 3) := by decide +kernel
theorem dM_row_26 : decode cM_row 26 = .ok (.iconst (-1), 1) := by decide +kernel
theorem dM_row_27 : decode cM_row 27 = .ok (.ireturn, 1) := by decide +kernel
theorem dM_row_28 : decode cM_row 28 = .ok (.aload_n 0, 1) := by decide +kernel
theorem dM_row_29 : decode cM_row 29 = .ok (.getfield 7, 3) := by decide +kernel
theorem dM_row_32 : decode cM_row 32 = .ok (.iload_n 1, 1) := by decide +kernel
theorem dM_row_33 : decode cM_row 33 = .ok (.iload_n 2, 1) := by decide +kernel
theorem dM_row_34 : decode cM_row 34 = .ok (.iload_n 3, 1) := by decide +kernel
theorem dM_row_35 : decode cM_row 35 = .ok (.invokestatic 40, 3) := by decide +kernel
theorem dM_row_38 : decode cM_row 38 = .ok (.baload, 1) := by decide +kernel
theorem dM_row_39 : decode cM_row 39 = .ok (.ifCond .eq 5, 3) := by decide +kernel
theorem dM_row_42 : decode cM_row 42 = .ok (.iconst 0, 1) := by decide +kernel
theorem dM_row_43 : decode cM_row 43 = .ok (.ireturn, 1) := by decide +kernel
theorem dM_row_44 : decode cM_row 44 = .ok (.aload_n 0, 1) := by decide +kernel
theorem dM_row_45 : decode cM_row 45 = .ok (.getfield 44, 3) := by decide +kernel
theorem dM_row_48 : decode cM_row 48 = .ok (.sipush 300, 3) := by decide +kernel
theorem dM_row_51 : decode cM_row 51 = .ok (.if_icmp .ne 6, 3) := by decide +kernel
theorem dM_row_54 : decode cM_row 54 = .ok (.bipush (-2), 2) := by decide +kernel
theorem dM_row_56 : decode cM_row 56 = .ok (.ireturn, 1) := by decide +kernel
theorem dM_row_57 : decode cM_row 57 = .ok (.aload_n 0, 1) := by decide +kernel
theorem dM_row_58 : decode cM_row 58 = .ok (.getfield 7, 3) := by decide +kernel
theorem dM_row_61 : decode cM_row 61 = .ok (.iload_n 1, 1) := by decide +kernel
theorem dM_row_62 : decode cM_row 62 = .ok (.iload_n 2, 1) := by decide +kernel
theorem dM_row_63 : decode cM_row 63 = .ok (.iload_n 3, 1) := by decide +kernel
theorem dM_row_64 : decode cM_row 64 = .ok (.invokestatic 40, 3) := by decide +kernel
theorem dM_row_67 : decode cM_row 67 = .ok (.iconst 1, 1) := by decide +kernel
theorem dM_row_68 : decode cM_row 68 = .ok (.bastore, 1) := by decide +kernel
theorem dM_row_69 : decode cM_row 69 = .ok (.aload_n 0, 1) := by decide +kernel
theorem dM_row_70 : decode cM_row 70 = .ok (.dup, 1) := by decide +kernel
theorem dM_row_71 : decode cM_row 71 = .ok (.getfield 44, 3) := by decide +kernel
theorem dM_row_74 : decode cM_row 74 = .ok (.iconst 1, 1) := by decide +kernel
theorem dM_row_75 : decode cM_row 75 = .ok (.iadd, 1) := by decide +kernel
theorem dM_row_76 : decode cM_row 76 = .ok (.putfield 44, 3) := by decide +kernel
theorem dM_row_79 : decode cM_row 79 = .ok (.iconst 1, 1) := by decide +kernel
theorem dM_row_80 : decode cM_row 80 = .ok (.ireturn, 1) := by decide +kernel
theorem dM_drop_0 : decode cM_drop 0 = .ok (.aload_n 0, 1) := by decide +kernel
theorem dM_drop_1 : decode cM_drop 1 = .ok (.iconst 0, 1) := by decide +kernel
theorem dM_drop_2 : decode cM_drop 2 = .ok (.putfield 26, 3) := by decide +kernel
theorem dM_drop_5 : decode cM_drop 5 = .ok (.iload_n 1, 1) := by decide +kernel
theorem dM_drop_6 : decode cM_drop 6 = .ok (.invokestatic 30, 3) := by decide +kernel
theorem dM_drop_9 : decode cM_drop 9 = .ok (.ifCond .eq 17, 3) := by decide +kernel
theorem dM_drop_12 : decode cM_drop 12 = .ok (.iload_n 2, 1) := by decide +kernel
theorem dM_drop_13 : decode cM_drop 13 = .ok (.invokestatic 34, 3) := by decide +kernel
theorem dM_drop_16 : decode cM_drop 16 = .ok (.ifCond .eq 10, 3) := by decide +kernel
theorem dM_drop_19 : decode cM_drop 19 = .ok (.iload_n 3, 1) := by decide +kernel
theorem dM_drop_20 : decode cM_drop 20 = .ok (.invokestatic 37, 3) := by decide +kernel
theorem dM_drop_23 : decode cM_drop 23 = .ok (.ifCond .ne 5, 3) := by decide +kernel
theorem dM_drop_26 : decode cM_drop 26 = .ok (.iconst (-1), 1) := by decide +kernel
theorem dM_drop_27 : decode cM_drop 27 = .ok (.ireturn, 1) := by decide +kernel
theorem dM_drop_28 : decode cM_drop 28 = .ok (.aload_n 0, 1) := by decide +kernel
theorem dM_drop_29 : decode cM_drop 29 = .ok (.getfield 7, 3) := by decide +kernel
theorem dM_drop_32 : decode cM_drop 32 = .ok (.iload_n 1, 1) := by decide +kernel
theorem dM_drop_33 : decode cM_drop 33 = .ok (.iload_n 2, 1) := by decide +kernel
theorem dM_drop_34 : decode cM_drop 34 = .ok (.iload_n 3, 1) := by decide +kernel
theorem dM_drop_35 : decode cM_drop 35 = .ok (.invokestatic 40, 3) := by decide +kernel
theorem dM_drop_38 : decode cM_drop 38 = .ok (.baload, 1) := by decide +kernel
theorem dM_drop_39 : decode cM_drop 39 = .ok (.ifCond .ne 5, 3) := by decide +kernel
theorem dM_drop_42 : decode cM_drop 42 = .ok (.iconst 0, 1) := by decide +kernel
theorem dM_drop_43 : decode cM_drop 43 = .ok (.ireturn, 1) := by decide +kernel
theorem dM_drop_44 : decode cM_drop 44 = .ok (.aload_n 0, 1) := by decide +kernel
theorem dM_drop_45 : decode cM_drop 45 = .ok (.getfield 7, 3) := by decide +kernel
theorem dM_drop_48 : decode cM_drop 48 = .ok (.iload_n 1, 1) := by decide +kernel
theorem dM_drop_49 : decode cM_drop 49 = .ok (.iload_n 2, 1) := by decide +kernel
theorem dM_drop_50 : decode cM_drop 50 = .ok (.iload_n 3, 1) := by decide +kernel
theorem dM_drop_51 : decode cM_drop 51 = .ok (.invokestatic 40, 3) := by decide +kernel
theorem dM_drop_54 : decode cM_drop 54 = .ok (.iconst 0, 1) := by decide +kernel
theorem dM_drop_55 : decode cM_drop 55 = .ok (.bastore, 1) := by decide +kernel
theorem dM_drop_56 : decode cM_drop 56 = .ok (.aload_n 0, 1) := by decide +kernel
theorem dM_drop_57 : decode cM_drop 57 = .ok (.dup, 1) := by decide +kernel
theorem dM_drop_58 : decode cM_drop 58 = .ok (.getfield 44, 3) := by decide +kernel
theorem dM_drop_61 : decode cM_drop 61 = .ok (.iconst 1, 1) := by decide +kernel
theorem dM_drop_62 : decode cM_drop 62 = .ok (.isub, 1) := by decide +kernel
theorem dM_drop_63 : decode cM_drop 63 = .ok (.putfield 44, 3) := by decide +kernel
theorem dM_drop_66 : decode cM_drop 66 = .ok (.iconst 1, 1) := by decide +kernel
theorem dM_drop_67 : decode cM_drop 67 = .ok (.ireturn, 1) := by decide +kernel
theorem dM_isUnder_0 : decode cM_isUnder 0 = .ok (.iload_n 1, 1) := by decide +kernel
theorem dM_isUnder_1 : decode cM_isUnder 1 = .ok (.istore_n 3, 1) := by decide +kernel
theorem dM_isUnder_2 : decode cM_isUnder 2 = .ok (.iload_n 3, 1) := by decide +kernel
theorem dM_isUnder_3 : decode cM_isUnder 3 = .ok (.iconst (-1), 1) := by decide +kernel
theorem dM_isUnder_4 : decode cM_isUnder 4 = .ok (.if_icmp .eq 18, 3) := by decide +kernel
theorem dM_isUnder_7 : decode cM_isUnder 7 = .ok (.iload_n 3, 1) := by decide +kernel
theorem dM_isUnder_8 : decode cM_isUnder 8 = .ok (.iload_n 2, 1) := by decide +kernel
theorem dM_isUnder_9 : decode cM_isUnder 9 = .ok (.if_icmp .eq 13, 3) := by decide +kernel
theorem dM_isUnder_12 : decode cM_isUnder 12 = .ok (.aload_n 0, 1) := by decide +kernel
theorem dM_isUnder_13 : decode cM_isUnder 13 = .ok (.getfield 13, 3) := by decide +kernel
theorem dM_isUnder_16 : decode cM_isUnder 16 = .ok (.iload_n 3, 1) := by decide +kernel
theorem dM_isUnder_17 : decode cM_isUnder 17 = .ok (.iaload, 1) := by decide +kernel
theorem dM_isUnder_18 : decode cM_isUnder 18 = .ok (.istore_n 3, 1) := by decide +kernel
theorem dM_isUnder_19 : decode cM_isUnder 19 = .ok (.goto (-17), 3) := by decide +kernel
theorem dM_isUnder_22 : decode cM_isUnder 22 = .ok (.iload_n 3, 1) := by decide +kernel
theorem dM_isUnder_23 : decode cM_isUnder 23 = .ok (.iconst (-1), 1) := by decide +kernel
theorem dM_isUnder_24 : decode cM_isUnder 24 = .ok (.if_icmp .eq 7, 3) := by decide +kernel
theorem dM_isUnder_27 : decode cM_isUnder 27 = .ok (.iconst 1, 1) := by decide +kernel
theorem dM_isUnder_28 : decode cM_isUnder 28 = .ok (.goto 4, 3) := by decide +kernel
theorem dM_isUnder_31 : decode cM_isUnder 31 = .ok (.iconst 0, 1) := by decide +kernel
theorem dM_isUnder_32 : decode cM_isUnder 32 = .ok (.ireturn, 1) := by decide +kernel
theorem dM_above_0 : decode cM_above 0 = .ok (.aload_n 0, 1) := by decide +kernel
theorem dM_above_1 : decode cM_above 1 = .ok (.iconst 0, 1) := by decide +kernel
theorem dM_above_2 : decode cM_above 2 = .ok (.putfield 26, 3) := by decide +kernel
theorem dM_above_5 : decode cM_above 5 = .ok (.iload_n 1, 1) := by decide +kernel
theorem dM_above_6 : decode cM_above 6 = .ok (.invokestatic 37, 3) := by decide +kernel
theorem dM_above_9 : decode cM_above 9 = .ok (.ifCond .eq 15, 3) := by decide +kernel
theorem dM_above_12 : decode cM_above 12 = .ok (.iload_n 2, 1) := by decide +kernel
theorem dM_above_13 : decode cM_above 13 = .ok (.iconst (-1), 1) := by decide +kernel
theorem dM_above_14 : decode cM_above 14 = .ok (.if_icmp .eq 12, 3) := by decide +kernel
theorem dM_above_17 : decode cM_above 17 = .ok (.iload_n 2, 1) := by decide +kernel
theorem dM_above_18 : decode cM_above 18 = .ok (.invokestatic 37, 3) := by decide +kernel
theorem dM_above_21 : decode cM_above 21 = .ok (.ifCond .ne 5, 3) := by decide +kernel
theorem dM_above_24 : decode cM_above 24 = .ok (.iconst (-1), 1) := by decide +kernel
theorem dM_above_25 : decode cM_above 25 = .ok (.ireturn, 1) := by decide +kernel
theorem dM_above_26 : decode cM_above 26 = .ok (.aload_n 0, 1) := by decide +kernel
theorem dM_above_27 : decode cM_above 27 = .ok (.getfield 13, 3) := by decide +kernel
theorem dM_above_30 : decode cM_above 30 = .ok (.iload_n 1, 1) := by decide +kernel
theorem dM_above_31 : decode cM_above 31 = .ok (.iaload, 1) := by decide +kernel
theorem dM_above_32 : decode cM_above 32 = .ok (.iload_n 2, 1) := by decide +kernel
theorem dM_above_33 : decode cM_above 33 = .ok (.if_icmp .ne 5, 3) := by decide +kernel
theorem dM_above_36 : decode cM_above 36 = .ok (.iconst 0, 1) := by decide +kernel
theorem dM_above_37 : decode cM_above 37 = .ok (.ireturn, 1) := by decide +kernel
theorem dM_above_38 : decode cM_above 38 = .ok (.iload_n 2, 1) := by decide +kernel
theorem dM_above_39 : decode cM_above 39 = .ok (.iconst (-1), 1) := by decide +kernel
theorem dM_above_40 : decode cM_above 40 = .ok (.if_icmp .eq 15, 3) := by decide +kernel
theorem dM_above_43 : decode cM_above 43 = .ok (.aload_n 0, 1) := by decide +kernel
theorem dM_above_44 : decode cM_above 44 = .ok (.iload_n 2, 1) := by decide +kernel
theorem dM_above_45 : decode cM_above 45 = .ok (.iload_n 1, 1) := by decide +kernel
theorem dM_above_46 : decode cM_above 46 = .ok (.invokevirtual 47, 3) := by decide +kernel
theorem dM_above_49 : decode cM_above 49 = .ok (.ifCond .eq 6, 3) := by decide +kernel
theorem dM_above_52 : decode cM_above 52 = .ok (.bipush (-3), 2) := by decide +kernel
theorem dM_above_54 : decode cM_above 54 = .ok (.ireturn, 1) := by decide +kernel
theorem dM_above_55 : decode cM_above 55 = .ok (.aload_n 0, 1) := by decide +kernel
theorem dM_above_56 : decode cM_above 56 = .ok (.getfield 13, 3) := by decide +kernel
theorem dM_above_59 : decode cM_above 59 = .ok (.iload_n 1, 1) := by decide +kernel
theorem dM_above_60 : decode cM_above 60 = .ok (.iload_n 2, 1) := by decide +kernel
theorem dM_above_61 : decode cM_above 61 = .ok (.iastore, 1) := by decide +kernel
theorem dM_above_62 : decode cM_above 62 = .ok (.iconst 1, 1) := by decide +kernel
theorem dM_above_63 : decode cM_above 63 = .ok (.ireturn, 1) := by decide +kernel
theorem dM_owns_0 : decode cM_owns 0 = .ok (.iload_n 2, 1) := by decide +kernel
theorem dM_owns_1 : decode cM_owns 1 = .ok (.ifCond .le 15, 3) := by decide +kernel
theorem dM_owns_4 : decode cM_owns 4 = .ok (.aload_n 0, 1) := by decide +kernel
theorem dM_owns_5 : decode cM_owns 5 = .ok (.getfield 7, 3) := by decide +kernel
theorem dM_owns_8 : decode cM_owns 8 = .ok (.iload_n 1, 1) := by decide +kernel
theorem dM_owns_9 : decode cM_owns 9 = .ok (.iload_n 2, 1) := by decide +kernel
theorem dM_owns_10 : decode cM_owns 10 = .ok (.iload_n 3, 1) := by decide +kernel
theorem dM_owns_11 : decode cM_owns 11 = .ok (.invokestatic 40, 3) := by decide +kernel
theorem dM_owns_14 : decode cM_owns 14 = .ok (.baload, 1) := by decide +kernel
theorem dM_owns_15 : decode cM_owns 15 = .ok (.ireturn, 1) := by decide +kernel
theorem dM_owns_16 : decode cM_owns 16 = .ok (.iconst 0, 1) := by decide +kernel
theorem dM_owns_17 : decode cM_owns 17 = .ok (.istore 4, 2) := by decide +kernel
theorem dM_owns_19 : decode cM_owns 19 = .ok (.iconst 0, 1) := by decide +kernel
theorem dM_owns_20 : decode cM_owns 20 = .ok (.istore 5, 2) := by decide +kernel
theorem dM_owns_22 : decode cM_owns 22 = .ok (.iload 5, 2) := by decide +kernel
theorem dM_owns_24 : decode cM_owns 24 = .ok (.bipush 32, 2) := by decide +kernel
theorem dM_owns_26 : decode cM_owns 26 = .ok (.if_icmp .ge 46, 3) := by decide +kernel
theorem dM_owns_29 : decode cM_owns 29 = .ok (.iload 4, 2) := by decide +kernel
theorem dM_owns_31 : decode cM_owns 31 = .ok (.ifCond .ne 28, 3) := by decide +kernel
theorem dM_owns_34 : decode cM_owns 34 = .ok (.aload_n 0, 1) := by decide +kernel
theorem dM_owns_35 : decode cM_owns 35 = .ok (.getfield 7, 3) := by decide +kernel
theorem dM_owns_38 : decode cM_owns 38 = .ok (.iload_n 1, 1) := by decide +kernel
theorem dM_owns_39 : decode cM_owns 39 = .ok (.iconst 0, 1) := by decide +kernel
theorem dM_owns_40 : decode cM_owns 40 = .ok (.iload 5, 2) := by decide +kernel
theorem dM_owns_42 : decode cM_owns 42 = .ok (.invokestatic 40, 3) := by decide +kernel
theorem dM_owns_45 : decode cM_owns 45 = .ok (.baload, 1) := by decide +kernel
theorem dM_owns_46 : decode cM_owns 46 = .ok (.ifCond .eq 17, 3) := by decide +kernel
theorem dM_owns_49 : decode cM_owns 49 = .ok (.aload_n 0, 1) := by decide +kernel
theorem dM_owns_50 : decode cM_owns 50 = .ok (.iload 5, 2) := by decide +kernel
theorem dM_owns_52 : decode cM_owns 52 = .ok (.iload_n 3, 1) := by decide +kernel
theorem dM_owns_53 : decode cM_owns 53 = .ok (.invokevirtual 47, 3) := by decide +kernel
theorem dM_owns_56 : decode cM_owns 56 = .ok (.ifCond .eq 7, 3) := by decide +kernel
theorem dM_owns_59 : decode cM_owns 59 = .ok (.iconst 1, 1) := by decide +kernel
theorem dM_owns_60 : decode cM_owns 60 = .ok (.goto 4, 3) := by decide +kernel
theorem dM_owns_63 : decode cM_owns 63 = .ok (.iconst 0, 1) := by decide +kernel
theorem dM_owns_64 : decode cM_owns 64 = .ok (.istore 4, 2) := by decide +kernel
theorem dM_owns_66 : decode cM_owns 66 = .ok (.iinc 5 1, 3) := by decide +kernel
theorem dM_owns_69 : decode cM_owns 69 = .ok (.goto (-47), 3) := by decide +kernel
theorem dM_owns_72 : decode cM_owns 72 = .ok (.iload 4, 2) := by decide +kernel
theorem dM_owns_74 : decode cM_owns 74 = .ok (.ireturn, 1) := by decide +kernel
theorem dM_isMet_0 : decode cM_isMet 0 = .ok (.iconst 0, 1) := by decide +kernel
theorem dM_isMet_1 : decode cM_isMet 1 = .ok (.istore_n 3, 1) := by decide +kernel
theorem dM_isMet_2 : decode cM_isMet 2 = .ok (.iconst 0, 1) := by decide +kernel
theorem dM_isMet_3 : decode cM_isMet 3 = .ok (.istore 4, 2) := by decide +kernel
theorem dM_isMet_5 : decode cM_isMet 5 = .ok (.iconst 0, 1) := by decide +kernel
theorem dM_isMet_6 : decode cM_isMet 6 = .ok (.istore 5, 2) := by decide +kernel
theorem dM_isMet_8 : decode cM_isMet 8 = .ok (.iload 5, 2) := by decide +kernel
theorem dM_isMet_10 : decode cM_isMet 10 = .ok (.bipush 32, 2) := by decide +kernel
theorem dM_isMet_12 : decode cM_isMet 12 = .ok (.if_icmp .ge 49, 3) := by decide +kernel
theorem dM_isMet_15 : decode cM_isMet 15 = .ok (.aload_n 0, 1) := by decide +kernel
theorem dM_isMet_16 : decode cM_isMet 16 = .ok (.getfield 17, 3) := by decide +kernel
theorem dM_isMet_19 : decode cM_isMet 19 = .ok (.bipush 32, 2) := by decide +kernel
theorem dM_isMet_21 : decode cM_isMet 21 = .ok (.iload_n 2, 1) := by decide +kernel
theorem dM_isMet_22 : decode cM_isMet 22 = .ok (.imul, 1) := by decide +kernel
theorem dM_isMet_23 : decode cM_isMet 23 = .ok (.iload 5, 2) := by decide +kernel
theorem dM_isMet_25 : decode cM_isMet 25 = .ok (.iadd, 1) := by decide +kernel
theorem dM_isMet_26 : decode cM_isMet 26 = .ok (.baload, 1) := by decide +kernel
theorem dM_isMet_27 : decode cM_isMet 27 = .ok (.ifCond .eq 28, 3) := by decide +kernel
theorem dM_isMet_30 : decode cM_isMet 30 = .ok (.iconst 1, 1) := by decide +kernel
theorem dM_isMet_31 : decode cM_isMet 31 = .ok (.istore_n 3, 1) := by decide +kernel
theorem dM_isMet_32 : decode cM_isMet 32 = .ok (.iload 4, 2) := by decide +kernel
theorem dM_isMet_34 : decode cM_isMet 34 = .ok (.ifCond .ne 14, 3) := by decide +kernel
theorem dM_isMet_37 : decode cM_isMet 37 = .ok (.aload_n 0, 1) := by decide +kernel
theorem dM_isMet_38 : decode cM_isMet 38 = .ok (.iload_n 1, 1) := by decide +kernel
theorem dM_isMet_39 : decode cM_isMet 39 = .ok (.iload_n 2, 1) := by decide +kernel
theorem dM_isMet_40 : decode cM_isMet 40 = .ok (.iload 5, 2) := by decide +kernel
theorem dM_isMet_42 : decode cM_isMet 42 = .ok (.invokevirtual 51, 3) := by decide +kernel
theorem dM_isMet_45 : decode cM_isMet 45 = .ok (.ifCond .eq 7, 3) := by decide +kernel
theorem dM_isMet_48 : decode cM_isMet 48 = .ok (.iconst 1, 1) := by decide +kernel
theorem dM_isMet_49 : decode cM_isMet 49 = .ok (.goto 4, 3) := by decide +kernel
theorem dM_isMet_52 : decode cM_isMet 52 = .ok (.iconst 0, 1) := by decide +kernel
theorem dM_isMet_53 : decode cM_isMet 53 = .ok (.istore 4, 2) := by decide +kernel
theorem dM_isMet_55 : decode cM_isMet 55 = .ok (.iinc 5 1, 3) := by decide +kernel
theorem dM_isMet_58 : decode cM_isMet 58 = .ok (.goto (-50), 3) := by decide +kernel
theorem dM_isMet_61 : decode cM_isMet 61 = .ok (.iload 4, 2) := by decide +kernel
theorem dM_isMet_63 : decode cM_isMet 63 = .ok (.ifCond .ne 7, 3) := by decide +kernel
theorem dM_isMet_66 : decode cM_isMet 66 = .ok (.iload_n 3, 1) := by decide +kernel
theorem dM_isMet_67 : decode cM_isMet 67 = .ok (.ifCond .ne 7, 3) := by decide +kernel
theorem dM_isMet_70 : decode cM_isMet 70 = .ok (.iconst 1, 1) := by decide +kernel
theorem dM_isMet_71 : decode cM_isMet 71 = .ok (.goto 4, 3) := by decide +kernel
theorem dM_isMet_74 : decode cM_isMet 74 = .ok (.iconst 0, 1) := by decide +kernel
theorem dM_isMet_75 : decode cM_isMet 75 = .ok (.ireturn, 1) := by decide +kernel
theorem dM_isKeptBut_0 : decode cM_isKeptBut 0 = .ok (.iconst 1, 1) := by decide +kernel
theorem dM_isKeptBut_1 : decode cM_isKeptBut 1 = .ok (.istore_n 3, 1) := by decide +kernel
theorem dM_isKeptBut_2 : decode cM_isKeptBut 2 = .ok (.iconst 0, 1) := by decide +kernel
theorem dM_isKeptBut_3 : decode cM_isKeptBut 3 = .ok (.istore 4, 2) := by decide +kernel
theorem dM_isKeptBut_5 : decode cM_isKeptBut 5 = .ok (.iload 4, 2) := by decide +kernel
theorem dM_isKeptBut_7 : decode cM_isKeptBut 7 = .ok (.bipush 8, 2) := by decide +kernel
theorem dM_isKeptBut_9 : decode cM_isKeptBut 9 = .ok (.if_icmp .ge 35, 3) := by decide +kernel
theorem dM_isKeptBut_12 : decode cM_isKeptBut 12 = .ok (.iload_n 3, 1) := by decide +kernel
theorem dM_isKeptBut_13 : decode cM_isKeptBut 13 = .ok (.ifCond .eq 23, 3) := by decide +kernel
theorem dM_isKeptBut_16 : decode cM_isKeptBut 16 = .ok (.iload 4, 2) := by decide +kernel
theorem dM_isKeptBut_18 : decode cM_isKeptBut 18 = .ok (.iload_n 2, 1) := by decide +kernel
theorem dM_isKeptBut_19 : decode cM_isKeptBut 19 = .ok (.if_icmp .eq 13, 3) := by decide +kernel
theorem dM_isKeptBut_22 : decode cM_isKeptBut 22 = .ok (.aload_n 0, 1) := by decide +kernel
theorem dM_isKeptBut_23 : decode cM_isKeptBut 23 = .ok (.iload_n 1, 1) := by decide +kernel
theorem dM_isKeptBut_24 : decode cM_isKeptBut 24 = .ok (.iload 4, 2) := by decide +kernel
theorem dM_isKeptBut_26 : decode cM_isKeptBut 26 = .ok (.invokevirtual 55, 3) := by decide +kernel
theorem dM_isKeptBut_29 : decode cM_isKeptBut 29 = .ok (.ifCond .eq 7, 3) := by decide +kernel
theorem dM_isKeptBut_32 : decode cM_isKeptBut 32 = .ok (.iconst 1, 1) := by decide +kernel
theorem dM_isKeptBut_33 : decode cM_isKeptBut 33 = .ok (.goto 4, 3) := by decide +kernel
theorem dM_isKeptBut_36 : decode cM_isKeptBut 36 = .ok (.iconst 0, 1) := by decide +kernel
theorem dM_isKeptBut_37 : decode cM_isKeptBut 37 = .ok (.istore_n 3, 1) := by decide +kernel
theorem dM_isKeptBut_38 : decode cM_isKeptBut 38 = .ok (.iinc 4 1, 3) := by decide +kernel
theorem dM_isKeptBut_41 : decode cM_isKeptBut 41 = .ok (.goto (-36), 3) := by decide +kernel
theorem dM_isKeptBut_44 : decode cM_isKeptBut 44 = .ok (.iload_n 3, 1) := by decide +kernel
theorem dM_isKeptBut_45 : decode cM_isKeptBut 45 = .ok (.ireturn, 1) := by decide +kernel
theorem dM_count_0 : decode cM_count 0 = .ok (.iconst 0, 1) := by decide +kernel
theorem dM_count_1 : decode cM_count 1 = .ok (.istore_n 3, 1) := by decide +kernel
theorem dM_count_2 : decode cM_count 2 = .ok (.iconst 0, 1) := by decide +kernel
theorem dM_count_3 : decode cM_count 3 = .ok (.istore 4, 2) := by decide +kernel
theorem dM_count_5 : decode cM_count 5 = .ok (.iload 4, 2) := by decide +kernel
theorem dM_count_7 : decode cM_count 7 = .ok (.bipush 40, 2) := by decide +kernel
theorem dM_count_9 : decode cM_count 9 = .ok (.if_icmp .ge 38, 3) := by decide +kernel
theorem dM_count_12 : decode cM_count 12 = .ok (.iload_n 3, 1) := by decide +kernel
theorem dM_count_13 : decode cM_count 13 = .ok (.aload_n 0, 1) := by decide +kernel
theorem dM_count_14 : decode cM_count 14 = .ok (.iload 4, 2) := by decide +kernel
theorem dM_count_16 : decode cM_count 16 = .ok (.iload_n 1, 1) := by decide +kernel
theorem dM_count_17 : decode cM_count 17 = .ok (.iload_n 2, 1) := by decide +kernel
theorem dM_count_18 : decode cM_count 18 = .ok (.invokevirtual 51, 3) := by decide +kernel
theorem dM_count_21 : decode cM_count 21 = .ok (.ifCond .eq 17, 3) := by decide +kernel
theorem dM_count_24 : decode cM_count 24 = .ok (.aload_n 0, 1) := by decide +kernel
theorem dM_count_25 : decode cM_count 25 = .ok (.iload 4, 2) := by decide +kernel
theorem dM_count_27 : decode cM_count 27 = .ok (.iload_n 1, 1) := by decide +kernel
theorem dM_count_28 : decode cM_count 28 = .ok (.invokevirtual 58, 3) := by decide +kernel
theorem dM_count_31 : decode cM_count 31 = .ok (.ifCond .eq 7, 3) := by decide +kernel
theorem dM_count_34 : decode cM_count 34 = .ok (.iconst 1, 1) := by decide +kernel
theorem dM_count_35 : decode cM_count 35 = .ok (.goto 4, 3) := by decide +kernel
theorem dM_count_38 : decode cM_count 38 = .ok (.iconst 0, 1) := by decide +kernel
theorem dM_count_39 : decode cM_count 39 = .ok (.iadd, 1) := by decide +kernel
theorem dM_count_40 : decode cM_count 40 = .ok (.istore_n 3, 1) := by decide +kernel
theorem dM_count_41 : decode cM_count 41 = .ok (.iinc 4 1, 3) := by decide +kernel
theorem dM_count_44 : decode cM_count 44 = .ok (.goto (-39), 3) := by decide +kernel
theorem dM_count_47 : decode cM_count 47 = .ok (.iload_n 3, 1) := by decide +kernel
theorem dM_count_48 : decode cM_count 48 = .ok (.ireturn, 1) := by decide +kernel
theorem dM_all_0 : decode cM_all 0 = .ok (.iconst 0, 1) := by decide +kernel
theorem dM_all_1 : decode cM_all 1 = .ok (.istore_n 2, 1) := by decide +kernel
theorem dM_all_2 : decode cM_all 2 = .ok (.iconst 0, 1) := by decide +kernel
theorem dM_all_3 : decode cM_all 3 = .ok (.istore_n 3, 1) := by decide +kernel
theorem dM_all_4 : decode cM_all 4 = .ok (.iload_n 3, 1) := by decide +kernel
theorem dM_all_5 : decode cM_all 5 = .ok (.bipush 40, 2) := by decide +kernel
theorem dM_all_7 : decode cM_all 7 = .ok (.if_icmp .ge 26, 3) := by decide +kernel
theorem dM_all_10 : decode cM_all 10 = .ok (.iload_n 2, 1) := by decide +kernel
theorem dM_all_11 : decode cM_all 11 = .ok (.aload_n 0, 1) := by decide +kernel
theorem dM_all_12 : decode cM_all 12 = .ok (.iload_n 3, 1) := by decide +kernel
theorem dM_all_13 : decode cM_all 13 = .ok (.iload_n 1, 1) := by decide +kernel
theorem dM_all_14 : decode cM_all 14 = .ok (.invokevirtual 58, 3) := by decide +kernel
theorem dM_all_17 : decode cM_all 17 = .ok (.ifCond .eq 7, 3) := by decide +kernel
theorem dM_all_20 : decode cM_all 20 = .ok (.iconst 1, 1) := by decide +kernel
theorem dM_all_21 : decode cM_all 21 = .ok (.goto 4, 3) := by decide +kernel
theorem dM_all_24 : decode cM_all 24 = .ok (.iconst 0, 1) := by decide +kernel
theorem dM_all_25 : decode cM_all 25 = .ok (.iadd, 1) := by decide +kernel
theorem dM_all_26 : decode cM_all 26 = .ok (.istore_n 2, 1) := by decide +kernel
theorem dM_all_27 : decode cM_all 27 = .ok (.iinc 3 1, 3) := by decide +kernel
theorem dM_all_30 : decode cM_all 30 = .ok (.goto (-26), 3) := by decide +kernel
theorem dM_all_33 : decode cM_all 33 = .ok (.iload_n 2, 1) := by decide +kernel
theorem dM_all_34 : decode cM_all 34 = .ok (.ireturn, 1) := by decide +kernel
theorem dM_choose_0 : decode cM_choose 0 = .ok (.aload_n 0, 1) := by decide +kernel
theorem dM_choose_1 : decode cM_choose 1 = .ok (.iconst 0, 1) := by decide +kernel
theorem dM_choose_2 : decode cM_choose 2 = .ok (.putfield 26, 3) := by decide +kernel
theorem dM_choose_5 : decode cM_choose 5 = .ok (.iload_n 1, 1) := by decide +kernel
theorem dM_choose_6 : decode cM_choose 6 = .ok (.invokestatic 34, 3) := by decide +kernel
theorem dM_choose_9 : decode cM_choose 9 = .ok (.ifCond .eq 10, 3) := by decide +kernel
theorem dM_choose_12 : decode cM_choose 12 = .ok (.iload_n 2, 1) := by decide +kernel
theorem dM_choose_13 : decode cM_choose 13 = .ok (.invokestatic 37, 3) := by decide +kernel
theorem dM_choose_16 : decode cM_choose 16 = .ok (.ifCond .ne 5, 3) := by decide +kernel
theorem dM_choose_19 : decode cM_choose 19 = .ok (.iconst (-1), 1) := by decide +kernel
theorem dM_choose_20 : decode cM_choose 20 = .ok (.ireturn, 1) := by decide +kernel
theorem dM_choose_21 : decode cM_choose 21 = .ok (.aload_n 0, 1) := by decide +kernel
theorem dM_choose_22 : decode cM_choose 22 = .ok (.getfield 17, 3) := by decide +kernel
theorem dM_choose_25 : decode cM_choose 25 = .ok (.bipush 32, 2) := by decide +kernel
theorem dM_choose_27 : decode cM_choose 27 = .ok (.iload_n 1, 1) := by decide +kernel
theorem dM_choose_28 : decode cM_choose 28 = .ok (.imul, 1) := by decide +kernel
theorem dM_choose_29 : decode cM_choose 29 = .ok (.iload_n 2, 1) := by decide +kernel
theorem dM_choose_30 : decode cM_choose 30 = .ok (.iadd, 1) := by decide +kernel
theorem dM_choose_31 : decode cM_choose 31 = .ok (.iload_n 3, 1) := by decide +kernel
theorem dM_choose_32 : decode cM_choose 32 = .ok (.bastore, 1) := by decide +kernel
theorem dM_choose_33 : decode cM_choose 33 = .ok (.aload_n 0, 1) := by decide +kernel
theorem dM_choose_34 : decode cM_choose 34 = .ok (.iconst (-1), 1) := by decide +kernel
theorem dM_choose_35 : decode cM_choose 35 = .ok (.invokevirtual 61, 3) := by decide +kernel
theorem dM_choose_38 : decode cM_choose 38 = .ok (.ireturn, 1) := by decide +kernel
theorem dM_kept_0 : decode cM_kept 0 = .ok (.aload_n 0, 1) := by decide +kernel
theorem dM_kept_1 : decode cM_kept 1 = .ok (.iconst 0, 1) := by decide +kernel
theorem dM_kept_2 : decode cM_kept 2 = .ok (.putfield 26, 3) := by decide +kernel
theorem dM_kept_5 : decode cM_kept 5 = .ok (.aload_n 0, 1) := by decide +kernel
theorem dM_kept_6 : decode cM_kept 6 = .ok (.iconst (-1), 1) := by decide +kernel
theorem dM_kept_7 : decode cM_kept 7 = .ok (.invokevirtual 61, 3) := by decide +kernel
theorem dM_kept_10 : decode cM_kept 10 = .ok (.ireturn, 1) := by decide +kernel
theorem dM_isKept_0 : decode cM_isKept 0 = .ok (.aload_n 0, 1) := by decide +kernel
theorem dM_isKept_1 : decode cM_isKept 1 = .ok (.iconst 0, 1) := by decide +kernel
theorem dM_isKept_2 : decode cM_isKept 2 = .ok (.putfield 26, 3) := by decide +kernel
theorem dM_isKept_5 : decode cM_isKept 5 = .ok (.iload_n 1, 1) := by decide +kernel
theorem dM_isKept_6 : decode cM_isKept 6 = .ok (.invokestatic 30, 3) := by decide +kernel
theorem dM_isKept_9 : decode cM_isKept 9 = .ok (.ifCond .ne 7, 3) := by decide +kernel
theorem dM_isKept_12 : decode cM_isKept 12 = .ok (.iconst (-1), 1) := by decide +kernel
theorem dM_isKept_13 : decode cM_isKept 13 = .ok (.goto 17, 3) := by decide +kernel
theorem dM_isKept_16 : decode cM_isKept 16 = .ok (.aload_n 0, 1) := by decide +kernel
theorem dM_isKept_17 : decode cM_isKept 17 = .ok (.iload_n 1, 1) := by decide +kernel
theorem dM_isKept_18 : decode cM_isKept 18 = .ok (.iconst (-1), 1) := by decide +kernel
theorem dM_isKept_19 : decode cM_isKept 19 = .ok (.invokevirtual 58, 3) := by decide +kernel
theorem dM_isKept_22 : decode cM_isKept 22 = .ok (.ifCond .eq 7, 3) := by decide +kernel
theorem dM_isKept_25 : decode cM_isKept 25 = .ok (.iconst 1, 1) := by decide +kernel
theorem dM_isKept_26 : decode cM_isKept 26 = .ok (.goto 4, 3) := by decide +kernel
theorem dM_isKept_29 : decode cM_isKept 29 = .ok (.iconst 0, 1) := by decide +kernel
theorem dM_isKept_30 : decode cM_isKept 30 = .ok (.ireturn, 1) := by decide +kernel
theorem dM_facet_0 : decode cM_facet 0 = .ok (.aload_n 0, 1) := by decide +kernel
theorem dM_facet_1 : decode cM_facet 1 = .ok (.iconst 0, 1) := by decide +kernel
theorem dM_facet_2 : decode cM_facet 2 = .ok (.putfield 26, 3) := by decide +kernel
theorem dM_facet_5 : decode cM_facet 5 = .ok (.iload_n 1, 1) := by decide +kernel
theorem dM_facet_6 : decode cM_facet 6 = .ok (.invokestatic 34, 3) := by decide +kernel
theorem dM_facet_9 : decode cM_facet 9 = .ok (.ifCond .eq 19, 3) := by decide +kernel
theorem dM_facet_12 : decode cM_facet 12 = .ok (.iload_n 2, 1) := by decide +kernel
theorem dM_facet_13 : decode cM_facet 13 = .ok (.invokestatic 37, 3) := by decide +kernel
theorem dM_facet_16 : decode cM_facet 16 = .ok (.ifCond .eq 12, 3) := by decide +kernel
theorem dM_facet_19 : decode cM_facet 19 = .ok (.aload_n 0, 1) := by decide +kernel
theorem dM_facet_20 : decode cM_facet 20 = .ok (.iload_n 1, 1) := by decide +kernel
theorem dM_facet_21 : decode cM_facet 21 = .ok (.iload_n 2, 1) := by decide +kernel
theorem dM_facet_22 : decode cM_facet 22 = .ok (.invokevirtual 65, 3) := by decide +kernel
theorem dM_facet_25 : decode cM_facet 25 = .ok (.goto 4, 3) := by decide +kernel
theorem dM_facet_28 : decode cM_facet 28 = .ok (.iconst (-1), 1) := by decide +kernel
theorem dM_facet_29 : decode cM_facet 29 = .ok (.ireturn, 1) := by decide +kernel
theorem dM_top_0 : decode cM_top 0 = .ok (.aload_n 0, 1) := by decide +kernel
theorem dM_top_1 : decode cM_top 1 = .ok (.iconst 0, 1) := by decide +kernel
theorem dM_top_2 : decode cM_top 2 = .ok (.putfield 26, 3) := by decide +kernel
theorem dM_top_5 : decode cM_top 5 = .ok (.iload_n 1, 1) := by decide +kernel
theorem dM_top_6 : decode cM_top 6 = .ok (.invokestatic 34, 3) := by decide +kernel
theorem dM_top_9 : decode cM_top 9 = .ok (.ifCond .ne 5, 3) := by decide +kernel
theorem dM_top_12 : decode cM_top 12 = .ok (.iconst (-1), 1) := by decide +kernel
theorem dM_top_13 : decode cM_top 13 = .ok (.ireturn, 1) := by decide +kernel
theorem dM_top_14 : decode cM_top 14 = .ok (.iconst 0, 1) := by decide +kernel
theorem dM_top_15 : decode cM_top 15 = .ok (.istore_n 3, 1) := by decide +kernel
theorem dM_top_16 : decode cM_top 16 = .ok (.iload_n 3, 1) := by decide +kernel
theorem dM_top_17 : decode cM_top 17 = .ok (.bipush 32, 2) := by decide +kernel
theorem dM_top_19 : decode cM_top 19 = .ok (.if_icmp .ge 21, 3) := by decide +kernel
theorem dM_top_22 : decode cM_top 22 = .ok (.aload_n 0, 1) := by decide +kernel
theorem dM_top_23 : decode cM_top 23 = .ok (.getfield 23, 3) := by decide +kernel
theorem dM_top_26 : decode cM_top 26 = .ok (.iload_n 3, 1) := by decide +kernel
theorem dM_top_27 : decode cM_top 27 = .ok (.aload_n 0, 1) := by decide +kernel
theorem dM_top_28 : decode cM_top 28 = .ok (.iload_n 1, 1) := by decide +kernel
theorem dM_top_29 : decode cM_top 29 = .ok (.iload_n 3, 1) := by decide +kernel
theorem dM_top_30 : decode cM_top 30 = .ok (.invokevirtual 65, 3) := by decide +kernel
theorem dM_top_33 : decode cM_top 33 = .ok (.iastore, 1) := by decide +kernel
theorem dM_top_34 : decode cM_top 34 = .ok (.iinc 3 1, 3) := by decide +kernel
theorem dM_top_37 : decode cM_top 37 = .ok (.goto (-21), 3) := by decide +kernel
theorem dM_top_40 : decode cM_top 40 = .ok (.iconst 0, 1) := by decide +kernel
theorem dM_top_41 : decode cM_top 41 = .ok (.istore_n 3, 1) := by decide +kernel
theorem dM_top_42 : decode cM_top 42 = .ok (.iload_n 3, 1) := by decide +kernel
theorem dM_top_43 : decode cM_top 43 = .ok (.bipush 32, 2) := by decide +kernel
theorem dM_top_45 : decode cM_top 45 = .ok (.if_icmp .ge 89, 3) := by decide +kernel
theorem dM_top_48 : decode cM_top 48 = .ok (.aload_n 0, 1) := by decide +kernel
theorem dM_top_49 : decode cM_top 49 = .ok (.getfield 23, 3) := by decide +kernel
theorem dM_top_52 : decode cM_top 52 = .ok (.iload_n 3, 1) := by decide +kernel
theorem dM_top_53 : decode cM_top 53 = .ok (.iaload, 1) := by decide +kernel
theorem dM_top_54 : decode cM_top 54 = .ok (.istore 4, 2) := by decide +kernel
theorem dM_top_56 : decode cM_top 56 = .ok (.iconst 0, 1) := by decide +kernel
theorem dM_top_57 : decode cM_top 57 = .ok (.istore 5, 2) := by decide +kernel
theorem dM_top_59 : decode cM_top 59 = .ok (.iconst 0, 1) := by decide +kernel
theorem dM_top_60 : decode cM_top 60 = .ok (.istore 6, 2) := by decide +kernel
theorem dM_top_62 : decode cM_top 62 = .ok (.iload 6, 2) := by decide +kernel
theorem dM_top_64 : decode cM_top 64 = .ok (.bipush 32, 2) := by decide +kernel
theorem dM_top_66 : decode cM_top 66 = .ok (.if_icmp .ge 49, 3) := by decide +kernel
theorem dM_top_69 : decode cM_top 69 = .ok (.iload 5, 2) := by decide +kernel
theorem dM_top_71 : decode cM_top 71 = .ok (.aload_n 0, 1) := by decide +kernel
theorem dM_top_72 : decode cM_top 72 = .ok (.getfield 23, 3) := by decide +kernel
theorem dM_top_75 : decode cM_top 75 = .ok (.iload 6, 2) := by decide +kernel
theorem dM_top_77 : decode cM_top 77 = .ok (.iaload, 1) := by decide +kernel
theorem dM_top_78 : decode cM_top 78 = .ok (.iload 4, 2) := by decide +kernel
theorem dM_top_80 : decode cM_top 80 = .ok (.if_icmp .gt 21, 3) := by decide +kernel
theorem dM_top_83 : decode cM_top 83 = .ok (.aload_n 0, 1) := by decide +kernel
theorem dM_top_84 : decode cM_top 84 = .ok (.getfield 23, 3) := by decide +kernel
theorem dM_top_87 : decode cM_top 87 = .ok (.iload 6, 2) := by decide +kernel
theorem dM_top_89 : decode cM_top 89 = .ok (.iaload, 1) := by decide +kernel
theorem dM_top_90 : decode cM_top 90 = .ok (.iload 4, 2) := by decide +kernel
theorem dM_top_92 : decode cM_top 92 = .ok (.if_icmp .ne 13, 3) := by decide +kernel
theorem dM_top_95 : decode cM_top 95 = .ok (.iload 6, 2) := by decide +kernel
theorem dM_top_97 : decode cM_top 97 = .ok (.iload_n 3, 1) := by decide +kernel
theorem dM_top_98 : decode cM_top 98 = .ok (.if_icmp .ge 7, 3) := by decide +kernel
theorem dM_top_101 : decode cM_top 101 = .ok (.iconst 1, 1) := by decide +kernel
theorem dM_top_102 : decode cM_top 102 = .ok (.goto 4, 3) := by decide +kernel
theorem dM_top_105 : decode cM_top 105 = .ok (.iconst 0, 1) := by decide +kernel
theorem dM_top_106 : decode cM_top 106 = .ok (.iadd, 1) := by decide +kernel
theorem dM_top_107 : decode cM_top 107 = .ok (.istore 5, 2) := by decide +kernel
theorem dM_top_109 : decode cM_top 109 = .ok (.iinc 6 1, 3) := by decide +kernel
theorem dM_top_112 : decode cM_top 112 = .ok (.goto (-50), 3) := by decide +kernel
theorem dM_top_115 : decode cM_top 115 = .ok (.iload 4, 2) := by decide +kernel
theorem dM_top_117 : decode cM_top 117 = .ok (.ifCond .le 11, 3) := by decide +kernel
theorem dM_top_120 : decode cM_top 120 = .ok (.iload 5, 2) := by decide +kernel
theorem dM_top_122 : decode cM_top 122 = .ok (.iload_n 2, 1) := by decide +kernel
theorem dM_top_123 : decode cM_top 123 = .ok (.if_icmp .ne 5, 3) := by decide +kernel
theorem dM_top_126 : decode cM_top 126 = .ok (.iload_n 3, 1) := by decide +kernel
theorem dM_top_127 : decode cM_top 127 = .ok (.ireturn, 1) := by decide +kernel
theorem dM_top_128 : decode cM_top 128 = .ok (.iinc 3 1, 3) := by decide +kernel
theorem dM_top_131 : decode cM_top 131 = .ok (.goto (-89), 3) := by decide +kernel
theorem dM_top_134 : decode cM_top 134 = .ok (.iconst (-1), 1) := by decide +kernel
theorem dM_top_135 : decode cM_top 135 = .ok (.ireturn, 1) := by decide +kernel
theorem dM_range_0 : decode cM_range 0 = .ok (.aload_n 0, 1) := by decide +kernel
theorem dM_range_1 : decode cM_range 1 = .ok (.iconst 0, 1) := by decide +kernel
theorem dM_range_2 : decode cM_range 2 = .ok (.putfield 26, 3) := by decide +kernel
theorem dM_range_5 : decode cM_range 5 = .ok (.iload_n 1, 1) := by decide +kernel
theorem dM_range_6 : decode cM_range 6 = .ok (.invokestatic 34, 3) := by decide +kernel
theorem dM_range_9 : decode cM_range 9 = .ok (.ifCond .ne 5, 3) := by decide +kernel
theorem dM_range_12 : decode cM_range 12 = .ok (.iconst (-1), 1) := by decide +kernel
theorem dM_range_13 : decode cM_range 13 = .ok (.ireturn, 1) := by decide +kernel
theorem dM_range_14 : decode cM_range 14 = .ok (.iconst 0, 1) := by decide +kernel
theorem dM_range_15 : decode cM_range 15 = .ok (.istore 4, 2) := by decide +kernel
theorem dM_range_17 : decode cM_range 17 = .ok (.iconst 0, 1) := by decide +kernel
theorem dM_range_18 : decode cM_range 18 = .ok (.istore 5, 2) := by decide +kernel
theorem dM_range_20 : decode cM_range 20 = .ok (.iload 5, 2) := by decide +kernel
theorem dM_range_22 : decode cM_range 22 = .ok (.bipush 40, 2) := by decide +kernel
theorem dM_range_24 : decode cM_range 24 = .ok (.if_icmp .ge 89, 3) := by decide +kernel
theorem dM_range_27 : decode cM_range 27 = .ok (.iconst 0, 1) := by decide +kernel
theorem dM_range_28 : decode cM_range 28 = .ok (.istore 6, 2) := by decide +kernel
theorem dM_range_30 : decode cM_range 30 = .ok (.iconst 0, 1) := by decide +kernel
theorem dM_range_31 : decode cM_range 31 = .ok (.istore 7, 2) := by decide +kernel
theorem dM_range_33 : decode cM_range 33 = .ok (.iload 7, 2) := by decide +kernel
theorem dM_range_35 : decode cM_range 35 = .ok (.bipush 32, 2) := by decide +kernel
theorem dM_range_37 : decode cM_range 37 = .ok (.if_icmp .ge 45, 3) := by decide +kernel
theorem dM_range_40 : decode cM_range 40 = .ok (.iload 6, 2) := by decide +kernel
theorem dM_range_42 : decode cM_range 42 = .ok (.ifCond .ne 27, 3) := by decide +kernel
theorem dM_range_45 : decode cM_range 45 = .ok (.iload 7, 2) := by decide +kernel
theorem dM_range_47 : decode cM_range 47 = .ok (.iload_n 2, 1) := by decide +kernel
theorem dM_range_48 : decode cM_range 48 = .ok (.if_icmp .lt 25, 3) := by decide +kernel
theorem dM_range_51 : decode cM_range 51 = .ok (.iload 7, 2) := by decide +kernel
theorem dM_range_53 : decode cM_range 53 = .ok (.iload_n 3, 1) := by decide +kernel
theorem dM_range_54 : decode cM_range 54 = .ok (.if_icmp .gt 19, 3) := by decide +kernel
theorem dM_range_57 : decode cM_range 57 = .ok (.aload_n 0, 1) := by decide +kernel
theorem dM_range_58 : decode cM_range 58 = .ok (.iload 5, 2) := by decide +kernel
theorem dM_range_60 : decode cM_range 60 = .ok (.iload_n 1, 1) := by decide +kernel
theorem dM_range_61 : decode cM_range 61 = .ok (.iload 7, 2) := by decide +kernel
theorem dM_range_63 : decode cM_range 63 = .ok (.invokevirtual 51, 3) := by decide +kernel
theorem dM_range_66 : decode cM_range 66 = .ok (.ifCond .eq 7, 3) := by decide +kernel
theorem dM_range_69 : decode cM_range 69 = .ok (.iconst 1, 1) := by decide +kernel
theorem dM_range_70 : decode cM_range 70 = .ok (.goto 4, 3) := by decide +kernel
theorem dM_range_73 : decode cM_range 73 = .ok (.iconst 0, 1) := by decide +kernel
theorem dM_range_74 : decode cM_range 74 = .ok (.istore 6, 2) := by decide +kernel
theorem dM_range_76 : decode cM_range 76 = .ok (.iinc 7 1, 3) := by decide +kernel
theorem dM_range_79 : decode cM_range 79 = .ok (.goto (-46), 3) := by decide +kernel
theorem dM_range_82 : decode cM_range 82 = .ok (.iload 4, 2) := by decide +kernel
theorem dM_range_84 : decode cM_range 84 = .ok (.iload 6, 2) := by decide +kernel
theorem dM_range_86 : decode cM_range 86 = .ok (.ifCond .eq 17, 3) := by decide +kernel
theorem dM_range_89 : decode cM_range 89 = .ok (.aload_n 0, 1) := by decide +kernel
theorem dM_range_90 : decode cM_range 90 = .ok (.iload 5, 2) := by decide +kernel
theorem dM_range_92 : decode cM_range 92 = .ok (.iload_n 1, 1) := by decide +kernel
theorem dM_range_93 : decode cM_range 93 = .ok (.invokevirtual 58, 3) := by decide +kernel
theorem dM_range_96 : decode cM_range 96 = .ok (.ifCond .eq 7, 3) := by decide +kernel
theorem dM_range_99 : decode cM_range 99 = .ok (.iconst 1, 1) := by decide +kernel
theorem dM_range_100 : decode cM_range 100 = .ok (.goto 4, 3) := by decide +kernel
theorem dM_range_103 : decode cM_range 103 = .ok (.iconst 0, 1) := by decide +kernel
theorem dM_range_104 : decode cM_range 104 = .ok (.iadd, 1) := by decide +kernel
theorem dM_range_105 : decode cM_range 105 = .ok (.istore 4, 2) := by decide +kernel
theorem dM_range_107 : decode cM_range 107 = .ok (.iinc 5 1, 3) := by decide +kernel
theorem dM_range_110 : decode cM_range 110 = .ok (.goto (-90), 3) := by decide +kernel
theorem dM_range_113 : decode cM_range 113 = .ok (.iload 4, 2) := by decide +kernel
theorem dM_range_115 : decode cM_range 115 = .ok (.ireturn, 1) := by decide +kernel
theorem dM_sum_0 : decode cM_sum 0 = .ok (.aload_n 0, 1) := by decide +kernel
theorem dM_sum_1 : decode cM_sum 1 = .ok (.iconst 0, 1) := by decide +kernel
theorem dM_sum_2 : decode cM_sum 2 = .ok (.putfield 26, 3) := by decide +kernel
theorem dM_sum_5 : decode cM_sum 5 = .ok (.iload_n 1, 1) := by decide +kernel
theorem dM_sum_6 : decode cM_sum 6 = .ok (.invokestatic 34, 3) := by decide +kernel
theorem dM_sum_9 : decode cM_sum 9 = .ok (.ifCond .eq 17, 3) := by decide +kernel
theorem dM_sum_12 : decode cM_sum 12 = .ok (.iload_n 2, 1) := by decide +kernel
theorem dM_sum_13 : decode cM_sum 13 = .ok (.invokestatic 37, 3) := by decide +kernel
theorem dM_sum_16 : decode cM_sum 16 = .ok (.ifCond .eq 10, 3) := by decide +kernel
theorem dM_sum_19 : decode cM_sum 19 = .ok (.iload_n 3, 1) := by decide +kernel
theorem dM_sum_20 : decode cM_sum 20 = .ok (.invokestatic 34, 3) := by decide +kernel
theorem dM_sum_23 : decode cM_sum 23 = .ok (.ifCond .ne 5, 3) := by decide +kernel
theorem dM_sum_26 : decode cM_sum 26 = .ok (.iconst (-1), 1) := by decide +kernel
theorem dM_sum_27 : decode cM_sum 27 = .ok (.ireturn, 1) := by decide +kernel
theorem dM_sum_28 : decode cM_sum 28 = .ok (.iconst 0, 1) := by decide +kernel
theorem dM_sum_29 : decode cM_sum 29 = .ok (.istore 4, 2) := by decide +kernel
theorem dM_sum_31 : decode cM_sum 31 = .ok (.iconst 0, 1) := by decide +kernel
theorem dM_sum_32 : decode cM_sum 32 = .ok (.istore 5, 2) := by decide +kernel
theorem dM_sum_34 : decode cM_sum 34 = .ok (.iload 5, 2) := by decide +kernel
theorem dM_sum_36 : decode cM_sum 36 = .ok (.bipush 40, 2) := by decide +kernel
theorem dM_sum_38 : decode cM_sum 38 = .ok (.if_icmp .ge 81, 3) := by decide +kernel
theorem dM_sum_41 : decode cM_sum 41 = .ok (.aload_n 0, 1) := by decide +kernel
theorem dM_sum_42 : decode cM_sum 42 = .ok (.iload 5, 2) := by decide +kernel
theorem dM_sum_44 : decode cM_sum 44 = .ok (.iload_n 1, 1) := by decide +kernel
theorem dM_sum_45 : decode cM_sum 45 = .ok (.iload_n 2, 1) := by decide +kernel
theorem dM_sum_46 : decode cM_sum 46 = .ok (.invokevirtual 51, 3) := by decide +kernel
theorem dM_sum_49 : decode cM_sum 49 = .ok (.ifCond .eq 17, 3) := by decide +kernel
theorem dM_sum_52 : decode cM_sum 52 = .ok (.aload_n 0, 1) := by decide +kernel
theorem dM_sum_53 : decode cM_sum 53 = .ok (.iload 5, 2) := by decide +kernel
theorem dM_sum_55 : decode cM_sum 55 = .ok (.iconst (-1), 1) := by decide +kernel
theorem dM_sum_56 : decode cM_sum 56 = .ok (.invokevirtual 58, 3) := by decide +kernel
theorem dM_sum_59 : decode cM_sum 59 = .ok (.ifCond .eq 7, 3) := by decide +kernel
theorem dM_sum_62 : decode cM_sum 62 = .ok (.iconst 1, 1) := by decide +kernel
theorem dM_sum_63 : decode cM_sum 63 = .ok (.goto 4, 3) := by decide +kernel
theorem dM_sum_66 : decode cM_sum 66 = .ok (.iconst 0, 1) := by decide +kernel
theorem dM_sum_67 : decode cM_sum 67 = .ok (.istore 6, 2) := by decide +kernel
theorem dM_sum_69 : decode cM_sum 69 = .ok (.iconst 0, 1) := by decide +kernel
theorem dM_sum_70 : decode cM_sum 70 = .ok (.istore 7, 2) := by decide +kernel
theorem dM_sum_72 : decode cM_sum 72 = .ok (.iload 7, 2) := by decide +kernel
theorem dM_sum_74 : decode cM_sum 74 = .ok (.bipush 32, 2) := by decide +kernel
theorem dM_sum_76 : decode cM_sum 76 = .ok (.if_icmp .ge 37, 3) := by decide +kernel
theorem dM_sum_79 : decode cM_sum 79 = .ok (.iload 6, 2) := by decide +kernel
theorem dM_sum_81 : decode cM_sum 81 = .ok (.ifCond .eq 32, 3) := by decide +kernel
theorem dM_sum_84 : decode cM_sum 84 = .ok (.iload 4, 2) := by decide +kernel
theorem dM_sum_86 : decode cM_sum 86 = .ok (.aload_n 0, 1) := by decide +kernel
theorem dM_sum_87 : decode cM_sum 87 = .ok (.iload 5, 2) := by decide +kernel
theorem dM_sum_89 : decode cM_sum 89 = .ok (.iload_n 3, 1) := by decide +kernel
theorem dM_sum_90 : decode cM_sum 90 = .ok (.iload 7, 2) := by decide +kernel
theorem dM_sum_92 : decode cM_sum 92 = .ok (.invokevirtual 51, 3) := by decide +kernel
theorem dM_sum_95 : decode cM_sum 95 = .ok (.ifCond .eq 8, 3) := by decide +kernel
theorem dM_sum_98 : decode cM_sum 98 = .ok (.iload 7, 2) := by decide +kernel
theorem dM_sum_100 : decode cM_sum 100 = .ok (.goto 4, 3) := by decide +kernel
theorem dM_sum_103 : decode cM_sum 103 = .ok (.iconst 0, 1) := by decide +kernel
theorem dM_sum_104 : decode cM_sum 104 = .ok (.iadd, 1) := by decide +kernel
theorem dM_sum_105 : decode cM_sum 105 = .ok (.istore 4, 2) := by decide +kernel
theorem dM_sum_107 : decode cM_sum 107 = .ok (.iinc 7 1, 3) := by decide +kernel
theorem dM_sum_110 : decode cM_sum 110 = .ok (.goto (-38), 3) := by decide +kernel
theorem dM_sum_113 : decode cM_sum 113 = .ok (.iinc 5 1, 3) := by decide +kernel
theorem dM_sum_116 : decode cM_sum 116 = .ok (.goto (-82), 3) := by decide +kernel
theorem dM_sum_119 : decode cM_sum 119 = .ok (.iload 4, 2) := by decide +kernel
theorem dM_sum_121 : decode cM_sum 121 = .ok (.ireturn, 1) := by decide +kernel
theorem dM_share_0 : decode cM_share 0 = .ok (.iload_n 1, 1) := by decide +kernel
theorem dM_share_1 : decode cM_share 1 = .ok (.invokestatic 34, 3) := by decide +kernel
theorem dM_share_4 : decode cM_share 4 = .ok (.ifCond .eq 18, 3) := by decide +kernel
theorem dM_share_7 : decode cM_share 7 = .ok (.iload_n 2, 1) := by decide +kernel
theorem dM_share_8 : decode cM_share 8 = .ok (.invokestatic 37, 3) := by decide +kernel
theorem dM_share_11 : decode cM_share 11 = .ok (.ifCond .eq 11, 3) := by decide +kernel
theorem dM_share_14 : decode cM_share 14 = .ok (.aload_n 0, 1) := by decide +kernel
theorem dM_share_15 : decode cM_share 15 = .ok (.iload_n 1, 1) := by decide +kernel
theorem dM_share_16 : decode cM_share 16 = .ok (.invokevirtual 61, 3) := by decide +kernel
theorem dM_share_19 : decode cM_share 19 = .ok (.goto 4, 3) := by decide +kernel
theorem dM_share_22 : decode cM_share 22 = .ok (.iconst 0, 1) := by decide +kernel
theorem dM_share_23 : decode cM_share 23 = .ok (.istore 4, 2) := by decide +kernel
theorem dM_share_25 : decode cM_share 25 = .ok (.aload_n 0, 1) := by decide +kernel
theorem dM_share_26 : decode cM_share 26 = .ok (.iload 4, 2) := by decide +kernel
theorem dM_share_28 : decode cM_share 28 = .ok (.ifCond .ne 7, 3) := by decide +kernel
theorem dM_share_31 : decode cM_share 31 = .ok (.iconst 1, 1) := by decide +kernel
theorem dM_share_32 : decode cM_share 32 = .ok (.goto 4, 3) := by decide +kernel
theorem dM_share_35 : decode cM_share 35 = .ok (.iconst 0, 1) := by decide +kernel
theorem dM_share_36 : decode cM_share 36 = .ok (.putfield 26, 3) := by decide +kernel
theorem dM_share_39 : decode cM_share 39 = .ok (.aload_n 0, 1) := by decide +kernel
theorem dM_share_40 : decode cM_share 40 = .ok (.getfield 26, 3) := by decide +kernel
theorem dM_share_43 : decode cM_share 43 = .ok (.ifCond .le 5, 3) := by decide +kernel
theorem dM_share_46 : decode cM_share 46 = .ok (.iconst 0, 1) := by decide +kernel
theorem dM_share_47 : decode cM_share 47 = .ok (.ireturn, 1) := by decide +kernel
theorem dM_share_48 : decode cM_share 48 = .ok (.aload_n 0, 1) := by decide +kernel
theorem dM_share_49 : decode cM_share 49 = .ok (.iload_n 1, 1) := by decide +kernel
theorem dM_share_50 : decode cM_share 50 = .ok (.iload_n 2, 1) := by decide +kernel
theorem dM_share_51 : decode cM_share 51 = .ok (.invokevirtual 65, 3) := by decide +kernel
theorem dM_share_54 : decode cM_share 54 = .ok (.istore 5, 2) := by decide +kernel
theorem dM_share_56 : decode cM_share 56 = .ok (.iconst 1, 1) := by decide +kernel
theorem dM_share_57 : decode cM_share 57 = .ok (.istore 6, 2) := by decide +kernel
theorem dM_share_59 : decode cM_share 59 = .ok (.iconst 1, 1) := by decide +kernel
theorem dM_share_60 : decode cM_share 60 = .ok (.istore 7, 2) := by decide +kernel
theorem dM_share_62 : decode cM_share 62 = .ok (.iload 7, 2) := by decide +kernel
theorem dM_share_64 : decode cM_share 64 = .ok (.iload 4, 2) := by decide +kernel
theorem dM_share_66 : decode cM_share 66 = .ok (.if_icmp .gt 34, 3) := by decide +kernel
theorem dM_share_69 : decode cM_share 69 = .ok (.iload 4, 2) := by decide +kernel
theorem dM_share_71 : decode cM_share 71 = .ok (.iload 7, 2) := by decide +kernel
theorem dM_share_73 : decode cM_share 73 = .ok (.irem, 1) := by decide +kernel
theorem dM_share_74 : decode cM_share 74 = .ok (.ifCond .ne 16, 3) := by decide +kernel
theorem dM_share_77 : decode cM_share 77 = .ok (.iload 5, 2) := by decide +kernel
theorem dM_share_79 : decode cM_share 79 = .ok (.iload 7, 2) := by decide +kernel
theorem dM_share_81 : decode cM_share 81 = .ok (.irem, 1) := by decide +kernel
theorem dM_share_82 : decode cM_share 82 = .ok (.ifCond .ne 8, 3) := by decide +kernel
theorem dM_share_85 : decode cM_share 85 = .ok (.iload 7, 2) := by decide +kernel
theorem dM_share_87 : decode cM_share 87 = .ok (.goto 5, 3) := by decide +kernel
theorem dM_share_90 : decode cM_share 90 = .ok (.iload 6, 2) := by decide +kernel
theorem dM_share_92 : decode cM_share 92 = .ok (.istore 6, 2) := by decide +kernel
theorem dM_share_94 : decode cM_share 94 = .ok (.iinc 7 1, 3) := by decide +kernel
theorem dM_share_97 : decode cM_share 97 = .ok (.goto (-35), 3) := by decide +kernel
theorem dM_share_100 : decode cM_share 100 = .ok (.iload_n 3, 1) := by decide +kernel
theorem dM_share_101 : decode cM_share 101 = .ok (.ifCond .eq 11, 3) := by decide +kernel
theorem dM_share_104 : decode cM_share 104 = .ok (.iload 4, 2) := by decide +kernel
theorem dM_share_106 : decode cM_share 106 = .ok (.iload 6, 2) := by decide +kernel
theorem dM_share_108 : decode cM_share 108 = .ok (.idiv, 1) := by decide +kernel
theorem dM_share_109 : decode cM_share 109 = .ok (.goto 8, 3) := by decide +kernel
theorem dM_share_112 : decode cM_share 112 = .ok (.iload 5, 2) := by decide +kernel
theorem dM_share_114 : decode cM_share 114 = .ok (.iload 6, 2) := by decide +kernel
theorem dM_share_116 : decode cM_share 116 = .ok (.idiv, 1) := by decide +kernel
theorem dM_share_117 : decode cM_share 117 = .ok (.ireturn, 1) := by decide +kernel
theorem dM_changed_0 : decode cM_changed 0 = .ok (.aload_n 0, 1) := by decide +kernel
theorem dM_changed_1 : decode cM_changed 1 = .ok (.iconst 0, 1) := by decide +kernel
theorem dM_changed_2 : decode cM_changed 2 = .ok (.putfield 26, 3) := by decide +kernel
theorem dM_changed_5 : decode cM_changed 5 = .ok (.iconst 0, 1) := by decide +kernel
theorem dM_changed_6 : decode cM_changed 6 = .ok (.istore_n 1, 1) := by decide +kernel
theorem dM_changed_7 : decode cM_changed 7 = .ok (.iconst 0, 1) := by decide +kernel
theorem dM_changed_8 : decode cM_changed 8 = .ok (.istore_n 2, 1) := by decide +kernel
theorem dM_changed_9 : decode cM_changed 9 = .ok (.iload_n 2, 1) := by decide +kernel
theorem dM_changed_10 : decode cM_changed 10 = .ok (.bipush 8, 2) := by decide +kernel
theorem dM_changed_12 : decode cM_changed 12 = .ok (.if_icmp .ge 68, 3) := by decide +kernel
theorem dM_changed_15 : decode cM_changed 15 = .ok (.iconst 0, 1) := by decide +kernel
theorem dM_changed_16 : decode cM_changed 16 = .ok (.istore_n 3, 1) := by decide +kernel
theorem dM_changed_17 : decode cM_changed 17 = .ok (.iload_n 3, 1) := by decide +kernel
theorem dM_changed_18 : decode cM_changed 18 = .ok (.bipush 32, 2) := by decide +kernel
theorem dM_changed_20 : decode cM_changed 20 = .ok (.if_icmp .ge 54, 3) := by decide +kernel
theorem dM_changed_23 : decode cM_changed 23 = .ok (.aload_n 0, 1) := by decide +kernel
theorem dM_changed_24 : decode cM_changed 24 = .ok (.iload_n 2, 1) := by decide +kernel
theorem dM_changed_25 : decode cM_changed 25 = .ok (.iload_n 3, 1) := by decide +kernel
theorem dM_changed_26 : decode cM_changed 26 = .ok (.invokevirtual 65, 3) := by decide +kernel
theorem dM_changed_29 : decode cM_changed 29 = .ok (.istore 4, 2) := by decide +kernel
theorem dM_changed_31 : decode cM_changed 31 = .ok (.iload_n 1, 1) := by decide +kernel
theorem dM_changed_32 : decode cM_changed 32 = .ok (.iload 4, 2) := by decide +kernel
theorem dM_changed_34 : decode cM_changed 34 = .ok (.aload_n 0, 1) := by decide +kernel
theorem dM_changed_35 : decode cM_changed 35 = .ok (.getfield 20, 3) := by decide +kernel
theorem dM_changed_38 : decode cM_changed 38 = .ok (.bipush 32, 2) := by decide +kernel
theorem dM_changed_40 : decode cM_changed 40 = .ok (.iload_n 2, 1) := by decide +kernel
theorem dM_changed_41 : decode cM_changed 41 = .ok (.imul, 1) := by decide +kernel
theorem dM_changed_42 : decode cM_changed 42 = .ok (.iload_n 3, 1) := by decide +kernel
theorem dM_changed_43 : decode cM_changed 43 = .ok (.iadd, 1) := by decide +kernel
theorem dM_changed_44 : decode cM_changed 44 = .ok (.iaload, 1) := by decide +kernel
theorem dM_changed_45 : decode cM_changed 45 = .ok (.if_icmp .eq 7, 3) := by decide +kernel
theorem dM_changed_48 : decode cM_changed 48 = .ok (.iconst 1, 1) := by decide +kernel
theorem dM_changed_49 : decode cM_changed 49 = .ok (.goto 4, 3) := by decide +kernel
theorem dM_changed_52 : decode cM_changed 52 = .ok (.iconst 0, 1) := by decide +kernel
theorem dM_changed_53 : decode cM_changed 53 = .ok (.iadd, 1) := by decide +kernel
theorem dM_changed_54 : decode cM_changed 54 = .ok (.istore_n 1, 1) := by decide +kernel
theorem dM_changed_55 : decode cM_changed 55 = .ok (.aload_n 0, 1) := by decide +kernel
theorem dM_changed_56 : decode cM_changed 56 = .ok (.getfield 20, 3) := by decide +kernel
theorem dM_changed_59 : decode cM_changed 59 = .ok (.bipush 32, 2) := by decide +kernel
theorem dM_changed_61 : decode cM_changed 61 = .ok (.iload_n 2, 1) := by decide +kernel
theorem dM_changed_62 : decode cM_changed 62 = .ok (.imul, 1) := by decide +kernel
theorem dM_changed_63 : decode cM_changed 63 = .ok (.iload_n 3, 1) := by decide +kernel
theorem dM_changed_64 : decode cM_changed 64 = .ok (.iadd, 1) := by decide +kernel
theorem dM_changed_65 : decode cM_changed 65 = .ok (.iload 4, 2) := by decide +kernel
theorem dM_changed_67 : decode cM_changed 67 = .ok (.iastore, 1) := by decide +kernel
theorem dM_changed_68 : decode cM_changed 68 = .ok (.iinc 3 1, 3) := by decide +kernel
theorem dM_changed_71 : decode cM_changed 71 = .ok (.goto (-54), 3) := by decide +kernel
theorem dM_changed_74 : decode cM_changed 74 = .ok (.iinc 2 1, 3) := by decide +kernel
theorem dM_changed_77 : decode cM_changed 77 = .ok (.goto (-68), 3) := by decide +kernel
theorem dM_changed_80 : decode cM_changed 80 = .ok (.iload_n 1, 1) := by decide +kernel
theorem dM_changed_81 : decode cM_changed 81 = .ok (.ireturn, 1) := by decide +kernel
theorem dM_rows_0 : decode cM_rows 0 = .ok (.aload_n 0, 1) := by decide +kernel
theorem dM_rows_1 : decode cM_rows 1 = .ok (.iconst 0, 1) := by decide +kernel
theorem dM_rows_2 : decode cM_rows 2 = .ok (.putfield 26, 3) := by decide +kernel
theorem dM_rows_5 : decode cM_rows 5 = .ok (.aload_n 0, 1) := by decide +kernel
theorem dM_rows_6 : decode cM_rows 6 = .ok (.getfield 44, 3) := by decide +kernel
theorem dM_rows_9 : decode cM_rows 9 = .ok (.ireturn, 1) := by decide +kernel
theorem inM : ∀ w ∈ wsM0, w ∈ lw_tbl := fun w h => (fmW_in w (List.mem_append_right _ h)).1
abbrev fmCl : List vw_C := [(RX0, TX0, 7), (RX1, TM, 7)]
