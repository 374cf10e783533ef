def RX0 : String := "HeapPress"
def RX1 : String := "HeapPressModel"
def RL : String := "HeapPressLaw"
def RJ7 : String := "java/util/Arrays"
def TX0 : u_T := fun k => match k with
  | 0 => ("HeapPress", "cells", "[J", true)
  | 1 => ("HeapPress", "registers", "[I", true)
  | 2 => ("HeapPress", "taken", "I", false)
  | 3 => ("HeapPress", "objects", "I", false)
  | 4 => ("HeapPress", "collections", "I", false)
  | 5 => ("HeapPress", "reached", "[I", true)
  | 6 => ("HeapPress", "reachedCount", "I", false)
  | _ => ("HeapPress", "newPlaces", "[I", true)
def tyX0 : Nat → FieldType := fun k => match k with
  | 0 => .array .long
  | 1 => .array .int
  | 2 => .int
  | 3 => .int
  | 4 => .int
  | 5 => .array .int
  | 6 => .int
  | _ => .array .int
theorem nmX0 : ∀ a, a < 8 → ∀ b, b < 8 → a ≠ b → (TX0 a).2.1 ≠ (TX0 b).2.1 := by decide +kernel
theorem tyX0_ok : ∀ k, k < 8 → parseFieldDescriptor (TX0 k).2.2.1 = some (tyX0 k) := by decide +kernel
def TX1 : u_T := fun k => match k with
  | 0 => ("HeapPressModel", "thrown", "I", false)
  | 1 => ("HeapPressModel", "kind", "[I", true)
  | 2 => ("HeapPressModel", "size", "[I", true)
  | 3 => ("HeapPressModel", "order", "[I", true)
  | 4 => ("HeapPressModel", "link", "[I", true)
  | 5 => ("HeapPressModel", "number", "[J", true)
  | 6 => ("HeapPressModel", "reached", "[Z", true)
  | 7 => ("HeapPressModel", "register", "[I", true)
  | 8 => ("HeapPressModel", "todo", "[I", true)
  | 9 => ("HeapPressModel", "objects", "I", false)
  | 10 => ("HeapPressModel", "collected", "I", false)
  | _ => ("HeapPressModel", "tops", "I", false)
def tyX1 : Nat → FieldType := fun k => match k with
  | 0 => .int
  | 1 => .array .int
  | 2 => .array .int
  | 3 => .array .int
  | 4 => .array .int
  | 5 => .array .long
  | 6 => .array .boolean
  | 7 => .array .int
  | 8 => .array .int
  | 9 => .int
  | 10 => .int
  | _ => .int
theorem nmX1 : ∀ a, a < 12 → ∀ b, b < 12 → a ≠ b → (TX1 a).2.1 ≠ (TX1 b).2.1 := by decide +kernel
theorem tyX1_ok : ∀ k, k < 12 → parseFieldDescriptor (TX1 k).2.2.1 = some (tyX1 k) := by decide +kernel
abbrev vwCl : List vw_C := [(RX0, TX0, 8), (RX1, TX1, 12)]
abbrev cX0_init : ByteArray := prog_1_method_1_code
def yX0_init : MethodName := ⟨RX0, "<init>", "()V"⟩
abbrev cX0_make : ByteArray := prog_1_method_2_code
def yX0_make : MethodName := ⟨RX0, "make", "(IZI)I"⟩
abbrev cX0_weak : ByteArray := prog_1_method_3_code
def yX0_weak : MethodName := ⟨RX0, "weak", "(II)I"⟩
abbrev cX0_copy : ByteArray := prog_1_method_4_code
def yX0_copy : MethodName := ⟨RX0, "copy", "(II)V"⟩
abbrev cX0_drop : ByteArray := prog_1_method_5_code
def yX0_drop : MethodName := ⟨RX0, "drop", "(I)V"⟩
abbrev cX0_link : ByteArray := prog_1_method_6_code
def yX0_link : MethodName := ⟨RX0, "link", "(III)V"⟩
abbrev cX0_follow : ByteArray := prog_1_method_7_code
def yX0_follow : MethodName := ⟨RX0, "follow", "(III)V"⟩
abbrev cX0_put : ByteArray := prog_1_method_8_code
def yX0_put : MethodName := ⟨RX0, "put", "(IIJ)V"⟩
abbrev cX0_get : ByteArray := prog_1_method_9_code
def yX0_get : MethodName := ⟨RX0, "get", "(II)J"⟩
abbrev cX0_collect : ByteArray := prog_1_method_10_code
def yX0_collect : MethodName := ⟨RX0, "collect", "()I"⟩
abbrev cX0_state : ByteArray := prog_1_method_11_code
def yX0_state : MethodName := ⟨RX0, "state", "(II)I"⟩
abbrev cX0_count : ByteArray := prog_1_method_12_code
def yX0_count : MethodName := ⟨RX0, "count", "(I)I"⟩
abbrev cX0_checkRegister : ByteArray := prog_1_method_13_code
def yX0_checkRegister : MethodName := ⟨RX0, "checkRegister", "(I)V"⟩
abbrev cX0_checkBelow : ByteArray := prog_1_method_14_code
def yX0_checkBelow : MethodName := ⟨RX0, "checkBelow", "(II)V"⟩
abbrev cX0_checkKind : ByteArray := prog_1_method_15_code
def yX0_checkKind : MethodName := ⟨RX0, "checkKind", "(Z)V"⟩
abbrev cX0_checkNotNull : ByteArray := prog_1_method_16_code
def yX0_checkNotNull : MethodName := ⟨RX0, "checkNotNull", "(I)V"⟩
abbrev cX0_numberCell : ByteArray := prog_1_method_17_code
def yX0_numberCell : MethodName := ⟨RX0, "numberCell", "(II)I"⟩
abbrev cX0_kindAt : ByteArray := prog_1_method_18_code
def yX0_kindAt : MethodName := ⟨RX0, "kindAt", "(I)I"⟩
abbrev cX0_lengthAt : ByteArray := prog_1_method_19_code
def yX0_lengthAt : MethodName := ⟨RX0, "lengthAt", "(I)I"⟩
abbrev cX0_sizeAt : ByteArray := prog_1_method_20_code
def yX0_sizeAt : MethodName := ⟨RX0, "sizeAt", "(I)I"⟩
abbrev cX0_takeCells : ByteArray := prog_1_method_21_code
def yX0_takeCells : MethodName := ⟨RX0, "takeCells", "(II)I"⟩
abbrev cX0_hasRoom : ByteArray := prog_1_method_22_code
def yX0_hasRoom : MethodName := ⟨RX0, "hasRoom", "(I)Z"⟩
abbrev cX0_pressTogether : ByteArray := prog_1_method_23_code
def yX0_pressTogether : MethodName := ⟨RX0, "pressTogether", "()V"⟩
abbrev cX0_findReached : ByteArray := prog_1_method_24_code
def yX0_findReached : MethodName := ⟨RX0, "findReached", "()V"⟩
abbrev cX0_noteContents : ByteArray := prog_1_method_25_code
def yX0_noteContents : MethodName := ⟨RX0, "noteContents", "(I)V"⟩
abbrev cX0_noteReached : ByteArray := prog_1_method_26_code
def yX0_noteReached : MethodName := ⟨RX0, "noteReached", "(I)V"⟩
abbrev cX0_planNewPlaces : ByteArray := prog_1_method_27_code
def yX0_planNewPlaces : MethodName := ⟨RX0, "planNewPlaces", "()I"⟩
abbrev cX0_redirectRegisters : ByteArray := prog_1_method_28_code
def yX0_redirectRegisters : MethodName := ⟨RX0, "redirectRegisters", "()V"⟩
abbrev cX0_redirectContents : ByteArray := prog_1_method_29_code
def yX0_redirectContents : MethodName := ⟨RX0, "redirectContents", "()V"⟩
abbrev cX0_redirectContentsAt : ByteArray := prog_1_method_30_code
def yX0_redirectContentsAt : MethodName := ⟨RX0, "redirectContentsAt", "(I)V"⟩
abbrev cX0_newPlaceOf : ByteArray := prog_1_method_31_code
def yX0_newPlaceOf : MethodName := ⟨RX0, "newPlaceOf", "(I)I"⟩
abbrev cX0_moveDown : ByteArray := prog_1_method_32_code
def yX0_moveDown : MethodName := ⟨RX0, "moveDown", "()V"⟩
abbrev cX1_init : ByteArray := prog_3_method_1_code
def yX1_init : MethodName := ⟨RX1, "<init>", "()V"⟩
abbrev cX1_thrown : ByteArray := prog_3_method_2_code
def yX1_thrown : MethodName := ⟨RX1, "thrown", "()I"⟩
abbrev cX1_isRegister : ByteArray := prog_3_method_3_code
def yX1_isRegister : MethodName := ⟨RX1, "isRegister", "(I)Z"⟩
abbrev cX1_cellsOf : ByteArray := prog_3_method_4_code
def yX1_cellsOf : MethodName := ⟨RX1, "cellsOf", "(I)I"⟩
abbrev cX1_cells : ByteArray := prog_3_method_5_code
def yX1_cells : MethodName := ⟨RX1, "cells", "()I"⟩
abbrev cX1_placeOf : ByteArray := prog_3_method_6_code
def yX1_placeOf : MethodName := ⟨RX1, "placeOf", "(I)I"⟩
abbrev cX1_reach : ByteArray := prog_3_method_7_code
def yX1_reach : MethodName := ⟨RX1, "reach", "(I)V"⟩
abbrev cX1_collect : ByteArray := prog_3_method_8_code
def yX1_collect : MethodName := ⟨RX1, "collect", "()I"⟩
abbrev cX1_made : ByteArray := prog_3_method_9_code
def yX1_made : MethodName := ⟨RX1, "made", "(II)I"⟩
abbrev cX1_make : ByteArray := prog_3_method_10_code
def yX1_make : MethodName := ⟨RX1, "make", "(IZI)I"⟩
abbrev cX1_weak : ByteArray := prog_3_method_11_code
def yX1_weak : MethodName := ⟨RX1, "weak", "(II)I"⟩
abbrev cX1_copy : ByteArray := prog_3_method_12_code
def yX1_copy : MethodName := ⟨RX1, "copy", "(II)V"⟩
abbrev cX1_drop : ByteArray := prog_3_method_13_code
def yX1_drop : MethodName := ⟨RX1, "drop", "(I)V"⟩
abbrev cX1_isWrong : ByteArray := prog_3_method_14_code
def yX1_isWrong : MethodName := ⟨RX1, "isWrong", "(III)Z"⟩
abbrev cX1_link : ByteArray := prog_3_method_15_code
def yX1_link : MethodName := ⟨RX1, "link", "(III)V"⟩
abbrev cX1_follow : ByteArray := prog_3_method_16_code
def yX1_follow : MethodName := ⟨RX1, "follow", "(III)V"⟩
abbrev cX1_fails : ByteArray := prog_3_method_17_code
def yX1_fails : MethodName := ⟨RX1, "fails", "(II)Z"⟩
abbrev cX1_put : ByteArray := prog_3_method_18_code
def yX1_put : MethodName := ⟨RX1, "put", "(IIJ)V"⟩
abbrev cX1_get : ByteArray := prog_3_method_19_code
def yX1_get : MethodName := ⟨RX1, "get", "(II)J"⟩
abbrev cX1_state : ByteArray := prog_3_method_20_code
def yX1_state : MethodName := ⟨RX1, "state", "(II)I"⟩
abbrev cX1_count : ByteArray := prog_3_method_21_code
def yX1_count : MethodName := ⟨RX1, "count", "(I)I"⟩
abbrev cL_make : ByteArray := method_3_code
def yL_make : MethodName := ⟨RL, "make", "(LHeapPress;IZI[J)I"⟩
abbrev cL_weak : ByteArray := method_4_code
def yL_weak : MethodName := ⟨RL, "weak", "(LHeapPress;II[J)I"⟩
abbrev cL_copy : ByteArray := method_5_code
def yL_copy : MethodName := ⟨RL, "copy", "(LHeapPress;II)I"⟩
abbrev cL_drop : ByteArray := method_6_code
def yL_drop : MethodName := ⟨RL, "drop", "(LHeapPress;I)I"⟩
abbrev cL_link : ByteArray := method_7_code
def yL_link : MethodName := ⟨RL, "link", "(LHeapPress;III)I"⟩
abbrev cL_follow : ByteArray := method_8_code
def yL_follow : MethodName := ⟨RL, "follow", "(LHeapPress;III)I"⟩
abbrev cL_put : ByteArray := method_9_code
def yL_put : MethodName := ⟨RL, "put", "(LHeapPress;IIJ)I"⟩
abbrev cL_get : ByteArray := method_10_code
def yL_get : MethodName := ⟨RL, "get", "(LHeapPress;II[J)I"⟩
abbrev cL_state : ByteArray := method_11_code
def yL_state : MethodName := ⟨RL, "state", "(LHeapPress;II[J)I"⟩
abbrev cJ7_fill : ByteArray := prog_11_method_103_code
def yJ7_fill : MethodName := ⟨RJ7, "fill", "([II)V"⟩
abbrev cL_law : ByteArray := code
def wb : List Cond := lw_tbl.filter goodWord
theorem wb_mem {w : Cond} (h : w ∈ lw_tbl) (g : goodWord w = true) : w ∈ wb := List.mem_filter.mpr ⟨h, g⟩
theorem wb_good : GoodIn wb wb := fun w h => ⟨h, good_of_word (List.mem_filter.mp h).2⟩
theorem wb_in {w : Cond} (h : w ∈ wb) : w ∈ lw_tbl := (List.mem_filter.mp h).1
theorem wb_V {own C : String} {idx : Nat} {y : MethodName} {w : Cond} (h1 : .methodLink own idx y ∈ wb) (h2 : .instanceMethod y ∈ wb) (h3 : .selects C y y ∈ wb) (h4 : .initialized C ∈ wb) (h5 : w ∈ wb) : GoodIn wb (wsV own idx C y (w :: wb)) := fun x hx => wb_good x (by
  rcases List.mem_append.mp hx with h | h
  · simp only [List.mem_cons, List.not_mem_nil, or_false] at h
    rcases h with rfl | rfl | rfl | rfl
    · exact h1
    · exact h2
    · exact h3
    · exact h4
  · rcases List.mem_cons.mp h with rfl | h
    · exact h5
    · exact h)
theorem wb_S {own : String} {idx : Nat} {y : MethodName} {w : Cond} (h1 : .methodLink own idx y ∈ wb) (h2 : .static y ∈ wb) (h4 : .initialized y.cls ∈ wb) (h5 : w ∈ wb) : GoodIn wb (va_wsS own idx y (w :: wb)) := fun x hx => wb_good x (by
  rcases List.mem_append.mp hx with h | h
  · simp only [List.mem_cons, List.not_mem_nil, or_false] at h
    rcases h with rfl | rfl | rfl
    · exact h1
    · exact h2
    · exact h4
  · rcases List.mem_cons.mp h with rfl | h
    · exact h5
    · exact h)
theorem bw_se_X0_pressTogether : .selects RX0 yX0_pressTogether yX0_pressTogether ∈ wb := wb_mem (List.mem_append_left _ (List.mem_of_getElem? (i := 0) rfl)) rfl
theorem bw_se_X0_findReached : .selects RX0 yX0_findReached yX0_findReached ∈ wb := wb_mem (List.mem_append_left _ (List.mem_of_getElem? (i := 1) rfl)) rfl
theorem bw_se_X0_noteReached : .selects RX0 yX0_noteReached yX0_noteReached ∈ wb := wb_mem (List.mem_append_left _ (List.mem_of_getElem? (i := 2) rfl)) rfl
theorem bw_se_X0_kindAt : .selects RX0 yX0_kindAt yX0_kindAt ∈ wb := wb_mem (List.mem_append_left _ (List.mem_of_getElem? (i := 3) rfl)) rfl
theorem bw_se_X0_noteContents : .selects RX0 yX0_noteContents yX0_noteContents ∈ wb := wb_mem (List.mem_append_left _ (List.mem_of_getElem? (i := 4) rfl)) rfl
theorem bw_se_X0_sizeAt : .selects RX0 yX0_sizeAt yX0_sizeAt ∈ wb := wb_mem (List.mem_append_left _ (List.mem_of_getElem? (i := 5) rfl)) rfl
theorem bw_se_X0_lengthAt : .selects RX0 yX0_lengthAt yX0_lengthAt ∈ wb := wb_mem (List.mem_append_left _ (List.mem_of_getElem? (i := 6) rfl)) rfl
theorem bw_se_X0_planNewPlaces : .selects RX0 yX0_planNewPlaces yX0_planNewPlaces ∈ wb := wb_mem (List.mem_append_left _ (List.mem_of_getElem? (i := 7) rfl)) rfl
theorem bw_se_X0_redirectRegisters : .selects RX0 yX0_redirectRegisters yX0_redirectRegisters ∈ wb := wb_mem (List.mem_append_left _ (List.mem_of_getElem? (i := 8) rfl)) rfl
theorem bw_se_X0_newPlaceOf : .selects RX0 yX0_newPlaceOf yX0_newPlaceOf ∈ wb := wb_mem (List.mem_append_left _ (List.mem_of_getElem? (i := 9) rfl)) rfl
theorem bw_se_X0_redirectContents : .selects RX0 yX0_redirectContents yX0_redirectContents ∈ wb := wb_mem (List.mem_append_left _ (List.mem_of_getElem? (i := 10) rfl)) rfl
theorem bw_se_X0_redirectContentsAt : .selects RX0 yX0_redirectContentsAt yX0_redirectContentsAt ∈ wb := wb_mem (List.mem_append_left _ (List.mem_of_getElem? (i := 11) rfl)) rfl
theorem bw_se_X0_moveDown : .selects RX0 yX0_moveDown yX0_moveDown ∈ wb := wb_mem (List.mem_append_left _ (List.mem_of_getElem? (i := 12) rfl)) rfl
theorem bw_se_X0_takeCells : .selects RX0 yX0_takeCells yX0_takeCells ∈ wb := wb_mem (List.mem_append_left _ (List.mem_of_getElem? (i := 14) rfl)) rfl
theorem bw_se_X0_hasRoom : .selects RX0 yX0_hasRoom yX0_hasRoom ∈ wb := wb_mem (List.mem_append_left _ (List.mem_of_getElem? (i := 15) rfl)) rfl
theorem bw_se_X0_numberCell : .selects RX0 yX0_numberCell yX0_numberCell ∈ wb := wb_mem (List.mem_append_left _ (List.mem_of_getElem? (i := 16) rfl)) rfl
theorem bw_se_X1_reach : .selects RX1 yX1_reach yX1_reach ∈ wb := wb_mem (List.mem_append_left _ (List.mem_of_getElem? (i := 17) rfl)) rfl
theorem bw_se_X1_isRegister : .selects RX1 yX1_isRegister yX1_isRegister ∈ wb := wb_mem (List.mem_append_left _ (List.mem_of_getElem? (i := 18) rfl)) rfl
theorem bw_se_X1_made : .selects RX1 yX1_made yX1_made ∈ wb := wb_mem (List.mem_append_left _ (List.mem_of_getElem? (i := 19) rfl)) rfl
theorem bw_se_X1_cells : .selects RX1 yX1_cells yX1_cells ∈ wb := wb_mem (List.mem_append_left _ (List.mem_of_getElem? (i := 20) rfl)) rfl
theorem bw_se_X1_cellsOf : .selects RX1 yX1_cellsOf yX1_cellsOf ∈ wb := wb_mem (List.mem_append_left _ (List.mem_of_getElem? (i := 21) rfl)) rfl
theorem bw_se_X1_placeOf : .selects RX1 yX1_placeOf yX1_placeOf ∈ wb := wb_mem (List.mem_append_left _ (List.mem_of_getElem? (i := 22) rfl)) rfl
theorem bw_se_X1_isWrong : .selects RX1 yX1_isWrong yX1_isWrong ∈ wb := wb_mem (List.mem_append_left _ (List.mem_of_getElem? (i := 23) rfl)) rfl
theorem bw_se_X1_fails : .selects RX1 yX1_fails yX1_fails ∈ wb := wb_mem (List.mem_append_left _ (List.mem_of_getElem? (i := 24) rfl)) rfl
theorem bw_in_HeapPressLaw : .initialized RL ∈ wb := wb_mem (List.mem_append_right _ (List.mem_append_left _ (List.mem_of_getElem? (i := 0) rfl))) rfl
theorem bw_in_HeapPress : .initialized RX0 ∈ wb := wb_mem (List.mem_append_right _ (List.mem_append_left _ (List.mem_of_getElem? (i := 1) rfl))) rfl
theorem bw_in_java_util_Arrays : .initialized RJ7 ∈ wb := wb_mem (List.mem_append_right _ (List.mem_append_left _ (List.mem_of_getElem? (i := 2) rfl))) rfl
theorem bw_in_HeapPressModel : .initialized RX1 ∈ wb := wb_mem (List.mem_append_right _ (List.mem_append_left _ (List.mem_of_getElem? (i := 3) rfl))) rfl
theorem bw_in_java_lang_Throwable : .initialized "java/lang/Throwable" ∈ wb := wb_mem (List.mem_append_right _ (List.mem_append_left _ (List.mem_of_getElem? (i := 4) rfl))) rfl
theorem bw_in_java_lang_Exception : .initialized "java/lang/Exception" ∈ wb := wb_mem (List.mem_append_right _ (List.mem_append_left _ (List.mem_of_getElem? (i := 5) rfl))) rfl
theorem bw_in_java_lang_RuntimeException : .initialized "java/lang/RuntimeException" ∈ wb := wb_mem (List.mem_append_right _ (List.mem_append_left _ (List.mem_of_getElem? (i := 6) rfl))) rfl
theorem bw_in_java_lang_IllegalArgumentException : .initialized "java/lang/IllegalArgumentException" ∈ wb := wb_mem (List.mem_append_right _ (List.mem_append_left _ (List.mem_of_getElem? (i := 7) rfl))) rfl
theorem bw_in_java_lang_System : .initialized "java/lang/System" ∈ wb := wb_mem (List.mem_append_right _ (List.mem_append_left _ (List.mem_of_getElem? (i := 8) rfl))) rfl
theorem bw_in_java_lang_IllegalStateException : .initialized "java/lang/IllegalStateException" ∈ wb := wb_mem (List.mem_append_right _ (List.mem_append_left _ (List.mem_of_getElem? (i := 9) rfl))) rfl
theorem bw_in_java_util_NoSuchElementException : .initialized "java/util/NoSuchElementException" ∈ wb := wb_mem (List.mem_append_right _ (List.mem_append_left _ (List.mem_of_getElem? (i := 10) rfl))) rfl
theorem bw_cl_L_8 : .classLink RL 8 RX0 ∈ wb := wb_mem (List.mem_append_right _ (List.mem_append_left _ (List.mem_of_getElem? (i := 11) rfl))) rfl
theorem bw_ia_HeapPress : .instantiable RX0 8 ∈ wb := wb_mem (List.mem_append_right _ (List.mem_append_left _ (List.mem_of_getElem? (i := 12) rfl))) rfl
theorem bw_ml_L_49 : .methodLink RL 49 yX0_init ∈ wb := wb_mem (List.mem_append_right _ (List.mem_append_left _ (List.mem_of_getElem? (i := 13) rfl))) rfl
theorem bw_im_X0_init : .instanceMethod yX0_init ∈ wb := wb_mem (List.mem_append_right _ (List.mem_append_left _ (List.mem_of_getElem? (i := 14) rfl))) rfl
theorem bw_co_X0_init : .code yX0_init cX0_init 1 none ∈ wb := wb_mem (List.mem_append_right _ (List.mem_append_left _ (List.mem_of_getElem? (i := 15) rfl))) rfl
theorem bw_ml_X0_1 : .methodLink RX0 1 objectInit ∈ wb := wb_mem (List.mem_append_right _ (List.mem_append_left _ (List.mem_of_getElem? (i := 16) rfl))) rfl
theorem bw_im_objectInit : .instanceMethod objectInit ∈ wb := wb_mem (List.mem_append_right _ (List.mem_append_left _ (List.mem_of_getElem? (i := 17) rfl))) rfl
theorem bw_co_objectInit : .code objectInit ⟨#[0xb1]⟩ 1 none ∈ wb := wb_mem (List.mem_append_right _ (List.mem_append_left _ (List.mem_of_getElem? (i := 18) rfl))) rfl
theorem bw_ml_X0_36 : .methodLink RX0 36 yJ7_fill ∈ wb := wb_mem (List.mem_append_right _ (List.mem_append_left _ (List.mem_of_getElem? (i := 19) rfl))) rfl
theorem bw_st_J7_fill : .static yJ7_fill ∈ wb := wb_mem (List.mem_append_right _ (List.mem_append_left _ (List.mem_of_getElem? (i := 20) rfl))) rfl
theorem bw_co_J7_fill : .code yJ7_fill cJ7_fill 4 none ∈ wb := wb_mem (List.mem_append_right _ (List.mem_append_left _ (List.mem_of_getElem? (i := 21) rfl))) rfl
theorem bw_fl_X0_9 : .fieldLink RX0 9 "HeapPress" "cells" "[J" ∈ wb := wb_mem (List.mem_append_right _ (List.mem_append_left _ (List.mem_of_getElem? (i := 22) rfl))) rfl
theorem bw_fl_X0_13 : .fieldLink RX0 13 "HeapPress" "registers" "[I" ∈ wb := wb_mem (List.mem_append_right _ (List.mem_append_left _ (List.mem_of_getElem? (i := 23) rfl))) rfl
theorem bw_fl_X0_17 : .fieldLink RX0 17 "HeapPress" "taken" "I" ∈ wb := wb_mem (List.mem_append_right _ (List.mem_append_left _ (List.mem_of_getElem? (i := 24) rfl))) rfl
theorem bw_fl_X0_21 : .fieldLink RX0 21 "HeapPress" "objects" "I" ∈ wb := wb_mem (List.mem_append_right _ (List.mem_append_left _ (List.mem_of_getElem? (i := 25) rfl))) rfl
theorem bw_fl_X0_24 : .fieldLink RX0 24 "HeapPress" "collections" "I" ∈ wb := wb_mem (List.mem_append_right _ (List.mem_append_left _ (List.mem_of_getElem? (i := 26) rfl))) rfl
theorem bw_fl_X0_27 : .fieldLink RX0 27 "HeapPress" "reached" "[I" ∈ wb := wb_mem (List.mem_append_right _ (List.mem_append_left _ (List.mem_of_getElem? (i := 27) rfl))) rfl
theorem bw_fl_X0_30 : .fieldLink RX0 30 "HeapPress" "reachedCount" "I" ∈ wb := wb_mem (List.mem_append_right _ (List.mem_append_left _ (List.mem_of_getElem? (i := 28) rfl))) rfl
theorem bw_fl_X0_33 : .fieldLink RX0 33 "HeapPress" "newPlaces" "[I" ∈ wb := wb_mem (List.mem_append_right _ (List.mem_append_left _ (List.mem_of_getElem? (i := 29) rfl))) rfl
theorem bw_ly_X0_cells : .laysFinal RX0 "HeapPress" "cells" "[J" ∈ wb := wb_mem (List.mem_append_right _ (List.mem_append_left _ (List.mem_of_getElem? (i := 30) rfl))) rfl
theorem bw_ly_X0_registers : .laysFinal RX0 "HeapPress" "registers" "[I" ∈ wb := wb_mem (List.mem_append_right _ (List.mem_append_left _ (List.mem_of_getElem? (i := 32) rfl))) rfl
theorem bw_ly_X0_taken : .lays RX0 "HeapPress" "taken" "I" ∈ wb := wb_mem (List.mem_append_right _ (List.mem_append_left _ (List.mem_of_getElem? (i := 34) rfl))) rfl
theorem bw_ly_X0_objects : .lays RX0 "HeapPress" "objects" "I" ∈ wb := wb_mem (List.mem_append_right _ (List.mem_append_left _ (List.mem_of_getElem? (i := 36) rfl))) rfl
theorem bw_ly_X0_collections : .lays RX0 "HeapPress" "collections" "I" ∈ wb := wb_mem (List.mem_append_right _ (List.mem_append_left _ (List.mem_of_getElem? (i := 38) rfl))) rfl
theorem bw_ly_X0_reached : .laysFinal RX0 "HeapPress" "reached" "[I" ∈ wb := wb_mem (List.mem_append_right _ (List.mem_append_left _ (List.mem_of_getElem? (i := 40) rfl))) rfl
theorem bw_ly_X0_reachedCount : .lays RX0 "HeapPress" "reachedCount" "I" ∈ wb := wb_mem (List.mem_append_right _ (List.mem_append_left _ (List.mem_of_getElem? (i := 42) rfl))) rfl
theorem bw_ly_X0_newPlaces : .laysFinal RX0 "HeapPress" "newPlaces" "[I" ∈ wb := wb_mem (List.mem_append_right _ (List.mem_append_left _ (List.mem_of_getElem? (i := 44) rfl))) rfl
theorem bw_ac_long : .arrayClass .long ∈ wb := wb_mem (List.mem_append_right _ (List.mem_append_left _ (List.mem_of_getElem? (i := 47) rfl))) rfl
theorem bw_ac_int : .arrayClass .int ∈ wb := wb_mem (List.mem_append_right _ (List.mem_append_left _ (List.mem_of_getElem? (i := 48) rfl))) rfl
theorem bw_ml_L_91 : .methodLink RL 91 yX0_collect ∈ wb := wb_mem (List.mem_append_right _ (List.mem_append_left _ (List.mem_of_getElem? (i := 49) rfl))) rfl
theorem bw_im_X0_collect : .instanceMethod yX0_collect ∈ wb := wb_mem (List.mem_append_right _ (List.mem_append_left _ (List.mem_of_getElem? (i := 50) rfl))) rfl
theorem bw_se_X0_collect : .selects RX0 yX0_collect yX0_collect ∈ wb := wb_mem (List.mem_append_right _ (List.mem_append_left _ (List.mem_of_getElem? (i := 51) rfl))) rfl
theorem bw_co_X0_collect : .code yX0_collect cX0_collect 2 (some .int) ∈ wb := wb_mem (List.mem_append_right _ (List.mem_append_left _ (List.mem_of_getElem? (i := 52) rfl))) rfl
theorem bw_ml_X0_73 : .methodLink RX0 73 yX0_pressTogether ∈ wb := wb_mem (List.mem_append_right _ (List.mem_append_left _ (List.mem_of_getElem? (i := 53) rfl))) rfl
theorem bw_im_X0_pressTogether : .instanceMethod yX0_pressTogether ∈ wb := wb_mem (List.mem_append_right _ (List.mem_append_left _ (List.mem_of_getElem? (i := 55) rfl))) rfl
theorem bw_co_X0_pressTogether : .code yX0_pressTogether cX0_pressTogether 2 none ∈ wb := wb_mem (List.mem_append_right _ (List.mem_append_left _ (List.mem_of_getElem? (i := 56) rfl))) rfl
theorem bw_ml_X0_99 : .methodLink RX0 99 yX0_findReached ∈ wb := wb_mem (List.mem_append_right _ (List.mem_append_left _ (List.mem_of_getElem? (i := 57) rfl))) rfl
theorem bw_im_X0_findReached : .instanceMethod yX0_findReached ∈ wb := wb_mem (List.mem_append_right _ (List.mem_append_left _ (List.mem_of_getElem? (i := 59) rfl))) rfl
theorem bw_co_X0_findReached : .code yX0_findReached cX0_findReached 2 none ∈ wb := wb_mem (List.mem_append_right _ (List.mem_append_left _ (List.mem_of_getElem? (i := 60) rfl))) rfl
theorem bw_ml_X0_115 : .methodLink RX0 115 yX0_noteReached ∈ wb := wb_mem (List.mem_append_right _ (List.mem_append_left _ (List.mem_of_getElem? (i := 61) rfl))) rfl
theorem bw_im_X0_noteReached : .instanceMethod yX0_noteReached ∈ wb := wb_mem (List.mem_append_right _ (List.mem_append_left _ (List.mem_of_getElem? (i := 63) rfl))) rfl
theorem bw_co_X0_noteReached : .code yX0_noteReached cX0_noteReached 2 none ∈ wb := wb_mem (List.mem_append_right _ (List.mem_append_left _ (List.mem_of_getElem? (i := 64) rfl))) rfl
theorem bw_ml_X0_59 : .methodLink RX0 59 yX0_kindAt ∈ wb := wb_mem (List.mem_append_right _ (List.mem_append_left _ (List.mem_of_getElem? (i := 65) rfl))) rfl
theorem bw_im_X0_kindAt : .instanceMethod yX0_kindAt ∈ wb := wb_mem (List.mem_append_right _ (List.mem_append_left _ (List.mem_of_getElem? (i := 67) rfl))) rfl
theorem bw_co_X0_kindAt : .code yX0_kindAt cX0_kindAt 2 (some .int) ∈ wb := wb_mem (List.mem_append_right _ (List.mem_append_left _ (List.mem_of_getElem? (i := 68) rfl))) rfl
theorem bw_ml_X0_118 : .methodLink RX0 118 yX0_noteContents ∈ wb := wb_mem (List.mem_append_right _ (List.mem_append_left _ (List.mem_of_getElem? (i := 69) rfl))) rfl
theorem bw_im_X0_noteContents : .instanceMethod yX0_noteContents ∈ wb := wb_mem (List.mem_append_right _ (List.mem_append_left _ (List.mem_of_getElem? (i := 71) rfl))) rfl
theorem bw_co_X0_noteContents : .code yX0_noteContents cX0_noteContents 4 none ∈ wb := wb_mem (List.mem_append_right _ (List.mem_append_left _ (List.mem_of_getElem? (i := 72) rfl))) rfl
theorem bw_ml_X0_121 : .methodLink RX0 121 yX0_sizeAt ∈ wb := wb_mem (List.mem_append_right _ (List.mem_append_left _ (List.mem_of_getElem? (i := 73) rfl))) rfl
theorem bw_im_X0_sizeAt : .instanceMethod yX0_sizeAt ∈ wb := wb_mem (List.mem_append_right _ (List.mem_append_left _ (List.mem_of_getElem? (i := 75) rfl))) rfl
theorem bw_co_X0_sizeAt : .code yX0_sizeAt cX0_sizeAt 2 (some .int) ∈ wb := wb_mem (List.mem_append_right _ (List.mem_append_left _ (List.mem_of_getElem? (i := 76) rfl))) rfl
theorem bw_ml_X0_67 : .methodLink RX0 67 yX0_lengthAt ∈ wb := wb_mem (List.mem_append_right _ (List.mem_append_left _ (List.mem_of_getElem? (i := 77) rfl))) rfl
theorem bw_im_X0_lengthAt : .instanceMethod yX0_lengthAt ∈ wb := wb_mem (List.mem_append_right _ (List.mem_append_left _ (List.mem_of_getElem? (i := 79) rfl))) rfl
theorem bw_co_X0_lengthAt : .code yX0_lengthAt cX0_lengthAt 2 (some .int) ∈ wb := wb_mem (List.mem_append_right _ (List.mem_append_left _ (List.mem_of_getElem? (i := 80) rfl))) rfl
theorem bw_ml_X0_102 : .methodLink RX0 102 yX0_planNewPlaces ∈ wb := wb_mem (List.mem_append_right _ (List.mem_append_left _ (List.mem_of_getElem? (i := 81) rfl))) rfl
theorem bw_im_X0_planNewPlaces : .instanceMethod yX0_planNewPlaces ∈ wb := wb_mem (List.mem_append_right _ (List.mem_append_left _ (List.mem_of_getElem? (i := 83) rfl))) rfl
theorem bw_co_X0_planNewPlaces : .code yX0_planNewPlaces cX0_planNewPlaces 5 (some .int) ∈ wb := wb_mem (List.mem_append_right _ (List.mem_append_left _ (List.mem_of_getElem? (i := 84) rfl))) rfl
theorem bw_ml_X0_106 : .methodLink RX0 106 yX0_redirectRegisters ∈ wb := wb_mem (List.mem_append_right _ (List.mem_append_left _ (List.mem_of_getElem? (i := 85) rfl))) rfl
theorem bw_im_X0_redirectRegisters : .instanceMethod yX0_redirectRegisters ∈ wb := wb_mem (List.mem_append_right _ (List.mem_append_left _ (List.mem_of_getElem? (i := 87) rfl))) rfl
theorem bw_co_X0_redirectRegisters : .code yX0_redirectRegisters cX0_redirectRegisters 2 none ∈ wb := wb_mem (List.mem_append_right _ (List.mem_append_left _ (List.mem_of_getElem? (i := 88) rfl))) rfl
theorem bw_ml_X0_124 : .methodLink RX0 124 yX0_newPlaceOf ∈ wb := wb_mem (List.mem_append_right _ (List.mem_append_left _ (List.mem_of_getElem? (i := 89) rfl))) rfl
theorem bw_im_X0_newPlaceOf : .instanceMethod yX0_newPlaceOf ∈ wb := wb_mem (List.mem_append_right _ (List.mem_append_left _ (List.mem_of_getElem? (i := 91) rfl))) rfl
theorem bw_co_X0_newPlaceOf : .code yX0_newPlaceOf cX0_newPlaceOf 2 (some .int) ∈ wb := wb_mem (List.mem_append_right _ (List.mem_append_left _ (List.mem_of_getElem? (i := 92) rfl))) rfl
theorem bw_ml_X0_109 : .methodLink RX0 109 yX0_redirectContents ∈ wb := wb_mem (List.mem_append_right _ (List.mem_append_left _ (List.mem_of_getElem? (i := 93) rfl))) rfl
theorem bw_im_X0_redirectContents : .instanceMethod yX0_redirectContents ∈ wb := wb_mem (List.mem_append_right _ (List.mem_append_left _ (List.mem_of_getElem? (i := 95) rfl))) rfl
theorem bw_co_X0_redirectContents : .code yX0_redirectContents cX0_redirectContents 3 none ∈ wb := wb_mem (List.mem_append_right _ (List.mem_append_left _ (List.mem_of_getElem? (i := 96) rfl))) rfl
theorem bw_ml_X0_127 : .methodLink RX0 127 yX0_redirectContentsAt ∈ wb := wb_mem (List.mem_append_right _ (List.mem_append_left _ (List.mem_of_getElem? (i := 97) rfl))) rfl
theorem bw_im_X0_redirectContentsAt : .instanceMethod yX0_redirectContentsAt ∈ wb := wb_mem (List.mem_append_right _ (List.mem_append_left _ (List.mem_of_getElem? (i := 99) rfl))) rfl
theorem bw_co_X0_redirectContentsAt : .code yX0_redirectContentsAt cX0_redirectContentsAt 4 none ∈ wb := wb_mem (List.mem_append_right _ (List.mem_append_left _ (List.mem_of_getElem? (i := 100) rfl))) rfl
theorem bw_ml_X0_112 : .methodLink RX0 112 yX0_moveDown ∈ wb := wb_mem (List.mem_append_right _ (List.mem_append_left _ (List.mem_of_getElem? (i := 101) rfl))) rfl
theorem bw_im_X0_moveDown : .instanceMethod yX0_moveDown ∈ wb := wb_mem (List.mem_append_right _ (List.mem_append_left _ (List.mem_of_getElem? (i := 103) rfl))) rfl
theorem bw_co_X0_moveDown : .code yX0_moveDown cX0_moveDown 4 none ∈ wb := wb_mem (List.mem_append_right _ (List.mem_append_left _ (List.mem_of_getElem? (i := 104) rfl))) rfl
theorem bw_ml_X0_130 : .methodLink RX0 130 arraycopyName ∈ wb := wb_mem (List.mem_append_right _ (List.mem_append_left _ (List.mem_of_getElem? (i := 105) rfl))) rfl
theorem bw_st_arraycopyName : .static arraycopyName ∈ wb := wb_mem (List.mem_append_right _ (List.mem_append_left _ (List.mem_of_getElem? (i := 106) rfl))) rfl
theorem bw_na_arraycopyName : .native arraycopyName ∈ wb := wb_mem (List.mem_append_right _ (List.mem_append_left _ (List.mem_of_getElem? (i := 107) rfl))) rfl
theorem bw_ml_L_98 : .methodLink RL 98 yX0_count ∈ wb := wb_mem (List.mem_append_right _ (List.mem_append_left _ (List.mem_of_getElem? (i := 108) rfl))) rfl
theorem bw_im_X0_count : .instanceMethod yX0_count ∈ wb := wb_mem (List.mem_append_right _ (List.mem_append_left _ (List.mem_of_getElem? (i := 109) rfl))) rfl
theorem bw_se_X0_count : .selects RX0 yX0_count yX0_count ∈ wb := wb_mem (List.mem_append_right _ (List.mem_append_left _ (List.mem_of_getElem? (i := 110) rfl))) rfl
theorem bw_co_X0_count : .code yX0_count cX0_count 2 (some .int) ∈ wb := wb_mem (List.mem_append_right _ (List.mem_append_left _ (List.mem_of_getElem? (i := 111) rfl))) rfl
theorem bw_ml_L_53 : .methodLink RL 53 yL_make ∈ wb := wb_mem (List.mem_append_right _ (List.mem_append_left _ (List.mem_of_getElem? (i := 112) rfl))) rfl
theorem bw_st_L_make : .static yL_make ∈ wb := wb_mem (List.mem_append_right _ (List.mem_append_left _ (List.mem_of_getElem? (i := 113) rfl))) rfl
theorem bw_co_L_make : .codeWith yL_make cL_make 6 (some .int) [(0, 12, 15, 13), (0, 12, 19, 15)] ∈ wb := wb_mem (List.mem_append_right _ (List.mem_append_left _ (List.mem_of_getElem? (i := 114) rfl))) rfl
theorem bw_cl_L_13 : .classLink RL 13 "java/lang/IllegalArgumentException" ∈ wb := wb_mem (List.mem_append_right _ (List.mem_append_left _ (List.mem_of_getElem? (i := 115) rfl))) rfl
theorem bw_cl_L_15 : .classLink RL 15 "java/lang/IllegalStateException" ∈ wb := wb_mem (List.mem_append_right _ (List.mem_append_left _ (List.mem_of_getElem? (i := 116) rfl))) rfl
theorem bw_ml_L_7 : .methodLink RL 7 yX0_make ∈ wb := wb_mem (List.mem_append_right _ (List.mem_append_left _ (List.mem_of_getElem? (i := 117) rfl))) rfl
theorem bw_im_X0_make : .instanceMethod yX0_make ∈ wb := wb_mem (List.mem_append_right _ (List.mem_append_left _ (List.mem_of_getElem? (i := 118) rfl))) rfl
theorem bw_se_X0_make : .selects RX0 yX0_make yX0_make ∈ wb := wb_mem (List.mem_append_right _ (List.mem_append_left _ (List.mem_of_getElem? (i := 119) rfl))) rfl
theorem bw_co_X0_make : .code yX0_make cX0_make 8 (some .int) ∈ wb := wb_mem (List.mem_append_right _ (List.mem_append_left _ (List.mem_of_getElem? (i := 120) rfl))) rfl
theorem bw_ml_X0_42 : .methodLink RX0 42 yX0_checkRegister ∈ wb := wb_mem (List.mem_append_right _ (List.mem_append_left _ (List.mem_of_getElem? (i := 121) rfl))) rfl
theorem bw_st_X0_checkRegister : .static yX0_checkRegister ∈ wb := wb_mem (List.mem_append_right _ (List.mem_append_left _ (List.mem_of_getElem? (i := 122) rfl))) rfl
theorem bw_co_X0_checkRegister : .code yX0_checkRegister cX0_checkRegister 1 none ∈ wb := wb_mem (List.mem_append_right _ (List.mem_append_left _ (List.mem_of_getElem? (i := 123) rfl))) rfl
theorem bw_ml_X0_46 : .methodLink RX0 46 yX0_checkBelow ∈ wb := wb_mem (List.mem_append_right _ (List.mem_append_left _ (List.mem_of_getElem? (i := 124) rfl))) rfl
theorem bw_st_X0_checkBelow : .static yX0_checkBelow ∈ wb := wb_mem (List.mem_append_right _ (List.mem_append_left _ (List.mem_of_getElem? (i := 125) rfl))) rfl
theorem bw_co_X0_checkBelow : .code yX0_checkBelow cX0_checkBelow 2 none ∈ wb := wb_mem (List.mem_append_right _ (List.mem_append_left _ (List.mem_of_getElem? (i := 126) rfl))) rfl
theorem bw_cl_X0_76 : .classLink RX0 76 "java/lang/IllegalArgumentException" ∈ wb := wb_mem (List.mem_append_right _ (List.mem_append_left _ (List.mem_of_getElem? (i := 127) rfl))) rfl
theorem bw_ia_java_lang_IllegalArgumentException : .instantiable "java/lang/IllegalArgumentException" 6 ∈ wb := wb_mem (List.mem_append_right _ (List.mem_append_left _ (List.mem_of_getElem? (i := 128) rfl))) rfl
theorem bw_ia_java_lang_Throwable : .instantiable "java/lang/Throwable" 6 ∈ wb := wb_mem (List.mem_append_right _ (List.mem_append_left _ (List.mem_of_getElem? (i := 166) rfl))) rfl
theorem bw_ml_X0_80 : .methodLink RX0 80 ⟨"java/lang/IllegalArgumentException", "<init>", "(Ljava/lang/String;)V"⟩ ∈ wb := wb_mem (List.mem_append_right _ (List.mem_append_left _ (List.mem_of_getElem? (i := 169) rfl))) rfl
theorem bw_ac_byte : .arrayClass .byte ∈ wb := wb_mem (List.mem_append_right _ (List.mem_append_left _ (List.mem_of_getElem? (i := 194) rfl))) rfl
theorem bw_ml_X0_50 : .methodLink RX0 50 yX0_takeCells ∈ wb := wb_mem (List.mem_append_right _ (List.mem_append_left _ (List.mem_of_getElem? (i := 195) rfl))) rfl
theorem bw_im_X0_takeCells : .instanceMethod yX0_takeCells ∈ wb := wb_mem (List.mem_append_right _ (List.mem_append_left _ (List.mem_of_getElem? (i := 197) rfl))) rfl
theorem bw_co_X0_takeCells : .code yX0_takeCells cX0_takeCells 4 (some .int) ∈ wb := wb_mem (List.mem_append_right _ (List.mem_append_left _ (List.mem_of_getElem? (i := 198) rfl))) rfl
theorem bw_ml_X0_90 : .methodLink RX0 90 yX0_hasRoom ∈ wb := wb_mem (List.mem_append_right _ (List.mem_append_left _ (List.mem_of_getElem? (i := 199) rfl))) rfl
theorem bw_im_X0_hasRoom : .instanceMethod yX0_hasRoom ∈ wb := wb_mem (List.mem_append_right _ (List.mem_append_left _ (List.mem_of_getElem? (i := 201) rfl))) rfl
theorem bw_co_X0_hasRoom : .code yX0_hasRoom cX0_hasRoom 2 (some .boolean) ∈ wb := wb_mem (List.mem_append_right _ (List.mem_append_left _ (List.mem_of_getElem? (i := 202) rfl))) rfl
theorem bw_cl_X0_94 : .classLink RX0 94 "java/lang/IllegalStateException" ∈ wb := wb_mem (List.mem_append_right _ (List.mem_append_left _ (List.mem_of_getElem? (i := 203) rfl))) rfl
theorem bw_ia_java_lang_IllegalStateException : .instantiable "java/lang/IllegalStateException" 6 ∈ wb := wb_mem (List.mem_append_right _ (List.mem_append_left _ (List.mem_of_getElem? (i := 204) rfl))) rfl
theorem bw_ml_X0_98 : .methodLink RX0 98 ⟨"java/lang/IllegalStateException", "<init>", "(Ljava/lang/String;)V"⟩ ∈ wb := wb_mem (List.mem_append_right _ (List.mem_append_left _ (List.mem_of_getElem? (i := 213) rfl))) rfl
theorem bw_kl_X0_54 : .constantLong RX0 54 (-1) ∈ wb := wb_mem (List.mem_append_right _ (List.mem_append_left _ (List.mem_of_getElem? (i := 219) rfl))) rfl
theorem bw_ml_L_63 : .methodLink RL 63 yL_weak ∈ wb := wb_mem (List.mem_append_right _ (List.mem_append_left _ (List.mem_of_getElem? (i := 220) rfl))) rfl
theorem bw_st_L_weak : .static yL_weak ∈ wb := wb_mem (List.mem_append_right _ (List.mem_append_left _ (List.mem_of_getElem? (i := 221) rfl))) rfl
theorem bw_co_L_weak : .codeWith yL_weak cL_weak 5 (some .int) [(0, 10, 13, 13), (0, 10, 17, 15), (0, 10, 21, 21)] ∈ wb := wb_mem (List.mem_append_right _ (List.mem_append_left _ (List.mem_of_getElem? (i := 222) rfl))) rfl
theorem bw_cl_L_21 : .classLink RL 21 "java/util/NoSuchElementException" ∈ wb := wb_mem (List.mem_append_right _ (List.mem_append_left _ (List.mem_of_getElem? (i := 223) rfl))) rfl
theorem bw_ml_L_17 : .methodLink RL 17 yX0_weak ∈ wb := wb_mem (List.mem_append_right _ (List.mem_append_left _ (List.mem_of_getElem? (i := 224) rfl))) rfl
theorem bw_im_X0_weak : .instanceMethod yX0_weak ∈ wb := wb_mem (List.mem_append_right _ (List.mem_append_left _ (List.mem_of_getElem? (i := 225) rfl))) rfl
theorem bw_se_X0_weak : .selects RX0 yX0_weak yX0_weak ∈ wb := wb_mem (List.mem_append_right _ (List.mem_append_left _ (List.mem_of_getElem? (i := 226) rfl))) rfl
theorem bw_co_X0_weak : .code yX0_weak cX0_weak 4 (some .int) ∈ wb := wb_mem (List.mem_append_right _ (List.mem_append_left _ (List.mem_of_getElem? (i := 227) rfl))) rfl
theorem bw_ml_X0_56 : .methodLink RX0 56 yX0_checkNotNull ∈ wb := wb_mem (List.mem_append_right _ (List.mem_append_left _ (List.mem_of_getElem? (i := 228) rfl))) rfl
theorem bw_st_X0_checkNotNull : .static yX0_checkNotNull ∈ wb := wb_mem (List.mem_append_right _ (List.mem_append_left _ (List.mem_of_getElem? (i := 229) rfl))) rfl
theorem bw_co_X0_checkNotNull : .code yX0_checkNotNull cX0_checkNotNull 1 none ∈ wb := wb_mem (List.mem_append_right _ (List.mem_append_left _ (List.mem_of_getElem? (i := 230) rfl))) rfl
theorem bw_cl_X0_85 : .classLink RX0 85 "java/util/NoSuchElementException" ∈ wb := wb_mem (List.mem_append_right _ (List.mem_append_left _ (List.mem_of_getElem? (i := 231) rfl))) rfl
theorem bw_ia_java_util_NoSuchElementException : .instantiable "java/util/NoSuchElementException" 6 ∈ wb := wb_mem (List.mem_append_right _ (List.mem_append_left _ (List.mem_of_getElem? (i := 232) rfl))) rfl
theorem bw_ml_X0_89 : .methodLink RX0 89 ⟨"java/util/NoSuchElementException", "<init>", "(Ljava/lang/String;)V"⟩ ∈ wb := wb_mem (List.mem_append_right _ (List.mem_append_right _ (List.mem_of_getElem? (i := 1) rfl))) rfl
theorem bw_ml_L_67 : .methodLink RL 67 yL_copy ∈ wb := wb_mem (List.mem_append_right _ (List.mem_append_right _ (List.mem_of_getElem? (i := 7) rfl))) rfl
theorem bw_st_L_copy : .static yL_copy ∈ wb := wb_mem (List.mem_append_right _ (List.mem_append_right _ (List.mem_of_getElem? (i := 8) rfl))) rfl
theorem bw_co_L_copy : .codeWith yL_copy cL_copy 4 (some .int) [(0, 6, 9, 13)] ∈ wb := wb_mem (List.mem_append_right _ (List.mem_append_right _ (List.mem_of_getElem? (i := 9) rfl))) rfl
theorem bw_ml_L_23 : .methodLink RL 23 yX0_copy ∈ wb := wb_mem (List.mem_append_right _ (List.mem_append_right _ (List.mem_of_getElem? (i := 10) rfl))) rfl
theorem bw_im_X0_copy : .instanceMethod yX0_copy ∈ wb := wb_mem (List.mem_append_right _ (List.mem_append_right _ (List.mem_of_getElem? (i := 11) rfl))) rfl
theorem bw_se_X0_copy : .selects RX0 yX0_copy yX0_copy ∈ wb := wb_mem (List.mem_append_right _ (List.mem_append_right _ (List.mem_of_getElem? (i := 12) rfl))) rfl
theorem bw_co_X0_copy : .code yX0_copy cX0_copy 3 none ∈ wb := wb_mem (List.mem_append_right _ (List.mem_append_right _ (List.mem_of_getElem? (i := 13) rfl))) rfl
theorem bw_ml_L_71 : .methodLink RL 71 yL_drop ∈ wb := wb_mem (List.mem_append_right _ (List.mem_append_right _ (List.mem_of_getElem? (i := 14) rfl))) rfl
theorem bw_st_L_drop : .static yL_drop ∈ wb := wb_mem (List.mem_append_right _ (List.mem_append_right _ (List.mem_of_getElem? (i := 15) rfl))) rfl
theorem bw_co_L_drop : .codeWith yL_drop cL_drop 3 (some .int) [(0, 5, 8, 13)] ∈ wb := wb_mem (List.mem_append_right _ (List.mem_append_right _ (List.mem_of_getElem? (i := 16) rfl))) rfl
theorem bw_ml_L_27 : .methodLink RL 27 yX0_drop ∈ wb := wb_mem (List.mem_append_right _ (List.mem_append_right _ (List.mem_of_getElem? (i := 17) rfl))) rfl
theorem bw_im_X0_drop : .instanceMethod yX0_drop ∈ wb := wb_mem (List.mem_append_right _ (List.mem_append_right _ (List.mem_of_getElem? (i := 18) rfl))) rfl
theorem bw_se_X0_drop : .selects RX0 yX0_drop yX0_drop ∈ wb := wb_mem (List.mem_append_right _ (List.mem_append_right _ (List.mem_of_getElem? (i := 19) rfl))) rfl
theorem bw_co_X0_drop : .code yX0_drop cX0_drop 2 none ∈ wb := wb_mem (List.mem_append_right _ (List.mem_append_right _ (List.mem_of_getElem? (i := 20) rfl))) rfl
theorem bw_ml_L_75 : .methodLink RL 75 yL_link ∈ wb := wb_mem (List.mem_append_right _ (List.mem_append_right _ (List.mem_of_getElem? (i := 21) rfl))) rfl
theorem bw_st_L_link : .static yL_link ∈ wb := wb_mem (List.mem_append_right _ (List.mem_append_right _ (List.mem_of_getElem? (i := 22) rfl))) rfl
theorem bw_co_L_link : .codeWith yL_link cL_link 5 (some .int) [(0, 7, 10, 13), (0, 7, 14, 21)] ∈ wb := wb_mem (List.mem_append_right _ (List.mem_append_right _ (List.mem_of_getElem? (i := 23) rfl))) rfl
theorem bw_ml_L_31 : .methodLink RL 31 yX0_link ∈ wb := wb_mem (List.mem_append_right _ (List.mem_append_right _ (List.mem_of_getElem? (i := 24) rfl))) rfl
theorem bw_im_X0_link : .instanceMethod yX0_link ∈ wb := wb_mem (List.mem_append_right _ (List.mem_append_right _ (List.mem_of_getElem? (i := 25) rfl))) rfl
theorem bw_se_X0_link : .selects RX0 yX0_link yX0_link ∈ wb := wb_mem (List.mem_append_right _ (List.mem_append_right _ (List.mem_of_getElem? (i := 26) rfl))) rfl
theorem bw_co_X0_link : .code yX0_link cX0_link 5 none ∈ wb := wb_mem (List.mem_append_right _ (List.mem_append_right _ (List.mem_of_getElem? (i := 27) rfl))) rfl
theorem bw_ml_X0_63 : .methodLink RX0 63 yX0_checkKind ∈ wb := wb_mem (List.mem_append_right _ (List.mem_append_right _ (List.mem_of_getElem? (i := 28) rfl))) rfl
theorem bw_st_X0_checkKind : .static yX0_checkKind ∈ wb := wb_mem (List.mem_append_right _ (List.mem_append_right _ (List.mem_of_getElem? (i := 29) rfl))) rfl
theorem bw_co_X0_checkKind : .code yX0_checkKind cX0_checkKind 1 none ∈ wb := wb_mem (List.mem_append_right _ (List.mem_append_right _ (List.mem_of_getElem? (i := 30) rfl))) rfl
theorem bw_ml_L_79 : .methodLink RL 79 yL_follow ∈ wb := wb_mem (List.mem_append_right _ (List.mem_append_right _ (List.mem_of_getElem? (i := 32) rfl))) rfl
theorem bw_st_L_follow : .static yL_follow ∈ wb := wb_mem (List.mem_append_right _ (List.mem_append_right _ (List.mem_of_getElem? (i := 33) rfl))) rfl
theorem bw_co_L_follow : .codeWith yL_follow cL_follow 5 (some .int) [(0, 7, 10, 13), (0, 7, 14, 21)] ∈ wb := wb_mem (List.mem_append_right _ (List.mem_append_right _ (List.mem_of_getElem? (i := 34) rfl))) rfl
theorem bw_ml_L_35 : .methodLink RL 35 yX0_follow ∈ wb := wb_mem (List.mem_append_right _ (List.mem_append_right _ (List.mem_of_getElem? (i := 35) rfl))) rfl
theorem bw_im_X0_follow : .instanceMethod yX0_follow ∈ wb := wb_mem (List.mem_append_right _ (List.mem_append_right _ (List.mem_of_getElem? (i := 36) rfl))) rfl
theorem bw_se_X0_follow : .selects RX0 yX0_follow yX0_follow ∈ wb := wb_mem (List.mem_append_right _ (List.mem_append_right _ (List.mem_of_getElem? (i := 37) rfl))) rfl
theorem bw_co_X0_follow : .code yX0_follow cX0_follow 5 none ∈ wb := wb_mem (List.mem_append_right _ (List.mem_append_right _ (List.mem_of_getElem? (i := 38) rfl))) rfl
theorem bw_ml_L_84 : .methodLink RL 84 yL_put ∈ wb := wb_mem (List.mem_append_right _ (List.mem_append_right _ (List.mem_of_getElem? (i := 39) rfl))) rfl
theorem bw_st_L_put : .static yL_put ∈ wb := wb_mem (List.mem_append_right _ (List.mem_append_right _ (List.mem_of_getElem? (i := 40) rfl))) rfl
theorem bw_co_L_put : .codeWith yL_put cL_put 6 (some .int) [(0, 7, 10, 13), (0, 7, 14, 21)] ∈ wb := wb_mem (List.mem_append_right _ (List.mem_append_right _ (List.mem_of_getElem? (i := 41) rfl))) rfl
theorem bw_ml_L_38 : .methodLink RL 38 yX0_put ∈ wb := wb_mem (List.mem_append_right _ (List.mem_append_right _ (List.mem_of_getElem? (i := 42) rfl))) rfl
theorem bw_im_X0_put : .instanceMethod yX0_put ∈ wb := wb_mem (List.mem_append_right _ (List.mem_append_right _ (List.mem_of_getElem? (i := 43) rfl))) rfl
theorem bw_se_X0_put : .selects RX0 yX0_put yX0_put ∈ wb := wb_mem (List.mem_append_right _ (List.mem_append_right _ (List.mem_of_getElem? (i := 44) rfl))) rfl
theorem bw_co_X0_put : .code yX0_put cX0_put 5 none ∈ wb := wb_mem (List.mem_append_right _ (List.mem_append_right _ (List.mem_of_getElem? (i := 45) rfl))) rfl
theorem bw_ml_X0_70 : .methodLink RX0 70 yX0_numberCell ∈ wb := wb_mem (List.mem_append_right _ (List.mem_append_right _ (List.mem_of_getElem? (i := 46) rfl))) rfl
theorem bw_im_X0_numberCell : .instanceMethod yX0_numberCell ∈ wb := wb_mem (List.mem_append_right _ (List.mem_append_right _ (List.mem_of_getElem? (i := 48) rfl))) rfl
theorem bw_co_X0_numberCell : .code yX0_numberCell cX0_numberCell 4 (some .int) ∈ wb := wb_mem (List.mem_append_right _ (List.mem_append_right _ (List.mem_of_getElem? (i := 49) rfl))) rfl
theorem bw_ml_L_88 : .methodLink RL 88 yL_get ∈ wb := wb_mem (List.mem_append_right _ (List.mem_append_right _ (List.mem_of_getElem? (i := 50) rfl))) rfl
theorem bw_st_L_get : .static yL_get ∈ wb := wb_mem (List.mem_append_right _ (List.mem_append_right _ (List.mem_of_getElem? (i := 51) rfl))) rfl
theorem bw_co_L_get : .codeWith yL_get cL_get 5 (some .int) [(0, 9, 12, 13), (0, 9, 16, 21)] ∈ wb := wb_mem (List.mem_append_right _ (List.mem_append_right _ (List.mem_of_getElem? (i := 52) rfl))) rfl
theorem bw_ml_L_42 : .methodLink RL 42 yX0_get ∈ wb := wb_mem (List.mem_append_right _ (List.mem_append_right _ (List.mem_of_getElem? (i := 53) rfl))) rfl
theorem bw_im_X0_get : .instanceMethod yX0_get ∈ wb := wb_mem (List.mem_append_right _ (List.mem_append_right _ (List.mem_of_getElem? (i := 54) rfl))) rfl
theorem bw_se_X0_get : .selects RX0 yX0_get yX0_get ∈ wb := wb_mem (List.mem_append_right _ (List.mem_append_right _ (List.mem_of_getElem? (i := 55) rfl))) rfl
theorem bw_co_X0_get : .code yX0_get cX0_get 3 (some .long) ∈ wb := wb_mem (List.mem_append_right _ (List.mem_append_right _ (List.mem_of_getElem? (i := 56) rfl))) rfl
theorem bw_ml_L_95 : .methodLink RL 95 yL_state ∈ wb := wb_mem (List.mem_append_right _ (List.mem_append_right _ (List.mem_of_getElem? (i := 57) rfl))) rfl
theorem bw_st_L_state : .static yL_state ∈ wb := wb_mem (List.mem_append_right _ (List.mem_append_right _ (List.mem_of_getElem? (i := 58) rfl))) rfl
theorem bw_co_L_state : .codeWith yL_state cL_state 5 (some .int) [(0, 10, 13, 13)] ∈ wb := wb_mem (List.mem_append_right _ (List.mem_append_right _ (List.mem_of_getElem? (i := 59) rfl))) rfl
theorem bw_ml_L_46 : .methodLink RL 46 yX0_state ∈ wb := wb_mem (List.mem_append_right _ (List.mem_append_right _ (List.mem_of_getElem? (i := 60) rfl))) rfl
theorem bw_im_X0_state : .instanceMethod yX0_state ∈ wb := wb_mem (List.mem_append_right _ (List.mem_append_right _ (List.mem_of_getElem? (i := 61) rfl))) rfl
theorem bw_se_X0_state : .selects RX0 yX0_state yX0_state ∈ wb := wb_mem (List.mem_append_right _ (List.mem_append_right _ (List.mem_of_getElem? (i := 62) rfl))) rfl
theorem bw_co_X0_state : .code yX0_state cX0_state 4 (some .int) ∈ wb := wb_mem (List.mem_append_right _ (List.mem_append_right _ (List.mem_of_getElem? (i := 63) rfl))) rfl
theorem bw_cl_L_50 : .classLink RL 50 RX1 ∈ wb := wb_mem (List.mem_append_right _ (List.mem_append_right _ (List.mem_of_getElem? (i := 64) rfl))) rfl
theorem bw_ia_HeapPressModel : .instantiable RX1 12 ∈ wb := wb_mem (List.mem_append_right _ (List.mem_append_right _ (List.mem_of_getElem? (i := 65) rfl))) rfl
theorem bw_ml_L_52 : .methodLink RL 52 yX1_init ∈ wb := wb_mem (List.mem_append_right _ (List.mem_append_right _ (List.mem_of_getElem? (i := 66) rfl))) rfl
theorem bw_im_X1_init : .instanceMethod yX1_init ∈ wb := wb_mem (List.mem_append_right _ (List.mem_append_right _ (List.mem_of_getElem? (i := 67) rfl))) rfl
theorem bw_co_X1_init : .code yX1_init cX1_init 1 none ∈ wb := wb_mem (List.mem_append_right _ (List.mem_append_right _ (List.mem_of_getElem? (i := 68) rfl))) rfl
theorem bw_ml_X1_1 : .methodLink RX1 1 objectInit ∈ wb := wb_mem (List.mem_append_right _ (List.mem_append_right _ (List.mem_of_getElem? (i := 69) rfl))) rfl
theorem bw_fl_X1_36 : .fieldLink RX1 36 "HeapPressModel" "thrown" "I" ∈ wb := wb_mem (List.mem_append_right _ (List.mem_append_right _ (List.mem_of_getElem? (i := 70) rfl))) rfl
theorem bw_fl_X1_7 : .fieldLink RX1 7 "HeapPressModel" "kind" "[I" ∈ wb := wb_mem (List.mem_append_right _ (List.mem_append_right _ (List.mem_of_getElem? (i := 71) rfl))) rfl
theorem bw_fl_X1_13 : .fieldLink RX1 13 "HeapPressModel" "size" "[I" ∈ wb := wb_mem (List.mem_append_right _ (List.mem_append_right _ (List.mem_of_getElem? (i := 72) rfl))) rfl
theorem bw_fl_X1_16 : .fieldLink RX1 16 "HeapPressModel" "order" "[I" ∈ wb := wb_mem (List.mem_append_right _ (List.mem_append_right _ (List.mem_of_getElem? (i := 73) rfl))) rfl
theorem bw_fl_X1_19 : .fieldLink RX1 19 "HeapPressModel" "link" "[I" ∈ wb := wb_mem (List.mem_append_right _ (List.mem_append_right _ (List.mem_of_getElem? (i := 74) rfl))) rfl
theorem bw_fl_X1_22 : .fieldLink RX1 22 "HeapPressModel" "number" "[J" ∈ wb := wb_mem (List.mem_append_right _ (List.mem_append_right _ (List.mem_of_getElem? (i := 75) rfl))) rfl
theorem bw_fl_X1_26 : .fieldLink RX1 26 "HeapPressModel" "reached" "[Z" ∈ wb := wb_mem (List.mem_append_right _ (List.mem_append_right _ (List.mem_of_getElem? (i := 76) rfl))) rfl
theorem bw_fl_X1_30 : .fieldLink RX1 30 "HeapPressModel" "register" "[I" ∈ wb := wb_mem (List.mem_append_right _ (List.mem_append_right _ (List.mem_of_getElem? (i := 77) rfl))) rfl
theorem bw_fl_X1_33 : .fieldLink RX1 33 "HeapPressModel" "todo" "[I" ∈ wb := wb_mem (List.mem_append_right _ (List.mem_append_right _ (List.mem_of_getElem? (i := 78) rfl))) rfl
theorem bw_fl_X1_40 : .fieldLink RX1 40 "HeapPressModel" "objects" "I" ∈ wb := wb_mem (List.mem_append_right _ (List.mem_append_right _ (List.mem_of_getElem? (i := 79) rfl))) rfl
theorem bw_fl_X1_50 : .fieldLink RX1 50 "HeapPressModel" "collected" "I" ∈ wb := wb_mem (List.mem_append_right _ (List.mem_append_right _ (List.mem_of_getElem? (i := 80) rfl))) rfl
theorem bw_fl_X1_47 : .fieldLink RX1 47 "HeapPressModel" "tops" "I" ∈ wb := wb_mem (List.mem_append_right _ (List.mem_append_right _ (List.mem_of_getElem? (i := 81) rfl))) rfl
theorem bw_ly_X1_thrown : .lays RX1 "HeapPressModel" "thrown" "I" ∈ wb := wb_mem (List.mem_append_right _ (List.mem_append_right _ (List.mem_of_getElem? (i := 82) rfl))) rfl
theorem bw_ly_X1_kind : .laysFinal RX1 "HeapPressModel" "kind" "[I" ∈ wb := wb_mem (List.mem_append_right _ (List.mem_append_right _ (List.mem_of_getElem? (i := 84) rfl))) rfl
theorem bw_ly_X1_size : .laysFinal RX1 "HeapPressModel" "size" "[I" ∈ wb := wb_mem (List.mem_append_right _ (List.mem_append_right _ (List.mem_of_getElem? (i := 86) rfl))) rfl
theorem bw_ly_X1_order : .laysFinal RX1 "HeapPressModel" "order" "[I" ∈ wb := wb_mem (List.mem_append_right _ (List.mem_append_right _ (List.mem_of_getElem? (i := 88) rfl))) rfl
theorem bw_ly_X1_link : .laysFinal RX1 "HeapPressModel" "link" "[I" ∈ wb := wb_mem (List.mem_append_right _ (List.mem_append_right _ (List.mem_of_getElem? (i := 90) rfl))) rfl
theorem bw_ly_X1_number : .laysFinal RX1 "HeapPressModel" "number" "[J" ∈ wb := wb_mem (List.mem_append_right _ (List.mem_append_right _ (List.mem_of_getElem? (i := 92) rfl))) rfl
theorem bw_ly_X1_reached : .laysFinal RX1 "HeapPressModel" "reached" "[Z" ∈ wb := wb_mem (List.mem_append_right _ (List.mem_append_right _ (List.mem_of_getElem? (i := 94) rfl))) rfl
theorem bw_ly_X1_register : .laysFinal RX1 "HeapPressModel" "register" "[I" ∈ wb := wb_mem (List.mem_append_right _ (List.mem_append_right _ (List.mem_of_getElem? (i := 96) rfl))) rfl
theorem bw_ly_X1_todo : .laysFinal RX1 "HeapPressModel" "todo" "[I" ∈ wb := wb_mem (List.mem_append_right _ (List.mem_append_right _ (List.mem_of_getElem? (i := 98) rfl))) rfl
theorem bw_ly_X1_objects : .lays RX1 "HeapPressModel" "objects" "I" ∈ wb := wb_mem (List.mem_append_right _ (List.mem_append_right _ (List.mem_of_getElem? (i := 100) rfl))) rfl
theorem bw_ly_X1_collected : .lays RX1 "HeapPressModel" "collected" "I" ∈ wb := wb_mem (List.mem_append_right _ (List.mem_append_right _ (List.mem_of_getElem? (i := 102) rfl))) rfl
theorem bw_ly_X1_tops : .lays RX1 "HeapPressModel" "tops" "I" ∈ wb := wb_mem (List.mem_append_right _ (List.mem_append_right _ (List.mem_of_getElem? (i := 104) rfl))) rfl
theorem bw_ac_boolean : .arrayClass .boolean ∈ wb := wb_mem (List.mem_append_right _ (List.mem_append_right _ (List.mem_of_getElem? (i := 107) rfl))) rfl
theorem bw_ml_L_59 : .methodLink RL 59 yX1_thrown ∈ wb := wb_mem (List.mem_append_right _ (List.mem_append_right _ (List.mem_of_getElem? (i := 108) rfl))) rfl
theorem bw_im_X1_thrown : .instanceMethod yX1_thrown ∈ wb := wb_mem (List.mem_append_right _ (List.mem_append_right _ (List.mem_of_getElem? (i := 109) rfl))) rfl
theorem bw_se_X1_thrown : .selects RX1 yX1_thrown yX1_thrown ∈ wb := wb_mem (List.mem_append_right _ (List.mem_append_right _ (List.mem_of_getElem? (i := 110) rfl))) rfl
theorem bw_co_X1_thrown : .code yX1_thrown cX1_thrown 1 (some .int) ∈ wb := wb_mem (List.mem_append_right _ (List.mem_append_right _ (List.mem_of_getElem? (i := 111) rfl))) rfl
theorem bw_ml_L_94 : .methodLink RL 94 yX1_collect ∈ wb := wb_mem (List.mem_append_right _ (List.mem_append_right _ (List.mem_of_getElem? (i := 112) rfl))) rfl
theorem bw_im_X1_collect : .instanceMethod yX1_collect ∈ wb := wb_mem (List.mem_append_right _ (List.mem_append_right _ (List.mem_of_getElem? (i := 113) rfl))) rfl
theorem bw_se_X1_collect : .selects RX1 yX1_collect yX1_collect ∈ wb := wb_mem (List.mem_append_right _ (List.mem_append_right _ (List.mem_of_getElem? (i := 114) rfl))) rfl
theorem bw_co_X1_collect : .code yX1_collect cX1_collect 5 (some .int) ∈ wb := wb_mem (List.mem_append_right _ (List.mem_append_right _ (List.mem_of_getElem? (i := 115) rfl))) rfl
theorem bw_ml_X1_53 : .methodLink RX1 53 yX1_reach ∈ wb := wb_mem (List.mem_append_right _ (List.mem_append_right _ (List.mem_of_getElem? (i := 116) rfl))) rfl
theorem bw_im_X1_reach : .instanceMethod yX1_reach ∈ wb := wb_mem (List.mem_append_right _ (List.mem_append_right _ (List.mem_of_getElem? (i := 118) rfl))) rfl
theorem bw_co_X1_reach : .code yX1_reach cX1_reach 2 none ∈ wb := wb_mem (List.mem_append_right _ (List.mem_append_right _ (List.mem_of_getElem? (i := 119) rfl))) rfl
theorem bw_ml_L_58 : .methodLink RL 58 yX1_make ∈ wb := wb_mem (List.mem_append_right _ (List.mem_append_right _ (List.mem_of_getElem? (i := 120) rfl))) rfl
theorem bw_im_X1_make : .instanceMethod yX1_make ∈ wb := wb_mem (List.mem_append_right _ (List.mem_append_right _ (List.mem_of_getElem? (i := 121) rfl))) rfl
theorem bw_se_X1_make : .selects RX1 yX1_make yX1_make ∈ wb := wb_mem (List.mem_append_right _ (List.mem_append_right _ (List.mem_of_getElem? (i := 122) rfl))) rfl
theorem bw_co_X1_make : .code yX1_make cX1_make 5 (some .int) ∈ wb := wb_mem (List.mem_append_right _ (List.mem_append_right _ (List.mem_of_getElem? (i := 123) rfl))) rfl
theorem bw_ml_X1_64 : .methodLink RX1 64 yX1_isRegister ∈ wb := wb_mem (List.mem_append_right _ (List.mem_append_right _ (List.mem_of_getElem? (i := 124) rfl))) rfl
theorem bw_im_X1_isRegister : .instanceMethod yX1_isRegister ∈ wb := wb_mem (List.mem_append_right _ (List.mem_append_right _ (List.mem_of_getElem? (i := 126) rfl))) rfl
theorem bw_co_X1_isRegister : .code yX1_isRegister cX1_isRegister 2 (some .boolean) ∈ wb := wb_mem (List.mem_append_right _ (List.mem_append_right _ (List.mem_of_getElem? (i := 127) rfl))) rfl
theorem bw_ml_X1_68 : .methodLink RX1 68 yX1_made ∈ wb := wb_mem (List.mem_append_right _ (List.mem_append_right _ (List.mem_of_getElem? (i := 128) rfl))) rfl
theorem bw_im_X1_made : .instanceMethod yX1_made ∈ wb := wb_mem (List.mem_append_right _ (List.mem_append_right _ (List.mem_of_getElem? (i := 130) rfl))) rfl
theorem bw_co_X1_made : .code yX1_made cX1_made 6 (some .int) ∈ wb := wb_mem (List.mem_append_right _ (List.mem_append_right _ (List.mem_of_getElem? (i := 131) rfl))) rfl
theorem bw_ml_X1_57 : .methodLink RX1 57 yX1_cells ∈ wb := wb_mem (List.mem_append_right _ (List.mem_append_right _ (List.mem_of_getElem? (i := 132) rfl))) rfl
theorem bw_im_X1_cells : .instanceMethod yX1_cells ∈ wb := wb_mem (List.mem_append_right _ (List.mem_append_right _ (List.mem_of_getElem? (i := 134) rfl))) rfl
theorem bw_co_X1_cells : .code yX1_cells cX1_cells 3 (some .int) ∈ wb := wb_mem (List.mem_append_right _ (List.mem_append_right _ (List.mem_of_getElem? (i := 135) rfl))) rfl
theorem bw_ml_X1_43 : .methodLink RX1 43 yX1_cellsOf ∈ wb := wb_mem (List.mem_append_right _ (List.mem_append_right _ (List.mem_of_getElem? (i := 136) rfl))) rfl
theorem bw_im_X1_cellsOf : .instanceMethod yX1_cellsOf ∈ wb := wb_mem (List.mem_append_right _ (List.mem_append_right _ (List.mem_of_getElem? (i := 138) rfl))) rfl
theorem bw_co_X1_cellsOf : .code yX1_cellsOf cX1_cellsOf 2 (some .int) ∈ wb := wb_mem (List.mem_append_right _ (List.mem_append_right _ (List.mem_of_getElem? (i := 139) rfl))) rfl
theorem bw_ml_X1_61 : .methodLink RX1 61 yX1_collect ∈ wb := wb_mem (List.mem_append_right _ (List.mem_append_right _ (List.mem_of_getElem? (i := 140) rfl))) rfl
theorem bw_ml_X1_72 : .methodLink RX1 72 yX1_placeOf ∈ wb := wb_mem (List.mem_append_right _ (List.mem_append_right _ (List.mem_of_getElem? (i := 141) rfl))) rfl
theorem bw_im_X1_placeOf : .instanceMethod yX1_placeOf ∈ wb := wb_mem (List.mem_append_right _ (List.mem_append_right _ (List.mem_of_getElem? (i := 143) rfl))) rfl
theorem bw_co_X1_placeOf : .code yX1_placeOf cX1_placeOf 4 (some .int) ∈ wb := wb_mem (List.mem_append_right _ (List.mem_append_right _ (List.mem_of_getElem? (i := 144) rfl))) rfl
theorem bw_ml_L_66 : .methodLink RL 66 yX1_weak ∈ wb := wb_mem (List.mem_append_right _ (List.mem_append_right _ (List.mem_of_getElem? (i := 145) rfl))) rfl
theorem bw_im_X1_weak : .instanceMethod yX1_weak ∈ wb := wb_mem (List.mem_append_right _ (List.mem_append_right _ (List.mem_of_getElem? (i := 146) rfl))) rfl
theorem bw_se_X1_weak : .selects RX1 yX1_weak yX1_weak ∈ wb := wb_mem (List.mem_append_right _ (List.mem_append_right _ (List.mem_of_getElem? (i := 147) rfl))) rfl
theorem bw_co_X1_weak : .code yX1_weak cX1_weak 4 (some .int) ∈ wb := wb_mem (List.mem_append_right _ (List.mem_append_right _ (List.mem_of_getElem? (i := 148) rfl))) rfl
theorem bw_ml_L_70 : .methodLink RL 70 yX1_copy ∈ wb := wb_mem (List.mem_append_right _ (List.mem_append_right _ (List.mem_of_getElem? (i := 149) rfl))) rfl
theorem bw_im_X1_copy : .instanceMethod yX1_copy ∈ wb := wb_mem (List.mem_append_right _ (List.mem_append_right _ (List.mem_of_getElem? (i := 150) rfl))) rfl
theorem bw_se_X1_copy : .selects RX1 yX1_copy yX1_copy ∈ wb := wb_mem (List.mem_append_right _ (List.mem_append_right _ (List.mem_of_getElem? (i := 151) rfl))) rfl
theorem bw_co_X1_copy : .code yX1_copy cX1_copy 3 none ∈ wb := wb_mem (List.mem_append_right _ (List.mem_append_right _ (List.mem_of_getElem? (i := 152) rfl))) rfl
theorem bw_ml_L_74 : .methodLink RL 74 yX1_drop ∈ wb := wb_mem (List.mem_append_right _ (List.mem_append_right _ (List.mem_of_getElem? (i := 153) rfl))) rfl
theorem bw_im_X1_drop : .instanceMethod yX1_drop ∈ wb := wb_mem (List.mem_append_right _ (List.mem_append_right _ (List.mem_of_getElem? (i := 154) rfl))) rfl
theorem bw_se_X1_drop : .selects RX1 yX1_drop yX1_drop ∈ wb := wb_mem (List.mem_append_right _ (List.mem_append_right _ (List.mem_of_getElem? (i := 155) rfl))) rfl
theorem bw_co_X1_drop : .code yX1_drop cX1_drop 2 none ∈ wb := wb_mem (List.mem_append_right _ (List.mem_append_right _ (List.mem_of_getElem? (i := 156) rfl))) rfl
theorem bw_ml_L_78 : .methodLink RL 78 yX1_link ∈ wb := wb_mem (List.mem_append_right _ (List.mem_append_right _ (List.mem_of_getElem? (i := 157) rfl))) rfl
theorem bw_im_X1_link : .instanceMethod yX1_link ∈ wb := wb_mem (List.mem_append_right _ (List.mem_append_right _ (List.mem_of_getElem? (i := 158) rfl))) rfl
theorem bw_se_X1_link : .selects RX1 yX1_link yX1_link ∈ wb := wb_mem (List.mem_append_right _ (List.mem_append_right _ (List.mem_of_getElem? (i := 159) rfl))) rfl
theorem bw_co_X1_link : .code yX1_link cX1_link 4 none ∈ wb := wb_mem (List.mem_append_right _ (List.mem_append_right _ (List.mem_of_getElem? (i := 160) rfl))) rfl
theorem bw_ml_X1_75 : .methodLink RX1 75 yX1_isWrong ∈ wb := wb_mem (List.mem_append_right _ (List.mem_append_right _ (List.mem_of_getElem? (i := 161) rfl))) rfl
theorem bw_im_X1_isWrong : .instanceMethod yX1_isWrong ∈ wb := wb_mem (List.mem_append_right _ (List.mem_append_right _ (List.mem_of_getElem? (i := 163) rfl))) rfl
theorem bw_co_X1_isWrong : .code yX1_isWrong cX1_isWrong 4 (some .boolean) ∈ wb := wb_mem (List.mem_append_right _ (List.mem_append_right _ (List.mem_of_getElem? (i := 164) rfl))) rfl
theorem bw_ml_L_81 : .methodLink RL 81 yX1_follow ∈ wb := wb_mem (List.mem_append_right _ (List.mem_append_right _ (List.mem_of_getElem? (i := 165) rfl))) rfl
theorem bw_im_X1_follow : .instanceMethod yX1_follow ∈ wb := wb_mem (List.mem_append_right _ (List.mem_append_right _ (List.mem_of_getElem? (i := 166) rfl))) rfl
theorem bw_se_X1_follow : .selects RX1 yX1_follow yX1_follow ∈ wb := wb_mem (List.mem_append_right _ (List.mem_append_right _ (List.mem_of_getElem? (i := 167) rfl))) rfl
theorem bw_co_X1_follow : .code yX1_follow cX1_follow 4 none ∈ wb := wb_mem (List.mem_append_right _ (List.mem_append_right _ (List.mem_of_getElem? (i := 168) rfl))) rfl
theorem bw_ml_L_87 : .methodLink RL 87 yX1_put ∈ wb := wb_mem (List.mem_append_right _ (List.mem_append_right _ (List.mem_of_getElem? (i := 169) rfl))) rfl
theorem bw_im_X1_put : .instanceMethod yX1_put ∈ wb := wb_mem (List.mem_append_right _ (List.mem_append_right _ (List.mem_of_getElem? (i := 170) rfl))) rfl
theorem bw_se_X1_put : .selects RX1 yX1_put yX1_put ∈ wb := wb_mem (List.mem_append_right _ (List.mem_append_right _ (List.mem_of_getElem? (i := 171) rfl))) rfl
theorem bw_co_X1_put : .code yX1_put cX1_put 5 none ∈ wb := wb_mem (List.mem_append_right _ (List.mem_append_right _ (List.mem_of_getElem? (i := 172) rfl))) rfl
theorem bw_ml_X1_79 : .methodLink RX1 79 yX1_fails ∈ wb := wb_mem (List.mem_append_right _ (List.mem_append_right _ (List.mem_of_getElem? (i := 173) rfl))) rfl
theorem bw_im_X1_fails : .instanceMethod yX1_fails ∈ wb := wb_mem (List.mem_append_right _ (List.mem_append_right _ (List.mem_of_getElem? (i := 175) rfl))) rfl
theorem bw_co_X1_fails : .code yX1_fails cX1_fails 3 (some .boolean) ∈ wb := wb_mem (List.mem_append_right _ (List.mem_append_right _ (List.mem_of_getElem? (i := 176) rfl))) rfl
theorem bw_ml_L_90 : .methodLink RL 90 yX1_get ∈ wb := wb_mem (List.mem_append_right _ (List.mem_append_right _ (List.mem_of_getElem? (i := 177) rfl))) rfl
theorem bw_im_X1_get : .instanceMethod yX1_get ∈ wb := wb_mem (List.mem_append_right _ (List.mem_append_right _ (List.mem_of_getElem? (i := 178) rfl))) rfl
theorem bw_se_X1_get : .selects RX1 yX1_get yX1_get ∈ wb := wb_mem (List.mem_append_right _ (List.mem_append_right _ (List.mem_of_getElem? (i := 179) rfl))) rfl
theorem bw_co_X1_get : .code yX1_get cX1_get 3 (some .long) ∈ wb := wb_mem (List.mem_append_right _ (List.mem_append_right _ (List.mem_of_getElem? (i := 180) rfl))) rfl
theorem bw_ml_L_97 : .methodLink RL 97 yX1_state ∈ wb := wb_mem (List.mem_append_right _ (List.mem_append_right _ (List.mem_of_getElem? (i := 181) rfl))) rfl
theorem bw_im_X1_state : .instanceMethod yX1_state ∈ wb := wb_mem (List.mem_append_right _ (List.mem_append_right _ (List.mem_of_getElem? (i := 182) rfl))) rfl
theorem bw_se_X1_state : .selects RX1 yX1_state yX1_state ∈ wb := wb_mem (List.mem_append_right _ (List.mem_append_right _ (List.mem_of_getElem? (i := 183) rfl))) rfl
theorem bw_co_X1_state : .code yX1_state cX1_state 4 (some .int) ∈ wb := wb_mem (List.mem_append_right _ (List.mem_append_right _ (List.mem_of_getElem? (i := 184) rfl))) rfl
theorem bw_ml_L_102 : .methodLink RL 102 yX1_count ∈ wb := wb_mem (List.mem_append_right _ (List.mem_append_right _ (List.mem_of_getElem? (i := 185) rfl))) rfl
theorem bw_im_X1_count : .instanceMethod yX1_count ∈ wb := wb_mem (List.mem_append_right _ (List.mem_append_right _ (List.mem_of_getElem? (i := 186) rfl))) rfl
theorem bw_se_X1_count : .selects RX1 yX1_count yX1_count ∈ wb := wb_mem (List.mem_append_right _ (List.mem_append_right _ (List.mem_of_getElem? (i := 187) rfl))) rfl
theorem bw_co_X1_count : .code yX1_count cX1_count 2 (some .int) ∈ wb := wb_mem (List.mem_append_right _ (List.mem_append_right _ (List.mem_of_getElem? (i := 188) rfl))) rfl
theorem bw_kl_L_82 : .constantLong RL 82 (4294967295) ∈ wb := wb_mem (List.mem_append_right _ (List.mem_append_right _ (List.mem_of_getElem? (i := 189) rfl))) rfl
theorem inX0 : ∀ w ∈ u_ws RX0 TX0 8, w ∈ wb := List.forall_mem_cons.mpr ⟨bw_ly_X0_cells, List.forall_mem_cons.mpr ⟨bw_ly_X0_registers, List.forall_mem_cons.mpr ⟨bw_ly_X0_taken, List.forall_mem_cons.mpr ⟨bw_ly_X0_objects, List.forall_mem_cons.mpr ⟨bw_ly_X0_collections, List.forall_mem_cons.mpr ⟨bw_ly_X0_reached, List.forall_mem_cons.mpr ⟨bw_ly_X0_reachedCount, List.forall_mem_cons.mpr ⟨bw_ly_X0_newPlaces, fun _ h => absurd h List.not_mem_nil⟩⟩⟩⟩⟩⟩⟩⟩
theorem inX1 : ∀ w ∈ u_ws RX1 TX1 12, w ∈ wb := List.forall_mem_cons.mpr ⟨bw_ly_X1_thrown, List.forall_mem_cons.mpr ⟨bw_ly_X1_kind, List.forall_mem_cons.mpr ⟨bw_ly_X1_size, List.forall_mem_cons.mpr ⟨bw_ly_X1_order, List.forall_mem_cons.mpr ⟨bw_ly_X1_link, List.forall_mem_cons.mpr ⟨bw_ly_X1_number, List.forall_mem_cons.mpr ⟨bw_ly_X1_reached, List.forall_mem_cons.mpr ⟨bw_ly_X1_register, List.forall_mem_cons.mpr ⟨bw_ly_X1_todo, List.forall_mem_cons.mpr ⟨bw_ly_X1_objects, List.forall_mem_cons.mpr ⟨bw_ly_X1_collected, List.forall_mem_cons.mpr ⟨bw_ly_X1_tops, fun _ h => absurd h List.not_mem_nil⟩⟩⟩⟩⟩⟩⟩⟩⟩⟩⟩⟩
abbrev wsX0_init : List Cond := .code yX0_init cX0_init 1 none :: wb
abbrev wsX0_make : List Cond := .code yX0_make cX0_make 8 (some .int) :: wb
abbrev wsX0_weak : List Cond := .code yX0_weak cX0_weak 4 (some .int) :: wb
abbrev wsX0_copy : List Cond := .code yX0_copy cX0_copy 3 none :: wb
abbrev wsX0_drop : List Cond := .code yX0_drop cX0_drop 2 none :: wb
abbrev wsX0_link : List Cond := .code yX0_link cX0_link 5 none :: wb
abbrev wsX0_follow : List Cond := .code yX0_follow cX0_follow 5 none :: wb
abbrev wsX0_put : List Cond := .code yX0_put cX0_put 5 none :: wb
abbrev wsX0_get : List Cond := .code yX0_get cX0_get 3 (some .long) :: wb
abbrev wsX0_collect : List Cond := .code yX0_collect cX0_collect 2 (some .int) :: wb
abbrev wsX0_state : List Cond := .code yX0_state cX0_state 4 (some .int) :: wb
abbrev wsX0_count : List Cond := .code yX0_count cX0_count 2 (some .int) :: wb
abbrev wsX0_checkRegister : List Cond := .code yX0_checkRegister cX0_checkRegister 1 none :: wb
abbrev wsX0_checkBelow : List Cond := .code yX0_checkBelow cX0_checkBelow 2 none :: wb
abbrev wsX0_checkKind : List Cond := .code yX0_checkKind cX0_checkKind 1 none :: wb
abbrev wsX0_checkNotNull : List Cond := .code yX0_checkNotNull cX0_checkNotNull 1 none :: wb
abbrev wsX0_numberCell : List Cond := .code yX0_numberCell cX0_numberCell 4 (some .int) :: wb
abbrev wsX0_kindAt : List Cond := .code yX0_kindAt cX0_kindAt 2 (some .int) :: wb
abbrev wsX0_lengthAt : List Cond := .code yX0_lengthAt cX0_lengthAt 2 (some .int) :: wb
abbrev wsX0_sizeAt : List Cond := .code yX0_sizeAt cX0_sizeAt 2 (some .int) :: wb
abbrev wsX0_takeCells : List Cond := .code yX0_takeCells cX0_takeCells 4 (some .int) :: wb
abbrev wsX0_hasRoom : List Cond := .code yX0_hasRoom cX0_hasRoom 2 (some .boolean) :: wb
abbrev wsX0_pressTogether : List Cond := .code yX0_pressTogether cX0_pressTogether 2 none :: wb
abbrev wsX0_findReached : List Cond := .code yX0_findReached cX0_findReached 2 none :: wb
abbrev wsX0_noteContents : List Cond := .code yX0_noteContents cX0_noteContents 4 none :: wb
abbrev wsX0_noteReached : List Cond := .code yX0_noteReached cX0_noteReached 2 none :: wb
abbrev wsX0_planNewPlaces : List Cond := .code yX0_planNewPlaces cX0_planNewPlaces 5 (some .int) :: wb
abbrev wsX0_redirectRegisters : List Cond := .code yX0_redirectRegisters cX0_redirectRegisters 2 none :: wb
abbrev wsX0_redirectContents : List Cond := .code yX0_redirectContents cX0_redirectContents 3 none :: wb
abbrev wsX0_redirectContentsAt : List Cond := .code yX0_redirectContentsAt cX0_redirectContentsAt 4 none :: wb
abbrev wsX0_newPlaceOf : List Cond := .code yX0_newPlaceOf cX0_newPlaceOf 2 (some .int) :: wb
abbrev wsX0_moveDown : List Cond := .code yX0_moveDown cX0_moveDown 4 none :: wb
abbrev wsX1_init : List Cond := .code yX1_init cX1_init 1 none :: wb
abbrev wsX1_thrown : List Cond := .code yX1_thrown cX1_thrown 1 (some .int) :: wb
abbrev wsX1_isRegister : List Cond := .code yX1_isRegister cX1_isRegister 2 (some .boolean) :: wb
abbrev wsX1_cellsOf : List Cond := .code yX1_cellsOf cX1_cellsOf 2 (some .int) :: wb
abbrev wsX1_cells : List Cond := .code yX1_cells cX1_cells 3 (some .int) :: wb
abbrev wsX1_placeOf : List Cond := .code yX1_placeOf cX1_placeOf 4 (some .int) :: wb
abbrev wsX1_reach : List Cond := .code yX1_reach cX1_reach 2 none :: wb
abbrev wsX1_collect : List Cond := .code yX1_collect cX1_collect 5 (some .int) :: wb
abbrev wsX1_made : List Cond := .code yX1_made cX1_made 6 (some .int) :: wb
abbrev wsX1_make : List Cond := .code yX1_make cX1_make 5 (some .int) :: wb
abbrev wsX1_weak : List Cond := .code yX1_weak cX1_weak 4 (some .int) :: wb
abbrev wsX1_copy : List Cond := .code yX1_copy cX1_copy 3 none :: wb
abbrev wsX1_drop : List Cond := .code yX1_drop cX1_drop 2 none :: wb
abbrev wsX1_isWrong : List Cond := .code yX1_isWrong cX1_isWrong 4 (some .boolean) :: wb
abbrev wsX1_link : List Cond := .code yX1_link cX1_link 4 none :: wb
abbrev wsX1_follow : List Cond := .code yX1_follow cX1_follow 4 none :: wb
abbrev wsX1_fails : List Cond := .code yX1_fails cX1_fails 3 (some .boolean) :: wb
abbrev wsX1_put : List Cond := .code yX1_put cX1_put 5 none :: wb
abbrev wsX1_get : List Cond := .code yX1_get cX1_get 3 (some .long) :: wb
abbrev wsX1_state : List Cond := .code yX1_state cX1_state 4 (some .int) :: wb
abbrev wsX1_count : List Cond := .code yX1_count cX1_count 2 (some .int) :: wb
abbrev wsL_make : List Cond := .codeWith yL_make cL_make 6 (some .int) [(0, 12, 15, 13), (0, 12, 19, 15)] :: wb
abbrev wsL_weak : List Cond := .codeWith yL_weak cL_weak 5 (some .int) [(0, 10, 13, 13), (0, 10, 17, 15), (0, 10, 21, 21)] :: wb
abbrev wsL_copy : List Cond := .codeWith yL_copy cL_copy 4 (some .int) [(0, 6, 9, 13)] :: wb
abbrev wsL_drop : List Cond := .codeWith yL_drop cL_drop 3 (some .int) [(0, 5, 8, 13)] :: wb
abbrev wsL_link : List Cond := .codeWith yL_link cL_link 5 (some .int) [(0, 7, 10, 13), (0, 7, 14, 21)] :: wb
abbrev wsL_follow : List Cond := .codeWith yL_follow cL_follow 5 (some .int) [(0, 7, 10, 13), (0, 7, 14, 21)] :: wb
abbrev wsL_put : List Cond := .codeWith yL_put cL_put 6 (some .int) [(0, 7, 10, 13), (0, 7, 14, 21)] :: wb
abbrev wsL_get : List Cond := .codeWith yL_get cL_get 5 (some .int) [(0, 9, 12, 13), (0, 9, 16, 21)] :: wb
abbrev wsL_state : List Cond := .codeWith yL_state cL_state 5 (some .int) [(0, 10, 13, 13)] :: wb
abbrev wsJ7_fill : List Cond := .code yJ7_fill cJ7_fill 4 none :: wb
theorem gw_L_7 : GoodIn wb (wsV RL 7 RX0 yX0_make wsX0_make) := wb_V bw_ml_L_7 bw_im_X0_make bw_se_X0_make bw_in_HeapPress bw_co_X0_make
theorem gw_L_17 : GoodIn wb (wsV RL 17 RX0 yX0_weak wsX0_weak) := wb_V bw_ml_L_17 bw_im_X0_weak bw_se_X0_weak bw_in_HeapPress bw_co_X0_weak
theorem gw_L_23 : GoodIn wb (wsV RL 23 RX0 yX0_copy wsX0_copy) := wb_V bw_ml_L_23 bw_im_X0_copy bw_se_X0_copy bw_in_HeapPress bw_co_X0_copy
theorem gw_L_27 : GoodIn wb (wsV RL 27 RX0 yX0_drop wsX0_drop) := wb_V bw_ml_L_27 bw_im_X0_drop bw_se_X0_drop bw_in_HeapPress bw_co_X0_drop
theorem gw_L_31 : GoodIn wb (wsV RL 31 RX0 yX0_link wsX0_link) := wb_V bw_ml_L_31 bw_im_X0_link bw_se_X0_link bw_in_HeapPress bw_co_X0_link
theorem gw_L_35 : GoodIn wb (wsV RL 35 RX0 yX0_follow wsX0_follow) := wb_V bw_ml_L_35 bw_im_X0_follow bw_se_X0_follow bw_in_HeapPress bw_co_X0_follow
theorem gw_L_38 : GoodIn wb (wsV RL 38 RX0 yX0_put wsX0_put) := wb_V bw_ml_L_38 bw_im_X0_put bw_se_X0_put bw_in_HeapPress bw_co_X0_put
theorem gw_L_42 : GoodIn wb (wsV RL 42 RX0 yX0_get wsX0_get) := wb_V bw_ml_L_42 bw_im_X0_get bw_se_X0_get bw_in_HeapPress bw_co_X0_get
theorem gw_L_46 : GoodIn wb (wsV RL 46 RX0 yX0_state wsX0_state) := wb_V bw_ml_L_46 bw_im_X0_state bw_se_X0_state bw_in_HeapPress bw_co_X0_state
theorem gw_L_49 : GoodIn wb wsX0_init := fun w h => wb_good w ((List.mem_cons.mp h).elim (fun e => e ▸ bw_co_X0_init) id)
theorem gw_L_52 : GoodIn wb wsX1_init := fun w h => wb_good w ((List.mem_cons.mp h).elim (fun e => e ▸ bw_co_X1_init) id)
theorem gw_L_53 : GoodIn wb (va_wsS RL 53 yL_make wsL_make) := wb_S bw_ml_L_53 bw_st_L_make bw_in_HeapPressLaw bw_co_L_make
theorem gw_L_58 : GoodIn wb (wsV RL 58 RX1 yX1_make wsX1_make) := wb_V bw_ml_L_58 bw_im_X1_make bw_se_X1_make bw_in_HeapPressModel bw_co_X1_make
theorem gw_L_59 : GoodIn wb (wsV RL 59 RX1 yX1_thrown wsX1_thrown) := wb_V bw_ml_L_59 bw_im_X1_thrown bw_se_X1_thrown bw_in_HeapPressModel bw_co_X1_thrown
theorem gw_L_63 : GoodIn wb (va_wsS RL 63 yL_weak wsL_weak) := wb_S bw_ml_L_63 bw_st_L_weak bw_in_HeapPressLaw bw_co_L_weak
theorem gw_L_66 : GoodIn wb (wsV RL 66 RX1 yX1_weak wsX1_weak) := wb_V bw_ml_L_66 bw_im_X1_weak bw_se_X1_weak bw_in_HeapPressModel bw_co_X1_weak
theorem gw_L_67 : GoodIn wb (va_wsS RL 67 yL_copy wsL_copy) := wb_S bw_ml_L_67 bw_st_L_copy bw_in_HeapPressLaw bw_co_L_copy
theorem gw_L_70 : GoodIn wb (wsV RL 70 RX1 yX1_copy wsX1_copy) := wb_V bw_ml_L_70 bw_im_X1_copy bw_se_X1_copy bw_in_HeapPressModel bw_co_X1_copy
theorem gw_L_71 : GoodIn wb (va_wsS RL 71 yL_drop wsL_drop) := wb_S bw_ml_L_71 bw_st_L_drop bw_in_HeapPressLaw bw_co_L_drop
theorem gw_L_74 : GoodIn wb (wsV RL 74 RX1 yX1_drop wsX1_drop) := wb_V bw_ml_L_74 bw_im_X1_drop bw_se_X1_drop bw_in_HeapPressModel bw_co_X1_drop
theorem gw_L_75 : GoodIn wb (va_wsS RL 75 yL_link wsL_link) := wb_S bw_ml_L_75 bw_st_L_link bw_in_HeapPressLaw bw_co_L_link
theorem gw_L_78 : GoodIn wb (wsV RL 78 RX1 yX1_link wsX1_link) := wb_V bw_ml_L_78 bw_im_X1_link bw_se_X1_link bw_in_HeapPressModel bw_co_X1_link
theorem gw_L_79 : GoodIn wb (va_wsS RL 79 yL_follow wsL_follow) := wb_S bw_ml_L_79 bw_st_L_follow bw_in_HeapPressLaw bw_co_L_follow
theorem gw_L_81 : GoodIn wb (wsV RL 81 RX1 yX1_follow wsX1_follow) := wb_V bw_ml_L_81 bw_im_X1_follow bw_se_X1_follow bw_in_HeapPressModel bw_co_X1_follow
theorem gw_L_84 : GoodIn wb (va_wsS RL 84 yL_put wsL_put) := wb_S bw_ml_L_84 bw_st_L_put bw_in_HeapPressLaw bw_co_L_put
theorem gw_L_87 : GoodIn wb (wsV RL 87 RX1 yX1_put wsX1_put) := wb_V bw_ml_L_87 bw_im_X1_put bw_se_X1_put bw_in_HeapPressModel bw_co_X1_put
theorem gw_L_88 : GoodIn wb (va_wsS RL 88 yL_get wsL_get) := wb_S bw_ml_L_88 bw_st_L_get bw_in_HeapPressLaw bw_co_L_get
theorem gw_L_90 : GoodIn wb (wsV RL 90 RX1 yX1_get wsX1_get) := wb_V bw_ml_L_90 bw_im_X1_get bw_se_X1_get bw_in_HeapPressModel bw_co_X1_get
theorem gw_L_91 : GoodIn wb (wsV RL 91 RX0 yX0_collect wsX0_collect) := wb_V bw_ml_L_91 bw_im_X0_collect bw_se_X0_collect bw_in_HeapPress bw_co_X0_collect
theorem gw_L_94 : GoodIn wb (wsV RL 94 RX1 yX1_collect wsX1_collect) := wb_V bw_ml_L_94 bw_im_X1_collect bw_se_X1_collect bw_in_HeapPressModel bw_co_X1_collect
theorem gw_L_95 : GoodIn wb (va_wsS RL 95 yL_state wsL_state) := wb_S bw_ml_L_95 bw_st_L_state bw_in_HeapPressLaw bw_co_L_state
theorem gw_L_97 : GoodIn wb (wsV RL 97 RX1 yX1_state wsX1_state) := wb_V bw_ml_L_97 bw_im_X1_state bw_se_X1_state bw_in_HeapPressModel bw_co_X1_state
theorem gw_L_98 : GoodIn wb (wsV RL 98 RX0 yX0_count wsX0_count) := wb_V bw_ml_L_98 bw_im_X0_count bw_se_X0_count bw_in_HeapPress bw_co_X0_count
theorem gw_L_102 : GoodIn wb (wsV RL 102 RX1 yX1_count wsX1_count) := wb_V bw_ml_L_102 bw_im_X1_count bw_se_X1_count bw_in_HeapPressModel bw_co_X1_count
theorem gw_X0_36 : GoodIn wb (va_wsS RX0 36 yJ7_fill wsJ7_fill) := wb_S bw_ml_X0_36 bw_st_J7_fill bw_in_java_util_Arrays bw_co_J7_fill
theorem gw_X0_42 : GoodIn wb (va_wsS RX0 42 yX0_checkRegister wsX0_checkRegister) := wb_S bw_ml_X0_42 bw_st_X0_checkRegister bw_in_HeapPress bw_co_X0_checkRegister
theorem gw_X0_46 : GoodIn wb (va_wsS RX0 46 yX0_checkBelow wsX0_checkBelow) := wb_S bw_ml_X0_46 bw_st_X0_checkBelow bw_in_HeapPress bw_co_X0_checkBelow
theorem gw_X0_50 : GoodIn wb (wsV RX0 50 RX0 yX0_takeCells wsX0_takeCells) := wb_V bw_ml_X0_50 bw_im_X0_takeCells bw_se_X0_takeCells bw_in_HeapPress bw_co_X0_takeCells
theorem gw_X0_56 : GoodIn wb (va_wsS RX0 56 yX0_checkNotNull wsX0_checkNotNull) := wb_S bw_ml_X0_56 bw_st_X0_checkNotNull bw_in_HeapPress bw_co_X0_checkNotNull
theorem gw_X0_59 : GoodIn wb (wsV RX0 59 RX0 yX0_kindAt wsX0_kindAt) := wb_V bw_ml_X0_59 bw_im_X0_kindAt bw_se_X0_kindAt bw_in_HeapPress bw_co_X0_kindAt
theorem gw_X0_63 : GoodIn wb (va_wsS RX0 63 yX0_checkKind wsX0_checkKind) := wb_S bw_ml_X0_63 bw_st_X0_checkKind bw_in_HeapPress bw_co_X0_checkKind
theorem gw_X0_67 : GoodIn wb (wsV RX0 67 RX0 yX0_lengthAt wsX0_lengthAt) := wb_V bw_ml_X0_67 bw_im_X0_lengthAt bw_se_X0_lengthAt bw_in_HeapPress bw_co_X0_lengthAt
theorem gw_X0_70 : GoodIn wb (wsV RX0 70 RX0 yX0_numberCell wsX0_numberCell) := wb_V bw_ml_X0_70 bw_im_X0_numberCell bw_se_X0_numberCell bw_in_HeapPress bw_co_X0_numberCell
theorem gw_X0_73 : GoodIn wb (wsV RX0 73 RX0 yX0_pressTogether wsX0_pressTogether) := wb_V bw_ml_X0_73 bw_im_X0_pressTogether bw_se_X0_pressTogether bw_in_HeapPress bw_co_X0_pressTogether
theorem gw_X0_90 : GoodIn wb (wsV RX0 90 RX0 yX0_hasRoom wsX0_hasRoom) := wb_V bw_ml_X0_90 bw_im_X0_hasRoom bw_se_X0_hasRoom bw_in_HeapPress bw_co_X0_hasRoom
theorem gw_X0_99 : GoodIn wb (wsV RX0 99 RX0 yX0_findReached wsX0_findReached) := wb_V bw_ml_X0_99 bw_im_X0_findReached bw_se_X0_findReached bw_in_HeapPress bw_co_X0_findReached
theorem gw_X0_102 : GoodIn wb (wsV RX0 102 RX0 yX0_planNewPlaces wsX0_planNewPlaces) := wb_V bw_ml_X0_102 bw_im_X0_planNewPlaces bw_se_X0_planNewPlaces bw_in_HeapPress bw_co_X0_planNewPlaces
theorem gw_X0_106 : GoodIn wb (wsV RX0 106 RX0 yX0_redirectRegisters wsX0_redirectRegisters) := wb_V bw_ml_X0_106 bw_im_X0_redirectRegisters bw_se_X0_redirectRegisters bw_in_HeapPress bw_co_X0_redirectRegisters
theorem gw_X0_109 : GoodIn wb (wsV RX0 109 RX0 yX0_redirectContents wsX0_redirectContents) := wb_V bw_ml_X0_109 bw_im_X0_redirectContents bw_se_X0_redirectContents bw_in_HeapPress bw_co_X0_redirectContents
theorem gw_X0_112 : GoodIn wb (wsV RX0 112 RX0 yX0_moveDown wsX0_moveDown) := wb_V bw_ml_X0_112 bw_im_X0_moveDown bw_se_X0_moveDown bw_in_HeapPress bw_co_X0_moveDown
theorem gw_X0_115 : GoodIn wb (wsV RX0 115 RX0 yX0_noteReached wsX0_noteReached) := wb_V bw_ml_X0_115 bw_im_X0_noteReached bw_se_X0_noteReached bw_in_HeapPress bw_co_X0_noteReached
theorem gw_X0_118 : GoodIn wb (wsV RX0 118 RX0 yX0_noteContents wsX0_noteContents) := wb_V bw_ml_X0_118 bw_im_X0_noteContents bw_se_X0_noteContents bw_in_HeapPress bw_co_X0_noteContents
theorem gw_X0_121 : GoodIn wb (wsV RX0 121 RX0 yX0_sizeAt wsX0_sizeAt) := wb_V bw_ml_X0_121 bw_im_X0_sizeAt bw_se_X0_sizeAt bw_in_HeapPress bw_co_X0_sizeAt
theorem gw_X0_124 : GoodIn wb (wsV RX0 124 RX0 yX0_newPlaceOf wsX0_newPlaceOf) := wb_V bw_ml_X0_124 bw_im_X0_newPlaceOf bw_se_X0_newPlaceOf bw_in_HeapPress bw_co_X0_newPlaceOf
theorem gw_X0_127 : GoodIn wb (wsV RX0 127 RX0 yX0_redirectContentsAt wsX0_redirectContentsAt) := wb_V bw_ml_X0_127 bw_im_X0_redirectContentsAt bw_se_X0_redirectContentsAt bw_in_HeapPress bw_co_X0_redirectContentsAt
theorem gw_X1_43 : GoodIn wb (wsV RX1 43 RX1 yX1_cellsOf wsX1_cellsOf) := wb_V bw_ml_X1_43 bw_im_X1_cellsOf bw_se_X1_cellsOf bw_in_HeapPressModel bw_co_X1_cellsOf
theorem gw_X1_53 : GoodIn wb (wsV RX1 53 RX1 yX1_reach wsX1_reach) := wb_V bw_ml_X1_53 bw_im_X1_reach bw_se_X1_reach bw_in_HeapPressModel bw_co_X1_reach
theorem gw_X1_57 : GoodIn wb (wsV RX1 57 RX1 yX1_cells wsX1_cells) := wb_V bw_ml_X1_57 bw_im_X1_cells bw_se_X1_cells bw_in_HeapPressModel bw_co_X1_cells
theorem gw_X1_61 : GoodIn wb (wsV RX1 61 RX1 yX1_collect wsX1_collect) := wb_V bw_ml_X1_61 bw_im_X1_collect bw_se_X1_collect bw_in_HeapPressModel bw_co_X1_collect
theorem gw_X1_64 : GoodIn wb (wsV RX1 64 RX1 yX1_isRegister wsX1_isRegister) := wb_V bw_ml_X1_64 bw_im_X1_isRegister bw_se_X1_isRegister bw_in_HeapPressModel bw_co_X1_isRegister
theorem gw_X1_68 : GoodIn wb (wsV RX1 68 RX1 yX1_made wsX1_made) := wb_V bw_ml_X1_68 bw_im_X1_made bw_se_X1_made bw_in_HeapPressModel bw_co_X1_made
theorem gw_X1_72 : GoodIn wb (wsV RX1 72 RX1 yX1_placeOf wsX1_placeOf) := wb_V bw_ml_X1_72 bw_im_X1_placeOf bw_se_X1_placeOf bw_in_HeapPressModel bw_co_X1_placeOf
theorem gw_X1_75 : GoodIn wb (wsV RX1 75 RX1 yX1_isWrong wsX1_isWrong) := wb_V bw_ml_X1_75 bw_im_X1_isWrong bw_se_X1_isWrong bw_in_HeapPressModel bw_co_X1_isWrong
theorem gw_X1_79 : GoodIn wb (wsV RX1 79 RX1 yX1_fails wsX1_fails) := wb_V bw_ml_X1_79 bw_im_X1_fails bw_se_X1_fails bw_in_HeapPressModel bw_co_X1_fails
