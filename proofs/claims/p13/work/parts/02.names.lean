abbrev xc_X : String := "EditLists2"
abbrev xc_Te : String := "EditLists2$Text"
abbrev xc_St : String := "EditLists2$Store"
abbrev xc_Ed : String := "EditLists2$Editor"
abbrev xc_Li : String := "EditLists2$Line"
abbrev xc_Pa : String := "EditLists2$Path"
abbrev xc_Hi : String := "EditLists2$History"
abbrev xc_Re : String := "EditLists2$Reach"
abbrev xc_Mo : String := "EditLists2Model"
abbrev xc_La : String := "EditLists2Law"
def xf_X : u_T := fun k => match k with
  | 0 => ("EditLists2", "text", "LEditLists2$Text;", true)
  | 1 => ("EditLists2", "now", "LEditLists2$Store;", true)
  | 2 => ("EditLists2", "before", "LEditLists2$Store;", true)
  | 3 => ("EditLists2", "editor", "LEditLists2$Editor;", true)
  | 4 => ("EditLists2", "history", "LEditLists2$History;", true)
  | 5 => ("EditLists2", "reach", "LEditLists2$Reach;", true)
  | 6 => ("EditLists2", "unlike", "[I", true)
  | 7 => ("EditLists2", "unlikeCount", "I", false)
  | 8 => ("EditLists2", "passedLines", "I", false)
  | _ => ("EditLists2", "doneLines", "I", false)
def xt_X : Nat → FieldType := fun k => match k with
  | 0 => .object "EditLists2$Text"
  | 1 => .object "EditLists2$Store"
  | 2 => .object "EditLists2$Store"
  | 3 => .object "EditLists2$Editor"
  | 4 => .object "EditLists2$History"
  | 5 => .object "EditLists2$Reach"
  | 6 => .array .int
  | 7 => .int
  | 8 => .int
  | _ => .int
theorem xn_X : ∀ a, a < 10 → ∀ b, b < 10 → a ≠ b → (xf_X a).2.1 ≠ (xf_X b).2.1 := by decide +kernel
theorem xt_X_ok : ∀ k, k < 10 → parseFieldDescriptor (xf_X k).2.2.1 = some (xt_X k) := by decide +kernel
def xf_Te : u_T := fun k => match k with
  | 0 => ("EditLists2$Text", "signs", "[C", true)
  | 1 => ("EditLists2$Text", "count", "I", false)
  | _ => ("EditLists2$Text", "at", "I", false)
def xt_Te : Nat → FieldType := fun k => match k with
  | 0 => .array .char
  | 1 => .int
  | _ => .int
theorem xn_Te : ∀ a, a < 3 → ∀ b, b < 3 → a ≠ b → (xf_Te a).2.1 ≠ (xf_Te b).2.1 := by decide +kernel
theorem xt_Te_ok : ∀ k, k < 3 → parseFieldDescriptor (xf_Te k).2.2.1 = some (xt_Te k) := by decide +kernel
def xf_St : u_T := fun k => match k with
  | 0 => ("EditLists2$Store", "states", "[I", true)
  | 1 => ("EditLists2$Store", "keyCounts", "[I", true)
  | _ => ("EditLists2$Store", "cells", "[I", true)
def xt_St : Nat → FieldType := fun k => match k with
  | 0 => .array .int
  | 1 => .array .int
  | _ => .array .int
theorem xn_St : ∀ a, a < 3 → ∀ b, b < 3 → a ≠ b → (xf_St a).2.1 ≠ (xf_St b).2.1 := by decide +kernel
theorem xt_St_ok : ∀ k, k < 3 → parseFieldDescriptor (xf_St k).2.2.1 = some (xt_St k) := by decide +kernel
def xf_Ed : u_T := fun k => match k with
  | 0 => ("EditLists2$Editor", "store", "LEditLists2$Store;", true)
  | 1 => ("EditLists2$Editor", "line", "LEditLists2$Line;", true)
  | 2 => ("EditLists2$Editor", "forced", "Z", false)
  | 3 => ("EditLists2$Editor", "lines", "I", false)
  | _ => ("EditLists2$Editor", "passed", "I", false)
def xt_Ed : Nat → FieldType := fun k => match k with
  | 0 => .object "EditLists2$Store"
  | 1 => .object "EditLists2$Line"
  | 2 => .boolean
  | 3 => .int
  | _ => .int
theorem xn_Ed : ∀ a, a < 5 → ∀ b, b < 5 → a ≠ b → (xf_Ed a).2.1 ≠ (xf_Ed b).2.1 := by decide +kernel
theorem xt_Ed_ok : ∀ k, k < 5 → parseFieldDescriptor (xf_Ed k).2.2.1 = some (xt_Ed k) := by decide +kernel
def xf_Li : u_T := fun k => match k with
  | 0 => ("EditLists2$Line", "verb", "I", false)
  | 1 => ("EditLists2$Line", "number", "I", false)
  | 2 => ("EditLists2$Line", "from", "LEditLists2$Path;", true)
  | 3 => ("EditLists2$Line", "to", "LEditLists2$Path;", true)
  | 4 => ("EditLists2$Line", "wanted", "I", false)
  | _ => ("EditLists2$Line", "given", "I", false)
def xt_Li : Nat → FieldType := fun k => match k with
  | 0 => .int
  | 1 => .int
  | 2 => .object "EditLists2$Path"
  | 3 => .object "EditLists2$Path"
  | 4 => .int
  | _ => .int
theorem xn_Li : ∀ a, a < 6 → ∀ b, b < 6 → a ≠ b → (xf_Li a).2.1 ≠ (xf_Li b).2.1 := by decide +kernel
theorem xt_Li_ok : ∀ k, k < 6 → parseFieldDescriptor (xf_Li k).2.2.1 = some (xt_Li k) := by decide +kernel
def xf_Pa : u_T := fun k => match k with
  | 0 => ("EditLists2$Path", "keys", "[I", true)
  | _ => ("EditLists2$Path", "count", "I", false)
def xt_Pa : Nat → FieldType := fun k => match k with
  | 0 => .array .int
  | _ => .int
theorem xn_Pa : ∀ a, a < 2 → ∀ b, b < 2 → a ≠ b → (xf_Pa a).2.1 ≠ (xf_Pa b).2.1 := by decide +kernel
theorem xt_Pa_ok : ∀ k, k < 2 → parseFieldDescriptor (xf_Pa k).2.2.1 = some (xt_Pa k) := by decide +kernel
def xf_Hi : u_T := fun k => match k with
  | 0 => ("EditLists2$History", "ring", "[LEditLists2$Store;", true)
  | 1 => ("EditLists2$History", "oldest", "I", false)
  | _ => ("EditLists2$History", "count", "I", false)
def xt_Hi : Nat → FieldType := fun k => match k with
  | 0 => .array (.object "EditLists2$Store")
  | 1 => .int
  | _ => .int
theorem xn_Hi : ∀ a, a < 3 → ∀ b, b < 3 → a ≠ b → (xf_Hi a).2.1 ≠ (xf_Hi b).2.1 := by decide +kernel
theorem xt_Hi_ok : ∀ k, k < 3 → parseFieldDescriptor (xf_Hi k).2.2.1 = some (xt_Hi k) := by decide +kernel
def xf_Re : u_T := fun k => match k with
  | 0 => ("EditLists2$Reach", "marks", "[Z", true)
  | 1 => ("EditLists2$Reach", "queue", "[I", true)
  | _ => ("EditLists2$Reach", "count", "I", false)
def xt_Re : Nat → FieldType := fun k => match k with
  | 0 => .array .boolean
  | 1 => .array .int
  | _ => .int
theorem xn_Re : ∀ a, a < 3 → ∀ b, b < 3 → a ≠ b → (xf_Re a).2.1 ≠ (xf_Re b).2.1 := by decide +kernel
theorem xt_Re_ok : ∀ k, k < 3 → parseFieldDescriptor (xf_Re k).2.2.1 = some (xt_Re k) := by decide +kernel
def xf_Mo : u_T := fun k => match k with
  | 0 => ("EditLists2Model", "thrown", "I", false)
  | 1 => ("EditLists2Model", "states", "[I", true)
  | 2 => ("EditLists2Model", "kinds", "[I", true)
  | 3 => ("EditLists2Model", "values", "[I", true)
  | 4 => ("EditLists2Model", "moments", "I", false)
  | 5 => ("EditLists2Model", "latest", "I", false)
  | 6 => ("EditLists2Model", "size", "I", false)
  | 7 => ("EditLists2Model", "text", "[I", true)
  | 8 => ("EditLists2Model", "passed", "I", false)
  | 9 => ("EditLists2Model", "lines", "I", false)
  | 10 => ("EditLists2Model", "unlike", "I", false)
  | 11 => ("EditLists2Model", "unlikes", "[I", true)
  | 12 => ("EditLists2Model", "at", "I", false)
  | 13 => ("EditLists2Model", "bad", "Z", false)
  | 14 => ("EditLists2Model", "letter", "I", false)
  | 15 => ("EditLists2Model", "object", "I", false)
  | 16 => ("EditLists2Model", "pathAt", "[I", true)
  | 17 => ("EditLists2Model", "pathSize", "[I", true)
  | 18 => ("EditLists2Model", "toldKinds", "[I", true)
  | 19 => ("EditLists2Model", "toldValues", "[I", true)
  | 20 => ("EditLists2Model", "ran", "I", false)
  | 21 => ("EditLists2Model", "passedNow", "I", false)
  | _ => ("EditLists2Model", "come", "[Z", true)
def xt_Mo : Nat → FieldType := fun k => match k with
  | 0 => .int
  | 1 => .array .int
  | 2 => .array .int
  | 3 => .array .int
  | 4 => .int
  | 5 => .int
  | 6 => .int
  | 7 => .array .int
  | 8 => .int
  | 9 => .int
  | 10 => .int
  | 11 => .array .int
  | 12 => .int
  | 13 => .boolean
  | 14 => .int
  | 15 => .int
  | 16 => .array .int
  | 17 => .array .int
  | 18 => .array .int
  | 19 => .array .int
  | 20 => .int
  | 21 => .int
  | _ => .array .boolean
theorem xn_Mo : ∀ a, a < 23 → ∀ b, b < 23 → a ≠ b → (xf_Mo a).2.1 ≠ (xf_Mo b).2.1 := by decide +kernel
theorem xt_Mo_ok : ∀ k, k < 23 → parseFieldDescriptor (xf_Mo k).2.2.1 = some (xt_Mo k) := by decide +kernel
def xy_X_init : MethodName := ⟨xc_X, "<init>", "()V"⟩
abbrev xb_X_init : ByteArray := prog_1_method_1_code
def xy_Te_init : MethodName := ⟨xc_Te, "<init>", "()V"⟩
abbrev xb_Te_init : ByteArray := prog_8_method_1_code
def xy_St_init : MethodName := ⟨xc_St, "<init>", "()V"⟩
abbrev xb_St_init : ByteArray := prog_7_method_1_code
def xy_Ed_init : MethodName := ⟨xc_Ed, "<init>", "(LEditLists2$Store;)V"⟩
abbrev xb_Ed_init : ByteArray := prog_2_method_1_code
def xy_Li_init : MethodName := ⟨xc_Li, "<init>", "()V"⟩
abbrev xb_Li_init : ByteArray := prog_4_method_1_code
def xy_Pa_init : MethodName := ⟨xc_Pa, "<init>", "()V"⟩
abbrev xb_Pa_init : ByteArray := prog_5_method_1_code
def xy_Hi_init : MethodName := ⟨xc_Hi, "<init>", "()V"⟩
abbrev xb_Hi_init : ByteArray := prog_3_method_1_code
def xy_Re_init : MethodName := ⟨xc_Re, "<init>", "()V"⟩
abbrev xb_Re_init : ByteArray := prog_6_method_1_code
def xy_X_sign : MethodName := ⟨xc_X, "sign", "(I)Z"⟩
abbrev xb_X_sign : ByteArray := prog_1_method_2_code
def xy_Te_append : MethodName := ⟨xc_Te, "append", "(I)Z"⟩
abbrev xb_Te_append : ByteArray := prog_8_method_2_code
def xy_X_run : MethodName := ⟨xc_X, "run", "(Z)I"⟩
abbrev xb_X_run : ByteArray := prog_1_method_3_code
def xy_St_copyFrom : MethodName := ⟨xc_St, "copyFrom", "(LEditLists2$Store;)V"⟩
abbrev xb_St_copyFrom : ByteArray := prog_7_method_2_code
def xy_Ed_doText : MethodName := ⟨xc_Ed, "doText", "(LEditLists2$Text;Z)I"⟩
abbrev xb_Ed_doText : ByteArray := prog_2_method_4_code
def xy_Te_rewind : MethodName := ⟨xc_Te, "rewind", "()V"⟩
abbrev xb_Te_rewind : ByteArray := prog_8_method_5_code
def xy_Te_hasLine : MethodName := ⟨xc_Te, "hasLine", "()Z"⟩
abbrev xb_Te_hasLine : ByteArray := prog_8_method_6_code
def xy_Te_peek : MethodName := ⟨xc_Te, "peek", "()I"⟩
abbrev xb_Te_peek : ByteArray := prog_8_method_7_code
def xy_Li_readFrom : MethodName := ⟨xc_Li, "readFrom", "(LEditLists2$Text;)Z"⟩
abbrev xb_Li_readFrom : ByteArray := prog_4_method_2_code
def xy_Te_takeAny : MethodName := ⟨xc_Te, "takeAny", "()I"⟩
abbrev xb_Te_takeAny : ByteArray := prog_8_method_8_code
def xy_Te_take : MethodName := ⟨xc_Te, "take", "(C)Z"⟩
abbrev xb_Te_take : ByteArray := prog_8_method_9_code
def xy_Te_takeDigits : MethodName := ⟨xc_Te, "takeDigits", "(I)I"⟩
abbrev xb_Te_takeDigits : ByteArray := prog_8_method_11_code
def xy_Pa_readFrom : MethodName := ⟨xc_Pa, "readFrom", "(LEditLists2$Text;)Z"⟩
abbrev xb_Pa_readFrom : ByteArray := prog_5_method_2_code
def xy_Te_takeLetter : MethodName := ⟨xc_Te, "takeLetter", "()I"⟩
abbrev xb_Te_takeLetter : ByteArray := prog_8_method_10_code
def xy_Li_readGiven : MethodName := ⟨xc_Li, "readGiven", "(LEditLists2$Text;)Z"⟩
abbrev xb_Li_readGiven : ByteArray := prog_4_method_4_code
def xy_Te_takeCell : MethodName := ⟨xc_Te, "takeCell", "()I"⟩
abbrev xb_Te_takeCell : ByteArray := prog_8_method_12_code
def xy_X_cellOf : MethodName := ⟨xc_X, "cellOf", "(II)I"⟩
abbrev xb_X_cellOf : ByteArray := prog_1_method_20_code
def xy_Li_readWanted : MethodName := ⟨xc_Li, "readWanted", "(LEditLists2$Text;)Z"⟩
abbrev xb_Li_readWanted : ByteArray := prog_4_method_3_code
def xy_Ed_doLine : MethodName := ⟨xc_Ed, "doLine", "()I"⟩
abbrev xb_Ed_doLine : ByteArray := prog_2_method_5_code
def xy_Li_hasWrongNumber : MethodName := ⟨xc_Li, "hasWrongNumber", "()Z"⟩
abbrev xb_Li_hasWrongNumber : ByteArray := prog_4_method_5_code
def xy_X_isObject : MethodName := ⟨xc_X, "isObject", "(I)Z"⟩
abbrev xb_X_isObject : ByteArray := prog_1_method_18_code
def xy_Li_refersToNoObject : MethodName := ⟨xc_Li, "refersToNoObject", "(I)Z"⟩
abbrev xb_Li_refersToNoObject : ByteArray := prog_4_method_6_code
def xy_X_kindOf : MethodName := ⟨xc_X, "kindOf", "(I)I"⟩
abbrev xb_X_kindOf : ByteArray := prog_1_method_21_code
def xy_X_contentOf : MethodName := ⟨xc_X, "contentOf", "(I)I"⟩
abbrev xb_X_contentOf : ByteArray := prog_1_method_22_code
def xy_Ed_doMake : MethodName := ⟨xc_Ed, "doMake", "()I"⟩
abbrev xb_Ed_doMake : ByteArray := prog_2_method_6_code
def xy_St_isThere : MethodName := ⟨xc_St, "isThere", "(I)Z"⟩
abbrev xb_St_isThere : ByteArray := prog_7_method_3_code
def xy_St_make : MethodName := ⟨xc_St, "make", "(I)V"⟩
abbrev xb_St_make : ByteArray := prog_7_method_7_code
def xy_Ed_doTakeAway : MethodName := ⟨xc_Ed, "doTakeAway", "()I"⟩
abbrev xb_Ed_doTakeAway : ByteArray := prog_2_method_7_code
def xy_Ed_isClosed : MethodName := ⟨xc_Ed, "isClosed", "(I)Z"⟩
abbrev xb_Ed_isClosed : ByteArray := prog_2_method_13_code
def xy_St_isSigned : MethodName := ⟨xc_St, "isSigned", "(I)Z"⟩
abbrev xb_St_isSigned : ByteArray := prog_7_method_4_code
def xy_St_takeAway : MethodName := ⟨xc_St, "takeAway", "(I)V"⟩
abbrev xb_St_takeAway : ByteArray := prog_7_method_8_code
def xy_St_put : MethodName := ⟨xc_St, "put", "(III)V"⟩
abbrev xb_St_put : ByteArray := prog_7_method_10_code
def xy_X_isKey : MethodName := ⟨xc_X, "isKey", "(I)Z"⟩
abbrev xb_X_isKey : ByteArray := prog_1_method_19_code
def xy_Ed_doSeal : MethodName := ⟨xc_Ed, "doSeal", "()I"⟩
abbrev xb_Ed_doSeal : ByteArray := prog_2_method_8_code
def xy_St_seal : MethodName := ⟨xc_St, "seal", "(I)V"⟩
abbrev xb_St_seal : ByteArray := prog_7_method_9_code
def xy_Ed_doSet : MethodName := ⟨xc_Ed, "doSet", "()I"⟩
abbrev xb_Ed_doSet : ByteArray := prog_2_method_9_code
def xy_Ed_follow : MethodName := ⟨xc_Ed, "follow", "(LEditLists2$Path;)I"⟩
abbrev xb_Ed_follow : ByteArray := prog_2_method_14_code
def xy_Pa_length : MethodName := ⟨xc_Pa, "length", "()I"⟩
abbrev xb_Pa_length : ByteArray := prog_5_method_3_code
def xy_Pa_keyAt : MethodName := ⟨xc_Pa, "keyAt", "(I)I"⟩
abbrev xb_Pa_keyAt : ByteArray := prog_5_method_4_code
def xy_St_cellAt : MethodName := ⟨xc_St, "cellAt", "(II)I"⟩
abbrev xb_St_cellAt : ByteArray := prog_7_method_6_code
def xy_Pa_lastKey : MethodName := ⟨xc_Pa, "lastKey", "()I"⟩
abbrev xb_Pa_lastKey : ByteArray := prog_5_method_5_code
def xy_Ed_doDelete : MethodName := ⟨xc_Ed, "doDelete", "()I"⟩
abbrev xb_Ed_doDelete : ByteArray := prog_2_method_10_code
def xy_Ed_doMove : MethodName := ⟨xc_Ed, "doMove", "()I"⟩
abbrev xb_Ed_doMove : ByteArray := prog_2_method_11_code
def xy_Ed_doChange : MethodName := ⟨xc_Ed, "doChange", "()I"⟩
abbrev xb_Ed_doChange : ByteArray := prog_2_method_12_code
def xy_Te_clear : MethodName := ⟨xc_Te, "clear", "()V"⟩
abbrev xb_Te_clear : ByteArray := prog_8_method_4_code
def xy_Ed_passedLines : MethodName := ⟨xc_Ed, "passedLines", "()I"⟩
abbrev xb_Ed_passedLines : ByteArray := prog_2_method_3_code
def xy_Ed_lines : MethodName := ⟨xc_Ed, "lines", "()I"⟩
abbrev xb_Ed_lines : ByteArray := prog_2_method_2_code
def xy_Hi_keep : MethodName := ⟨xc_Hi, "keep", "(LEditLists2$Store;)V"⟩
abbrev xb_Hi_keep : ByteArray := prog_3_method_3_code
def xy_X_noteUnlike : MethodName := ⟨xc_X, "noteUnlike", "()I"⟩
abbrev xb_X_noteUnlike : ByteArray := prog_1_method_14_code
def xy_St_isUnlike : MethodName := ⟨xc_St, "isUnlike", "(LEditLists2$Store;I)Z"⟩
abbrev xb_St_isUnlike : ByteArray := prog_7_method_13_code
def xy_St_keyCount : MethodName := ⟨xc_St, "keyCount", "(I)I"⟩
abbrev xb_St_keyCount : ByteArray := prog_7_method_5_code
def xy_X_dry : MethodName := ⟨xc_X, "dry", "(Z)I"⟩
abbrev xb_X_dry : ByteArray := prog_1_method_4_code
def xy_X_countUnlike : MethodName := ⟨xc_X, "countUnlike", "()I"⟩
abbrev xb_X_countUnlike : ByteArray := prog_1_method_15_code
def xy_X_undo : MethodName := ⟨xc_X, "undo", "()I"⟩
abbrev xb_X_undo : ByteArray := prog_1_method_6_code
def xy_Hi_takeLatest : MethodName := ⟨xc_Hi, "takeLatest", "()LEditLists2$Store;"⟩
abbrev xb_Hi_takeLatest : ByteArray := prog_3_method_4_code
def xy_X_drop : MethodName := ⟨xc_X, "drop", "()I"⟩
abbrev xb_X_drop : ByteArray := prog_1_method_7_code
def xy_Re_walk : MethodName := ⟨xc_Re, "walk", "(LEditLists2$Store;)V"⟩
abbrev xb_Re_walk : ByteArray := prog_6_method_3_code
def xy_Re_meet : MethodName := ⟨xc_Re, "meet", "(I)V"⟩
abbrev xb_Re_meet : ByteArray := prog_6_method_5_code
def xy_Re_walkKeys : MethodName := ⟨xc_Re, "walkKeys", "(LEditLists2$Store;I)V"⟩
abbrev xb_Re_walkKeys : ByteArray := prog_6_method_4_code
def xy_Re_has : MethodName := ⟨xc_Re, "has", "(I)Z"⟩
abbrev xb_Re_has : ByteArray := prog_6_method_2_code
def xy_X_join : MethodName := ⟨xc_X, "join", "()I"⟩
abbrev xb_X_join : ByteArray := prog_1_method_8_code
def xy_St_joinFirstPair : MethodName := ⟨xc_St, "joinFirstPair", "()Z"⟩
abbrev xb_St_joinFirstPair : ByteArray := prog_7_method_14_code
def xy_St_mayJoin : MethodName := ⟨xc_St, "mayJoin", "(I)Z"⟩
abbrev xb_St_mayJoin : ByteArray := prog_7_method_15_code
def xy_St_areAlike : MethodName := ⟨xc_St, "areAlike", "(II)Z"⟩
abbrev xb_St_areAlike : ByteArray := prog_7_method_16_code
def xy_St_redirect : MethodName := ⟨xc_St, "redirect", "(II)V"⟩
abbrev xb_St_redirect : ByteArray := prog_7_method_17_code
def xy_St_redirectKeys : MethodName := ⟨xc_St, "redirectKeys", "(III)V"⟩
abbrev xb_St_redirectKeys : ByteArray := prog_7_method_18_code
def xy_X_told : MethodName := ⟨xc_X, "told", "(I)I"⟩
abbrev xb_X_told : ByteArray := prog_1_method_13_code
def xy_Te_length : MethodName := ⟨xc_Te, "length", "()I"⟩
abbrev xb_Te_length : ByteArray := prog_8_method_3_code
def xy_St_countThere : MethodName := ⟨xc_St, "countThere", "()I"⟩
abbrev xb_St_countThere : ByteArray := prog_7_method_11_code
def xy_Hi_count : MethodName := ⟨xc_Hi, "count", "()I"⟩
abbrev xb_Hi_count : ByteArray := prog_3_method_2_code
def xy_La_changed : MethodName := ⟨xc_La, "changed", "(LEditLists2;I[J)I"⟩
abbrev xb_La_changed : ByteArray := method_3_code
def xy_X_changed : MethodName := ⟨xc_X, "changed", "(I)I"⟩
abbrev xb_X_changed : ByteArray := prog_1_method_5_code
def xy_La_reached : MethodName := ⟨xc_La, "reached", "(LEditLists2;I[J)I"⟩
abbrev xb_La_reached : ByteArray := method_4_code
def xy_X_reached : MethodName := ⟨xc_X, "reached", "(I)Z"⟩
abbrev xb_X_reached : ByteArray := prog_1_method_9_code
def xy_X_requireObject : MethodName := ⟨xc_X, "requireObject", "(I)V"⟩
abbrev xb_X_requireObject : ByteArray := prog_1_method_16_code
def xy_La_kind : MethodName := ⟨xc_La, "kind", "(LEditLists2;II[J)I"⟩
abbrev xb_La_kind : ByteArray := method_5_code
def xy_X_kind : MethodName := ⟨xc_X, "kind", "(II)I"⟩
abbrev xb_X_kind : ByteArray := prog_1_method_10_code
def xy_X_requireKey : MethodName := ⟨xc_X, "requireKey", "(I)V"⟩
abbrev xb_X_requireKey : ByteArray := prog_1_method_17_code
def xy_La_value : MethodName := ⟨xc_La, "value", "(LEditLists2;II[J)I"⟩
abbrev xb_La_value : ByteArray := method_6_code
def xy_X_value : MethodName := ⟨xc_X, "value", "(II)I"⟩
abbrev xb_X_value : ByteArray := prog_1_method_11_code
def xy_La_object : MethodName := ⟨xc_La, "object", "(LEditLists2;II[J)I"⟩
abbrev xb_La_object : ByteArray := method_7_code
def xy_X_object : MethodName := ⟨xc_X, "object", "(II)I"⟩
abbrev xb_X_object : ByteArray := prog_1_method_12_code
def xy_St_referencesTo : MethodName := ⟨xc_St, "referencesTo", "(I)I"⟩
abbrev xb_St_referencesTo : ByteArray := prog_7_method_12_code
def xy_Mo_init : MethodName := ⟨xc_Mo, "<init>", "()V"⟩
abbrev xb_Mo_init : ByteArray := prog_10_method_1_code
def xy_Mo_sign : MethodName := ⟨xc_Mo, "sign", "(I)Z"⟩
abbrev xb_Mo_sign : ByteArray := prog_10_method_25_code
def xy_Mo_in : MethodName := ⟨xc_Mo, "in", "(III)Z"⟩
abbrev xb_Mo_in : ByteArray := prog_10_method_3_code
def xy_Mo_run : MethodName := ⟨xc_Mo, "run", "(Z)I"⟩
abbrev xb_Mo_run : ByteArray := prog_10_method_26_code
def xy_Mo_work : MethodName := ⟨xc_Mo, "work", "(Z)I"⟩
abbrev xb_Mo_work : ByteArray := prog_10_method_24_code
def xy_Mo_copy : MethodName := ⟨xc_Mo, "copy", "(II)V"⟩
abbrev xb_Mo_copy : ByteArray := prog_10_method_5_code
def xy_Mo_look : MethodName := ⟨xc_Mo, "look", "()I"⟩
abbrev xb_Mo_look : ByteArray := prog_10_method_11_code
def xy_Mo_reads : MethodName := ⟨xc_Mo, "reads", "()Z"⟩
abbrev xb_Mo_reads : ByteArray := prog_10_method_17_code
def xy_Mo_eat : MethodName := ⟨xc_Mo, "eat", "(I)V"⟩
abbrev xb_Mo_eat : ByteArray := prog_10_method_12_code
def xy_Mo_number : MethodName := ⟨xc_Mo, "number", "(I)I"⟩
abbrev xb_Mo_number : ByteArray := prog_10_method_14_code
def xy_Mo_isDigit : MethodName := ⟨xc_Mo, "isDigit", "(I)Z"⟩
abbrev xb_Mo_isDigit : ByteArray := prog_10_method_13_code
def xy_Mo_path : MethodName := ⟨xc_Mo, "path", "(I)V"⟩
abbrev xb_Mo_path : ByteArray := prog_10_method_15_code
def xy_Mo_value_0 : MethodName := ⟨xc_Mo, "value", "(I)V"⟩
abbrev xb_Mo_value_0 : ByteArray := prog_10_method_16_code
def xy_Mo_doObject : MethodName := ⟨xc_Mo, "doObject", "(Z)I"⟩
abbrev xb_Mo_doObject : ByteArray := prog_10_method_22_code
def xy_Mo_isShut : MethodName := ⟨xc_Mo, "isShut", "(IZ)Z"⟩
abbrev xb_Mo_isShut : ByteArray := prog_10_method_20_code
def xy_Mo_empty : MethodName := ⟨xc_Mo, "empty", "(I)V"⟩
abbrev xb_Mo_empty : ByteArray := prog_10_method_6_code
def xy_Mo_doPath : MethodName := ⟨xc_Mo, "doPath", "(Z)I"⟩
abbrev xb_Mo_doPath : ByteArray := prog_10_method_23_code
def xy_Mo_isFar : MethodName := ⟨xc_Mo, "isFar", "(I)Z"⟩
abbrev xb_Mo_isFar : ByteArray := prog_10_method_19_code
def xy_Mo_follow : MethodName := ⟨xc_Mo, "follow", "(I)I"⟩
abbrev xb_Mo_follow : ByteArray := prog_10_method_18_code
def xy_Mo_put : MethodName := ⟨xc_Mo, "put", "(III)V"⟩
abbrev xb_Mo_put : ByteArray := prog_10_method_21_code
def xy_Mo_keep : MethodName := ⟨xc_Mo, "keep", "()V"⟩
abbrev xb_Mo_keep : ByteArray := prog_10_method_10_code
def xy_Mo_noteUnlike : MethodName := ⟨xc_Mo, "noteUnlike", "()I"⟩
abbrev xb_Mo_noteUnlike : ByteArray := prog_10_method_9_code
def xy_Mo_isUnlike : MethodName := ⟨xc_Mo, "isUnlike", "(II)Z"⟩
abbrev xb_Mo_isUnlike : ByteArray := prog_10_method_7_code
def xy_Mo_dry : MethodName := ⟨xc_Mo, "dry", "(Z)I"⟩
abbrev xb_Mo_dry : ByteArray := prog_10_method_27_code
def xy_Mo_countUnlike : MethodName := ⟨xc_Mo, "countUnlike", "()I"⟩
abbrev xb_Mo_countUnlike : ByteArray := prog_10_method_8_code
def xy_Mo_changed : MethodName := ⟨xc_Mo, "changed", "(I)I"⟩
abbrev xb_Mo_changed : ByteArray := prog_10_method_28_code
def xy_Mo_goes : MethodName := ⟨xc_Mo, "goes", "(Z)Z"⟩
abbrev xb_Mo_goes : ByteArray := prog_10_method_4_code
def xy_Mo_undo : MethodName := ⟨xc_Mo, "undo", "()I"⟩
abbrev xb_Mo_undo : ByteArray := prog_10_method_29_code
def xy_Mo_drop : MethodName := ⟨xc_Mo, "drop", "()I"⟩
abbrev xb_Mo_drop : ByteArray := prog_10_method_31_code
def xy_Mo_reach : MethodName := ⟨xc_Mo, "reach", "()V"⟩
abbrev xb_Mo_reach : ByteArray := prog_10_method_30_code
def xy_Mo_join : MethodName := ⟨xc_Mo, "join", "()I"⟩
abbrev xb_Mo_join : ByteArray := prog_10_method_34_code
def xy_Mo_joins : MethodName := ⟨xc_Mo, "joins", "()Z"⟩
abbrev xb_Mo_joins : ByteArray := prog_10_method_33_code
def xy_Mo_areAlike : MethodName := ⟨xc_Mo, "areAlike", "(II)Z"⟩
abbrev xb_Mo_areAlike : ByteArray := prog_10_method_32_code
def xy_Mo_reached : MethodName := ⟨xc_Mo, "reached", "(I)Z"⟩
abbrev xb_Mo_reached : ByteArray := prog_10_method_35_code
def xy_Mo_kind : MethodName := ⟨xc_Mo, "kind", "(II)I"⟩
abbrev xb_Mo_kind : ByteArray := prog_10_method_36_code
def xy_Mo_value_1 : MethodName := ⟨xc_Mo, "value", "(II)I"⟩
abbrev xb_Mo_value_1 : ByteArray := prog_10_method_37_code
def xy_Mo_object : MethodName := ⟨xc_Mo, "object", "(II)I"⟩
abbrev xb_Mo_object : ByteArray := prog_10_method_38_code
def xy_Mo_told : MethodName := ⟨xc_Mo, "told", "(I)I"⟩
abbrev xb_Mo_told : ByteArray := prog_10_method_39_code
abbrev xk_cl : List vw_C := [(xc_X, xf_X, 10), (xc_Te, xf_Te, 3), (xc_St, xf_St, 3), (xc_Ed, xf_Ed, 5), (xc_Li, xf_Li, 6), (xc_Pa, xf_Pa, 2), (xc_Hi, xf_Hi, 3), (xc_Re, xf_Re, 3), (xc_Mo, xf_Mo, 23)]
theorem xw_X : ∀ w ∈ u_ws xc_X xf_X 10, w ∈ tw_W := by
  have h : u_ws xc_X xf_X 10 = [169, 171, 173, 175, 177, 179, 181, 183, 185, 187].filterMap (fun i => tables_1[i]?) := by decide +kernel
  intro w hw
  have g : (u_ws xc_X xf_X 10).all goodWord = true := by decide +kernel
  have g1 := List.all_eq_true.mp g w hw
  rw [h] at hw
  obtain ⟨i, -, hi⟩ := List.mem_filterMap.mp hw
  exact tw_t hi g1
theorem xw_Te : ∀ w ∈ u_ws xc_Te xf_Te 3, w ∈ tw_W := by
  have h : u_ws xc_Te xf_Te 3 = [33, 35, 37].filterMap (fun i => tables_1[i]?) := by decide +kernel
  intro w hw
  have g : (u_ws xc_Te xf_Te 3).all goodWord = true := by decide +kernel
  have g1 := List.all_eq_true.mp g w hw
  rw [h] at hw
  obtain ⟨i, -, hi⟩ := List.mem_filterMap.mp hw
  exact tw_t hi g1
theorem xw_St : ∀ w ∈ u_ws xc_St xf_St 3, w ∈ tw_W := by
  have h : u_ws xc_St xf_St 3 = [50, 52, 54].filterMap (fun i => tables_1[i]?) := by decide +kernel
  intro w hw
  have g : (u_ws xc_St xf_St 3).all goodWord = true := by decide +kernel
  have g1 := List.all_eq_true.mp g w hw
  rw [h] at hw
  obtain ⟨i, -, hi⟩ := List.mem_filterMap.mp hw
  exact tw_t hi g1
theorem xw_Ed : ∀ w ∈ u_ws xc_Ed xf_Ed 5, w ∈ tw_W := by
  have h : u_ws xc_Ed xf_Ed 5 = [113, 115, 117, 119, 121].filterMap (fun i => tables_1[i]?) := by decide +kernel
  intro w hw
  have g : (u_ws xc_Ed xf_Ed 5).all goodWord = true := by decide +kernel
  have g1 := List.all_eq_true.mp g w hw
  rw [h] at hw
  obtain ⟨i, -, hi⟩ := List.mem_filterMap.mp hw
  exact tw_t hi g1
theorem xw_Li : ∀ w ∈ u_ws xc_Li xf_Li 6, w ∈ tw_W := by
  have h : u_ws xc_Li xf_Li 6 = [95, 97, 99, 101, 103, 105].filterMap (fun i => tables_1[i]?) := by decide +kernel
  intro w hw
  have g : (u_ws xc_Li xf_Li 6).all goodWord = true := by decide +kernel
  have g1 := List.all_eq_true.mp g w hw
  rw [h] at hw
  obtain ⟨i, -, hi⟩ := List.mem_filterMap.mp hw
  exact tw_t hi g1
theorem xw_Pa : ∀ w ∈ u_ws xc_Pa xf_Pa 2, w ∈ tw_W := by
  have h : u_ws xc_Pa xf_Pa 2 = [78, 80].filterMap (fun i => tables_1[i]?) := by decide +kernel
  intro w hw
  have g : (u_ws xc_Pa xf_Pa 2).all goodWord = true := by decide +kernel
  have g1 := List.all_eq_true.mp g w hw
  rw [h] at hw
  obtain ⟨i, -, hi⟩ := List.mem_filterMap.mp hw
  exact tw_t hi g1
theorem xw_Hi : ∀ w ∈ u_ws xc_Hi xf_Hi 3, w ∈ tw_W := by
  have h : u_ws xc_Hi xf_Hi 3 = [135, 137, 139].filterMap (fun i => tables_1[i]?) := by decide +kernel
  intro w hw
  have g : (u_ws xc_Hi xf_Hi 3).all goodWord = true := by decide +kernel
  have g1 := List.all_eq_true.mp g w hw
  rw [h] at hw
  obtain ⟨i, -, hi⟩ := List.mem_filterMap.mp hw
  exact tw_t hi g1
theorem xw_Re : ∀ w ∈ u_ws xc_Re xf_Re 3, w ∈ tw_W := by
  have h : u_ws xc_Re xf_Re 3 = [151, 153, 155].filterMap (fun i => tables_1[i]?) := by decide +kernel
  intro w hw
  have g : (u_ws xc_Re xf_Re 3).all goodWord = true := by decide +kernel
  have g1 := List.all_eq_true.mp g w hw
  rw [h] at hw
  obtain ⟨i, -, hi⟩ := List.mem_filterMap.mp hw
  exact tw_t hi g1
theorem xw_Mo : ∀ w ∈ u_ws xc_Mo xf_Mo 23, w ∈ tw_W := by
  have h : u_ws xc_Mo xf_Mo 23 = [642, 644, 646, 648, 650, 652, 654, 656, 658, 660, 662, 664, 666, 668, 670, 672, 674, 676, 678, 680, 682, 684, 686].filterMap (fun i => tables_1[i]?) := by decide +kernel
  intro w hw
  have g : (u_ws xc_Mo xf_Mo 23).all goodWord = true := by decide +kernel
  have g1 := List.all_eq_true.mp g w hw
  rw [h] at hw
  obtain ⟨i, -, hi⟩ := List.mem_filterMap.mp hw
  exact tw_t hi g1
