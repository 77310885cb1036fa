theorem xm_0 : (.initialized xc_La : Cond) ∈ tw_W := tw_t (i := 0) (by decide +kernel) rfl
theorem xm_1 : (.initialized xc_X : Cond) ∈ tw_W := tw_t (i := 1) (by decide +kernel) rfl
theorem xm_2 : (.initialized xc_Te : Cond) ∈ tw_W := tw_t (i := 2) (by decide +kernel) rfl
theorem xm_3 : (.initialized xc_St : Cond) ∈ tw_W := tw_t (i := 3) (by decide +kernel) rfl
theorem xm_4 : (.initialized xc_Ed : Cond) ∈ tw_W := tw_t (i := 4) (by decide +kernel) rfl
theorem xm_5 : (.initialized xc_Li : Cond) ∈ tw_W := tw_t (i := 5) (by decide +kernel) rfl
theorem xm_6 : (.initialized xc_Pa : Cond) ∈ tw_W := tw_t (i := 6) (by decide +kernel) rfl
theorem xm_7 : (.initialized xc_Hi : Cond) ∈ tw_W := tw_t (i := 7) (by decide +kernel) rfl
theorem xm_8 : (.initialized xc_Re : Cond) ∈ tw_W := tw_t (i := 8) (by decide +kernel) rfl
theorem xm_9 : (.initialized xc_Mo : Cond) ∈ tw_W := tw_t (i := 9) (by decide +kernel) rfl
theorem xm_10 : (.initialized "java/lang/System" : Cond) ∈ tw_W := tw_t (i := 10) (by decide +kernel) rfl
theorem xm_11 : (.initialized "java/lang/Math" : Cond) ∈ tw_W := tw_t (i := 11) (by decide +kernel) rfl
theorem xm_12 : (.initialized "java/lang/Throwable" : Cond) ∈ tw_W := tw_t (i := 12) (by decide +kernel) rfl
theorem xm_13 : (.initialized "java/lang/Exception" : Cond) ∈ tw_W := tw_t (i := 13) (by decide +kernel) rfl
theorem xm_14 : (.initialized "java/lang/RuntimeException" : Cond) ∈ tw_W := tw_t (i := 14) (by decide +kernel) rfl
theorem xm_15 : (.initialized "java/lang/IndexOutOfBoundsException" : Cond) ∈ tw_W := tw_t (i := 15) (by decide +kernel) rfl
theorem xm_16 : (.classLink xc_La 8 xc_X : Cond) ∈ tw_W := tw_t (i := 16) (by decide +kernel) rfl
theorem xm_17 : (.instantiable xc_X 10 : Cond) ∈ tw_W := tw_t (i := 17) (by decide +kernel) rfl
theorem xm_18 : (.methodLink xc_La 29 xy_X_init : Cond) ∈ tw_W := tw_t (i := 18) (by decide +kernel) rfl
theorem xm_19 : (.instanceMethod xy_X_init : Cond) ∈ tw_W := tw_t (i := 19) (by decide +kernel) rfl
theorem xm_20 : (.code xy_X_init prog_1_method_1_code 1 none : Cond) ∈ tw_W := tw_t (i := 20) (by decide +kernel) rfl
theorem xm_21 : (.methodLink xc_X 1 (⟨"java/lang/Object", "<init>", "()V"⟩ : MethodName) : Cond) ∈ tw_W := tw_t (i := 21) (by decide +kernel) rfl
theorem xm_22 : (.instanceMethod (⟨"java/lang/Object", "<init>", "()V"⟩ : MethodName) : Cond) ∈ tw_W := tw_t (i := 22) (by decide +kernel) rfl
theorem xm_23 : (.code (⟨"java/lang/Object", "<init>", "()V"⟩ : MethodName) object_method_1_code 1 none : Cond) ∈ tw_W := tw_t (i := 23) (by decide +kernel) rfl
theorem xm_24 : (.classLink xc_X 7 xc_Te : Cond) ∈ tw_W := tw_t (i := 24) (by decide +kernel) rfl
theorem xm_25 : (.instantiable xc_Te 3 : Cond) ∈ tw_W := tw_t (i := 25) (by decide +kernel) rfl
theorem xm_27 : (.instanceMethod xy_Te_init : Cond) ∈ tw_W := tw_t (i := 27) (by decide +kernel) rfl
theorem xm_28 : (.code xy_Te_init prog_8_method_1_code 1 none : Cond) ∈ tw_W := tw_t (i := 28) (by decide +kernel) rfl
theorem xm_29 : (.methodLink xc_Te 3 (⟨"java/lang/Object", "<init>", "()V"⟩ : MethodName) : Cond) ∈ tw_W := tw_t (i := 29) (by decide +kernel) rfl
theorem xm_30 : (.fieldLink xc_Te 9 "EditLists2$Text" "signs" "[C" : Cond) ∈ tw_W := tw_t (i := 30) (by decide +kernel) rfl
theorem xm_31 : (.fieldLink xc_Te 15 "EditLists2$Text" "count" "I" : Cond) ∈ tw_W := tw_t (i := 31) (by decide +kernel) rfl
theorem xm_32 : (.fieldLink xc_Te 19 "EditLists2$Text" "at" "I" : Cond) ∈ tw_W := tw_t (i := 32) (by decide +kernel) rfl
theorem xm_40 : (.arrayClass Jvm.ClassFile.FieldType.char : Cond) ∈ tw_W := tw_t (i := 40) (by decide +kernel) rfl
theorem xm_41 : (.classLink xc_X 16 xc_St : Cond) ∈ tw_W := tw_t (i := 41) (by decide +kernel) rfl
theorem xm_42 : (.instantiable xc_St 3 : Cond) ∈ tw_W := tw_t (i := 42) (by decide +kernel) rfl
theorem xm_43 : (.methodLink xc_X 18 xy_St_init : Cond) ∈ tw_W := tw_t (i := 43) (by decide +kernel) rfl
theorem xm_44 : (.instanceMethod xy_St_init : Cond) ∈ tw_W := tw_t (i := 44) (by decide +kernel) rfl
theorem xm_45 : (.code xy_St_init prog_7_method_1_code 1 none : Cond) ∈ tw_W := tw_t (i := 45) (by decide +kernel) rfl
theorem xm_46 : (.methodLink xc_St 3 (⟨"java/lang/Object", "<init>", "()V"⟩ : MethodName) : Cond) ∈ tw_W := tw_t (i := 46) (by decide +kernel) rfl
theorem xm_47 : (.fieldLink xc_St 9 "EditLists2$Store" "states" "[I" : Cond) ∈ tw_W := tw_t (i := 47) (by decide +kernel) rfl
theorem xm_48 : (.fieldLink xc_St 15 "EditLists2$Store" "keyCounts" "[I" : Cond) ∈ tw_W := tw_t (i := 48) (by decide +kernel) rfl
theorem xm_49 : (.fieldLink xc_St 18 "EditLists2$Store" "cells" "[I" : Cond) ∈ tw_W := tw_t (i := 49) (by decide +kernel) rfl
theorem xm_57 : (.arrayClass Jvm.ClassFile.FieldType.int : Cond) ∈ tw_W := tw_t (i := 57) (by decide +kernel) rfl
theorem xm_58 : (.classLink xc_X 26 xc_Ed : Cond) ∈ tw_W := tw_t (i := 58) (by decide +kernel) rfl
theorem xm_59 : (.instantiable xc_Ed 5 : Cond) ∈ tw_W := tw_t (i := 59) (by decide +kernel) rfl
theorem xm_60 : (.methodLink xc_X 28 xy_Ed_init : Cond) ∈ tw_W := tw_t (i := 60) (by decide +kernel) rfl
theorem xm_61 : (.instanceMethod xy_Ed_init : Cond) ∈ tw_W := tw_t (i := 61) (by decide +kernel) rfl
theorem xm_62 : (.code xy_Ed_init prog_2_method_1_code 2 none : Cond) ∈ tw_W := tw_t (i := 62) (by decide +kernel) rfl
theorem xm_63 : (.methodLink xc_Ed 3 (⟨"java/lang/Object", "<init>", "()V"⟩ : MethodName) : Cond) ∈ tw_W := tw_t (i := 63) (by decide +kernel) rfl
theorem xm_64 : (.classLink xc_Ed 9 xc_Li : Cond) ∈ tw_W := tw_t (i := 64) (by decide +kernel) rfl
theorem xm_65 : (.instantiable xc_Li 6 : Cond) ∈ tw_W := tw_t (i := 65) (by decide +kernel) rfl
theorem xm_67 : (.instanceMethod xy_Li_init : Cond) ∈ tw_W := tw_t (i := 67) (by decide +kernel) rfl
theorem xm_68 : (.code xy_Li_init prog_4_method_1_code 1 none : Cond) ∈ tw_W := tw_t (i := 68) (by decide +kernel) rfl
theorem xm_69 : (.methodLink xc_Li 3 (⟨"java/lang/Object", "<init>", "()V"⟩ : MethodName) : Cond) ∈ tw_W := tw_t (i := 69) (by decide +kernel) rfl
theorem xm_70 : (.classLink xc_Li 9 xc_Pa : Cond) ∈ tw_W := tw_t (i := 70) (by decide +kernel) rfl
theorem xm_71 : (.instantiable xc_Pa 2 : Cond) ∈ tw_W := tw_t (i := 71) (by decide +kernel) rfl
theorem xm_73 : (.instanceMethod xy_Pa_init : Cond) ∈ tw_W := tw_t (i := 73) (by decide +kernel) rfl
theorem xm_74 : (.code xy_Pa_init prog_5_method_1_code 1 none : Cond) ∈ tw_W := tw_t (i := 74) (by decide +kernel) rfl
theorem xm_75 : (.methodLink xc_Pa 3 (⟨"java/lang/Object", "<init>", "()V"⟩ : MethodName) : Cond) ∈ tw_W := tw_t (i := 75) (by decide +kernel) rfl
theorem xm_76 : (.fieldLink xc_Pa 9 "EditLists2$Path" "keys" "[I" : Cond) ∈ tw_W := tw_t (i := 76) (by decide +kernel) rfl
theorem xm_77 : (.fieldLink xc_Pa 15 "EditLists2$Path" "count" "I" : Cond) ∈ tw_W := tw_t (i := 77) (by decide +kernel) rfl
theorem xm_83 : (.fieldLink xc_Li 37 "EditLists2$Line" "verb" "I" : Cond) ∈ tw_W := tw_t (i := 83) (by decide +kernel) rfl
theorem xm_85 : (.fieldLink xc_Li 21 "EditLists2$Line" "number" "I" : Cond) ∈ tw_W := tw_t (i := 85) (by decide +kernel) rfl
theorem xm_87 : (.fieldLink xc_Li 12 "EditLists2$Line" "from" "LEditLists2$Path;" : Cond) ∈ tw_W := tw_t (i := 87) (by decide +kernel) rfl
theorem xm_89 : (.fieldLink xc_Li 18 "EditLists2$Line" "to" "LEditLists2$Path;" : Cond) ∈ tw_W := tw_t (i := 89) (by decide +kernel) rfl
theorem xm_91 : (.fieldLink xc_Li 25 "EditLists2$Line" "wanted" "I" : Cond) ∈ tw_W := tw_t (i := 91) (by decide +kernel) rfl
theorem xm_93 : (.fieldLink xc_Li 28 "EditLists2$Line" "given" "I" : Cond) ∈ tw_W := tw_t (i := 93) (by decide +kernel) rfl
theorem xm_108 : (.fieldLink xc_Ed 18 "EditLists2$Editor" "store" "LEditLists2$Store;" : Cond) ∈ tw_W := tw_t (i := 108) (by decide +kernel) rfl
theorem xm_109 : (.fieldLink xc_Ed 12 "EditLists2$Editor" "line" "LEditLists2$Line;" : Cond) ∈ tw_W := tw_t (i := 109) (by decide +kernel) rfl
theorem xm_110 : (.fieldLink xc_Ed 29 "EditLists2$Editor" "forced" "Z" : Cond) ∈ tw_W := tw_t (i := 110) (by decide +kernel) rfl
theorem xm_111 : (.fieldLink xc_Ed 22 "EditLists2$Editor" "lines" "I" : Cond) ∈ tw_W := tw_t (i := 111) (by decide +kernel) rfl
theorem xm_112 : (.fieldLink xc_Ed 26 "EditLists2$Editor" "passed" "I" : Cond) ∈ tw_W := tw_t (i := 112) (by decide +kernel) rfl
theorem xm_124 : (.classLink xc_X 35 xc_Hi : Cond) ∈ tw_W := tw_t (i := 124) (by decide +kernel) rfl
theorem xm_125 : (.instantiable xc_Hi 3 : Cond) ∈ tw_W := tw_t (i := 125) (by decide +kernel) rfl
theorem xm_127 : (.instanceMethod xy_Hi_init : Cond) ∈ tw_W := tw_t (i := 127) (by decide +kernel) rfl
theorem xm_128 : (.code xy_Hi_init prog_3_method_1_code 1 none : Cond) ∈ tw_W := tw_t (i := 128) (by decide +kernel) rfl
theorem xm_129 : (.methodLink xc_Hi 3 (⟨"java/lang/Object", "<init>", "()V"⟩ : MethodName) : Cond) ∈ tw_W := tw_t (i := 129) (by decide +kernel) rfl
theorem xm_130 : (.classLink xc_Hi 9 xc_St : Cond) ∈ tw_W := tw_t (i := 130) (by decide +kernel) rfl
theorem xm_132 : (.fieldLink xc_Hi 11 "EditLists2$History" "ring" "[LEditLists2$Store;" : Cond) ∈ tw_W := tw_t (i := 132) (by decide +kernel) rfl
theorem xm_133 : (.fieldLink xc_Hi 21 "EditLists2$History" "oldest" "I" : Cond) ∈ tw_W := tw_t (i := 133) (by decide +kernel) rfl
theorem xm_134 : (.fieldLink xc_Hi 17 "EditLists2$History" "count" "I" : Cond) ∈ tw_W := tw_t (i := 134) (by decide +kernel) rfl
theorem xm_142 : (.classLink xc_X 42 xc_Re : Cond) ∈ tw_W := tw_t (i := 142) (by decide +kernel) rfl
theorem xm_143 : (.instantiable xc_Re 3 : Cond) ∈ tw_W := tw_t (i := 143) (by decide +kernel) rfl
theorem xm_145 : (.instanceMethod xy_Re_init : Cond) ∈ tw_W := tw_t (i := 145) (by decide +kernel) rfl
theorem xm_146 : (.code xy_Re_init prog_6_method_1_code 1 none : Cond) ∈ tw_W := tw_t (i := 146) (by decide +kernel) rfl
theorem xm_147 : (.methodLink xc_Re 3 (⟨"java/lang/Object", "<init>", "()V"⟩ : MethodName) : Cond) ∈ tw_W := tw_t (i := 147) (by decide +kernel) rfl
theorem xm_148 : (.fieldLink xc_Re 9 "EditLists2$Reach" "marks" "[Z" : Cond) ∈ tw_W := tw_t (i := 148) (by decide +kernel) rfl
theorem xm_149 : (.fieldLink xc_Re 15 "EditLists2$Reach" "queue" "[I" : Cond) ∈ tw_W := tw_t (i := 149) (by decide +kernel) rfl
theorem xm_150 : (.fieldLink xc_Re 23 "EditLists2$Reach" "count" "I" : Cond) ∈ tw_W := tw_t (i := 150) (by decide +kernel) rfl
theorem xm_158 : (.arrayClass Jvm.ClassFile.FieldType.boolean : Cond) ∈ tw_W := tw_t (i := 158) (by decide +kernel) rfl
theorem xm_159 : (.fieldLink xc_X 10 "EditLists2" "text" "LEditLists2$Text;" : Cond) ∈ tw_W := tw_t (i := 159) (by decide +kernel) rfl
theorem xm_160 : (.fieldLink xc_X 19 "EditLists2" "now" "LEditLists2$Store;" : Cond) ∈ tw_W := tw_t (i := 160) (by decide +kernel) rfl
theorem xm_161 : (.fieldLink xc_X 23 "EditLists2" "before" "LEditLists2$Store;" : Cond) ∈ tw_W := tw_t (i := 161) (by decide +kernel) rfl
theorem xm_162 : (.fieldLink xc_X 31 "EditLists2" "editor" "LEditLists2$Editor;" : Cond) ∈ tw_W := tw_t (i := 162) (by decide +kernel) rfl
theorem xm_163 : (.fieldLink xc_X 38 "EditLists2" "history" "LEditLists2$History;" : Cond) ∈ tw_W := tw_t (i := 163) (by decide +kernel) rfl
theorem xm_164 : (.fieldLink xc_X 45 "EditLists2" "reach" "LEditLists2$Reach;" : Cond) ∈ tw_W := tw_t (i := 164) (by decide +kernel) rfl
theorem xm_165 : (.fieldLink xc_X 49 "EditLists2" "unlike" "[I" : Cond) ∈ tw_W := tw_t (i := 165) (by decide +kernel) rfl
theorem xm_166 : (.fieldLink xc_X 89 "EditLists2" "unlikeCount" "I" : Cond) ∈ tw_W := tw_t (i := 166) (by decide +kernel) rfl
theorem xm_167 : (.fieldLink xc_X 71 "EditLists2" "passedLines" "I" : Cond) ∈ tw_W := tw_t (i := 167) (by decide +kernel) rfl
theorem xm_168 : (.fieldLink xc_X 77 "EditLists2" "doneLines" "I" : Cond) ∈ tw_W := tw_t (i := 168) (by decide +kernel) rfl
theorem xm_190 : (.methodLink xc_La 33 xy_X_sign : Cond) ∈ tw_W := tw_t (i := 190) (by decide +kernel) rfl
theorem xm_191 : (.instanceMethod xy_X_sign : Cond) ∈ tw_W := tw_t (i := 191) (by decide +kernel) rfl
theorem xm_192 : (.selects xc_X xy_X_sign xy_X_sign : Cond) ∈ tw_W := tw_t (i := 192) (by decide +kernel) rfl
theorem xm_193 : (.code xy_X_sign prog_1_method_2_code 2 (some .boolean) : Cond) ∈ tw_W := tw_t (i := 193) (by decide +kernel) rfl
theorem xm_194 : (.methodLink xc_X 53 xy_Te_append : Cond) ∈ tw_W := tw_t (i := 194) (by decide +kernel) rfl
theorem xm_195 : (.instanceMethod xy_Te_append : Cond) ∈ tw_W := tw_t (i := 195) (by decide +kernel) rfl
theorem xm_196 : (.selects xc_Te xy_Te_append xy_Te_append : Cond) ∈ tw_W := tw_t (i := 196) (by decide +kernel) rfl
theorem xm_197 : (.code xy_Te_append prog_8_method_2_code 2 (some .boolean) : Cond) ∈ tw_W := tw_t (i := 197) (by decide +kernel) rfl
theorem xm_198 : (.methodLink xc_La 37 xy_X_run : Cond) ∈ tw_W := tw_t (i := 198) (by decide +kernel) rfl
theorem xm_199 : (.instanceMethod xy_X_run : Cond) ∈ tw_W := tw_t (i := 199) (by decide +kernel) rfl
theorem xm_200 : (.selects xc_X xy_X_run xy_X_run : Cond) ∈ tw_W := tw_t (i := 200) (by decide +kernel) rfl
theorem xm_201 : (.code xy_X_run prog_1_method_3_code 3 (some .int) : Cond) ∈ tw_W := tw_t (i := 201) (by decide +kernel) rfl
theorem xm_202 : (.methodLink xc_X 57 xy_St_copyFrom : Cond) ∈ tw_W := tw_t (i := 202) (by decide +kernel) rfl
theorem xm_203 : (.instanceMethod xy_St_copyFrom : Cond) ∈ tw_W := tw_t (i := 203) (by decide +kernel) rfl
theorem xm_204 : (.selects xc_St xy_St_copyFrom xy_St_copyFrom : Cond) ∈ tw_W := tw_t (i := 204) (by decide +kernel) rfl
theorem xm_205 : (.code xy_St_copyFrom prog_7_method_2_code 2 none : Cond) ∈ tw_W := tw_t (i := 205) (by decide +kernel) rfl
theorem xm_206 : (.methodLink xc_St 21 (⟨"java/lang/System", "arraycopy", "(Ljava/lang/Object;ILjava/lang/Object;II)V"⟩ : MethodName) : Cond) ∈ tw_W := tw_t (i := 206) (by decide +kernel) rfl
theorem xm_207 : (.static (⟨"java/lang/System", "arraycopy", "(Ljava/lang/Object;ILjava/lang/Object;II)V"⟩ : MethodName) : Cond) ∈ tw_W := tw_t (i := 207) (by decide +kernel) rfl
theorem xm_209 : (.methodLink xc_X 60 xy_Ed_doText : Cond) ∈ tw_W := tw_t (i := 209) (by decide +kernel) rfl
theorem xm_210 : (.instanceMethod xy_Ed_doText : Cond) ∈ tw_W := tw_t (i := 210) (by decide +kernel) rfl
theorem xm_211 : (.selects xc_Ed xy_Ed_doText xy_Ed_doText : Cond) ∈ tw_W := tw_t (i := 211) (by decide +kernel) rfl
theorem xm_212 : (.code xy_Ed_doText prog_2_method_4_code 4 (some .int) : Cond) ∈ tw_W := tw_t (i := 212) (by decide +kernel) rfl
theorem xm_213 : (.methodLink xc_Ed 33 xy_Te_rewind : Cond) ∈ tw_W := tw_t (i := 213) (by decide +kernel) rfl
theorem xm_214 : (.instanceMethod xy_Te_rewind : Cond) ∈ tw_W := tw_t (i := 214) (by decide +kernel) rfl
theorem xm_215 : (.selects xc_Te xy_Te_rewind xy_Te_rewind : Cond) ∈ tw_W := tw_t (i := 215) (by decide +kernel) rfl
theorem xm_216 : (.code xy_Te_rewind prog_8_method_5_code 1 none : Cond) ∈ tw_W := tw_t (i := 216) (by decide +kernel) rfl
theorem xm_217 : (.methodLink xc_Ed 38 xy_Te_hasLine : Cond) ∈ tw_W := tw_t (i := 217) (by decide +kernel) rfl
theorem xm_218 : (.instanceMethod xy_Te_hasLine : Cond) ∈ tw_W := tw_t (i := 218) (by decide +kernel) rfl
theorem xm_219 : (.selects xc_Te xy_Te_hasLine xy_Te_hasLine : Cond) ∈ tw_W := tw_t (i := 219) (by decide +kernel) rfl
theorem xm_220 : (.code xy_Te_hasLine prog_8_method_6_code 1 (some .boolean) : Cond) ∈ tw_W := tw_t (i := 220) (by decide +kernel) rfl
theorem xm_221 : (.methodLink xc_Te 22 xy_Te_peek : Cond) ∈ tw_W := tw_t (i := 221) (by decide +kernel) rfl
theorem xm_223 : (.instanceMethod xy_Te_peek : Cond) ∈ tw_W := tw_t (i := 223) (by decide +kernel) rfl
theorem xm_224 : (.code xy_Te_peek prog_8_method_7_code 1 (some .int) : Cond) ∈ tw_W := tw_t (i := 224) (by decide +kernel) rfl
theorem xm_225 : (.methodLink xc_Ed 42 xy_Li_readFrom : Cond) ∈ tw_W := tw_t (i := 225) (by decide +kernel) rfl
theorem xm_226 : (.instanceMethod xy_Li_readFrom : Cond) ∈ tw_W := tw_t (i := 226) (by decide +kernel) rfl
theorem xm_227 : (.selects xc_Li xy_Li_readFrom xy_Li_readFrom : Cond) ∈ tw_W := tw_t (i := 227) (by decide +kernel) rfl
theorem xm_228 : (.code xy_Li_readFrom prog_4_method_2_code 3 (some .boolean) : Cond) ∈ tw_W := tw_t (i := 228) (by decide +kernel) rfl
theorem xm_229 : (.methodLink xc_Li 31 xy_Te_takeAny : Cond) ∈ tw_W := tw_t (i := 229) (by decide +kernel) rfl
theorem xm_230 : (.instanceMethod xy_Te_takeAny : Cond) ∈ tw_W := tw_t (i := 230) (by decide +kernel) rfl
theorem xm_231 : (.selects xc_Te xy_Te_takeAny xy_Te_takeAny : Cond) ∈ tw_W := tw_t (i := 231) (by decide +kernel) rfl
theorem xm_232 : (.code xy_Te_takeAny prog_8_method_8_code 2 (some .int) : Cond) ∈ tw_W := tw_t (i := 232) (by decide +kernel) rfl
theorem xm_233 : (.methodLink xc_Li 40 xy_Te_take : Cond) ∈ tw_W := tw_t (i := 233) (by decide +kernel) rfl
theorem xm_234 : (.instanceMethod xy_Te_take : Cond) ∈ tw_W := tw_t (i := 234) (by decide +kernel) rfl
theorem xm_235 : (.selects xc_Te xy_Te_take xy_Te_take : Cond) ∈ tw_W := tw_t (i := 235) (by decide +kernel) rfl
theorem xm_236 : (.code xy_Te_take prog_8_method_9_code 2 (some .boolean) : Cond) ∈ tw_W := tw_t (i := 236) (by decide +kernel) rfl
theorem xm_237 : (.methodLink xc_Li 44 xy_Te_takeDigits : Cond) ∈ tw_W := tw_t (i := 237) (by decide +kernel) rfl
theorem xm_238 : (.instanceMethod xy_Te_takeDigits : Cond) ∈ tw_W := tw_t (i := 238) (by decide +kernel) rfl
theorem xm_239 : (.selects xc_Te xy_Te_takeDigits xy_Te_takeDigits : Cond) ∈ tw_W := tw_t (i := 239) (by decide +kernel) rfl
theorem xm_240 : (.code xy_Te_takeDigits prog_8_method_11_code 5 (some .int) : Cond) ∈ tw_W := tw_t (i := 240) (by decide +kernel) rfl
theorem xm_241 : (.methodLink xc_Li 48 xy_Pa_readFrom : Cond) ∈ tw_W := tw_t (i := 241) (by decide +kernel) rfl
theorem xm_242 : (.instanceMethod xy_Pa_readFrom : Cond) ∈ tw_W := tw_t (i := 242) (by decide +kernel) rfl
theorem xm_243 : (.selects xc_Pa xy_Pa_readFrom xy_Pa_readFrom : Cond) ∈ tw_W := tw_t (i := 243) (by decide +kernel) rfl
theorem xm_244 : (.code xy_Pa_readFrom prog_5_method_2_code 4 (some .boolean) : Cond) ∈ tw_W := tw_t (i := 244) (by decide +kernel) rfl
theorem xm_245 : (.methodLink xc_Pa 19 xy_Te_takeLetter : Cond) ∈ tw_W := tw_t (i := 245) (by decide +kernel) rfl
theorem xm_246 : (.instanceMethod xy_Te_takeLetter : Cond) ∈ tw_W := tw_t (i := 246) (by decide +kernel) rfl
theorem xm_247 : (.selects xc_Te xy_Te_takeLetter xy_Te_takeLetter : Cond) ∈ tw_W := tw_t (i := 247) (by decide +kernel) rfl
theorem xm_248 : (.code xy_Te_takeLetter prog_8_method_10_code 2 (some .int) : Cond) ∈ tw_W := tw_t (i := 248) (by decide +kernel) rfl
theorem xm_249 : (.methodLink xc_Li 52 xy_Li_readGiven : Cond) ∈ tw_W := tw_t (i := 249) (by decide +kernel) rfl
theorem xm_251 : (.instanceMethod xy_Li_readGiven : Cond) ∈ tw_W := tw_t (i := 251) (by decide +kernel) rfl
theorem xm_252 : (.code xy_Li_readGiven prog_4_method_4_code 2 (some .boolean) : Cond) ∈ tw_W := tw_t (i := 252) (by decide +kernel) rfl
theorem xm_253 : (.methodLink xc_Li 58 xy_Te_takeCell : Cond) ∈ tw_W := tw_t (i := 253) (by decide +kernel) rfl
theorem xm_254 : (.instanceMethod xy_Te_takeCell : Cond) ∈ tw_W := tw_t (i := 254) (by decide +kernel) rfl
theorem xm_255 : (.selects xc_Te xy_Te_takeCell xy_Te_takeCell : Cond) ∈ tw_W := tw_t (i := 255) (by decide +kernel) rfl
theorem xm_256 : (.code xy_Te_takeCell prog_8_method_12_code 3 (some .int) : Cond) ∈ tw_W := tw_t (i := 256) (by decide +kernel) rfl
theorem xm_257 : (.methodLink xc_Te 26 xy_Te_take : Cond) ∈ tw_W := tw_t (i := 257) (by decide +kernel) rfl
theorem xm_258 : (.methodLink xc_Te 30 xy_Te_takeDigits : Cond) ∈ tw_W := tw_t (i := 258) (by decide +kernel) rfl
theorem xm_260 : (.static xy_X_cellOf : Cond) ∈ tw_W := tw_t (i := 260) (by decide +kernel) rfl
theorem xm_261 : (.code xy_X_cellOf prog_1_method_20_code 2 (some .int) : Cond) ∈ tw_W := tw_t (i := 261) (by decide +kernel) rfl
theorem xm_262 : (.methodLink xc_Li 55 xy_Li_readWanted : Cond) ∈ tw_W := tw_t (i := 262) (by decide +kernel) rfl
theorem xm_264 : (.instanceMethod xy_Li_readWanted : Cond) ∈ tw_W := tw_t (i := 264) (by decide +kernel) rfl
theorem xm_265 : (.code xy_Li_readWanted prog_4_method_3_code 2 (some .boolean) : Cond) ∈ tw_W := tw_t (i := 265) (by decide +kernel) rfl
theorem xm_266 : (.methodLink xc_Ed 46 xy_Ed_doLine : Cond) ∈ tw_W := tw_t (i := 266) (by decide +kernel) rfl
theorem xm_268 : (.instanceMethod xy_Ed_doLine : Cond) ∈ tw_W := tw_t (i := 268) (by decide +kernel) rfl
theorem xm_269 : (.code xy_Ed_doLine prog_2_method_5_code 1 (some .int) : Cond) ∈ tw_W := tw_t (i := 269) (by decide +kernel) rfl
theorem xm_270 : (.methodLink xc_Ed 50 xy_Li_hasWrongNumber : Cond) ∈ tw_W := tw_t (i := 270) (by decide +kernel) rfl
theorem xm_271 : (.instanceMethod xy_Li_hasWrongNumber : Cond) ∈ tw_W := tw_t (i := 271) (by decide +kernel) rfl
theorem xm_272 : (.selects xc_Li xy_Li_hasWrongNumber xy_Li_hasWrongNumber : Cond) ∈ tw_W := tw_t (i := 272) (by decide +kernel) rfl
theorem xm_273 : (.code xy_Li_hasWrongNumber prog_4_method_5_code 1 (some .boolean) : Cond) ∈ tw_W := tw_t (i := 273) (by decide +kernel) rfl
theorem xm_275 : (.static xy_X_isObject : Cond) ∈ tw_W := tw_t (i := 275) (by decide +kernel) rfl
theorem xm_276 : (.code xy_X_isObject prog_1_method_18_code 1 (some .boolean) : Cond) ∈ tw_W := tw_t (i := 276) (by decide +kernel) rfl
theorem xm_277 : (.methodLink xc_Li 65 xy_Li_refersToNoObject : Cond) ∈ tw_W := tw_t (i := 277) (by decide +kernel) rfl
theorem xm_278 : (.static xy_Li_refersToNoObject : Cond) ∈ tw_W := tw_t (i := 278) (by decide +kernel) rfl
theorem xm_279 : (.code xy_Li_refersToNoObject prog_4_method_6_code 1 (some .boolean) : Cond) ∈ tw_W := tw_t (i := 279) (by decide +kernel) rfl
theorem xm_281 : (.static xy_X_kindOf : Cond) ∈ tw_W := tw_t (i := 281) (by decide +kernel) rfl
theorem xm_282 : (.code xy_X_kindOf prog_1_method_21_code 1 (some .int) : Cond) ∈ tw_W := tw_t (i := 282) (by decide +kernel) rfl
theorem xm_284 : (.static xy_X_contentOf : Cond) ∈ tw_W := tw_t (i := 284) (by decide +kernel) rfl
theorem xm_285 : (.code xy_X_contentOf prog_1_method_22_code 1 (some .int) : Cond) ∈ tw_W := tw_t (i := 285) (by decide +kernel) rfl
theorem xm_286 : (.methodLink xc_Ed 56 xy_Ed_doMake : Cond) ∈ tw_W := tw_t (i := 286) (by decide +kernel) rfl
theorem xm_288 : (.instanceMethod xy_Ed_doMake : Cond) ∈ tw_W := tw_t (i := 288) (by decide +kernel) rfl
theorem xm_289 : (.code xy_Ed_doMake prog_2_method_6_code 1 (some .int) : Cond) ∈ tw_W := tw_t (i := 289) (by decide +kernel) rfl
theorem xm_290 : (.methodLink xc_Ed 80 xy_St_isThere : Cond) ∈ tw_W := tw_t (i := 290) (by decide +kernel) rfl
theorem xm_291 : (.instanceMethod xy_St_isThere : Cond) ∈ tw_W := tw_t (i := 291) (by decide +kernel) rfl
theorem xm_292 : (.selects xc_St xy_St_isThere xy_St_isThere : Cond) ∈ tw_W := tw_t (i := 292) (by decide +kernel) rfl
theorem xm_293 : (.code xy_St_isThere prog_7_method_3_code 2 (some .boolean) : Cond) ∈ tw_W := tw_t (i := 293) (by decide +kernel) rfl
theorem xm_295 : (.methodLink xc_Ed 86 xy_St_make : Cond) ∈ tw_W := tw_t (i := 295) (by decide +kernel) rfl
theorem xm_296 : (.instanceMethod xy_St_make : Cond) ∈ tw_W := tw_t (i := 296) (by decide +kernel) rfl
theorem xm_297 : (.selects xc_St xy_St_make xy_St_make : Cond) ∈ tw_W := tw_t (i := 297) (by decide +kernel) rfl
theorem xm_298 : (.code xy_St_make prog_7_method_7_code 2 none : Cond) ∈ tw_W := tw_t (i := 298) (by decide +kernel) rfl
theorem xm_299 : (.methodLink xc_Ed 59 xy_Ed_doTakeAway : Cond) ∈ tw_W := tw_t (i := 299) (by decide +kernel) rfl
theorem xm_301 : (.instanceMethod xy_Ed_doTakeAway : Cond) ∈ tw_W := tw_t (i := 301) (by decide +kernel) rfl
theorem xm_302 : (.code xy_Ed_doTakeAway prog_2_method_7_code 1 (some .int) : Cond) ∈ tw_W := tw_t (i := 302) (by decide +kernel) rfl
theorem xm_303 : (.methodLink xc_Ed 90 xy_Ed_isClosed : Cond) ∈ tw_W := tw_t (i := 303) (by decide +kernel) rfl
theorem xm_305 : (.instanceMethod xy_Ed_isClosed : Cond) ∈ tw_W := tw_t (i := 305) (by decide +kernel) rfl
theorem xm_306 : (.code xy_Ed_isClosed prog_2_method_13_code 2 (some .boolean) : Cond) ∈ tw_W := tw_t (i := 306) (by decide +kernel) rfl
theorem xm_307 : (.methodLink xc_Ed 129 xy_St_isSigned : Cond) ∈ tw_W := tw_t (i := 307) (by decide +kernel) rfl
theorem xm_308 : (.instanceMethod xy_St_isSigned : Cond) ∈ tw_W := tw_t (i := 308) (by decide +kernel) rfl
theorem xm_309 : (.selects xc_St xy_St_isSigned xy_St_isSigned : Cond) ∈ tw_W := tw_t (i := 309) (by decide +kernel) rfl
theorem xm_310 : (.code xy_St_isSigned prog_7_method_4_code 2 (some .boolean) : Cond) ∈ tw_W := tw_t (i := 310) (by decide +kernel) rfl
theorem xm_311 : (.methodLink xc_Ed 93 xy_St_takeAway : Cond) ∈ tw_W := tw_t (i := 311) (by decide +kernel) rfl
theorem xm_312 : (.instanceMethod xy_St_takeAway : Cond) ∈ tw_W := tw_t (i := 312) (by decide +kernel) rfl
theorem xm_313 : (.selects xc_St xy_St_takeAway xy_St_takeAway : Cond) ∈ tw_W := tw_t (i := 313) (by decide +kernel) rfl
theorem xm_314 : (.code xy_St_takeAway prog_7_method_8_code 3 none : Cond) ∈ tw_W := tw_t (i := 314) (by decide +kernel) rfl
theorem xm_315 : (.methodLink xc_St 34 xy_St_put : Cond) ∈ tw_W := tw_t (i := 315) (by decide +kernel) rfl
theorem xm_316 : (.instanceMethod xy_St_put : Cond) ∈ tw_W := tw_t (i := 316) (by decide +kernel) rfl
theorem xm_317 : (.selects xc_St xy_St_put xy_St_put : Cond) ∈ tw_W := tw_t (i := 317) (by decide +kernel) rfl
theorem xm_318 : (.code xy_St_put prog_7_method_10_code 5 none : Cond) ∈ tw_W := tw_t (i := 318) (by decide +kernel) rfl
theorem xm_320 : (.static xy_X_isKey : Cond) ∈ tw_W := tw_t (i := 320) (by decide +kernel) rfl
theorem xm_321 : (.code xy_X_isKey prog_1_method_19_code 1 (some .boolean) : Cond) ∈ tw_W := tw_t (i := 321) (by decide +kernel) rfl
theorem xm_322 : (.methodLink xc_Ed 62 xy_Ed_doSeal : Cond) ∈ tw_W := tw_t (i := 322) (by decide +kernel) rfl
theorem xm_324 : (.instanceMethod xy_Ed_doSeal : Cond) ∈ tw_W := tw_t (i := 324) (by decide +kernel) rfl
theorem xm_325 : (.code xy_Ed_doSeal prog_2_method_8_code 1 (some .int) : Cond) ∈ tw_W := tw_t (i := 325) (by decide +kernel) rfl
theorem xm_326 : (.methodLink xc_Ed 96 xy_St_seal : Cond) ∈ tw_W := tw_t (i := 326) (by decide +kernel) rfl
theorem xm_327 : (.instanceMethod xy_St_seal : Cond) ∈ tw_W := tw_t (i := 327) (by decide +kernel) rfl
theorem xm_328 : (.selects xc_St xy_St_seal xy_St_seal : Cond) ∈ tw_W := tw_t (i := 328) (by decide +kernel) rfl
theorem xm_329 : (.code xy_St_seal prog_7_method_9_code 2 none : Cond) ∈ tw_W := tw_t (i := 329) (by decide +kernel) rfl
theorem xm_330 : (.methodLink xc_Ed 65 xy_Ed_doSet : Cond) ∈ tw_W := tw_t (i := 330) (by decide +kernel) rfl
theorem xm_332 : (.instanceMethod xy_Ed_doSet : Cond) ∈ tw_W := tw_t (i := 332) (by decide +kernel) rfl
theorem xm_333 : (.code xy_Ed_doSet prog_2_method_9_code 2 (some .int) : Cond) ∈ tw_W := tw_t (i := 333) (by decide +kernel) rfl
theorem xm_334 : (.methodLink xc_Ed 103 xy_Ed_follow : Cond) ∈ tw_W := tw_t (i := 334) (by decide +kernel) rfl
theorem xm_336 : (.instanceMethod xy_Ed_follow : Cond) ∈ tw_W := tw_t (i := 336) (by decide +kernel) rfl
theorem xm_337 : (.code xy_Ed_follow prog_2_method_14_code 5 (some .int) : Cond) ∈ tw_W := tw_t (i := 337) (by decide +kernel) rfl
theorem xm_338 : (.methodLink xc_Ed 132 xy_Pa_length : Cond) ∈ tw_W := tw_t (i := 338) (by decide +kernel) rfl
theorem xm_339 : (.instanceMethod xy_Pa_length : Cond) ∈ tw_W := tw_t (i := 339) (by decide +kernel) rfl
theorem xm_340 : (.selects xc_Pa xy_Pa_length xy_Pa_length : Cond) ∈ tw_W := tw_t (i := 340) (by decide +kernel) rfl
theorem xm_341 : (.code xy_Pa_length prog_5_method_3_code 1 (some .int) : Cond) ∈ tw_W := tw_t (i := 341) (by decide +kernel) rfl
theorem xm_342 : (.methodLink xc_Ed 135 xy_Pa_keyAt : Cond) ∈ tw_W := tw_t (i := 342) (by decide +kernel) rfl
theorem xm_343 : (.instanceMethod xy_Pa_keyAt : Cond) ∈ tw_W := tw_t (i := 343) (by decide +kernel) rfl
theorem xm_344 : (.selects xc_Pa xy_Pa_keyAt xy_Pa_keyAt : Cond) ∈ tw_W := tw_t (i := 344) (by decide +kernel) rfl
theorem xm_345 : (.code xy_Pa_keyAt prog_5_method_4_code 2 (some .int) : Cond) ∈ tw_W := tw_t (i := 345) (by decide +kernel) rfl
theorem xm_346 : (.methodLink xc_Ed 119 xy_St_cellAt : Cond) ∈ tw_W := tw_t (i := 346) (by decide +kernel) rfl
theorem xm_347 : (.instanceMethod xy_St_cellAt : Cond) ∈ tw_W := tw_t (i := 347) (by decide +kernel) rfl
theorem xm_348 : (.selects xc_St xy_St_cellAt xy_St_cellAt : Cond) ∈ tw_W := tw_t (i := 348) (by decide +kernel) rfl
theorem xm_349 : (.code xy_St_cellAt prog_7_method_6_code 3 (some .int) : Cond) ∈ tw_W := tw_t (i := 349) (by decide +kernel) rfl
theorem xm_352 : (.methodLink xc_Ed 107 xy_Pa_lastKey : Cond) ∈ tw_W := tw_t (i := 352) (by decide +kernel) rfl
theorem xm_353 : (.instanceMethod xy_Pa_lastKey : Cond) ∈ tw_W := tw_t (i := 353) (by decide +kernel) rfl
theorem xm_354 : (.selects xc_Pa xy_Pa_lastKey xy_Pa_lastKey : Cond) ∈ tw_W := tw_t (i := 354) (by decide +kernel) rfl
theorem xm_355 : (.code xy_Pa_lastKey prog_5_method_5_code 1 (some .int) : Cond) ∈ tw_W := tw_t (i := 355) (by decide +kernel) rfl
theorem xm_356 : (.methodLink xc_Pa 25 xy_Pa_keyAt : Cond) ∈ tw_W := tw_t (i := 356) (by decide +kernel) rfl
theorem xm_357 : (.methodLink xc_Ed 115 xy_St_put : Cond) ∈ tw_W := tw_t (i := 357) (by decide +kernel) rfl
theorem xm_358 : (.methodLink xc_Ed 68 xy_Ed_doDelete : Cond) ∈ tw_W := tw_t (i := 358) (by decide +kernel) rfl
theorem xm_360 : (.instanceMethod xy_Ed_doDelete : Cond) ∈ tw_W := tw_t (i := 360) (by decide +kernel) rfl
theorem xm_361 : (.code xy_Ed_doDelete prog_2_method_10_code 3 (some .int) : Cond) ∈ tw_W := tw_t (i := 361) (by decide +kernel) rfl
theorem xm_362 : (.methodLink xc_Ed 71 xy_Ed_doMove : Cond) ∈ tw_W := tw_t (i := 362) (by decide +kernel) rfl
theorem xm_364 : (.instanceMethod xy_Ed_doMove : Cond) ∈ tw_W := tw_t (i := 364) (by decide +kernel) rfl
theorem xm_365 : (.code xy_Ed_doMove prog_2_method_11_code 5 (some .int) : Cond) ∈ tw_W := tw_t (i := 365) (by decide +kernel) rfl
theorem xm_366 : (.methodLink xc_Ed 74 xy_Ed_doChange : Cond) ∈ tw_W := tw_t (i := 366) (by decide +kernel) rfl
theorem xm_368 : (.instanceMethod xy_Ed_doChange : Cond) ∈ tw_W := tw_t (i := 368) (by decide +kernel) rfl
theorem xm_369 : (.code xy_Ed_doChange prog_2_method_12_code 4 (some .int) : Cond) ∈ tw_W := tw_t (i := 369) (by decide +kernel) rfl
theorem xm_370 : (.methodLink xc_X 64 xy_Te_clear : Cond) ∈ tw_W := tw_t (i := 370) (by decide +kernel) rfl
theorem xm_371 : (.instanceMethod xy_Te_clear : Cond) ∈ tw_W := tw_t (i := 371) (by decide +kernel) rfl
theorem xm_372 : (.selects xc_Te xy_Te_clear xy_Te_clear : Cond) ∈ tw_W := tw_t (i := 372) (by decide +kernel) rfl
theorem xm_373 : (.code xy_Te_clear prog_8_method_4_code 1 none : Cond) ∈ tw_W := tw_t (i := 373) (by decide +kernel) rfl
theorem xm_374 : (.methodLink xc_X 67 xy_Ed_passedLines : Cond) ∈ tw_W := tw_t (i := 374) (by decide +kernel) rfl
theorem xm_375 : (.instanceMethod xy_Ed_passedLines : Cond) ∈ tw_W := tw_t (i := 375) (by decide +kernel) rfl
theorem xm_376 : (.selects xc_Ed xy_Ed_passedLines xy_Ed_passedLines : Cond) ∈ tw_W := tw_t (i := 376) (by decide +kernel) rfl
theorem xm_377 : (.code xy_Ed_passedLines prog_2_method_3_code 1 (some .int) : Cond) ∈ tw_W := tw_t (i := 377) (by decide +kernel) rfl
theorem xm_378 : (.methodLink xc_X 74 xy_Ed_lines : Cond) ∈ tw_W := tw_t (i := 378) (by decide +kernel) rfl
theorem xm_379 : (.instanceMethod xy_Ed_lines : Cond) ∈ tw_W := tw_t (i := 379) (by decide +kernel) rfl
theorem xm_380 : (.selects xc_Ed xy_Ed_lines xy_Ed_lines : Cond) ∈ tw_W := tw_t (i := 380) (by decide +kernel) rfl
theorem xm_381 : (.code xy_Ed_lines prog_2_method_2_code 1 (some .int) : Cond) ∈ tw_W := tw_t (i := 381) (by decide +kernel) rfl
theorem xm_382 : (.methodLink xc_X 80 xy_Hi_keep : Cond) ∈ tw_W := tw_t (i := 382) (by decide +kernel) rfl
theorem xm_383 : (.instanceMethod xy_Hi_keep : Cond) ∈ tw_W := tw_t (i := 383) (by decide +kernel) rfl
theorem xm_384 : (.selects xc_Hi xy_Hi_keep xy_Hi_keep : Cond) ∈ tw_W := tw_t (i := 384) (by decide +kernel) rfl
theorem xm_385 : (.code xy_Hi_keep prog_3_method_3_code 3 none : Cond) ∈ tw_W := tw_t (i := 385) (by decide +kernel) rfl
theorem xm_386 : (.methodLink xc_Hi 24 (⟨"java/lang/Math", "floorMod", "(II)I"⟩ : MethodName) : Cond) ∈ tw_W := tw_t (i := 386) (by decide +kernel) rfl
theorem xm_387 : (.static (⟨"java/lang/Math", "floorMod", "(II)I"⟩ : MethodName) : Cond) ∈ tw_W := tw_t (i := 387) (by decide +kernel) rfl
theorem xm_388 : (.code (⟨"java/lang/Math", "floorMod", "(II)I"⟩ : MethodName) prog_13_method_50_code 3 (some .int) : Cond) ∈ tw_W := tw_t (i := 388) (by decide +kernel) rfl
theorem xm_389 : (.methodLink xc_Hi 30 xy_St_init : Cond) ∈ tw_W := tw_t (i := 389) (by decide +kernel) rfl
theorem xm_390 : (.methodLink xc_Hi 31 xy_St_copyFrom : Cond) ∈ tw_W := tw_t (i := 390) (by decide +kernel) rfl
theorem xm_391 : (.methodLink xc_X 83 xy_X_noteUnlike : Cond) ∈ tw_W := tw_t (i := 391) (by decide +kernel) rfl
theorem xm_393 : (.instanceMethod xy_X_noteUnlike : Cond) ∈ tw_W := tw_t (i := 393) (by decide +kernel) rfl
theorem xm_394 : (.code xy_X_noteUnlike prog_1_method_14_code 2 (some .int) : Cond) ∈ tw_W := tw_t (i := 394) (by decide +kernel) rfl
theorem xm_395 : (.methodLink xc_X 157 xy_St_isUnlike : Cond) ∈ tw_W := tw_t (i := 395) (by decide +kernel) rfl
theorem xm_396 : (.instanceMethod xy_St_isUnlike : Cond) ∈ tw_W := tw_t (i := 396) (by decide +kernel) rfl
theorem xm_397 : (.selects xc_St xy_St_isUnlike xy_St_isUnlike : Cond) ∈ tw_W := tw_t (i := 397) (by decide +kernel) rfl
theorem xm_398 : (.code xy_St_isUnlike prog_7_method_13_code 4 (some .boolean) : Cond) ∈ tw_W := tw_t (i := 398) (by decide +kernel) rfl
theorem xm_399 : (.methodLink xc_St 42 xy_St_isThere : Cond) ∈ tw_W := tw_t (i := 399) (by decide +kernel) rfl
theorem xm_400 : (.methodLink xc_St 45 xy_St_isSigned : Cond) ∈ tw_W := tw_t (i := 400) (by decide +kernel) rfl
theorem xm_401 : (.methodLink xc_St 48 xy_St_keyCount : Cond) ∈ tw_W := tw_t (i := 401) (by decide +kernel) rfl
theorem xm_402 : (.instanceMethod xy_St_keyCount : Cond) ∈ tw_W := tw_t (i := 402) (by decide +kernel) rfl
theorem xm_403 : (.selects xc_St xy_St_keyCount xy_St_keyCount : Cond) ∈ tw_W := tw_t (i := 403) (by decide +kernel) rfl
theorem xm_404 : (.code xy_St_keyCount prog_7_method_5_code 2 (some .int) : Cond) ∈ tw_W := tw_t (i := 404) (by decide +kernel) rfl
theorem xm_405 : (.methodLink xc_St 52 xy_St_cellAt : Cond) ∈ tw_W := tw_t (i := 405) (by decide +kernel) rfl
theorem xm_406 : (.methodLink xc_La 42 xy_X_dry : Cond) ∈ tw_W := tw_t (i := 406) (by decide +kernel) rfl
theorem xm_407 : (.instanceMethod xy_X_dry : Cond) ∈ tw_W := tw_t (i := 407) (by decide +kernel) rfl
theorem xm_408 : (.selects xc_X xy_X_dry xy_X_dry : Cond) ∈ tw_W := tw_t (i := 408) (by decide +kernel) rfl
theorem xm_409 : (.code xy_X_dry prog_1_method_4_code 3 (some .int) : Cond) ∈ tw_W := tw_t (i := 409) (by decide +kernel) rfl
theorem xm_410 : (.methodLink xc_X 86 xy_X_countUnlike : Cond) ∈ tw_W := tw_t (i := 410) (by decide +kernel) rfl
theorem xm_412 : (.instanceMethod xy_X_countUnlike : Cond) ∈ tw_W := tw_t (i := 412) (by decide +kernel) rfl
theorem xm_413 : (.code xy_X_countUnlike prog_1_method_15_code 3 (some .int) : Cond) ∈ tw_W := tw_t (i := 413) (by decide +kernel) rfl
theorem xm_414 : (.methodLink xc_La 52 xy_X_undo : Cond) ∈ tw_W := tw_t (i := 414) (by decide +kernel) rfl
theorem xm_415 : (.instanceMethod xy_X_undo : Cond) ∈ tw_W := tw_t (i := 415) (by decide +kernel) rfl
theorem xm_416 : (.selects xc_X xy_X_undo xy_X_undo : Cond) ∈ tw_W := tw_t (i := 416) (by decide +kernel) rfl
theorem xm_417 : (.code xy_X_undo prog_1_method_6_code 2 (some .int) : Cond) ∈ tw_W := tw_t (i := 417) (by decide +kernel) rfl
theorem xm_418 : (.methodLink xc_X 99 xy_Hi_takeLatest : Cond) ∈ tw_W := tw_t (i := 418) (by decide +kernel) rfl
theorem xm_419 : (.instanceMethod xy_Hi_takeLatest : Cond) ∈ tw_W := tw_t (i := 419) (by decide +kernel) rfl
theorem xm_420 : (.selects xc_Hi xy_Hi_takeLatest xy_Hi_takeLatest : Cond) ∈ tw_W := tw_t (i := 420) (by decide +kernel) rfl
theorem xm_421 : (.code xy_Hi_takeLatest prog_3_method_4_code 1 (some (.object "EditLists2$Store")) : Cond) ∈ tw_W := tw_t (i := 421) (by decide +kernel) rfl
theorem xm_422 : (.methodLink xc_La 57 xy_X_drop : Cond) ∈ tw_W := tw_t (i := 422) (by decide +kernel) rfl
theorem xm_423 : (.instanceMethod xy_X_drop : Cond) ∈ tw_W := tw_t (i := 423) (by decide +kernel) rfl
theorem xm_424 : (.selects xc_X xy_X_drop xy_X_drop : Cond) ∈ tw_W := tw_t (i := 424) (by decide +kernel) rfl
theorem xm_425 : (.code xy_X_drop prog_1_method_7_code 3 (some .int) : Cond) ∈ tw_W := tw_t (i := 425) (by decide +kernel) rfl
theorem xm_426 : (.methodLink xc_X 103 xy_Re_walk : Cond) ∈ tw_W := tw_t (i := 426) (by decide +kernel) rfl
theorem xm_427 : (.instanceMethod xy_Re_walk : Cond) ∈ tw_W := tw_t (i := 427) (by decide +kernel) rfl
theorem xm_428 : (.selects xc_Re xy_Re_walk xy_Re_walk : Cond) ∈ tw_W := tw_t (i := 428) (by decide +kernel) rfl
theorem xm_429 : (.code xy_Re_walk prog_6_method_3_code 3 none : Cond) ∈ tw_W := tw_t (i := 429) (by decide +kernel) rfl
theorem xm_430 : (.methodLink xc_Re 27 xy_Re_meet : Cond) ∈ tw_W := tw_t (i := 430) (by decide +kernel) rfl
theorem xm_432 : (.instanceMethod xy_Re_meet : Cond) ∈ tw_W := tw_t (i := 432) (by decide +kernel) rfl
theorem xm_433 : (.code xy_Re_meet prog_6_method_5_code 2 none : Cond) ∈ tw_W := tw_t (i := 433) (by decide +kernel) rfl
theorem xm_435 : (.methodLink xc_Re 31 xy_Re_walkKeys : Cond) ∈ tw_W := tw_t (i := 435) (by decide +kernel) rfl
theorem xm_437 : (.instanceMethod xy_Re_walkKeys : Cond) ∈ tw_W := tw_t (i := 437) (by decide +kernel) rfl
theorem xm_438 : (.code xy_Re_walkKeys prog_6_method_4_code 5 none : Cond) ∈ tw_W := tw_t (i := 438) (by decide +kernel) rfl
theorem xm_439 : (.methodLink xc_Re 35 xy_St_cellAt : Cond) ∈ tw_W := tw_t (i := 439) (by decide +kernel) rfl
theorem xm_442 : (.methodLink xc_Re 48 xy_St_isThere : Cond) ∈ tw_W := tw_t (i := 442) (by decide +kernel) rfl
theorem xm_443 : (.methodLink xc_X 106 xy_St_isThere : Cond) ∈ tw_W := tw_t (i := 443) (by decide +kernel) rfl
theorem xm_444 : (.methodLink xc_X 109 xy_Re_has : Cond) ∈ tw_W := tw_t (i := 444) (by decide +kernel) rfl
theorem xm_445 : (.instanceMethod xy_Re_has : Cond) ∈ tw_W := tw_t (i := 445) (by decide +kernel) rfl
theorem xm_446 : (.selects xc_Re xy_Re_has xy_Re_has : Cond) ∈ tw_W := tw_t (i := 446) (by decide +kernel) rfl
theorem xm_447 : (.code xy_Re_has prog_6_method_2_code 2 (some .boolean) : Cond) ∈ tw_W := tw_t (i := 447) (by decide +kernel) rfl
theorem xm_448 : (.methodLink xc_X 112 xy_St_takeAway : Cond) ∈ tw_W := tw_t (i := 448) (by decide +kernel) rfl
theorem xm_449 : (.methodLink xc_La 61 xy_X_join : Cond) ∈ tw_W := tw_t (i := 449) (by decide +kernel) rfl
theorem xm_450 : (.instanceMethod xy_X_join : Cond) ∈ tw_W := tw_t (i := 450) (by decide +kernel) rfl
theorem xm_451 : (.selects xc_X xy_X_join xy_X_join : Cond) ∈ tw_W := tw_t (i := 451) (by decide +kernel) rfl
theorem xm_452 : (.code xy_X_join prog_1_method_8_code 2 (some .int) : Cond) ∈ tw_W := tw_t (i := 452) (by decide +kernel) rfl
theorem xm_453 : (.methodLink xc_X 116 xy_St_joinFirstPair : Cond) ∈ tw_W := tw_t (i := 453) (by decide +kernel) rfl
theorem xm_454 : (.instanceMethod xy_St_joinFirstPair : Cond) ∈ tw_W := tw_t (i := 454) (by decide +kernel) rfl
theorem xm_455 : (.selects xc_St xy_St_joinFirstPair xy_St_joinFirstPair : Cond) ∈ tw_W := tw_t (i := 455) (by decide +kernel) rfl
theorem xm_456 : (.code xy_St_joinFirstPair prog_7_method_14_code 3 (some .boolean) : Cond) ∈ tw_W := tw_t (i := 456) (by decide +kernel) rfl
theorem xm_457 : (.methodLink xc_St 55 xy_St_mayJoin : Cond) ∈ tw_W := tw_t (i := 457) (by decide +kernel) rfl
theorem xm_459 : (.instanceMethod xy_St_mayJoin : Cond) ∈ tw_W := tw_t (i := 459) (by decide +kernel) rfl
theorem xm_460 : (.code xy_St_mayJoin prog_7_method_15_code 2 (some .boolean) : Cond) ∈ tw_W := tw_t (i := 460) (by decide +kernel) rfl
theorem xm_461 : (.methodLink xc_St 58 xy_St_areAlike : Cond) ∈ tw_W := tw_t (i := 461) (by decide +kernel) rfl
theorem xm_463 : (.instanceMethod xy_St_areAlike : Cond) ∈ tw_W := tw_t (i := 463) (by decide +kernel) rfl
theorem xm_464 : (.code xy_St_areAlike prog_7_method_16_code 8 (some .boolean) : Cond) ∈ tw_W := tw_t (i := 464) (by decide +kernel) rfl
theorem xm_466 : (.methodLink xc_St 62 xy_St_takeAway : Cond) ∈ tw_W := tw_t (i := 466) (by decide +kernel) rfl
theorem xm_467 : (.methodLink xc_St 66 xy_St_redirect : Cond) ∈ tw_W := tw_t (i := 467) (by decide +kernel) rfl
theorem xm_469 : (.instanceMethod xy_St_redirect : Cond) ∈ tw_W := tw_t (i := 469) (by decide +kernel) rfl
theorem xm_470 : (.code xy_St_redirect prog_7_method_17_code 4 none : Cond) ∈ tw_W := tw_t (i := 470) (by decide +kernel) rfl
theorem xm_471 : (.methodLink xc_St 70 xy_St_redirectKeys : Cond) ∈ tw_W := tw_t (i := 471) (by decide +kernel) rfl
theorem xm_473 : (.instanceMethod xy_St_redirectKeys : Cond) ∈ tw_W := tw_t (i := 473) (by decide +kernel) rfl
theorem xm_474 : (.code xy_St_redirectKeys prog_7_method_18_code 5 none : Cond) ∈ tw_W := tw_t (i := 474) (by decide +kernel) rfl
theorem xm_475 : (.methodLink xc_La 78 xy_X_told : Cond) ∈ tw_W := tw_t (i := 475) (by decide +kernel) rfl
theorem xm_476 : (.instanceMethod xy_X_told : Cond) ∈ tw_W := tw_t (i := 476) (by decide +kernel) rfl
theorem xm_477 : (.selects xc_X xy_X_told xy_X_told : Cond) ∈ tw_W := tw_t (i := 477) (by decide +kernel) rfl
theorem xm_478 : (.code xy_X_told prog_1_method_13_code 2 (some .int) : Cond) ∈ tw_W := tw_t (i := 478) (by decide +kernel) rfl
theorem xm_479 : (.methodLink xc_X 148 xy_Te_length : Cond) ∈ tw_W := tw_t (i := 479) (by decide +kernel) rfl
theorem xm_480 : (.instanceMethod xy_Te_length : Cond) ∈ tw_W := tw_t (i := 480) (by decide +kernel) rfl
theorem xm_481 : (.selects xc_Te xy_Te_length xy_Te_length : Cond) ∈ tw_W := tw_t (i := 481) (by decide +kernel) rfl
theorem xm_482 : (.code xy_Te_length prog_8_method_3_code 1 (some .int) : Cond) ∈ tw_W := tw_t (i := 482) (by decide +kernel) rfl
theorem xm_483 : (.methodLink xc_X 151 xy_St_countThere : Cond) ∈ tw_W := tw_t (i := 483) (by decide +kernel) rfl
theorem xm_484 : (.instanceMethod xy_St_countThere : Cond) ∈ tw_W := tw_t (i := 484) (by decide +kernel) rfl
theorem xm_485 : (.selects xc_St xy_St_countThere xy_St_countThere : Cond) ∈ tw_W := tw_t (i := 485) (by decide +kernel) rfl
theorem xm_486 : (.code xy_St_countThere prog_7_method_11_code 3 (some .int) : Cond) ∈ tw_W := tw_t (i := 486) (by decide +kernel) rfl
theorem xm_487 : (.methodLink xc_X 154 xy_Hi_count : Cond) ∈ tw_W := tw_t (i := 487) (by decide +kernel) rfl
theorem xm_488 : (.instanceMethod xy_Hi_count : Cond) ∈ tw_W := tw_t (i := 488) (by decide +kernel) rfl
theorem xm_489 : (.selects xc_Hi xy_Hi_count xy_Hi_count : Cond) ∈ tw_W := tw_t (i := 489) (by decide +kernel) rfl
theorem xm_490 : (.code xy_Hi_count prog_3_method_2_code 1 (some .int) : Cond) ∈ tw_W := tw_t (i := 490) (by decide +kernel) rfl
theorem xm_491 : (.methodLink xc_La 46 xy_La_changed : Cond) ∈ tw_W := tw_t (i := 491) (by decide +kernel) rfl
theorem xm_492 : (.static xy_La_changed : Cond) ∈ tw_W := tw_t (i := 492) (by decide +kernel) rfl
theorem xm_494 : (.classLink xc_La 13 "java/lang/IndexOutOfBoundsException" : Cond) ∈ tw_W := tw_t (i := 494) (by decide +kernel) rfl
theorem xm_495 : (.methodLink xc_La 7 xy_X_changed : Cond) ∈ tw_W := tw_t (i := 495) (by decide +kernel) rfl
theorem xm_496 : (.instanceMethod xy_X_changed : Cond) ∈ tw_W := tw_t (i := 496) (by decide +kernel) rfl
theorem xm_497 : (.selects xc_X xy_X_changed xy_X_changed : Cond) ∈ tw_W := tw_t (i := 497) (by decide +kernel) rfl
theorem xm_498 : (.code xy_X_changed prog_1_method_5_code 2 (some .int) : Cond) ∈ tw_W := tw_t (i := 498) (by decide +kernel) rfl
theorem xm_499 : (.classLink xc_X 92 "java/lang/IndexOutOfBoundsException" : Cond) ∈ tw_W := tw_t (i := 499) (by decide +kernel) rfl
theorem xm_500 : (.instantiable "java/lang/IndexOutOfBoundsException" 6 : Cond) ∈ tw_W := tw_t (i := 500) (by decide +kernel) rfl
theorem xm_520 : (.fieldLink "java/lang/Throwable" 198 "java/lang/Throwable" "backtrace" "Ljava/lang/Object;" : Cond) ∈ tw_W := tw_t (i := 520) (by decide +kernel) rfl
theorem xm_524 : (.methodLink "java/lang/Throwable" 1 (⟨"java/lang/Object", "<init>", "()V"⟩ : MethodName) : Cond) ∈ tw_W := tw_t (i := 524) (by decide +kernel) rfl
theorem xm_525 : (.fieldLink "java/lang/Throwable" 13 "java/lang/Throwable" "UNASSIGNED_STACK" "[Ljava/lang/StackTraceElement;" : Cond) ∈ tw_W := tw_t (i := 525) (by decide +kernel) rfl
theorem xm_527 : (.fieldLink "java/lang/Throwable" 20 "java/lang/Throwable" "SUPPRESSED_SENTINEL" "Ljava/util/List;" : Cond) ∈ tw_W := tw_t (i := 527) (by decide +kernel) rfl
theorem xm_536 : (.instantiable "java/lang/Throwable" 6 : Cond) ∈ tw_W := tw_t (i := 536) (by decide +kernel) rfl
theorem xm_551 : (.fieldLink "java/lang/Throwable" 198 "java/lang/Throwable" "backtrace" "Ljava/lang/Object;" : Cond) ∈ tw_W := tw_t (i := 551) (by decide +kernel) rfl
theorem xm_552 : (.fieldLink "java/lang/Throwable" 31 "java/lang/Throwable" "detailMessage" "Ljava/lang/String;" : Cond) ∈ tw_W := tw_t (i := 552) (by decide +kernel) rfl
theorem xm_553 : (.fieldLink "java/lang/Throwable" 7 "java/lang/Throwable" "cause" "Ljava/lang/Throwable;" : Cond) ∈ tw_W := tw_t (i := 553) (by decide +kernel) rfl
theorem xm_554 : (.fieldLink "java/lang/Throwable" 17 "java/lang/Throwable" "stackTrace" "[Ljava/lang/StackTraceElement;" : Cond) ∈ tw_W := tw_t (i := 554) (by decide +kernel) rfl
theorem xm_555 : (.fieldLink "java/lang/Throwable" 24 "java/lang/Throwable" "suppressedExceptions" "Ljava/util/List;" : Cond) ∈ tw_W := tw_t (i := 555) (by decide +kernel) rfl
theorem xm_564 : (.arrayClass Jvm.ClassFile.FieldType.byte : Cond) ∈ tw_W := tw_t (i := 564) (by decide +kernel) rfl
theorem xm_565 : (.methodLink xc_La 65 xy_La_reached : Cond) ∈ tw_W := tw_t (i := 565) (by decide +kernel) rfl
theorem xm_566 : (.static xy_La_reached : Cond) ∈ tw_W := tw_t (i := 566) (by decide +kernel) rfl
theorem xm_568 : (.methodLink xc_La 15 xy_X_reached : Cond) ∈ tw_W := tw_t (i := 568) (by decide +kernel) rfl
theorem xm_569 : (.instanceMethod xy_X_reached : Cond) ∈ tw_W := tw_t (i := 569) (by decide +kernel) rfl
theorem xm_570 : (.selects xc_X xy_X_reached xy_X_reached : Cond) ∈ tw_W := tw_t (i := 570) (by decide +kernel) rfl
theorem xm_571 : (.code xy_X_reached prog_1_method_9_code 2 (some .boolean) : Cond) ∈ tw_W := tw_t (i := 571) (by decide +kernel) rfl
theorem xm_572 : (.methodLink xc_X 120 xy_X_requireObject : Cond) ∈ tw_W := tw_t (i := 572) (by decide +kernel) rfl
theorem xm_573 : (.static xy_X_requireObject : Cond) ∈ tw_W := tw_t (i := 573) (by decide +kernel) rfl
theorem xm_574 : (.code xy_X_requireObject prog_1_method_16_code 1 none : Cond) ∈ tw_W := tw_t (i := 574) (by decide +kernel) rfl
theorem xm_575 : (.methodLink xc_X 161 xy_X_isObject : Cond) ∈ tw_W := tw_t (i := 575) (by decide +kernel) rfl
theorem xm_577 : (.methodLink xc_La 68 xy_La_kind : Cond) ∈ tw_W := tw_t (i := 577) (by decide +kernel) rfl
theorem xm_578 : (.static xy_La_kind : Cond) ∈ tw_W := tw_t (i := 578) (by decide +kernel) rfl
theorem xm_580 : (.methodLink xc_La 19 xy_X_kind : Cond) ∈ tw_W := tw_t (i := 580) (by decide +kernel) rfl
theorem xm_581 : (.instanceMethod xy_X_kind : Cond) ∈ tw_W := tw_t (i := 581) (by decide +kernel) rfl
theorem xm_582 : (.selects xc_X xy_X_kind xy_X_kind : Cond) ∈ tw_W := tw_t (i := 582) (by decide +kernel) rfl
theorem xm_583 : (.code xy_X_kind prog_1_method_10_code 3 (some .int) : Cond) ∈ tw_W := tw_t (i := 583) (by decide +kernel) rfl
theorem xm_584 : (.methodLink xc_X 123 xy_X_requireKey : Cond) ∈ tw_W := tw_t (i := 584) (by decide +kernel) rfl
theorem xm_585 : (.static xy_X_requireKey : Cond) ∈ tw_W := tw_t (i := 585) (by decide +kernel) rfl
theorem xm_586 : (.code xy_X_requireKey prog_1_method_17_code 1 none : Cond) ∈ tw_W := tw_t (i := 586) (by decide +kernel) rfl
theorem xm_587 : (.methodLink xc_X 166 xy_X_isKey : Cond) ∈ tw_W := tw_t (i := 587) (by decide +kernel) rfl
theorem xm_589 : (.methodLink xc_X 126 xy_St_cellAt : Cond) ∈ tw_W := tw_t (i := 589) (by decide +kernel) rfl
theorem xm_590 : (.methodLink xc_X 130 xy_X_kindOf : Cond) ∈ tw_W := tw_t (i := 590) (by decide +kernel) rfl
theorem xm_591 : (.methodLink xc_La 72 xy_La_value : Cond) ∈ tw_W := tw_t (i := 591) (by decide +kernel) rfl
theorem xm_592 : (.static xy_La_value : Cond) ∈ tw_W := tw_t (i := 592) (by decide +kernel) rfl
theorem xm_594 : (.methodLink xc_La 23 xy_X_value : Cond) ∈ tw_W := tw_t (i := 594) (by decide +kernel) rfl
theorem xm_595 : (.instanceMethod xy_X_value : Cond) ∈ tw_W := tw_t (i := 595) (by decide +kernel) rfl
theorem xm_596 : (.selects xc_X xy_X_value xy_X_value : Cond) ∈ tw_W := tw_t (i := 596) (by decide +kernel) rfl
theorem xm_597 : (.code xy_X_value prog_1_method_11_code 3 (some .int) : Cond) ∈ tw_W := tw_t (i := 597) (by decide +kernel) rfl
theorem xm_598 : (.methodLink xc_X 134 xy_X_contentOf : Cond) ∈ tw_W := tw_t (i := 598) (by decide +kernel) rfl
theorem xm_599 : (.methodLink xc_La 75 xy_La_object : Cond) ∈ tw_W := tw_t (i := 599) (by decide +kernel) rfl
theorem xm_600 : (.static xy_La_object : Cond) ∈ tw_W := tw_t (i := 600) (by decide +kernel) rfl
theorem xm_602 : (.methodLink xc_La 26 xy_X_object : Cond) ∈ tw_W := tw_t (i := 602) (by decide +kernel) rfl
theorem xm_603 : (.instanceMethod xy_X_object : Cond) ∈ tw_W := tw_t (i := 603) (by decide +kernel) rfl
theorem xm_604 : (.selects xc_X xy_X_object xy_X_object : Cond) ∈ tw_W := tw_t (i := 604) (by decide +kernel) rfl
theorem xm_605 : (.code xy_X_object prog_1_method_12_code 3 (some .int) : Cond) ∈ tw_W := tw_t (i := 605) (by decide +kernel) rfl
theorem xm_606 : (.methodLink xc_X 137 xy_St_isSigned : Cond) ∈ tw_W := tw_t (i := 606) (by decide +kernel) rfl
theorem xm_607 : (.methodLink xc_X 140 xy_St_keyCount : Cond) ∈ tw_W := tw_t (i := 607) (by decide +kernel) rfl
theorem xm_608 : (.methodLink xc_X 143 xy_St_referencesTo : Cond) ∈ tw_W := tw_t (i := 608) (by decide +kernel) rfl
theorem xm_609 : (.instanceMethod xy_St_referencesTo : Cond) ∈ tw_W := tw_t (i := 609) (by decide +kernel) rfl
theorem xm_610 : (.selects xc_St xy_St_referencesTo xy_St_referencesTo : Cond) ∈ tw_W := tw_t (i := 610) (by decide +kernel) rfl
theorem xm_611 : (.code xy_St_referencesTo prog_7_method_12_code 5 (some .int) : Cond) ∈ tw_W := tw_t (i := 611) (by decide +kernel) rfl
theorem xm_613 : (.classLink xc_La 30 xc_Mo : Cond) ∈ tw_W := tw_t (i := 613) (by decide +kernel) rfl
theorem xm_614 : (.instantiable xc_Mo 23 : Cond) ∈ tw_W := tw_t (i := 614) (by decide +kernel) rfl
theorem xm_615 : (.methodLink xc_La 32 xy_Mo_init : Cond) ∈ tw_W := tw_t (i := 615) (by decide +kernel) rfl
theorem xm_616 : (.instanceMethod xy_Mo_init : Cond) ∈ tw_W := tw_t (i := 616) (by decide +kernel) rfl
theorem xm_617 : (.code xy_Mo_init prog_10_method_1_code 1 none : Cond) ∈ tw_W := tw_t (i := 617) (by decide +kernel) rfl
theorem xm_618 : (.methodLink xc_Mo 1 (⟨"java/lang/Object", "<init>", "()V"⟩ : MethodName) : Cond) ∈ tw_W := tw_t (i := 618) (by decide +kernel) rfl
theorem xm_619 : (.fieldLink xc_Mo 41 "EditLists2Model" "thrown" "I" : Cond) ∈ tw_W := tw_t (i := 619) (by decide +kernel) rfl
theorem xm_620 : (.fieldLink xc_Mo 7 "EditLists2Model" "states" "[I" : Cond) ∈ tw_W := tw_t (i := 620) (by decide +kernel) rfl
theorem xm_621 : (.fieldLink xc_Mo 13 "EditLists2Model" "kinds" "[I" : Cond) ∈ tw_W := tw_t (i := 621) (by decide +kernel) rfl
theorem xm_622 : (.fieldLink xc_Mo 16 "EditLists2Model" "values" "[I" : Cond) ∈ tw_W := tw_t (i := 622) (by decide +kernel) rfl
theorem xm_623 : (.fieldLink xc_Mo 59 "EditLists2Model" "moments" "I" : Cond) ∈ tw_W := tw_t (i := 623) (by decide +kernel) rfl
theorem xm_624 : (.fieldLink xc_Mo 52 "EditLists2Model" "latest" "I" : Cond) ∈ tw_W := tw_t (i := 624) (by decide +kernel) rfl
theorem xm_625 : (.fieldLink xc_Mo 65 "EditLists2Model" "size" "I" : Cond) ∈ tw_W := tw_t (i := 625) (by decide +kernel) rfl
theorem xm_626 : (.fieldLink xc_Mo 19 "EditLists2Model" "text" "[I" : Cond) ∈ tw_W := tw_t (i := 626) (by decide +kernel) rfl
theorem xm_627 : (.fieldLink xc_Mo 144 "EditLists2Model" "passed" "I" : Cond) ∈ tw_W := tw_t (i := 627) (by decide +kernel) rfl
theorem xm_628 : (.fieldLink xc_Mo 147 "EditLists2Model" "lines" "I" : Cond) ∈ tw_W := tw_t (i := 628) (by decide +kernel) rfl
theorem xm_629 : (.fieldLink xc_Mo 49 "EditLists2Model" "unlike" "I" : Cond) ∈ tw_W := tw_t (i := 629) (by decide +kernel) rfl
theorem xm_630 : (.fieldLink xc_Mo 22 "EditLists2Model" "unlikes" "[I" : Cond) ∈ tw_W := tw_t (i := 630) (by decide +kernel) rfl
theorem xm_631 : (.fieldLink xc_Mo 62 "EditLists2Model" "at" "I" : Cond) ∈ tw_W := tw_t (i := 631) (by decide +kernel) rfl
theorem xm_632 : (.fieldLink xc_Mo 68 "EditLists2Model" "bad" "Z" : Cond) ∈ tw_W := tw_t (i := 632) (by decide +kernel) rfl
theorem xm_633 : (.fieldLink xc_Mo 88 "EditLists2Model" "letter" "I" : Cond) ∈ tw_W := tw_t (i := 633) (by decide +kernel) rfl
theorem xm_634 : (.fieldLink xc_Mo 91 "EditLists2Model" "object" "I" : Cond) ∈ tw_W := tw_t (i := 634) (by decide +kernel) rfl
theorem xm_635 : (.fieldLink xc_Mo 25 "EditLists2Model" "pathAt" "[I" : Cond) ∈ tw_W := tw_t (i := 635) (by decide +kernel) rfl
theorem xm_636 : (.fieldLink xc_Mo 28 "EditLists2Model" "pathSize" "[I" : Cond) ∈ tw_W := tw_t (i := 636) (by decide +kernel) rfl
theorem xm_637 : (.fieldLink xc_Mo 31 "EditLists2Model" "toldKinds" "[I" : Cond) ∈ tw_W := tw_t (i := 637) (by decide +kernel) rfl
theorem xm_638 : (.fieldLink xc_Mo 34 "EditLists2Model" "toldValues" "[I" : Cond) ∈ tw_W := tw_t (i := 638) (by decide +kernel) rfl
theorem xm_639 : (.fieldLink xc_Mo 120 "EditLists2Model" "ran" "I" : Cond) ∈ tw_W := tw_t (i := 639) (by decide +kernel) rfl
theorem xm_640 : (.fieldLink xc_Mo 113 "EditLists2Model" "passedNow" "I" : Cond) ∈ tw_W := tw_t (i := 640) (by decide +kernel) rfl
theorem xm_641 : (.fieldLink xc_Mo 37 "EditLists2Model" "come" "[Z" : Cond) ∈ tw_W := tw_t (i := 641) (by decide +kernel) rfl
theorem xm_689 : (.methodLink xc_La 36 xy_Mo_sign : Cond) ∈ tw_W := tw_t (i := 689) (by decide +kernel) rfl
theorem xm_690 : (.instanceMethod xy_Mo_sign : Cond) ∈ tw_W := tw_t (i := 690) (by decide +kernel) rfl
theorem xm_691 : (.selects xc_Mo xy_Mo_sign xy_Mo_sign : Cond) ∈ tw_W := tw_t (i := 691) (by decide +kernel) rfl
theorem xm_692 : (.code xy_Mo_sign prog_10_method_25_code 2 (some .boolean) : Cond) ∈ tw_W := tw_t (i := 692) (by decide +kernel) rfl
theorem xm_693 : (.methodLink xc_Mo 134 xy_Mo_in : Cond) ∈ tw_W := tw_t (i := 693) (by decide +kernel) rfl
theorem xm_694 : (.static xy_Mo_in : Cond) ∈ tw_W := tw_t (i := 694) (by decide +kernel) rfl
theorem xm_695 : (.code xy_Mo_in prog_10_method_3_code 3 (some .boolean) : Cond) ∈ tw_W := tw_t (i := 695) (by decide +kernel) rfl
theorem xm_696 : (.methodLink xc_La 41 xy_Mo_run : Cond) ∈ tw_W := tw_t (i := 696) (by decide +kernel) rfl
theorem xm_697 : (.instanceMethod xy_Mo_run : Cond) ∈ tw_W := tw_t (i := 697) (by decide +kernel) rfl
theorem xm_698 : (.selects xc_Mo xy_Mo_run xy_Mo_run : Cond) ∈ tw_W := tw_t (i := 698) (by decide +kernel) rfl
theorem xm_699 : (.code xy_Mo_run prog_10_method_26_code 3 (some .int) : Cond) ∈ tw_W := tw_t (i := 699) (by decide +kernel) rfl
theorem xm_700 : (.methodLink xc_Mo 138 xy_Mo_work : Cond) ∈ tw_W := tw_t (i := 700) (by decide +kernel) rfl
theorem xm_702 : (.instanceMethod xy_Mo_work : Cond) ∈ tw_W := tw_t (i := 702) (by decide +kernel) rfl
theorem xm_703 : (.code xy_Mo_work prog_10_method_24_code 3 (some .int) : Cond) ∈ tw_W := tw_t (i := 703) (by decide +kernel) rfl
theorem xm_704 : (.methodLink xc_Mo 55 xy_Mo_copy : Cond) ∈ tw_W := tw_t (i := 704) (by decide +kernel) rfl
theorem xm_706 : (.instanceMethod xy_Mo_copy : Cond) ∈ tw_W := tw_t (i := 706) (by decide +kernel) rfl
theorem xm_707 : (.code xy_Mo_copy prog_10_method_5_code 4 none : Cond) ∈ tw_W := tw_t (i := 707) (by decide +kernel) rfl
theorem xm_708 : (.methodLink xc_Mo 72 xy_Mo_look : Cond) ∈ tw_W := tw_t (i := 708) (by decide +kernel) rfl
theorem xm_710 : (.instanceMethod xy_Mo_look : Cond) ∈ tw_W := tw_t (i := 710) (by decide +kernel) rfl
theorem xm_711 : (.code xy_Mo_look prog_10_method_11_code 1 (some .int) : Cond) ∈ tw_W := tw_t (i := 711) (by decide +kernel) rfl
theorem xm_712 : (.methodLink xc_Mo 123 xy_Mo_reads : Cond) ∈ tw_W := tw_t (i := 712) (by decide +kernel) rfl
theorem xm_714 : (.instanceMethod xy_Mo_reads : Cond) ∈ tw_W := tw_t (i := 714) (by decide +kernel) rfl
theorem xm_715 : (.code xy_Mo_reads prog_10_method_17_code 1 (some .boolean) : Cond) ∈ tw_W := tw_t (i := 715) (by decide +kernel) rfl
theorem xm_716 : (.methodLink xc_Mo 80 xy_Mo_eat : Cond) ∈ tw_W := tw_t (i := 716) (by decide +kernel) rfl
theorem xm_718 : (.instanceMethod xy_Mo_eat : Cond) ∈ tw_W := tw_t (i := 718) (by decide +kernel) rfl
theorem xm_719 : (.code xy_Mo_eat prog_10_method_12_code 2 none : Cond) ∈ tw_W := tw_t (i := 719) (by decide +kernel) rfl
theorem xm_720 : (.methodLink xc_Mo 84 xy_Mo_number : Cond) ∈ tw_W := tw_t (i := 720) (by decide +kernel) rfl
theorem xm_722 : (.instanceMethod xy_Mo_number : Cond) ∈ tw_W := tw_t (i := 722) (by decide +kernel) rfl
theorem xm_723 : (.code xy_Mo_number prog_10_method_14_code 4 (some .int) : Cond) ∈ tw_W := tw_t (i := 723) (by decide +kernel) rfl
theorem xm_724 : (.methodLink xc_Mo 76 xy_Mo_isDigit : Cond) ∈ tw_W := tw_t (i := 724) (by decide +kernel) rfl
theorem xm_725 : (.static xy_Mo_isDigit : Cond) ∈ tw_W := tw_t (i := 725) (by decide +kernel) rfl
theorem xm_726 : (.code xy_Mo_isDigit prog_10_method_13_code 1 (some .boolean) : Cond) ∈ tw_W := tw_t (i := 726) (by decide +kernel) rfl
theorem xm_727 : (.methodLink xc_Mo 94 xy_Mo_path : Cond) ∈ tw_W := tw_t (i := 727) (by decide +kernel) rfl
theorem xm_729 : (.instanceMethod xy_Mo_path : Cond) ∈ tw_W := tw_t (i := 729) (by decide +kernel) rfl
theorem xm_730 : (.code xy_Mo_path prog_10_method_15_code 2 none : Cond) ∈ tw_W := tw_t (i := 730) (by decide +kernel) rfl
theorem xm_731 : (.methodLink xc_Mo 97 xy_Mo_value_0 : Cond) ∈ tw_W := tw_t (i := 731) (by decide +kernel) rfl
theorem xm_733 : (.instanceMethod xy_Mo_value_0 : Cond) ∈ tw_W := tw_t (i := 733) (by decide +kernel) rfl
theorem xm_734 : (.code xy_Mo_value_0 prog_10_method_16_code 5 none : Cond) ∈ tw_W := tw_t (i := 734) (by decide +kernel) rfl
theorem xm_735 : (.methodLink xc_Mo 127 xy_Mo_doObject : Cond) ∈ tw_W := tw_t (i := 735) (by decide +kernel) rfl
theorem xm_737 : (.instanceMethod xy_Mo_doObject : Cond) ∈ tw_W := tw_t (i := 737) (by decide +kernel) rfl
theorem xm_738 : (.code xy_Mo_doObject prog_10_method_22_code 2 (some .int) : Cond) ∈ tw_W := tw_t (i := 738) (by decide +kernel) rfl
theorem xm_739 : (.methodLink xc_Mo 100 xy_Mo_isShut : Cond) ∈ tw_W := tw_t (i := 739) (by decide +kernel) rfl
theorem xm_741 : (.instanceMethod xy_Mo_isShut : Cond) ∈ tw_W := tw_t (i := 741) (by decide +kernel) rfl
theorem xm_742 : (.code xy_Mo_isShut prog_10_method_20_code 3 (some .boolean) : Cond) ∈ tw_W := tw_t (i := 742) (by decide +kernel) rfl
theorem xm_743 : (.methodLink xc_Mo 104 xy_Mo_empty : Cond) ∈ tw_W := tw_t (i := 743) (by decide +kernel) rfl
theorem xm_745 : (.instanceMethod xy_Mo_empty : Cond) ∈ tw_W := tw_t (i := 745) (by decide +kernel) rfl
theorem xm_746 : (.code xy_Mo_empty prog_10_method_6_code 3 none : Cond) ∈ tw_W := tw_t (i := 746) (by decide +kernel) rfl
theorem xm_747 : (.methodLink xc_Mo 131 xy_Mo_doPath : Cond) ∈ tw_W := tw_t (i := 747) (by decide +kernel) rfl
theorem xm_749 : (.instanceMethod xy_Mo_doPath : Cond) ∈ tw_W := tw_t (i := 749) (by decide +kernel) rfl
theorem xm_750 : (.code xy_Mo_doPath prog_10_method_23_code 6 (some .int) : Cond) ∈ tw_W := tw_t (i := 750) (by decide +kernel) rfl
theorem xm_751 : (.methodLink xc_Mo 107 xy_Mo_isFar : Cond) ∈ tw_W := tw_t (i := 751) (by decide +kernel) rfl
theorem xm_753 : (.instanceMethod xy_Mo_isFar : Cond) ∈ tw_W := tw_t (i := 753) (by decide +kernel) rfl
theorem xm_754 : (.code xy_Mo_isFar prog_10_method_19_code 2 (some .boolean) : Cond) ∈ tw_W := tw_t (i := 754) (by decide +kernel) rfl
theorem xm_755 : (.methodLink xc_Mo 110 xy_Mo_follow : Cond) ∈ tw_W := tw_t (i := 755) (by decide +kernel) rfl
theorem xm_757 : (.instanceMethod xy_Mo_follow : Cond) ∈ tw_W := tw_t (i := 757) (by decide +kernel) rfl
theorem xm_758 : (.code xy_Mo_follow prog_10_method_18_code 5 (some .int) : Cond) ∈ tw_W := tw_t (i := 758) (by decide +kernel) rfl
theorem xm_759 : (.methodLink xc_Mo 116 xy_Mo_put : Cond) ∈ tw_W := tw_t (i := 759) (by decide +kernel) rfl
theorem xm_761 : (.instanceMethod xy_Mo_put : Cond) ∈ tw_W := tw_t (i := 761) (by decide +kernel) rfl
theorem xm_762 : (.code xy_Mo_put prog_10_method_21_code 4 none : Cond) ∈ tw_W := tw_t (i := 762) (by decide +kernel) rfl
theorem xm_763 : (.methodLink xc_Mo 141 xy_Mo_keep : Cond) ∈ tw_W := tw_t (i := 763) (by decide +kernel) rfl
theorem xm_765 : (.instanceMethod xy_Mo_keep : Cond) ∈ tw_W := tw_t (i := 765) (by decide +kernel) rfl
theorem xm_766 : (.code xy_Mo_keep prog_10_method_10_code 1 none : Cond) ∈ tw_W := tw_t (i := 766) (by decide +kernel) rfl
theorem xm_767 : (.methodLink xc_Mo 150 xy_Mo_noteUnlike : Cond) ∈ tw_W := tw_t (i := 767) (by decide +kernel) rfl
theorem xm_769 : (.instanceMethod xy_Mo_noteUnlike : Cond) ∈ tw_W := tw_t (i := 769) (by decide +kernel) rfl
theorem xm_770 : (.code xy_Mo_noteUnlike prog_10_method_9_code 2 (some .int) : Cond) ∈ tw_W := tw_t (i := 770) (by decide +kernel) rfl
theorem xm_771 : (.methodLink xc_Mo 45 xy_Mo_isUnlike : Cond) ∈ tw_W := tw_t (i := 771) (by decide +kernel) rfl
theorem xm_773 : (.instanceMethod xy_Mo_isUnlike : Cond) ∈ tw_W := tw_t (i := 773) (by decide +kernel) rfl
theorem xm_774 : (.code xy_Mo_isUnlike prog_10_method_7_code 5 (some .boolean) : Cond) ∈ tw_W := tw_t (i := 774) (by decide +kernel) rfl
theorem xm_775 : (.methodLink xc_La 45 xy_Mo_dry : Cond) ∈ tw_W := tw_t (i := 775) (by decide +kernel) rfl
theorem xm_776 : (.instanceMethod xy_Mo_dry : Cond) ∈ tw_W := tw_t (i := 776) (by decide +kernel) rfl
theorem xm_777 : (.selects xc_Mo xy_Mo_dry xy_Mo_dry : Cond) ∈ tw_W := tw_t (i := 777) (by decide +kernel) rfl
theorem xm_778 : (.code xy_Mo_dry prog_10_method_27_code 4 (some .int) : Cond) ∈ tw_W := tw_t (i := 778) (by decide +kernel) rfl
theorem xm_779 : (.methodLink xc_Mo 153 xy_Mo_countUnlike : Cond) ∈ tw_W := tw_t (i := 779) (by decide +kernel) rfl
theorem xm_781 : (.instanceMethod xy_Mo_countUnlike : Cond) ∈ tw_W := tw_t (i := 781) (by decide +kernel) rfl
theorem xm_782 : (.code xy_Mo_countUnlike prog_10_method_8_code 3 (some .int) : Cond) ∈ tw_W := tw_t (i := 782) (by decide +kernel) rfl
theorem xm_783 : (.methodLink xc_La 51 xy_Mo_changed : Cond) ∈ tw_W := tw_t (i := 783) (by decide +kernel) rfl
theorem xm_784 : (.instanceMethod xy_Mo_changed : Cond) ∈ tw_W := tw_t (i := 784) (by decide +kernel) rfl
theorem xm_785 : (.selects xc_Mo xy_Mo_changed xy_Mo_changed : Cond) ∈ tw_W := tw_t (i := 785) (by decide +kernel) rfl
theorem xm_786 : (.code xy_Mo_changed prog_10_method_28_code 2 (some .int) : Cond) ∈ tw_W := tw_t (i := 786) (by decide +kernel) rfl
theorem xm_787 : (.methodLink xc_Mo 156 xy_Mo_goes : Cond) ∈ tw_W := tw_t (i := 787) (by decide +kernel) rfl
theorem xm_789 : (.instanceMethod xy_Mo_goes : Cond) ∈ tw_W := tw_t (i := 789) (by decide +kernel) rfl
theorem xm_790 : (.code xy_Mo_goes prog_10_method_4_code 2 (some .boolean) : Cond) ∈ tw_W := tw_t (i := 790) (by decide +kernel) rfl
theorem xm_791 : (.methodLink xc_La 56 xy_Mo_undo : Cond) ∈ tw_W := tw_t (i := 791) (by decide +kernel) rfl
theorem xm_792 : (.instanceMethod xy_Mo_undo : Cond) ∈ tw_W := tw_t (i := 792) (by decide +kernel) rfl
theorem xm_793 : (.selects xc_Mo xy_Mo_undo xy_Mo_undo : Cond) ∈ tw_W := tw_t (i := 793) (by decide +kernel) rfl
theorem xm_794 : (.code xy_Mo_undo prog_10_method_29_code 1 (some .int) : Cond) ∈ tw_W := tw_t (i := 794) (by decide +kernel) rfl
theorem xm_795 : (.methodLink xc_La 60 xy_Mo_drop : Cond) ∈ tw_W := tw_t (i := 795) (by decide +kernel) rfl
theorem xm_796 : (.instanceMethod xy_Mo_drop : Cond) ∈ tw_W := tw_t (i := 796) (by decide +kernel) rfl
theorem xm_797 : (.selects xc_Mo xy_Mo_drop xy_Mo_drop : Cond) ∈ tw_W := tw_t (i := 797) (by decide +kernel) rfl
theorem xm_798 : (.code xy_Mo_drop prog_10_method_31_code 3 (some .int) : Cond) ∈ tw_W := tw_t (i := 798) (by decide +kernel) rfl
theorem xm_799 : (.methodLink xc_Mo 160 xy_Mo_reach : Cond) ∈ tw_W := tw_t (i := 799) (by decide +kernel) rfl
theorem xm_801 : (.instanceMethod xy_Mo_reach : Cond) ∈ tw_W := tw_t (i := 801) (by decide +kernel) rfl
theorem xm_802 : (.code xy_Mo_reach prog_10_method_30_code 3 none : Cond) ∈ tw_W := tw_t (i := 802) (by decide +kernel) rfl
theorem xm_803 : (.methodLink xc_La 64 xy_Mo_join : Cond) ∈ tw_W := tw_t (i := 803) (by decide +kernel) rfl
theorem xm_804 : (.instanceMethod xy_Mo_join : Cond) ∈ tw_W := tw_t (i := 804) (by decide +kernel) rfl
theorem xm_805 : (.selects xc_Mo xy_Mo_join xy_Mo_join : Cond) ∈ tw_W := tw_t (i := 805) (by decide +kernel) rfl
theorem xm_806 : (.code xy_Mo_join prog_10_method_34_code 2 (some .int) : Cond) ∈ tw_W := tw_t (i := 806) (by decide +kernel) rfl
theorem xm_807 : (.methodLink xc_Mo 166 xy_Mo_joins : Cond) ∈ tw_W := tw_t (i := 807) (by decide +kernel) rfl
theorem xm_809 : (.instanceMethod xy_Mo_joins : Cond) ∈ tw_W := tw_t (i := 809) (by decide +kernel) rfl
theorem xm_810 : (.code xy_Mo_joins prog_10_method_33_code 4 (some .boolean) : Cond) ∈ tw_W := tw_t (i := 810) (by decide +kernel) rfl
theorem xm_811 : (.methodLink xc_Mo 163 xy_Mo_areAlike : Cond) ∈ tw_W := tw_t (i := 811) (by decide +kernel) rfl
theorem xm_813 : (.instanceMethod xy_Mo_areAlike : Cond) ∈ tw_W := tw_t (i := 813) (by decide +kernel) rfl
theorem xm_814 : (.code xy_Mo_areAlike prog_10_method_32_code 8 (some .boolean) : Cond) ∈ tw_W := tw_t (i := 814) (by decide +kernel) rfl
theorem xm_815 : (.methodLink xc_La 67 xy_Mo_reached : Cond) ∈ tw_W := tw_t (i := 815) (by decide +kernel) rfl
theorem xm_816 : (.instanceMethod xy_Mo_reached : Cond) ∈ tw_W := tw_t (i := 816) (by decide +kernel) rfl
theorem xm_817 : (.selects xc_Mo xy_Mo_reached xy_Mo_reached : Cond) ∈ tw_W := tw_t (i := 817) (by decide +kernel) rfl
theorem xm_818 : (.code xy_Mo_reached prog_10_method_35_code 2 (some .boolean) : Cond) ∈ tw_W := tw_t (i := 818) (by decide +kernel) rfl
theorem xm_819 : (.methodLink xc_La 71 xy_Mo_kind : Cond) ∈ tw_W := tw_t (i := 819) (by decide +kernel) rfl
theorem xm_820 : (.instanceMethod xy_Mo_kind : Cond) ∈ tw_W := tw_t (i := 820) (by decide +kernel) rfl
theorem xm_821 : (.selects xc_Mo xy_Mo_kind xy_Mo_kind : Cond) ∈ tw_W := tw_t (i := 821) (by decide +kernel) rfl
theorem xm_822 : (.code xy_Mo_kind prog_10_method_36_code 3 (some .int) : Cond) ∈ tw_W := tw_t (i := 822) (by decide +kernel) rfl
theorem xm_823 : (.methodLink xc_La 74 xy_Mo_value_1 : Cond) ∈ tw_W := tw_t (i := 823) (by decide +kernel) rfl
theorem xm_824 : (.instanceMethod xy_Mo_value_1 : Cond) ∈ tw_W := tw_t (i := 824) (by decide +kernel) rfl
theorem xm_825 : (.selects xc_Mo xy_Mo_value_1 xy_Mo_value_1 : Cond) ∈ tw_W := tw_t (i := 825) (by decide +kernel) rfl
theorem xm_826 : (.code xy_Mo_value_1 prog_10_method_37_code 3 (some .int) : Cond) ∈ tw_W := tw_t (i := 826) (by decide +kernel) rfl
theorem xm_827 : (.methodLink xc_La 77 xy_Mo_object : Cond) ∈ tw_W := tw_t (i := 827) (by decide +kernel) rfl
theorem xm_828 : (.instanceMethod xy_Mo_object : Cond) ∈ tw_W := tw_t (i := 828) (by decide +kernel) rfl
theorem xm_829 : (.selects xc_Mo xy_Mo_object xy_Mo_object : Cond) ∈ tw_W := tw_t (i := 829) (by decide +kernel) rfl
theorem xm_830 : (.code xy_Mo_object prog_10_method_38_code 6 (some .int) : Cond) ∈ tw_W := tw_t (i := 830) (by decide +kernel) rfl
theorem xm_831 : (.methodLink xc_La 81 xy_Mo_told : Cond) ∈ tw_W := tw_t (i := 831) (by decide +kernel) rfl
theorem xm_832 : (.instanceMethod xy_Mo_told : Cond) ∈ tw_W := tw_t (i := 832) (by decide +kernel) rfl
theorem xm_833 : (.selects xc_Mo xy_Mo_told xy_Mo_told : Cond) ∈ tw_W := tw_t (i := 833) (by decide +kernel) rfl
theorem xm_834 : (.code xy_Mo_told prog_10_method_39_code 4 (some .int) : Cond) ∈ tw_W := tw_t (i := 834) (by decide +kernel) rfl
theorem xm_835 : (.arrayClass Jvm.ClassFile.FieldType.long : Cond) ∈ tw_W := tw_t (i := 835) (by decide +kernel) rfl
theorem xs_Te_peek : (.selects xc_Te xy_Te_peek xy_Te_peek : Cond) ∈ tw_W := tw_s (i := 0) (by decide +kernel) rfl
theorem xs_Li_readGiven : (.selects xc_Li xy_Li_readGiven xy_Li_readGiven : Cond) ∈ tw_W := tw_s (i := 1) (by decide +kernel) rfl
theorem xs_Li_readWanted : (.selects xc_Li xy_Li_readWanted xy_Li_readWanted : Cond) ∈ tw_W := tw_s (i := 2) (by decide +kernel) rfl
theorem xs_Ed_doLine : (.selects xc_Ed xy_Ed_doLine xy_Ed_doLine : Cond) ∈ tw_W := tw_s (i := 3) (by decide +kernel) rfl
theorem xs_Ed_doMake : (.selects xc_Ed xy_Ed_doMake xy_Ed_doMake : Cond) ∈ tw_W := tw_s (i := 4) (by decide +kernel) rfl
theorem xs_Ed_doTakeAway : (.selects xc_Ed xy_Ed_doTakeAway xy_Ed_doTakeAway : Cond) ∈ tw_W := tw_s (i := 5) (by decide +kernel) rfl
theorem xs_Ed_isClosed : (.selects xc_Ed xy_Ed_isClosed xy_Ed_isClosed : Cond) ∈ tw_W := tw_s (i := 6) (by decide +kernel) rfl
theorem xs_Ed_doSeal : (.selects xc_Ed xy_Ed_doSeal xy_Ed_doSeal : Cond) ∈ tw_W := tw_s (i := 7) (by decide +kernel) rfl
theorem xs_Ed_doSet : (.selects xc_Ed xy_Ed_doSet xy_Ed_doSet : Cond) ∈ tw_W := tw_s (i := 8) (by decide +kernel) rfl
theorem xs_Ed_follow : (.selects xc_Ed xy_Ed_follow xy_Ed_follow : Cond) ∈ tw_W := tw_s (i := 9) (by decide +kernel) rfl
theorem xs_Ed_doDelete : (.selects xc_Ed xy_Ed_doDelete xy_Ed_doDelete : Cond) ∈ tw_W := tw_s (i := 10) (by decide +kernel) rfl
theorem xs_Ed_doMove : (.selects xc_Ed xy_Ed_doMove xy_Ed_doMove : Cond) ∈ tw_W := tw_s (i := 11) (by decide +kernel) rfl
theorem xs_Ed_doChange : (.selects xc_Ed xy_Ed_doChange xy_Ed_doChange : Cond) ∈ tw_W := tw_s (i := 12) (by decide +kernel) rfl
theorem xs_X_noteUnlike : (.selects xc_X xy_X_noteUnlike xy_X_noteUnlike : Cond) ∈ tw_W := tw_s (i := 13) (by decide +kernel) rfl
theorem xs_X_countUnlike : (.selects xc_X xy_X_countUnlike xy_X_countUnlike : Cond) ∈ tw_W := tw_s (i := 14) (by decide +kernel) rfl
theorem xs_Re_meet : (.selects xc_Re xy_Re_meet xy_Re_meet : Cond) ∈ tw_W := tw_s (i := 15) (by decide +kernel) rfl
theorem xs_Re_walkKeys : (.selects xc_Re xy_Re_walkKeys xy_Re_walkKeys : Cond) ∈ tw_W := tw_s (i := 16) (by decide +kernel) rfl
theorem xs_St_mayJoin : (.selects xc_St xy_St_mayJoin xy_St_mayJoin : Cond) ∈ tw_W := tw_s (i := 17) (by decide +kernel) rfl
theorem xs_St_areAlike : (.selects xc_St xy_St_areAlike xy_St_areAlike : Cond) ∈ tw_W := tw_s (i := 18) (by decide +kernel) rfl
theorem xs_St_redirect : (.selects xc_St xy_St_redirect xy_St_redirect : Cond) ∈ tw_W := tw_s (i := 19) (by decide +kernel) rfl
theorem xs_St_redirectKeys : (.selects xc_St xy_St_redirectKeys xy_St_redirectKeys : Cond) ∈ tw_W := tw_s (i := 20) (by decide +kernel) rfl
theorem xs_Mo_work : (.selects xc_Mo xy_Mo_work xy_Mo_work : Cond) ∈ tw_W := tw_s (i := 22) (by decide +kernel) rfl
theorem xs_Mo_copy : (.selects xc_Mo xy_Mo_copy xy_Mo_copy : Cond) ∈ tw_W := tw_s (i := 23) (by decide +kernel) rfl
theorem xs_Mo_look : (.selects xc_Mo xy_Mo_look xy_Mo_look : Cond) ∈ tw_W := tw_s (i := 24) (by decide +kernel) rfl
theorem xs_Mo_reads : (.selects xc_Mo xy_Mo_reads xy_Mo_reads : Cond) ∈ tw_W := tw_s (i := 25) (by decide +kernel) rfl
theorem xs_Mo_eat : (.selects xc_Mo xy_Mo_eat xy_Mo_eat : Cond) ∈ tw_W := tw_s (i := 26) (by decide +kernel) rfl
theorem xs_Mo_number : (.selects xc_Mo xy_Mo_number xy_Mo_number : Cond) ∈ tw_W := tw_s (i := 27) (by decide +kernel) rfl
theorem xs_Mo_path : (.selects xc_Mo xy_Mo_path xy_Mo_path : Cond) ∈ tw_W := tw_s (i := 28) (by decide +kernel) rfl
theorem xs_Mo_value_0 : (.selects xc_Mo xy_Mo_value_0 xy_Mo_value_0 : Cond) ∈ tw_W := tw_s (i := 29) (by decide +kernel) rfl
theorem xs_Mo_doObject : (.selects xc_Mo xy_Mo_doObject xy_Mo_doObject : Cond) ∈ tw_W := tw_s (i := 30) (by decide +kernel) rfl
theorem xs_Mo_isShut : (.selects xc_Mo xy_Mo_isShut xy_Mo_isShut : Cond) ∈ tw_W := tw_s (i := 31) (by decide +kernel) rfl
theorem xs_Mo_empty : (.selects xc_Mo xy_Mo_empty xy_Mo_empty : Cond) ∈ tw_W := tw_s (i := 32) (by decide +kernel) rfl
theorem xs_Mo_doPath : (.selects xc_Mo xy_Mo_doPath xy_Mo_doPath : Cond) ∈ tw_W := tw_s (i := 33) (by decide +kernel) rfl
theorem xs_Mo_isFar : (.selects xc_Mo xy_Mo_isFar xy_Mo_isFar : Cond) ∈ tw_W := tw_s (i := 34) (by decide +kernel) rfl
theorem xs_Mo_follow : (.selects xc_Mo xy_Mo_follow xy_Mo_follow : Cond) ∈ tw_W := tw_s (i := 35) (by decide +kernel) rfl
theorem xs_Mo_put : (.selects xc_Mo xy_Mo_put xy_Mo_put : Cond) ∈ tw_W := tw_s (i := 36) (by decide +kernel) rfl
theorem xs_Mo_keep : (.selects xc_Mo xy_Mo_keep xy_Mo_keep : Cond) ∈ tw_W := tw_s (i := 37) (by decide +kernel) rfl
theorem xs_Mo_noteUnlike : (.selects xc_Mo xy_Mo_noteUnlike xy_Mo_noteUnlike : Cond) ∈ tw_W := tw_s (i := 38) (by decide +kernel) rfl
theorem xs_Mo_isUnlike : (.selects xc_Mo xy_Mo_isUnlike xy_Mo_isUnlike : Cond) ∈ tw_W := tw_s (i := 39) (by decide +kernel) rfl
theorem xs_Mo_countUnlike : (.selects xc_Mo xy_Mo_countUnlike xy_Mo_countUnlike : Cond) ∈ tw_W := tw_s (i := 40) (by decide +kernel) rfl
theorem xs_Mo_goes : (.selects xc_Mo xy_Mo_goes xy_Mo_goes : Cond) ∈ tw_W := tw_s (i := 41) (by decide +kernel) rfl
theorem xs_Mo_reach : (.selects xc_Mo xy_Mo_reach xy_Mo_reach : Cond) ∈ tw_W := tw_s (i := 42) (by decide +kernel) rfl
theorem xs_Mo_joins : (.selects xc_Mo xy_Mo_joins xy_Mo_joins : Cond) ∈ tw_W := tw_s (i := 43) (by decide +kernel) rfl
theorem xs_Mo_areAlike : (.selects xc_Mo xy_Mo_areAlike xy_Mo_areAlike : Cond) ∈ tw_W := tw_s (i := 44) (by decide +kernel) rfl
