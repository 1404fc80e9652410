/-! ===== part 06: the words of the tables that the steps use, by their places; the fields of each class ===== -/
theorem wd_1 : Cond.initialized "DreamShares" ∈ lw_tbl := List.mem_of_getElem? (i := 92) (by decide +kernel)
theorem wd_2 : Cond.initialized "DreamShares$Text" ∈ lw_tbl := List.mem_of_getElem? (i := 93) (by decide +kernel)
theorem wd_3 : Cond.initialized "DreamShares$Roster" ∈ lw_tbl := List.mem_of_getElem? (i := 94) (by decide +kernel)
theorem wd_4 : Cond.initialized "DreamShares$Pools" ∈ lw_tbl := List.mem_of_getElem? (i := 95) (by decide +kernel)
theorem wd_5 : Cond.initialized "DreamShares$Kitchen" ∈ lw_tbl := List.mem_of_getElem? (i := 96) (by decide +kernel)
theorem wd_6 : Cond.initialized "DreamShares$Fold" ∈ lw_tbl := List.mem_of_getElem? (i := 97) (by decide +kernel)
theorem wd_7 : Cond.initialized "DreamShares$Fraction" ∈ lw_tbl := List.mem_of_getElem? (i := 98) (by decide +kernel)
theorem wd_8 : Cond.initialized "DreamShares$Lots" ∈ lw_tbl := List.mem_of_getElem? (i := 99) (by decide +kernel)
theorem wd_9 : Cond.initialized "DreamShares$Sheet" ∈ lw_tbl := List.mem_of_getElem? (i := 100) (by decide +kernel)
theorem wd_10 : Cond.initialized "DreamSharesModel" ∈ lw_tbl := List.mem_of_getElem? (i := 101) (by decide +kernel)
theorem wd_11 : Cond.initialized "java/lang/Math" ∈ lw_tbl := List.mem_of_getElem? (i := 102) (by decide +kernel)
theorem wd_12 : Cond.initialized "java/lang/Integer" ∈ lw_tbl := List.mem_of_getElem? (i := 103) (by decide +kernel)
theorem wd_13 : Cond.initialized "java/lang/System" ∈ lw_tbl := List.mem_of_getElem? (i := 104) (by decide +kernel)
theorem wd_28 : Cond.fieldLink "DreamShares$Text" 9 "DreamShares$Text" "bytes" "[I" ∈ lw_tbl := List.mem_of_getElem? (i := 119) (by decide +kernel)
theorem wd_29 : Cond.fieldLink "DreamShares$Roster" 27 "DreamShares$Text" "bytes" "[I" ∈ lw_tbl := List.mem_of_getElem? (i := 120) (by decide +kernel)
theorem wd_30 : Cond.fieldLink "DreamShares$Kitchen" 46 "DreamShares$Text" "bytes" "[I" ∈ lw_tbl := List.mem_of_getElem? (i := 121) (by decide +kernel)
theorem wd_31 : Cond.fieldLink "DreamShares$Text" 15 "DreamShares$Text" "length" "I" ∈ lw_tbl := List.mem_of_getElem? (i := 122) (by decide +kernel)
theorem wd_32 : Cond.fieldLink "DreamShares$Roster" 22 "DreamShares$Text" "length" "I" ∈ lw_tbl := List.mem_of_getElem? (i := 123) (by decide +kernel)
theorem wd_33 : Cond.fieldLink "DreamShares" 115 "DreamShares$Text" "length" "I" ∈ lw_tbl := List.mem_of_getElem? (i := 124) (by decide +kernel)
theorem wd_34 : Cond.fieldLink "DreamShares$Kitchen" 41 "DreamShares$Text" "length" "I" ∈ lw_tbl := List.mem_of_getElem? (i := 125) (by decide +kernel)
theorem wd_47 : Cond.fieldLink "DreamShares$Roster" 9 "DreamShares$Roster" "told" "[I" ∈ lw_tbl := List.mem_of_getElem? (i := 138) (by decide +kernel)
theorem wd_48 : Cond.fieldLink "DreamShares" 128 "DreamShares$Roster" "told" "[I" ∈ lw_tbl := List.mem_of_getElem? (i := 139) (by decide +kernel)
theorem wd_49 : Cond.fieldLink "DreamShares$Roster" 15 "DreamShares$Roster" "number" "I" ∈ lw_tbl := List.mem_of_getElem? (i := 140) (by decide +kernel)
theorem wd_50 : Cond.fieldLink "DreamShares" 223 "DreamShares$Roster" "number" "I" ∈ lw_tbl := List.mem_of_getElem? (i := 141) (by decide +kernel)
theorem wd_51 : Cond.fieldLink "DreamShares$Roster" 19 "DreamShares$Roster" "faultPlace" "I" ∈ lw_tbl := List.mem_of_getElem? (i := 142) (by decide +kernel)
theorem wd_52 : Cond.fieldLink "DreamShares" 118 "DreamShares$Roster" "faultPlace" "I" ∈ lw_tbl := List.mem_of_getElem? (i := 143) (by decide +kernel)
theorem wd_72 : Cond.methodLink "DreamShares$Pools" 25 ⟨"DreamShares$Pools", "place", "(IIII)I"⟩ ∈ lw_tbl := List.mem_of_getElem? (i := 163) (by decide +kernel)
theorem wd_73 : Cond.instanceMethod ⟨"DreamShares$Pools", "place", "(IIII)I"⟩ ∈ lw_tbl := List.mem_of_getElem? (i := 164) (by decide +kernel)
theorem wd_74 : Cond.selects "DreamShares$Pools" ⟨"DreamShares$Pools", "place", "(IIII)I"⟩ ⟨"DreamShares$Pools", "place", "(IIII)I"⟩ ∈ lw_tbl := List.mem_of_getElem? (i := 165) (by decide +kernel)
set_option maxRecDepth 20000 in
theorem wd_75 : Cond.code ⟨"DreamShares$Pools", "place", "(IIII)I"⟩ prog_6_method_3_code 8 (some .int) ∈ lw_tbl := List.mem_of_getElem? (i := 166) rfl
theorem wd_76 : Cond.fieldLink "DreamShares$Pools" 13 "DreamShares$Pools" "nightmares" "[I" ∈ lw_tbl := List.mem_of_getElem? (i := 167) (by decide +kernel)
theorem wd_77 : Cond.fieldLink "DreamShares" 395 "DreamShares$Pools" "nightmares" "[I" ∈ lw_tbl := List.mem_of_getElem? (i := 168) (by decide +kernel)
theorem wd_78 : Cond.fieldLink "DreamShares$Pools" 18 "DreamShares$Pools" "next" "[I" ∈ lw_tbl := List.mem_of_getElem? (i := 169) (by decide +kernel)
theorem wd_79 : Cond.fieldLink "DreamShares$Fold" 26 "DreamShares$Pools" "next" "[I" ∈ lw_tbl := List.mem_of_getElem? (i := 170) (by decide +kernel)
theorem wd_92 : Cond.fieldLink "DreamShares$Kitchen" 9 "DreamShares$Kitchen" "first" "[I" ∈ lw_tbl := List.mem_of_getElem? (i := 183) (by decide +kernel)
theorem wd_93 : Cond.fieldLink "DreamShares" 134 "DreamShares$Kitchen" "first" "[I" ∈ lw_tbl := List.mem_of_getElem? (i := 184) (by decide +kernel)
theorem wd_94 : Cond.fieldLink "DreamShares$Kitchen" 15 "DreamShares$Kitchen" "second" "[I" ∈ lw_tbl := List.mem_of_getElem? (i := 185) (by decide +kernel)
theorem wd_95 : Cond.fieldLink "DreamShares" 137 "DreamShares$Kitchen" "second" "[I" ∈ lw_tbl := List.mem_of_getElem? (i := 186) (by decide +kernel)
theorem wd_96 : Cond.fieldLink "DreamShares$Kitchen" 18 "DreamShares$Kitchen" "price" "[I" ∈ lw_tbl := List.mem_of_getElem? (i := 187) (by decide +kernel)
theorem wd_97 : Cond.fieldLink "DreamShares" 140 "DreamShares$Kitchen" "price" "[I" ∈ lw_tbl := List.mem_of_getElem? (i := 188) (by decide +kernel)
theorem wd_98 : Cond.fieldLink "DreamShares$Kitchen" 21 "DreamShares$Kitchen" "number" "I" ∈ lw_tbl := List.mem_of_getElem? (i := 189) (by decide +kernel)
theorem wd_99 : Cond.fieldLink "DreamShares" 312 "DreamShares$Kitchen" "number" "I" ∈ lw_tbl := List.mem_of_getElem? (i := 190) (by decide +kernel)
theorem wd_100 : Cond.fieldLink "DreamShares$Kitchen" 25 "DreamShares$Kitchen" "faultPlace" "I" ∈ lw_tbl := List.mem_of_getElem? (i := 191) (by decide +kernel)
theorem wd_101 : Cond.fieldLink "DreamShares" 121 "DreamShares$Kitchen" "faultPlace" "I" ∈ lw_tbl := List.mem_of_getElem? (i := 192) (by decide +kernel)
theorem wd_102 : Cond.fieldLink "DreamShares$Kitchen" 31 "DreamShares$Kitchen" "most" "[I" ∈ lw_tbl := List.mem_of_getElem? (i := 193) (by decide +kernel)
theorem wd_103 : Cond.fieldLink "DreamShares" 392 "DreamShares$Kitchen" "most" "[I" ∈ lw_tbl := List.mem_of_getElem? (i := 194) (by decide +kernel)
theorem wd_104 : Cond.fieldLink "DreamShares$Kitchen" 37 "DreamShares$Kitchen" "pools" "LDreamShares$Pools;" ∈ lw_tbl := List.mem_of_getElem? (i := 195) (by decide +kernel)
theorem wd_105 : Cond.fieldLink "DreamShares$Kitchen" 34 "DreamShares$Kitchen" "state" "I" ∈ lw_tbl := List.mem_of_getElem? (i := 196) (by decide +kernel)
theorem wd_130 : Cond.fieldLink "DreamShares$Fold" 13 "DreamShares$Fold" "values" "[J" ∈ lw_tbl := List.mem_of_getElem? (i := 221) (by decide +kernel)
theorem wd_131 : Cond.fieldLink "DreamShares" 262 "DreamShares$Fold" "values" "[J" ∈ lw_tbl := List.mem_of_getElem? (i := 222) (by decide +kernel)
theorem wd_132 : Cond.fieldLink "DreamShares$Fold" 19 "DreamShares$Fold" "odds" "[I" ∈ lw_tbl := List.mem_of_getElem? (i := 223) (by decide +kernel)
theorem wd_133 : Cond.fieldLink "DreamShares" 405 "DreamShares$Fold" "odds" "[I" ∈ lw_tbl := List.mem_of_getElem? (i := 224) (by decide +kernel)
theorem wd_134 : Cond.fieldLink "DreamShares$Fold" 22 "DreamShares$Fold" "pools" "LDreamShares$Pools;" ∈ lw_tbl := List.mem_of_getElem? (i := 225) (by decide +kernel)
theorem wd_149 : Cond.fieldLink "DreamShares$Fraction" 7 "DreamShares$Fraction" "above" "J" ∈ lw_tbl := List.mem_of_getElem? (i := 240) (by decide +kernel)
theorem wd_150 : Cond.fieldLink "DreamShares" 376 "DreamShares$Fraction" "above" "J" ∈ lw_tbl := List.mem_of_getElem? (i := 241) (by decide +kernel)
theorem wd_151 : Cond.fieldLink "DreamShares$Fraction" 13 "DreamShares$Fraction" "below" "J" ∈ lw_tbl := List.mem_of_getElem? (i := 242) (by decide +kernel)
theorem wd_152 : Cond.fieldLink "DreamShares" 380 "DreamShares$Fraction" "below" "J" ∈ lw_tbl := List.mem_of_getElem? (i := 243) (by decide +kernel)
theorem wd_164 : Cond.fieldLink "DreamShares$Lots" 7 "DreamShares$Lots" "seed" "I" ∈ lw_tbl := List.mem_of_getElem? (i := 255) (by decide +kernel)
theorem wd_165 : Cond.fieldLink "DreamShares" 280 "DreamShares$Lots" "seed" "I" ∈ lw_tbl := List.mem_of_getElem? (i := 256) (by decide +kernel)
theorem wd_176 : Cond.fieldLink "DreamShares$Sheet" 9 "DreamShares$Sheet" "items" "[I" ∈ lw_tbl := List.mem_of_getElem? (i := 267) (by decide +kernel)
theorem wd_177 : Cond.fieldLink "DreamShares" 166 "DreamShares$Sheet" "items" "[I" ∈ lw_tbl := List.mem_of_getElem? (i := 268) (by decide +kernel)
theorem wd_178 : Cond.fieldLink "DreamShares$Sheet" 15 "DreamShares$Sheet" "form" "I" ∈ lw_tbl := List.mem_of_getElem? (i := 269) (by decide +kernel)
theorem wd_179 : Cond.fieldLink "DreamShares" 299 "DreamShares$Sheet" "form" "I" ∈ lw_tbl := List.mem_of_getElem? (i := 270) (by decide +kernel)
theorem wd_180 : Cond.fieldLink "DreamShares$Sheet" 19 "DreamShares$Sheet" "size" "I" ∈ lw_tbl := List.mem_of_getElem? (i := 271) (by decide +kernel)
theorem wd_181 : Cond.fieldLink "DreamShares" 163 "DreamShares$Sheet" "size" "I" ∈ lw_tbl := List.mem_of_getElem? (i := 272) (by decide +kernel)
theorem wd_182 : Cond.fieldLink "DreamShares$Sheet" 22 "DreamShares$Sheet" "lost" "Z" ∈ lw_tbl := List.mem_of_getElem? (i := 273) (by decide +kernel)
theorem wd_183 : Cond.fieldLink "DreamShares" 155 "DreamShares$Sheet" "lost" "Z" ∈ lw_tbl := List.mem_of_getElem? (i := 274) (by decide +kernel)
theorem wd_193 : Cond.fieldLink "DreamShares" 10 "DreamShares" "memberText" "LDreamShares$Text;" ∈ lw_tbl := List.mem_of_getElem? (i := 284) (by decide +kernel)
theorem wd_194 : Cond.fieldLink "DreamShares" 16 "DreamShares" "recipeText" "LDreamShares$Text;" ∈ lw_tbl := List.mem_of_getElem? (i := 285) (by decide +kernel)
theorem wd_195 : Cond.fieldLink "DreamShares" 22 "DreamShares" "roster" "LDreamShares$Roster;" ∈ lw_tbl := List.mem_of_getElem? (i := 286) (by decide +kernel)
theorem wd_196 : Cond.fieldLink "DreamShares" 29 "DreamShares" "pools" "LDreamShares$Pools;" ∈ lw_tbl := List.mem_of_getElem? (i := 287) (by decide +kernel)
theorem wd_197 : Cond.fieldLink "DreamShares" 38 "DreamShares" "kitchen" "LDreamShares$Kitchen;" ∈ lw_tbl := List.mem_of_getElem? (i := 288) (by decide +kernel)
theorem wd_198 : Cond.fieldLink "DreamShares" 45 "DreamShares" "fold" "LDreamShares$Fold;" ∈ lw_tbl := List.mem_of_getElem? (i := 289) (by decide +kernel)
theorem wd_199 : Cond.fieldLink "DreamShares" 52 "DreamShares" "fraction" "LDreamShares$Fraction;" ∈ lw_tbl := List.mem_of_getElem? (i := 290) (by decide +kernel)
theorem wd_200 : Cond.fieldLink "DreamShares" 59 "DreamShares" "lots" "LDreamShares$Lots;" ∈ lw_tbl := List.mem_of_getElem? (i := 291) (by decide +kernel)
theorem wd_201 : Cond.fieldLink "DreamShares" 65 "DreamShares" "sheets" "[LDreamShares$Sheet;" ∈ lw_tbl := List.mem_of_getElem? (i := 292) (by decide +kernel)
theorem wd_202 : Cond.fieldLink "DreamShares" 69 "DreamShares" "suppers" "[I" ∈ lw_tbl := List.mem_of_getElem? (i := 293) (by decide +kernel)
theorem wd_203 : Cond.fieldLink "DreamShares" 73 "DreamShares" "trial" "[I" ∈ lw_tbl := List.mem_of_getElem? (i := 294) (by decide +kernel)
theorem wd_204 : Cond.fieldLink "DreamShares" 76 "DreamShares" "pays" "[I" ∈ lw_tbl := List.mem_of_getElem? (i := 295) (by decide +kernel)
theorem wd_205 : Cond.fieldLink "DreamShares" 79 "DreamShares" "noted" "[I" ∈ lw_tbl := List.mem_of_getElem? (i := 296) (by decide +kernel)
theorem wd_206 : Cond.fieldLink "DreamShares" 82 "DreamShares" "dreams" "[I" ∈ lw_tbl := List.mem_of_getElem? (i := 297) (by decide +kernel)
theorem wd_207 : Cond.fieldLink "DreamShares" 85 "DreamShares" "means" "[J" ∈ lw_tbl := List.mem_of_getElem? (i := 298) (by decide +kernel)
theorem wd_208 : Cond.fieldLink "DreamShares" 89 "DreamShares" "spice" "I" ∈ lw_tbl := List.mem_of_getElem? (i := 299) (by decide +kernel)
theorem wd_209 : Cond.fieldLink "DreamShares" 93 "DreamShares" "loss" "I" ∈ lw_tbl := List.mem_of_getElem? (i := 300) (by decide +kernel)
theorem wd_210 : Cond.fieldLink "DreamShares" 96 "DreamShares" "finding" "I" ∈ lw_tbl := List.mem_of_getElem? (i := 301) (by decide +kernel)
theorem wd_252 : Cond.methodLink "DreamShares" 100 ⟨"DreamShares", "isText", "(I)Z"⟩ ∈ lw_tbl := List.mem_of_getElem? (i := 343) (by decide +kernel)
theorem wd_253 : Cond.static ⟨"DreamShares", "isText", "(I)Z"⟩ ∈ lw_tbl := List.mem_of_getElem? (i := 344) (by decide +kernel)
set_option maxRecDepth 20000 in
theorem wd_254 : Cond.code ⟨"DreamShares", "isText", "(I)Z"⟩ prog_1_method_41_code 1 (some .boolean) ∈ lw_tbl := List.mem_of_getElem? (i := 345) rfl
theorem wd_255 : Cond.methodLink "DreamShares" 104 ⟨"DreamShares", "textOf", "(I)LDreamShares$Text;"⟩ ∈ lw_tbl := List.mem_of_getElem? (i := 346) (by decide +kernel)
theorem wd_257 : Cond.instanceMethod ⟨"DreamShares", "textOf", "(I)LDreamShares$Text;"⟩ ∈ lw_tbl := List.mem_of_getElem? (i := 348) (by decide +kernel)
set_option maxRecDepth 20000 in
theorem wd_258 : Cond.code ⟨"DreamShares", "textOf", "(I)LDreamShares$Text;"⟩ prog_1_method_56_code 2 (some (.object "DreamShares$Text")) ∈ lw_tbl := List.mem_of_getElem? (i := 349) rfl
theorem wd_259 : Cond.methodLink "DreamShares" 108 ⟨"DreamShares$Text", "append", "(I)Z"⟩ ∈ lw_tbl := List.mem_of_getElem? (i := 350) (by decide +kernel)
theorem wd_260 : Cond.instanceMethod ⟨"DreamShares$Text", "append", "(I)Z"⟩ ∈ lw_tbl := List.mem_of_getElem? (i := 351) (by decide +kernel)
theorem wd_261 : Cond.selects "DreamShares$Text" ⟨"DreamShares$Text", "append", "(I)Z"⟩ ⟨"DreamShares$Text", "append", "(I)Z"⟩ ∈ lw_tbl := List.mem_of_getElem? (i := 352) (by decide +kernel)
set_option maxRecDepth 20000 in
theorem wd_262 : Cond.code ⟨"DreamShares$Text", "append", "(I)Z"⟩ prog_9_method_2_code 2 (some .boolean) ∈ lw_tbl := List.mem_of_getElem? (i := 353) rfl
theorem wd_263 : Cond.methodLink "DreamShares" 111 ⟨"DreamShares", "parse", "(I)V"⟩ ∈ lw_tbl := List.mem_of_getElem? (i := 354) (by decide +kernel)
theorem wd_265 : Cond.instanceMethod ⟨"DreamShares", "parse", "(I)V"⟩ ∈ lw_tbl := List.mem_of_getElem? (i := 356) (by decide +kernel)
set_option maxRecDepth 20000 in
theorem wd_266 : Cond.code ⟨"DreamShares", "parse", "(I)V"⟩ prog_1_method_57_code 2 (none : Option FieldType) ∈ lw_tbl := List.mem_of_getElem? (i := 357) rfl
theorem wd_267 : Cond.methodLink "DreamShares" 388 ⟨"DreamShares$Roster", "parse", "(LDreamShares$Text;)V"⟩ ∈ lw_tbl := List.mem_of_getElem? (i := 358) (by decide +kernel)
theorem wd_268 : Cond.instanceMethod ⟨"DreamShares$Roster", "parse", "(LDreamShares$Text;)V"⟩ ∈ lw_tbl := List.mem_of_getElem? (i := 359) (by decide +kernel)
theorem wd_269 : Cond.selects "DreamShares$Roster" ⟨"DreamShares$Roster", "parse", "(LDreamShares$Text;)V"⟩ ⟨"DreamShares$Roster", "parse", "(LDreamShares$Text;)V"⟩ ∈ lw_tbl := List.mem_of_getElem? (i := 360) (by decide +kernel)
set_option maxRecDepth 20000 in
theorem wd_270 : Cond.code ⟨"DreamShares$Roster", "parse", "(LDreamShares$Text;)V"⟩ prog_7_method_2_code 5 (none : Option FieldType) ∈ lw_tbl := List.mem_of_getElem? (i := 361) rfl
theorem wd_271 : Cond.methodLink "DreamShares$Roster" 30 ⟨"DreamShares$Roster", "fits", "(II)Z"⟩ ∈ lw_tbl := List.mem_of_getElem? (i := 362) (by decide +kernel)
theorem wd_272 : Cond.static ⟨"DreamShares$Roster", "fits", "(II)Z"⟩ ∈ lw_tbl := List.mem_of_getElem? (i := 363) (by decide +kernel)
set_option maxRecDepth 20000 in
theorem wd_273 : Cond.code ⟨"DreamShares$Roster", "fits", "(II)Z"⟩ prog_7_method_3_code 2 (some .boolean) ∈ lw_tbl := List.mem_of_getElem? (i := 364) rfl
theorem wd_275 : Cond.static ⟨"DreamShares", "isFigure", "(II)Z"⟩ ∈ lw_tbl := List.mem_of_getElem? (i := 366) (by decide +kernel)
set_option maxRecDepth 20000 in
theorem wd_276 : Cond.code ⟨"DreamShares", "isFigure", "(II)Z"⟩ prog_1_method_88_code 2 (some .boolean) ∈ lw_tbl := List.mem_of_getElem? (i := 367) rfl
theorem wd_277 : Cond.methodLink "DreamShares" 391 ⟨"DreamShares$Kitchen", "parse", "(LDreamShares$Text;)V"⟩ ∈ lw_tbl := List.mem_of_getElem? (i := 368) (by decide +kernel)
theorem wd_278 : Cond.instanceMethod ⟨"DreamShares$Kitchen", "parse", "(LDreamShares$Text;)V"⟩ ∈ lw_tbl := List.mem_of_getElem? (i := 369) (by decide +kernel)
theorem wd_279 : Cond.selects "DreamShares$Kitchen" ⟨"DreamShares$Kitchen", "parse", "(LDreamShares$Text;)V"⟩ ⟨"DreamShares$Kitchen", "parse", "(LDreamShares$Text;)V"⟩ ∈ lw_tbl := List.mem_of_getElem? (i := 370) (by decide +kernel)
set_option maxRecDepth 20000 in
theorem wd_280 : Cond.code ⟨"DreamShares$Kitchen", "parse", "(LDreamShares$Text;)V"⟩ prog_4_method_3_code 4 (none : Option FieldType) ∈ lw_tbl := List.mem_of_getElem? (i := 371) rfl
theorem wd_281 : Cond.methodLink "DreamShares$Kitchen" 49 ⟨"DreamShares$Kitchen", "goesOn", "(I)Z"⟩ ∈ lw_tbl := List.mem_of_getElem? (i := 372) (by decide +kernel)
theorem wd_283 : Cond.instanceMethod ⟨"DreamShares$Kitchen", "goesOn", "(I)Z"⟩ ∈ lw_tbl := List.mem_of_getElem? (i := 374) (by decide +kernel)
set_option maxRecDepth 20000 in
theorem wd_284 : Cond.code ⟨"DreamShares$Kitchen", "goesOn", "(I)Z"⟩ prog_4_method_4_code 2 (some .boolean) ∈ lw_tbl := List.mem_of_getElem? (i := 375) rfl
theorem wd_286 : Cond.static ⟨"DreamShares", "kindOfLetter", "(I)I"⟩ ∈ lw_tbl := List.mem_of_getElem? (i := 377) (by decide +kernel)
set_option maxRecDepth 20000 in
theorem wd_287 : Cond.code ⟨"DreamShares", "kindOfLetter", "(I)I"⟩ prog_1_method_89_code 1 (some .int) ∈ lw_tbl := List.mem_of_getElem? (i := 378) rfl
theorem wd_288 : Cond.methodLink "DreamShares$Kitchen" 60 ⟨"DreamShares$Kitchen", "takeLetter", "(I)Z"⟩ ∈ lw_tbl := List.mem_of_getElem? (i := 379) (by decide +kernel)
theorem wd_290 : Cond.instanceMethod ⟨"DreamShares$Kitchen", "takeLetter", "(I)Z"⟩ ∈ lw_tbl := List.mem_of_getElem? (i := 381) (by decide +kernel)
set_option maxRecDepth 20000 in
theorem wd_291 : Cond.code ⟨"DreamShares$Kitchen", "takeLetter", "(I)Z"⟩ prog_4_method_5_code 2 (some .boolean) ∈ lw_tbl := List.mem_of_getElem? (i := 382) rfl
theorem wd_293 : Cond.methodLink "DreamShares$Kitchen" 67 ⟨"DreamShares$Kitchen", "takePrice", "(I)Z"⟩ ∈ lw_tbl := List.mem_of_getElem? (i := 384) (by decide +kernel)
theorem wd_295 : Cond.instanceMethod ⟨"DreamShares$Kitchen", "takePrice", "(I)Z"⟩ ∈ lw_tbl := List.mem_of_getElem? (i := 386) (by decide +kernel)
set_option maxRecDepth 20000 in
theorem wd_296 : Cond.code ⟨"DreamShares$Kitchen", "takePrice", "(I)Z"⟩ prog_4_method_6_code 2 (some .boolean) ∈ lw_tbl := List.mem_of_getElem? (i := 387) rfl
theorem wd_297 : Cond.methodLink "DreamShares$Kitchen" 53 ⟨"DreamShares$Kitchen", "fillMost", "()V"⟩ ∈ lw_tbl := List.mem_of_getElem? (i := 388) (by decide +kernel)
theorem wd_299 : Cond.instanceMethod ⟨"DreamShares$Kitchen", "fillMost", "()V"⟩ ∈ lw_tbl := List.mem_of_getElem? (i := 390) (by decide +kernel)
set_option maxRecDepth 20000 in
theorem wd_300 : Cond.code ⟨"DreamShares$Kitchen", "fillMost", "()V"⟩ prog_4_method_7_code 3 (none : Option FieldType) ∈ lw_tbl := List.mem_of_getElem? (i := 391) rfl
theorem wd_301 : Cond.methodLink "DreamShares$Kitchen" 70 ⟨"DreamShares$Kitchen", "withRecipe", "(II)I"⟩ ∈ lw_tbl := List.mem_of_getElem? (i := 392) (by decide +kernel)
theorem wd_303 : Cond.instanceMethod ⟨"DreamShares$Kitchen", "withRecipe", "(II)I"⟩ ∈ lw_tbl := List.mem_of_getElem? (i := 394) (by decide +kernel)
set_option maxRecDepth 20000 in
theorem wd_304 : Cond.code ⟨"DreamShares$Kitchen", "withRecipe", "(II)I"⟩ prog_4_method_9_code 4 (some .int) ∈ lw_tbl := List.mem_of_getElem? (i := 395) rfl
theorem wd_305 : Cond.methodLink "DreamShares$Kitchen" 78 ⟨"DreamShares$Pools", "with", "(II)I"⟩ ∈ lw_tbl := List.mem_of_getElem? (i := 396) (by decide +kernel)
theorem wd_306 : Cond.instanceMethod ⟨"DreamShares$Pools", "with", "(II)I"⟩ ∈ lw_tbl := List.mem_of_getElem? (i := 397) (by decide +kernel)
theorem wd_307 : Cond.selects "DreamShares$Pools" ⟨"DreamShares$Pools", "with", "(II)I"⟩ ⟨"DreamShares$Pools", "with", "(II)I"⟩ ∈ lw_tbl := List.mem_of_getElem? (i := 398) (by decide +kernel)
set_option maxRecDepth 20000 in
theorem wd_308 : Cond.code ⟨"DreamShares$Pools", "with", "(II)I"⟩ prog_6_method_4_code 3 (some .int) ∈ lw_tbl := List.mem_of_getElem? (i := 399) rfl
theorem wd_309 : Cond.methodLink "DreamShares$Kitchen" 74 ⟨"DreamShares$Kitchen", "raise", "(II)V"⟩ ∈ lw_tbl := List.mem_of_getElem? (i := 400) (by decide +kernel)
theorem wd_311 : Cond.instanceMethod ⟨"DreamShares$Kitchen", "raise", "(II)V"⟩ ∈ lw_tbl := List.mem_of_getElem? (i := 402) (by decide +kernel)
set_option maxRecDepth 20000 in
theorem wd_312 : Cond.code ⟨"DreamShares$Kitchen", "raise", "(II)V"⟩ prog_4_method_8_code 3 (none : Option FieldType) ∈ lw_tbl := List.mem_of_getElem? (i := 403) rfl
theorem wd_322 : Cond.instanceMethod ⟨"DreamShares", "fault", "(I)I"⟩ ∈ lw_tbl := List.mem_of_getElem? (i := 413) (by decide +kernel)
theorem wd_323 : Cond.selects "DreamShares" ⟨"DreamShares", "fault", "(I)I"⟩ ⟨"DreamShares", "fault", "(I)I"⟩ ∈ lw_tbl := List.mem_of_getElem? (i := 414) (by decide +kernel)
set_option maxRecDepth 20000 in
theorem wd_324 : Cond.code ⟨"DreamShares", "fault", "(I)I"⟩ prog_1_method_5_code 2 (some .int) ∈ lw_tbl := List.mem_of_getElem? (i := 415) rfl
theorem wd_326 : Cond.instanceMethod ⟨"DreamShares", "member", "(II)I"⟩ ∈ lw_tbl := List.mem_of_getElem? (i := 417) (by decide +kernel)
theorem wd_327 : Cond.selects "DreamShares" ⟨"DreamShares", "member", "(II)I"⟩ ⟨"DreamShares", "member", "(II)I"⟩ ∈ lw_tbl := List.mem_of_getElem? (i := 418) (by decide +kernel)
set_option maxRecDepth 20000 in
theorem wd_328 : Cond.code ⟨"DreamShares", "member", "(II)I"⟩ prog_1_method_6_code 3 (some .int) ∈ lw_tbl := List.mem_of_getElem? (i := 419) rfl
theorem wd_329 : Cond.methodLink "DreamShares" 122 ⟨"DreamShares", "isThere", "(I)Z"⟩ ∈ lw_tbl := List.mem_of_getElem? (i := 420) (by decide +kernel)
theorem wd_331 : Cond.instanceMethod ⟨"DreamShares", "isThere", "(I)Z"⟩ ∈ lw_tbl := List.mem_of_getElem? (i := 422) (by decide +kernel)
set_option maxRecDepth 20000 in
theorem wd_332 : Cond.code ⟨"DreamShares", "isThere", "(I)Z"⟩ prog_1_method_43_code 2 (some .boolean) ∈ lw_tbl := List.mem_of_getElem? (i := 423) rfl
theorem wd_333 : Cond.methodLink "DreamShares" 125 ⟨"DreamShares", "isKind", "(I)Z"⟩ ∈ lw_tbl := List.mem_of_getElem? (i := 424) (by decide +kernel)
theorem wd_334 : Cond.static ⟨"DreamShares", "isKind", "(I)Z"⟩ ∈ lw_tbl := List.mem_of_getElem? (i := 425) (by decide +kernel)
set_option maxRecDepth 20000 in
theorem wd_335 : Cond.code ⟨"DreamShares", "isKind", "(I)Z"⟩ prog_1_method_44_code 1 (some .boolean) ∈ lw_tbl := List.mem_of_getElem? (i := 426) rfl
theorem wd_337 : Cond.instanceMethod ⟨"DreamShares", "recipe", "(II)I"⟩ ∈ lw_tbl := List.mem_of_getElem? (i := 428) (by decide +kernel)
theorem wd_338 : Cond.selects "DreamShares" ⟨"DreamShares", "recipe", "(II)I"⟩ ⟨"DreamShares", "recipe", "(II)I"⟩ ∈ lw_tbl := List.mem_of_getElem? (i := 429) (by decide +kernel)
set_option maxRecDepth 20000 in
theorem wd_339 : Cond.code ⟨"DreamShares", "recipe", "(II)I"⟩ prog_1_method_7_code 3 (some .int) ∈ lw_tbl := List.mem_of_getElem? (i := 430) rfl
theorem wd_340 : Cond.methodLink "DreamShares" 131 ⟨"DreamShares$Kitchen", "has", "(I)Z"⟩ ∈ lw_tbl := List.mem_of_getElem? (i := 431) (by decide +kernel)
theorem wd_341 : Cond.instanceMethod ⟨"DreamShares$Kitchen", "has", "(I)Z"⟩ ∈ lw_tbl := List.mem_of_getElem? (i := 432) (by decide +kernel)
theorem wd_342 : Cond.selects "DreamShares$Kitchen" ⟨"DreamShares$Kitchen", "has", "(I)Z"⟩ ⟨"DreamShares$Kitchen", "has", "(I)Z"⟩ ∈ lw_tbl := List.mem_of_getElem? (i := 433) (by decide +kernel)
set_option maxRecDepth 20000 in
theorem wd_343 : Cond.code ⟨"DreamShares$Kitchen", "has", "(I)Z"⟩ prog_4_method_2_code 2 (some .boolean) ∈ lw_tbl := List.mem_of_getElem? (i := 434) rfl
theorem wd_348 : Cond.methodLink "DreamShares" 143 ⟨"DreamShares", "isSeat", "(I)Z"⟩ ∈ lw_tbl := List.mem_of_getElem? (i := 439) (by decide +kernel)
theorem wd_349 : Cond.static ⟨"DreamShares", "isSeat", "(I)Z"⟩ ∈ lw_tbl := List.mem_of_getElem? (i := 440) (by decide +kernel)
set_option maxRecDepth 20000 in
theorem wd_350 : Cond.code ⟨"DreamShares", "isSeat", "(I)Z"⟩ prog_1_method_42_code 1 (some .boolean) ∈ lw_tbl := List.mem_of_getElem? (i := 441) rfl
theorem wd_351 : Cond.methodLink "DreamShares" 146 ⟨"DreamShares", "isKindOrNone", "(I)Z"⟩ ∈ lw_tbl := List.mem_of_getElem? (i := 442) (by decide +kernel)
theorem wd_352 : Cond.static ⟨"DreamShares", "isKindOrNone", "(I)Z"⟩ ∈ lw_tbl := List.mem_of_getElem? (i := 443) (by decide +kernel)
set_option maxRecDepth 20000 in
theorem wd_353 : Cond.code ⟨"DreamShares", "isKindOrNone", "(I)Z"⟩ prog_1_method_45_code 1 (some .boolean) ∈ lw_tbl := List.mem_of_getElem? (i := 444) rfl
theorem wd_362 : Cond.methodLink "DreamShares" 149 ⟨"DreamShares", "isPay", "(I)Z"⟩ ∈ lw_tbl := List.mem_of_getElem? (i := 453) (by decide +kernel)
theorem wd_363 : Cond.static ⟨"DreamShares", "isPay", "(I)Z"⟩ ∈ lw_tbl := List.mem_of_getElem? (i := 454) (by decide +kernel)
set_option maxRecDepth 20000 in
theorem wd_364 : Cond.code ⟨"DreamShares", "isPay", "(I)Z"⟩ prog_1_method_46_code 1 (some .boolean) ∈ lw_tbl := List.mem_of_getElem? (i := 455) rfl
theorem wd_373 : Cond.methodLink "DreamShares" 152 ⟨"DreamShares", "isSheet", "(I)Z"⟩ ∈ lw_tbl := List.mem_of_getElem? (i := 464) (by decide +kernel)
theorem wd_374 : Cond.static ⟨"DreamShares", "isSheet", "(I)Z"⟩ ∈ lw_tbl := List.mem_of_getElem? (i := 465) (by decide +kernel)
set_option maxRecDepth 20000 in
theorem wd_375 : Cond.code ⟨"DreamShares", "isSheet", "(I)Z"⟩ prog_1_method_53_code 1 (some .boolean) ∈ lw_tbl := List.mem_of_getElem? (i := 466) rfl
theorem wd_376 : Cond.methodLink "DreamShares" 159 ⟨"DreamShares", "found", "(I)I"⟩ ∈ lw_tbl := List.mem_of_getElem? (i := 467) (by decide +kernel)
theorem wd_378 : Cond.instanceMethod ⟨"DreamShares", "found", "(I)I"⟩ ∈ lw_tbl := List.mem_of_getElem? (i := 469) (by decide +kernel)
set_option maxRecDepth 20000 in
theorem wd_379 : Cond.code ⟨"DreamShares", "found", "(I)I"⟩ prog_1_method_55_code 2 (some .int) ∈ lw_tbl := List.mem_of_getElem? (i := 470) rfl
theorem wd_384 : Cond.methodLink "DreamShares" 169 ⟨"DreamShares", "isFractionPart", "(I)Z"⟩ ∈ lw_tbl := List.mem_of_getElem? (i := 475) (by decide +kernel)
theorem wd_385 : Cond.static ⟨"DreamShares", "isFractionPart", "(I)Z"⟩ ∈ lw_tbl := List.mem_of_getElem? (i := 476) (by decide +kernel)
set_option maxRecDepth 20000 in
theorem wd_386 : Cond.code ⟨"DreamShares", "isFractionPart", "(I)Z"⟩ prog_1_method_48_code 1 (some .boolean) ∈ lw_tbl := List.mem_of_getElem? (i := 477) rfl
theorem wd_387 : Cond.constantLong "DreamShares" 172 (-9223372036854775806) ∈ lw_tbl := List.mem_of_getElem? (i := 478) (by decide +kernel)
theorem wd_388 : Cond.methodLink "DreamShares" 174 ⟨"DreamShares", "findChance", "(II)V"⟩ ∈ lw_tbl := List.mem_of_getElem? (i := 479) (by decide +kernel)
theorem wd_390 : Cond.instanceMethod ⟨"DreamShares", "findChance", "(II)V"⟩ ∈ lw_tbl := List.mem_of_getElem? (i := 481) (by decide +kernel)
set_option maxRecDepth 20000 in
theorem wd_391 : Cond.code ⟨"DreamShares", "findChance", "(II)V"⟩ prog_1_method_71_code 3 (none : Option FieldType) ∈ lw_tbl := List.mem_of_getElem? (i := 482) rfl
theorem wd_392 : Cond.methodLink "DreamShares" 265 ⟨"DreamShares", "weight", "(III)I"⟩ ∈ lw_tbl := List.mem_of_getElem? (i := 483) (by decide +kernel)
theorem wd_394 : Cond.instanceMethod ⟨"DreamShares", "weight", "(III)I"⟩ ∈ lw_tbl := List.mem_of_getElem? (i := 485) (by decide +kernel)
set_option maxRecDepth 20000 in
theorem wd_395 : Cond.code ⟨"DreamShares", "weight", "(III)I"⟩ prog_1_method_59_code 4 (some .int) ∈ lw_tbl := List.mem_of_getElem? (i := 486) rfl
theorem wd_396 : Cond.methodLink "DreamShares" 233 ⟨"DreamShares", "weights", "(II)I"⟩ ∈ lw_tbl := List.mem_of_getElem? (i := 487) (by decide +kernel)
theorem wd_398 : Cond.instanceMethod ⟨"DreamShares", "weights", "(II)I"⟩ ∈ lw_tbl := List.mem_of_getElem? (i := 489) (by decide +kernel)
set_option maxRecDepth 20000 in
theorem wd_399 : Cond.code ⟨"DreamShares", "weights", "(II)I"⟩ prog_1_method_60_code 5 (some .int) ∈ lw_tbl := List.mem_of_getElem? (i := 490) rfl
theorem wd_400 : Cond.methodLink "DreamShares" 414 ⟨"DreamShares$Fraction", "become", "(JJ)V"⟩ ∈ lw_tbl := List.mem_of_getElem? (i := 491) (by decide +kernel)
theorem wd_401 : Cond.instanceMethod ⟨"DreamShares$Fraction", "become", "(JJ)V"⟩ ∈ lw_tbl := List.mem_of_getElem? (i := 492) (by decide +kernel)
theorem wd_402 : Cond.selects "DreamShares$Fraction" ⟨"DreamShares$Fraction", "become", "(JJ)V"⟩ ⟨"DreamShares$Fraction", "become", "(JJ)V"⟩ ∈ lw_tbl := List.mem_of_getElem? (i := 493) (by decide +kernel)
set_option maxRecDepth 20000 in
theorem wd_403 : Cond.code ⟨"DreamShares$Fraction", "become", "(JJ)V"⟩ prog_3_method_2_code 7 (none : Option FieldType) ∈ lw_tbl := List.mem_of_getElem? (i := 494) rfl
theorem wd_404 : Cond.methodLink "DreamShares$Fraction" 16 ⟨"java/lang/Math", "abs", "(J)J"⟩ ∈ lw_tbl := List.mem_of_getElem? (i := 495) (by decide +kernel)
theorem wd_405 : Cond.static ⟨"java/lang/Math", "abs", "(J)J"⟩ ∈ lw_tbl := List.mem_of_getElem? (i := 496) (by decide +kernel)
set_option maxRecDepth 20000 in
theorem wd_406 : Cond.code ⟨"java/lang/Math", "abs", "(J)J"⟩ prog_13_method_61_code 2 (some .long) ∈ lw_tbl := List.mem_of_getElem? (i := 497) rfl
theorem wd_407 : Cond.methodLink "DreamShares$Fraction" 22 ⟨"DreamShares$Fraction", "commonDivisor", "(JJ)J"⟩ ∈ lw_tbl := List.mem_of_getElem? (i := 498) (by decide +kernel)
theorem wd_408 : Cond.static ⟨"DreamShares$Fraction", "commonDivisor", "(JJ)J"⟩ ∈ lw_tbl := List.mem_of_getElem? (i := 499) (by decide +kernel)
set_option maxRecDepth 20000 in
theorem wd_409 : Cond.code ⟨"DreamShares$Fraction", "commonDivisor", "(JJ)J"⟩ prog_3_method_3_code 11 (some .long) ∈ lw_tbl := List.mem_of_getElem? (i := 500) rfl
theorem wd_410 : Cond.methodLink "DreamShares" 178 ⟨"DreamShares$Fraction", "part", "(I)J"⟩ ∈ lw_tbl := List.mem_of_getElem? (i := 501) (by decide +kernel)
theorem wd_411 : Cond.instanceMethod ⟨"DreamShares$Fraction", "part", "(I)J"⟩ ∈ lw_tbl := List.mem_of_getElem? (i := 502) (by decide +kernel)
theorem wd_412 : Cond.selects "DreamShares$Fraction" ⟨"DreamShares$Fraction", "part", "(I)J"⟩ ⟨"DreamShares$Fraction", "part", "(I)J"⟩ ∈ lw_tbl := List.mem_of_getElem? (i := 503) (by decide +kernel)
set_option maxRecDepth 20000 in
theorem wd_413 : Cond.code ⟨"DreamShares$Fraction", "part", "(I)J"⟩ prog_3_method_4_code 2 (some .long) ∈ lw_tbl := List.mem_of_getElem? (i := 504) rfl
theorem wd_415 : Cond.instanceMethod ⟨"DreamShares", "worth", "(IIII)I"⟩ ∈ lw_tbl := List.mem_of_getElem? (i := 506) (by decide +kernel)
theorem wd_416 : Cond.selects "DreamShares" ⟨"DreamShares", "worth", "(IIII)I"⟩ ⟨"DreamShares", "worth", "(IIII)I"⟩ ∈ lw_tbl := List.mem_of_getElem? (i := 507) (by decide +kernel)
set_option maxRecDepth 20000 in
theorem wd_417 : Cond.code ⟨"DreamShares", "worth", "(IIII)I"⟩ prog_1_method_14_code 5 (some .int) ∈ lw_tbl := List.mem_of_getElem? (i := 508) rfl
theorem wd_418 : Cond.methodLink "DreamShares" 182 ⟨"DreamShares", "isSmallPool", "(IIII)Z"⟩ ∈ lw_tbl := List.mem_of_getElem? (i := 509) (by decide +kernel)
theorem wd_419 : Cond.static ⟨"DreamShares", "isSmallPool", "(IIII)Z"⟩ ∈ lw_tbl := List.mem_of_getElem? (i := 510) (by decide +kernel)
set_option maxRecDepth 20000 in
theorem wd_420 : Cond.code ⟨"DreamShares", "isSmallPool", "(IIII)Z"⟩ prog_1_method_51_code 4 (some .boolean) ∈ lw_tbl := List.mem_of_getElem? (i := 511) rfl
theorem wd_421 : Cond.methodLink "DreamShares" 253 ⟨"DreamShares", "isPool", "(IIII)Z"⟩ ∈ lw_tbl := List.mem_of_getElem? (i := 512) (by decide +kernel)
theorem wd_422 : Cond.static ⟨"DreamShares", "isPool", "(IIII)Z"⟩ ∈ lw_tbl := List.mem_of_getElem? (i := 513) (by decide +kernel)
set_option maxRecDepth 20000 in
theorem wd_423 : Cond.code ⟨"DreamShares", "isPool", "(IIII)Z"⟩ prog_1_method_50_code 4 (some .boolean) ∈ lw_tbl := List.mem_of_getElem? (i := 514) rfl
theorem wd_424 : Cond.methodLink "DreamShares" 385 ⟨"DreamShares", "isDreams", "(I)Z"⟩ ∈ lw_tbl := List.mem_of_getElem? (i := 515) (by decide +kernel)
theorem wd_425 : Cond.static ⟨"DreamShares", "isDreams", "(I)Z"⟩ ∈ lw_tbl := List.mem_of_getElem? (i := 516) (by decide +kernel)
set_option maxRecDepth 20000 in
theorem wd_426 : Cond.code ⟨"DreamShares", "isDreams", "(I)Z"⟩ prog_1_method_49_code 1 (some .boolean) ∈ lw_tbl := List.mem_of_getElem? (i := 517) rfl
theorem wd_427 : Cond.methodLink "DreamShares" 186 ⟨"DreamShares$Pools", "place", "(IIII)I"⟩ ∈ lw_tbl := List.mem_of_getElem? (i := 518) (by decide +kernel)
theorem wd_428 : Cond.methodLink "DreamShares" 190 ⟨"DreamShares", "worthOf", "(I)I"⟩ ∈ lw_tbl := List.mem_of_getElem? (i := 519) (by decide +kernel)
theorem wd_430 : Cond.instanceMethod ⟨"DreamShares", "worthOf", "(I)I"⟩ ∈ lw_tbl := List.mem_of_getElem? (i := 521) (by decide +kernel)
set_option maxRecDepth 20000 in
theorem wd_431 : Cond.code ⟨"DreamShares", "worthOf", "(I)I"⟩ prog_1_method_65_code 2 (some .int) ∈ lw_tbl := List.mem_of_getElem? (i := 522) rfl
theorem wd_433 : Cond.instanceMethod ⟨"DreamShares", "made", "(IIIII)I"⟩ ∈ lw_tbl := List.mem_of_getElem? (i := 524) (by decide +kernel)
theorem wd_434 : Cond.selects "DreamShares" ⟨"DreamShares", "made", "(IIIII)I"⟩ ⟨"DreamShares", "made", "(IIIII)I"⟩ ∈ lw_tbl := List.mem_of_getElem? (i := 525) (by decide +kernel)
set_option maxRecDepth 20000 in
theorem wd_435 : Cond.code ⟨"DreamShares", "made", "(IIIII)I"⟩ prog_1_method_15_code 6 (some .int) ∈ lw_tbl := List.mem_of_getElem? (i := 526) rfl
theorem wd_436 : Cond.methodLink "DreamShares" 193 ⟨"DreamShares", "layDreams", "(IIII)V"⟩ ∈ lw_tbl := List.mem_of_getElem? (i := 527) (by decide +kernel)
theorem wd_438 : Cond.instanceMethod ⟨"DreamShares", "layDreams", "(IIII)V"⟩ ∈ lw_tbl := List.mem_of_getElem? (i := 529) (by decide +kernel)
set_option maxRecDepth 20000 in
theorem wd_439 : Cond.code ⟨"DreamShares", "layDreams", "(IIII)V"⟩ prog_1_method_64_code 5 (none : Option FieldType) ∈ lw_tbl := List.mem_of_getElem? (i := 530) rfl
theorem wd_440 : Cond.methodLink "DreamShares" 197 ⟨"DreamShares$Kitchen", "oftenMade", "([II)I"⟩ ∈ lw_tbl := List.mem_of_getElem? (i := 531) (by decide +kernel)
theorem wd_441 : Cond.instanceMethod ⟨"DreamShares$Kitchen", "oftenMade", "([II)I"⟩ ∈ lw_tbl := List.mem_of_getElem? (i := 532) (by decide +kernel)
theorem wd_442 : Cond.selects "DreamShares$Kitchen" ⟨"DreamShares$Kitchen", "oftenMade", "([II)I"⟩ ⟨"DreamShares$Kitchen", "oftenMade", "([II)I"⟩ ∈ lw_tbl := List.mem_of_getElem? (i := 533) (by decide +kernel)
set_option maxRecDepth 20000 in
theorem wd_443 : Cond.code ⟨"DreamShares$Kitchen", "oftenMade", "([II)I"⟩ prog_4_method_10_code 5 (some .int) ∈ lw_tbl := List.mem_of_getElem? (i := 534) rfl
theorem wd_444 : Cond.methodLink "DreamShares$Kitchen" 83 ⟨"DreamShares$Kitchen", "isMadeOnce", "([II)Z"⟩ ∈ lw_tbl := List.mem_of_getElem? (i := 535) (by decide +kernel)
theorem wd_446 : Cond.instanceMethod ⟨"DreamShares$Kitchen", "isMadeOnce", "([II)Z"⟩ ∈ lw_tbl := List.mem_of_getElem? (i := 537) (by decide +kernel)
set_option maxRecDepth 20000 in
theorem wd_447 : Cond.code ⟨"DreamShares$Kitchen", "isMadeOnce", "([II)Z"⟩ prog_4_method_11_code 5 (some .boolean) ∈ lw_tbl := List.mem_of_getElem? (i := 538) rfl
theorem wd_448 : Cond.methodLink "DreamShares$Kitchen" 87 ⟨"DreamShares$Kitchen", "mostOf", "([I)I"⟩ ∈ lw_tbl := List.mem_of_getElem? (i := 539) (by decide +kernel)
theorem wd_450 : Cond.instanceMethod ⟨"DreamShares$Kitchen", "mostOf", "([I)I"⟩ ∈ lw_tbl := List.mem_of_getElem? (i := 541) (by decide +kernel)
set_option maxRecDepth 20000 in
theorem wd_451 : Cond.code ⟨"DreamShares$Kitchen", "mostOf", "([I)I"⟩ prog_4_method_12_code 2 (some .int) ∈ lw_tbl := List.mem_of_getElem? (i := 542) rfl
theorem wd_452 : Cond.methodLink "DreamShares$Kitchen" 95 ⟨"DreamShares$Pools", "place", "(IIII)I"⟩ ∈ lw_tbl := List.mem_of_getElem? (i := 543) (by decide +kernel)
theorem wd_453 : Cond.methodLink "DreamShares$Kitchen" 91 ⟨"DreamShares$Kitchen", "addRecipe", "([III)V"⟩ ∈ lw_tbl := List.mem_of_getElem? (i := 544) (by decide +kernel)
theorem wd_455 : Cond.instanceMethod ⟨"DreamShares$Kitchen", "addRecipe", "([III)V"⟩ ∈ lw_tbl := List.mem_of_getElem? (i := 546) (by decide +kernel)
set_option maxRecDepth 20000 in
theorem wd_456 : Cond.code ⟨"DreamShares$Kitchen", "addRecipe", "([III)V"⟩ prog_4_method_13_code 4 (none : Option FieldType) ∈ lw_tbl := List.mem_of_getElem? (i := 547) rfl
theorem wd_461 : Cond.methodLink "DreamShares" 201 ⟨"DreamShares", "isBits", "(I)Z"⟩ ∈ lw_tbl := List.mem_of_getElem? (i := 552) (by decide +kernel)
theorem wd_462 : Cond.static ⟨"DreamShares", "isBits", "(I)Z"⟩ ∈ lw_tbl := List.mem_of_getElem? (i := 553) (by decide +kernel)
set_option maxRecDepth 20000 in
theorem wd_463 : Cond.code ⟨"DreamShares", "isBits", "(I)Z"⟩ prog_1_method_47_code 1 (some .boolean) ∈ lw_tbl := List.mem_of_getElem? (i := 554) rfl
theorem wd_464 : Cond.methodLink "DreamShares" 204 ⟨"DreamShares", "findMean", "(I)V"⟩ ∈ lw_tbl := List.mem_of_getElem? (i := 555) (by decide +kernel)
theorem wd_466 : Cond.instanceMethod ⟨"DreamShares", "findMean", "(I)V"⟩ ∈ lw_tbl := List.mem_of_getElem? (i := 557) (by decide +kernel)
set_option maxRecDepth 20000 in
theorem wd_467 : Cond.code ⟨"DreamShares", "findMean", "(I)V"⟩ prog_1_method_73_code 2 (none : Option FieldType) ∈ lw_tbl := List.mem_of_getElem? (i := 558) rfl
theorem wd_468 : Cond.methodLink "DreamShares" 220 ⟨"DreamShares", "everybody", "()I"⟩ ∈ lw_tbl := List.mem_of_getElem? (i := 559) (by decide +kernel)
theorem wd_470 : Cond.instanceMethod ⟨"DreamShares", "everybody", "()I"⟩ ∈ lw_tbl := List.mem_of_getElem? (i := 561) (by decide +kernel)
set_option maxRecDepth 20000 in
theorem wd_471 : Cond.code ⟨"DreamShares", "everybody", "()I"⟩ prog_1_method_58_code 1 (some .int) ∈ lw_tbl := List.mem_of_getElem? (i := 562) rfl
theorem wd_472 : Cond.methodLink "DreamShares" 427 ⟨"DreamShares", "meanTimesAllWeights", "(I)J"⟩ ∈ lw_tbl := List.mem_of_getElem? (i := 563) (by decide +kernel)
theorem wd_474 : Cond.instanceMethod ⟨"DreamShares", "meanTimesAllWeights", "(I)J"⟩ ∈ lw_tbl := List.mem_of_getElem? (i := 565) (by decide +kernel)
set_option maxRecDepth 20000 in
theorem wd_475 : Cond.code ⟨"DreamShares", "meanTimesAllWeights", "(I)J"⟩ prog_1_method_72_code 2 (some .long) ∈ lw_tbl := List.mem_of_getElem? (i := 566) rfl
theorem wd_476 : Cond.methodLink "DreamShares" 418 ⟨"java/lang/Integer", "bitCount", "(I)I"⟩ ∈ lw_tbl := List.mem_of_getElem? (i := 567) (by decide +kernel)
theorem wd_477 : Cond.static ⟨"java/lang/Integer", "bitCount", "(I)I"⟩ ∈ lw_tbl := List.mem_of_getElem? (i := 568) (by decide +kernel)
set_option maxRecDepth 20000 in
theorem wd_478 : Cond.code ⟨"java/lang/Integer", "bitCount", "(I)I"⟩ prog_12_method_49_code 1 (some .int) ∈ lw_tbl := List.mem_of_getElem? (i := 569) rfl
theorem wd_479 : Cond.constant "java/lang/Integer" 265 1431655765 ∈ lw_tbl := List.mem_of_getElem? (i := 570) (by decide +kernel)
theorem wd_480 : Cond.constant "java/lang/Integer" 266 858993459 ∈ lw_tbl := List.mem_of_getElem? (i := 571) (by decide +kernel)
theorem wd_481 : Cond.constant "java/lang/Integer" 267 252645135 ∈ lw_tbl := List.mem_of_getElem? (i := 572) (by decide +kernel)
theorem wd_482 : Cond.methodLink "DreamShares" 226 ⟨"DreamShares", "foldWorth", "(II)V"⟩ ∈ lw_tbl := List.mem_of_getElem? (i := 573) (by decide +kernel)
theorem wd_484 : Cond.instanceMethod ⟨"DreamShares", "foldWorth", "(II)V"⟩ ∈ lw_tbl := List.mem_of_getElem? (i := 575) (by decide +kernel)
set_option maxRecDepth 20000 in
theorem wd_485 : Cond.code ⟨"DreamShares", "foldWorth", "(II)V"⟩ prog_1_method_66_code 4 (none : Option FieldType) ∈ lw_tbl := List.mem_of_getElem? (i := 576) rfl
theorem wd_486 : Cond.fieldLink "DreamShares" 398 "DreamShares" "START" "[I" ∈ lw_tbl := List.mem_of_getElem? (i := 577) (by decide +kernel)
theorem wd_487 : Cond.methodLink "DreamShares" 401 ⟨"DreamShares", "foldMembers", "(II[I)V"⟩ ∈ lw_tbl := List.mem_of_getElem? (i := 578) (by decide +kernel)
theorem wd_489 : Cond.instanceMethod ⟨"DreamShares", "foldMembers", "(II[I)V"⟩ ∈ lw_tbl := List.mem_of_getElem? (i := 580) (by decide +kernel)
set_option maxRecDepth 20000 in
theorem wd_490 : Cond.code ⟨"DreamShares", "foldMembers", "(II[I)V"⟩ prog_1_method_67_code 7 (none : Option FieldType) ∈ lw_tbl := List.mem_of_getElem? (i := 581) rfl
theorem wd_491 : Cond.methodLink "DreamShares" 408 ⟨"DreamShares$Fold", "sumAt", "(I)V"⟩ ∈ lw_tbl := List.mem_of_getElem? (i := 582) (by decide +kernel)
theorem wd_492 : Cond.instanceMethod ⟨"DreamShares$Fold", "sumAt", "(I)V"⟩ ∈ lw_tbl := List.mem_of_getElem? (i := 583) (by decide +kernel)
theorem wd_493 : Cond.selects "DreamShares$Fold" ⟨"DreamShares$Fold", "sumAt", "(I)V"⟩ ⟨"DreamShares$Fold", "sumAt", "(I)V"⟩ ∈ lw_tbl := List.mem_of_getElem? (i := 584) (by decide +kernel)
set_option maxRecDepth 20000 in
theorem wd_494 : Cond.code ⟨"DreamShares$Fold", "sumAt", "(I)V"⟩ prog_2_method_3_code 5 (none : Option FieldType) ∈ lw_tbl := List.mem_of_getElem? (i := 585) rfl
theorem wd_495 : Cond.methodLink "DreamShares" 423 ⟨"DreamShares", "productOfWeights", "(I[I)J"⟩ ∈ lw_tbl := List.mem_of_getElem? (i := 586) (by decide +kernel)
theorem wd_497 : Cond.instanceMethod ⟨"DreamShares", "productOfWeights", "(I[I)J"⟩ ∈ lw_tbl := List.mem_of_getElem? (i := 588) (by decide +kernel)
set_option maxRecDepth 20000 in
theorem wd_498 : Cond.code ⟨"DreamShares", "productOfWeights", "(I[I)J"⟩ prog_1_method_61_code 6 (some .long) ∈ lw_tbl := List.mem_of_getElem? (i := 589) rfl
theorem wd_503 : Cond.methodLink "DreamShares" 207 ⟨"DreamShares", "fillMeans", "()V"⟩ ∈ lw_tbl := List.mem_of_getElem? (i := 594) (by decide +kernel)
theorem wd_505 : Cond.instanceMethod ⟨"DreamShares", "fillMeans", "()V"⟩ ∈ lw_tbl := List.mem_of_getElem? (i := 596) (by decide +kernel)
set_option maxRecDepth 20000 in
theorem wd_506 : Cond.code ⟨"DreamShares", "fillMeans", "()V"⟩ prog_1_method_74_code 2 (none : Option FieldType) ∈ lw_tbl := List.mem_of_getElem? (i := 597) rfl
theorem wd_507 : Cond.methodLink "DreamShares" 210 ⟨"DreamShares", "findShare", "(I)V"⟩ ∈ lw_tbl := List.mem_of_getElem? (i := 598) (by decide +kernel)
theorem wd_509 : Cond.instanceMethod ⟨"DreamShares", "findShare", "(I)V"⟩ ∈ lw_tbl := List.mem_of_getElem? (i := 600) (by decide +kernel)
set_option maxRecDepth 20000 in
theorem wd_510 : Cond.code ⟨"DreamShares", "findShare", "(I)V"⟩ prog_1_method_75_code 8 (none : Option FieldType) ∈ lw_tbl := List.mem_of_getElem? (i := 601) rfl
theorem wd_511 : Cond.fieldLink "DreamShares" 430 "DreamShares" "FACTORIAL" "[J" ∈ lw_tbl := List.mem_of_getElem? (i := 602) (by decide +kernel)
theorem wd_517 : Cond.methodLink "DreamShares" 213 ⟨"DreamShares", "leaversByMeans", "()I"⟩ ∈ lw_tbl := List.mem_of_getElem? (i := 608) (by decide +kernel)
theorem wd_519 : Cond.instanceMethod ⟨"DreamShares", "leaversByMeans", "()I"⟩ ∈ lw_tbl := List.mem_of_getElem? (i := 610) (by decide +kernel)
set_option maxRecDepth 20000 in
theorem wd_520 : Cond.code ⟨"DreamShares", "leaversByMeans", "()I"⟩ prog_1_method_76_code 6 (some .int) ∈ lw_tbl := List.mem_of_getElem? (i := 611) rfl
theorem wd_521 : Cond.methodLink "DreamShares" 316 ⟨"DreamShares", "payOf", "(I)I"⟩ ∈ lw_tbl := List.mem_of_getElem? (i := 612) (by decide +kernel)
theorem wd_523 : Cond.instanceMethod ⟨"DreamShares", "payOf", "(I)I"⟩ ∈ lw_tbl := List.mem_of_getElem? (i := 614) (by decide +kernel)
set_option maxRecDepth 20000 in
theorem wd_524 : Cond.code ⟨"DreamShares", "payOf", "(I)I"⟩ prog_1_method_63_code 4 (some .int) ∈ lw_tbl := List.mem_of_getElem? (i := 615) rfl
theorem wd_529 : Cond.methodLink "DreamShares" 217 ⟨"DreamShares", "findStrike", "(I)V"⟩ ∈ lw_tbl := List.mem_of_getElem? (i := 620) (by decide +kernel)
theorem wd_531 : Cond.instanceMethod ⟨"DreamShares", "findStrike", "(I)V"⟩ ∈ lw_tbl := List.mem_of_getElem? (i := 622) (by decide +kernel)
set_option maxRecDepth 20000 in
theorem wd_532 : Cond.code ⟨"DreamShares", "findStrike", "(I)V"⟩ prog_1_method_77_code 6 (none : Option FieldType) ∈ lw_tbl := List.mem_of_getElem? (i := 623) rfl
theorem wd_534 : Cond.instanceMethod ⟨"DreamShares", "best", "(I)I"⟩ ∈ lw_tbl := List.mem_of_getElem? (i := 625) (by decide +kernel)
theorem wd_535 : Cond.selects "DreamShares" ⟨"DreamShares", "best", "(I)I"⟩ ⟨"DreamShares", "best", "(I)I"⟩ ∈ lw_tbl := List.mem_of_getElem? (i := 626) (by decide +kernel)
set_option maxRecDepth 20000 in
theorem wd_536 : Cond.code ⟨"DreamShares", "best", "(I)I"⟩ prog_1_method_20_code 13 (some .int) ∈ lw_tbl := List.mem_of_getElem? (i := 627) rfl
theorem wd_537 : Cond.methodLink "DreamShares" 229 ⟨"DreamShares", "aboveWithDish", "(II)J"⟩ ∈ lw_tbl := List.mem_of_getElem? (i := 628) (by decide +kernel)
theorem wd_539 : Cond.instanceMethod ⟨"DreamShares", "aboveWithDish", "(II)J"⟩ ∈ lw_tbl := List.mem_of_getElem? (i := 630) (by decide +kernel)
set_option maxRecDepth 20000 in
theorem wd_540 : Cond.code ⟨"DreamShares", "aboveWithDish", "(II)J"⟩ prog_1_method_79_code 6 (some .long) ∈ lw_tbl := List.mem_of_getElem? (i := 631) rfl
theorem wd_541 : Cond.methodLink "DreamShares" 268 ⟨"DreamShares$Pools", "with", "(II)I"⟩ ∈ lw_tbl := List.mem_of_getElem? (i := 632) (by decide +kernel)
theorem wd_543 : Cond.instanceMethod ⟨"DreamShares", "menu", "(II)I"⟩ ∈ lw_tbl := List.mem_of_getElem? (i := 634) (by decide +kernel)
theorem wd_544 : Cond.selects "DreamShares" ⟨"DreamShares", "menu", "(II)I"⟩ ⟨"DreamShares", "menu", "(II)I"⟩ ∈ lw_tbl := List.mem_of_getElem? (i := 635) (by decide +kernel)
set_option maxRecDepth 20000 in
theorem wd_545 : Cond.code ⟨"DreamShares", "menu", "(II)I"⟩ prog_1_method_21_code 3 (some .int) ∈ lw_tbl := List.mem_of_getElem? (i := 636) rfl
theorem wd_546 : Cond.methodLink "DreamShares" 237 ⟨"DreamShares", "isMenuSize", "(I)Z"⟩ ∈ lw_tbl := List.mem_of_getElem? (i := 637) (by decide +kernel)
theorem wd_548 : Cond.instanceMethod ⟨"DreamShares", "isMenuSize", "(I)Z"⟩ ∈ lw_tbl := List.mem_of_getElem? (i := 639) (by decide +kernel)
set_option maxRecDepth 20000 in
theorem wd_549 : Cond.code ⟨"DreamShares", "isMenuSize", "(I)Z"⟩ prog_1_method_52_code 2 (some .boolean) ∈ lw_tbl := List.mem_of_getElem? (i := 640) rfl
theorem wd_550 : Cond.methodLink "DreamShares" 240 ⟨"DreamShares", "bestMenu", "(I)I"⟩ ∈ lw_tbl := List.mem_of_getElem? (i := 641) (by decide +kernel)
theorem wd_552 : Cond.instanceMethod ⟨"DreamShares", "bestMenu", "(I)I"⟩ ∈ lw_tbl := List.mem_of_getElem? (i := 643) (by decide +kernel)
set_option maxRecDepth 20000 in
theorem wd_553 : Cond.code ⟨"DreamShares", "bestMenu", "(I)I"⟩ prog_1_method_81_code 8 (some .int) ∈ lw_tbl := List.mem_of_getElem? (i := 644) rfl
theorem wd_554 : Cond.methodLink "DreamShares" 433 ⟨"DreamShares", "aboveWithMenu", "(II)J"⟩ ∈ lw_tbl := List.mem_of_getElem? (i := 645) (by decide +kernel)
theorem wd_556 : Cond.instanceMethod ⟨"DreamShares", "aboveWithMenu", "(II)J"⟩ ∈ lw_tbl := List.mem_of_getElem? (i := 647) (by decide +kernel)
set_option maxRecDepth 20000 in
theorem wd_557 : Cond.code ⟨"DreamShares", "aboveWithMenu", "(II)J"⟩ prog_1_method_82_code 3 (some .long) ∈ lw_tbl := List.mem_of_getElem? (i := 648) rfl
theorem wd_558 : Cond.methodLink "DreamShares" 436 ⟨"DreamShares", "layTrial", "(II)V"⟩ ∈ lw_tbl := List.mem_of_getElem? (i := 649) (by decide +kernel)
theorem wd_560 : Cond.instanceMethod ⟨"DreamShares", "layTrial", "(II)V"⟩ ∈ lw_tbl := List.mem_of_getElem? (i := 651) (by decide +kernel)
set_option maxRecDepth 20000 in
theorem wd_561 : Cond.code ⟨"DreamShares", "layTrial", "(II)V"⟩ prog_1_method_83_code 4 (none : Option FieldType) ∈ lw_tbl := List.mem_of_getElem? (i := 652) rfl
theorem wd_562 : Cond.methodLink "DreamShares" 243 ⟨"DreamShares", "dishOf", "(III)I"⟩ ∈ lw_tbl := List.mem_of_getElem? (i := 653) (by decide +kernel)
theorem wd_563 : Cond.static ⟨"DreamShares", "dishOf", "(III)I"⟩ ∈ lw_tbl := List.mem_of_getElem? (i := 654) (by decide +kernel)
set_option maxRecDepth 20000 in
theorem wd_564 : Cond.code ⟨"DreamShares", "dishOf", "(III)I"⟩ prog_1_method_80_code 3 (some .int) ∈ lw_tbl := List.mem_of_getElem? (i := 655) rfl
theorem wd_566 : Cond.instanceMethod ⟨"DreamShares", "menuMean", "(II)J"⟩ ∈ lw_tbl := List.mem_of_getElem? (i := 657) (by decide +kernel)
theorem wd_567 : Cond.selects "DreamShares" ⟨"DreamShares", "menuMean", "(II)J"⟩ ⟨"DreamShares", "menuMean", "(II)J"⟩ ∈ lw_tbl := List.mem_of_getElem? (i := 658) (by decide +kernel)
set_option maxRecDepth 20000 in
theorem wd_568 : Cond.code ⟨"DreamShares", "menuMean", "(II)J"⟩ prog_1_method_22_code 3 (some .long) ∈ lw_tbl := List.mem_of_getElem? (i := 659) rfl
theorem wd_569 : Cond.methodLink "DreamShares" 247 ⟨"DreamShares", "findMenuMean", "(I)V"⟩ ∈ lw_tbl := List.mem_of_getElem? (i := 660) (by decide +kernel)
theorem wd_571 : Cond.instanceMethod ⟨"DreamShares", "findMenuMean", "(I)V"⟩ ∈ lw_tbl := List.mem_of_getElem? (i := 662) (by decide +kernel)
set_option maxRecDepth 20000 in
theorem wd_572 : Cond.code ⟨"DreamShares", "findMenuMean", "(I)V"⟩ prog_1_method_84_code 3 (none : Option FieldType) ∈ lw_tbl := List.mem_of_getElem? (i := 663) rfl
theorem wd_577 : Cond.methodLink "DreamShares" 250 ⟨"DreamShares", "findDread", "(I)V"⟩ ∈ lw_tbl := List.mem_of_getElem? (i := 668) (by decide +kernel)
theorem wd_579 : Cond.instanceMethod ⟨"DreamShares", "findDread", "(I)V"⟩ ∈ lw_tbl := List.mem_of_getElem? (i := 670) (by decide +kernel)
set_option maxRecDepth 20000 in
theorem wd_580 : Cond.code ⟨"DreamShares", "findDread", "(I)V"⟩ prog_1_method_78_code 4 (none : Option FieldType) ∈ lw_tbl := List.mem_of_getElem? (i := 671) rfl
theorem wd_582 : Cond.instanceMethod ⟨"DreamShares", "rows", "(IIII)I"⟩ ∈ lw_tbl := List.mem_of_getElem? (i := 673) (by decide +kernel)
theorem wd_583 : Cond.selects "DreamShares" ⟨"DreamShares", "rows", "(IIII)I"⟩ ⟨"DreamShares", "rows", "(IIII)I"⟩ ∈ lw_tbl := List.mem_of_getElem? (i := 674) (by decide +kernel)
set_option maxRecDepth 20000 in
theorem wd_584 : Cond.code ⟨"DreamShares", "rows", "(IIII)I"⟩ prog_1_method_24_code 5 (some .int) ∈ lw_tbl := List.mem_of_getElem? (i := 675) rfl
theorem wd_585 : Cond.methodLink "DreamShares" 256 ⟨"DreamShares$Fold", "layOne", "(II)V"⟩ ∈ lw_tbl := List.mem_of_getElem? (i := 676) (by decide +kernel)
theorem wd_586 : Cond.instanceMethod ⟨"DreamShares$Fold", "layOne", "(II)V"⟩ ∈ lw_tbl := List.mem_of_getElem? (i := 677) (by decide +kernel)
theorem wd_587 : Cond.selects "DreamShares$Fold" ⟨"DreamShares$Fold", "layOne", "(II)V"⟩ ⟨"DreamShares$Fold", "layOne", "(II)V"⟩ ∈ lw_tbl := List.mem_of_getElem? (i := 678) (by decide +kernel)
set_option maxRecDepth 20000 in
theorem wd_588 : Cond.code ⟨"DreamShares$Fold", "layOne", "(II)V"⟩ prog_2_method_2_code 4 (none : Option FieldType) ∈ lw_tbl := List.mem_of_getElem? (i := 679) rfl
theorem wd_589 : Cond.methodLink "DreamShares" 259 ⟨"DreamShares", "foldWays", "(II)V"⟩ ∈ lw_tbl := List.mem_of_getElem? (i := 680) (by decide +kernel)
theorem wd_591 : Cond.instanceMethod ⟨"DreamShares", "foldWays", "(II)V"⟩ ∈ lw_tbl := List.mem_of_getElem? (i := 682) (by decide +kernel)
set_option maxRecDepth 20000 in
theorem wd_592 : Cond.code ⟨"DreamShares", "foldWays", "(II)V"⟩ prog_1_method_68_code 6 (none : Option FieldType) ∈ lw_tbl := List.mem_of_getElem? (i := 683) rfl
theorem wd_594 : Cond.instanceMethod ⟨"DreamShares", "may", "(IIIII)I"⟩ ∈ lw_tbl := List.mem_of_getElem? (i := 685) (by decide +kernel)
theorem wd_595 : Cond.selects "DreamShares" ⟨"DreamShares", "may", "(IIIII)I"⟩ ⟨"DreamShares", "may", "(IIIII)I"⟩ ∈ lw_tbl := List.mem_of_getElem? (i := 686) (by decide +kernel)
set_option maxRecDepth 20000 in
theorem wd_596 : Cond.code ⟨"DreamShares", "may", "(IIIII)I"⟩ prog_1_method_25_code 8 (some .int) ∈ lw_tbl := List.mem_of_getElem? (i := 687) rfl
theorem wd_601 : Cond.methodLink "DreamShares" 271 ⟨"DreamShares", "foldGreatest", "()V"⟩ ∈ lw_tbl := List.mem_of_getElem? (i := 692) (by decide +kernel)
theorem wd_603 : Cond.instanceMethod ⟨"DreamShares", "foldGreatest", "()V"⟩ ∈ lw_tbl := List.mem_of_getElem? (i := 694) (by decide +kernel)
set_option maxRecDepth 20000 in
theorem wd_604 : Cond.code ⟨"DreamShares", "foldGreatest", "()V"⟩ prog_1_method_69_code 3 (none : Option FieldType) ∈ lw_tbl := List.mem_of_getElem? (i := 695) rfl
theorem wd_605 : Cond.methodLink "DreamShares" 411 ⟨"DreamShares$Fold", "greatestAt", "(I)V"⟩ ∈ lw_tbl := List.mem_of_getElem? (i := 696) (by decide +kernel)
theorem wd_606 : Cond.instanceMethod ⟨"DreamShares$Fold", "greatestAt", "(I)V"⟩ ∈ lw_tbl := List.mem_of_getElem? (i := 697) (by decide +kernel)
theorem wd_607 : Cond.selects "DreamShares$Fold" ⟨"DreamShares$Fold", "greatestAt", "(I)V"⟩ ⟨"DreamShares$Fold", "greatestAt", "(I)V"⟩ ∈ lw_tbl := List.mem_of_getElem? (i := 698) (by decide +kernel)
set_option maxRecDepth 20000 in
theorem wd_608 : Cond.code ⟨"DreamShares$Fold", "greatestAt", "(I)V"⟩ prog_2_method_4_code 6 (none : Option FieldType) ∈ lw_tbl := List.mem_of_getElem? (i := 699) rfl
theorem wd_609 : Cond.methodLink "DreamShares$Fold" 31 ⟨"java/lang/Math", "max", "(JJ)J"⟩ ∈ lw_tbl := List.mem_of_getElem? (i := 700) (by decide +kernel)
theorem wd_610 : Cond.static ⟨"java/lang/Math", "max", "(JJ)J"⟩ ∈ lw_tbl := List.mem_of_getElem? (i := 701) (by decide +kernel)
set_option maxRecDepth 20000 in
theorem wd_611 : Cond.code ⟨"java/lang/Math", "max", "(JJ)J"⟩ prog_13_method_66_code 4 (some .long) ∈ lw_tbl := List.mem_of_getElem? (i := 702) rfl
theorem wd_612 : Cond.methodLink "DreamShares" 274 ⟨"DreamShares", "kindOnGreatestRow", "(I)I"⟩ ∈ lw_tbl := List.mem_of_getElem? (i := 703) (by decide +kernel)
theorem wd_614 : Cond.instanceMethod ⟨"DreamShares", "kindOnGreatestRow", "(I)I"⟩ ∈ lw_tbl := List.mem_of_getElem? (i := 705) (by decide +kernel)
set_option maxRecDepth 20000 in
theorem wd_615 : Cond.code ⟨"DreamShares", "kindOnGreatestRow", "(I)I"⟩ prog_1_method_70_code 6 (some .int) ∈ lw_tbl := List.mem_of_getElem? (i := 706) rfl
theorem wd_617 : Cond.instanceMethod ⟨"DreamShares", "kept", "(IIII)I"⟩ ∈ lw_tbl := List.mem_of_getElem? (i := 708) (by decide +kernel)
theorem wd_618 : Cond.selects "DreamShares" ⟨"DreamShares", "kept", "(IIII)I"⟩ ⟨"DreamShares", "kept", "(IIII)I"⟩ ∈ lw_tbl := List.mem_of_getElem? (i := 709) (by decide +kernel)
set_option maxRecDepth 20000 in
theorem wd_619 : Cond.code ⟨"DreamShares", "kept", "(IIII)I"⟩ prog_1_method_27_code 7 (some .int) ∈ lw_tbl := List.mem_of_getElem? (i := 710) rfl
theorem wd_620 : Cond.methodLink "DreamShares" 277 ⟨"DreamShares", "isJustOneTooMany", "(I)Z"⟩ ∈ lw_tbl := List.mem_of_getElem? (i := 711) (by decide +kernel)
theorem wd_622 : Cond.instanceMethod ⟨"DreamShares", "isJustOneTooMany", "(I)Z"⟩ ∈ lw_tbl := List.mem_of_getElem? (i := 713) (by decide +kernel)
set_option maxRecDepth 20000 in
theorem wd_623 : Cond.code ⟨"DreamShares", "isJustOneTooMany", "(I)Z"⟩ prog_1_method_85_code 3 (some .boolean) ∈ lw_tbl := List.mem_of_getElem? (i := 714) rfl
theorem wd_625 : Cond.instanceMethod ⟨"DreamShares", "week", "(III)I"⟩ ∈ lw_tbl := List.mem_of_getElem? (i := 716) (by decide +kernel)
theorem wd_626 : Cond.selects "DreamShares" ⟨"DreamShares", "week", "(III)I"⟩ ⟨"DreamShares", "week", "(III)I"⟩ ∈ lw_tbl := List.mem_of_getElem? (i := 717) (by decide +kernel)
set_option maxRecDepth 20000 in
theorem wd_627 : Cond.code ⟨"DreamShares", "week", "(III)I"⟩ prog_1_method_28_code 8 (some .int) ∈ lw_tbl := List.mem_of_getElem? (i := 718) rfl
theorem wd_628 : Cond.methodLink "DreamShares" 283 ⟨"DreamShares", "worthOfNight", "()I"⟩ ∈ lw_tbl := List.mem_of_getElem? (i := 719) (by decide +kernel)
theorem wd_630 : Cond.instanceMethod ⟨"DreamShares", "worthOfNight", "()I"⟩ ∈ lw_tbl := List.mem_of_getElem? (i := 721) (by decide +kernel)
set_option maxRecDepth 20000 in
theorem wd_631 : Cond.code ⟨"DreamShares", "worthOfNight", "()I"⟩ prog_1_method_86_code 3 (some .int) ∈ lw_tbl := List.mem_of_getElem? (i := 722) rfl
theorem wd_632 : Cond.methodLink "DreamShares" 439 ⟨"DreamShares", "kindByLot", "(I)I"⟩ ∈ lw_tbl := List.mem_of_getElem? (i := 723) (by decide +kernel)
theorem wd_634 : Cond.instanceMethod ⟨"DreamShares", "kindByLot", "(I)I"⟩ ∈ lw_tbl := List.mem_of_getElem? (i := 725) (by decide +kernel)
set_option maxRecDepth 20000 in
theorem wd_635 : Cond.code ⟨"DreamShares", "kindByLot", "(I)I"⟩ prog_1_method_87_code 4 (some .int) ∈ lw_tbl := List.mem_of_getElem? (i := 726) rfl
theorem wd_636 : Cond.methodLink "DreamShares" 442 ⟨"DreamShares$Lots", "draw", "(I)I"⟩ ∈ lw_tbl := List.mem_of_getElem? (i := 727) (by decide +kernel)
theorem wd_637 : Cond.instanceMethod ⟨"DreamShares$Lots", "draw", "(I)I"⟩ ∈ lw_tbl := List.mem_of_getElem? (i := 728) (by decide +kernel)
theorem wd_638 : Cond.selects "DreamShares$Lots" ⟨"DreamShares$Lots", "draw", "(I)I"⟩ ⟨"DreamShares$Lots", "draw", "(I)I"⟩ ∈ lw_tbl := List.mem_of_getElem? (i := 729) (by decide +kernel)
set_option maxRecDepth 20000 in
theorem wd_639 : Cond.code ⟨"DreamShares$Lots", "draw", "(I)I"⟩ prog_5_method_2_code 2 (some .int) ∈ lw_tbl := List.mem_of_getElem? (i := 730) rfl
theorem wd_640 : Cond.constant "DreamShares$Lots" 13 1103515245 ∈ lw_tbl := List.mem_of_getElem? (i := 731) (by decide +kernel)
theorem wd_645 : Cond.methodLink "DreamShares" 286 ⟨"DreamShares", "isForm", "(I)Z"⟩ ∈ lw_tbl := List.mem_of_getElem? (i := 736) (by decide +kernel)
theorem wd_646 : Cond.static ⟨"DreamShares", "isForm", "(I)Z"⟩ ∈ lw_tbl := List.mem_of_getElem? (i := 737) (by decide +kernel)
set_option maxRecDepth 20000 in
theorem wd_647 : Cond.code ⟨"DreamShares", "isForm", "(I)Z"⟩ prog_1_method_54_code 1 (some .boolean) ∈ lw_tbl := List.mem_of_getElem? (i := 738) rfl
theorem wd_648 : Cond.methodLink "DreamShares" 289 ⟨"DreamShares$Sheet", "renew", "(II)V"⟩ ∈ lw_tbl := List.mem_of_getElem? (i := 739) (by decide +kernel)
theorem wd_649 : Cond.instanceMethod ⟨"DreamShares$Sheet", "renew", "(II)V"⟩ ∈ lw_tbl := List.mem_of_getElem? (i := 740) (by decide +kernel)
theorem wd_650 : Cond.selects "DreamShares$Sheet" ⟨"DreamShares$Sheet", "renew", "(II)V"⟩ ⟨"DreamShares$Sheet", "renew", "(II)V"⟩ ∈ lw_tbl := List.mem_of_getElem? (i := 741) (by decide +kernel)
set_option maxRecDepth 20000 in
theorem wd_651 : Cond.code ⟨"DreamShares$Sheet", "renew", "(II)V"⟩ prog_8_method_2_code 4 (none : Option FieldType) ∈ lw_tbl := List.mem_of_getElem? (i := 742) rfl
theorem wd_660 : Cond.methodLink "DreamShares" 292 ⟨"DreamShares$Sheet", "findingAt", "(II)I"⟩ ∈ lw_tbl := List.mem_of_getElem? (i := 751) (by decide +kernel)
theorem wd_661 : Cond.instanceMethod ⟨"DreamShares$Sheet", "findingAt", "(II)I"⟩ ∈ lw_tbl := List.mem_of_getElem? (i := 752) (by decide +kernel)
theorem wd_662 : Cond.selects "DreamShares$Sheet" ⟨"DreamShares$Sheet", "findingAt", "(II)I"⟩ ⟨"DreamShares$Sheet", "findingAt", "(II)I"⟩ ∈ lw_tbl := List.mem_of_getElem? (i := 753) (by decide +kernel)
set_option maxRecDepth 20000 in
theorem wd_663 : Cond.code ⟨"DreamShares$Sheet", "findingAt", "(II)I"⟩ prog_8_method_3_code 3 (some .int) ∈ lw_tbl := List.mem_of_getElem? (i := 754) rfl
theorem wd_664 : Cond.methodLink "DreamShares" 295 ⟨"DreamShares$Sheet", "store", "(II)V"⟩ ∈ lw_tbl := List.mem_of_getElem? (i := 755) (by decide +kernel)
theorem wd_665 : Cond.instanceMethod ⟨"DreamShares$Sheet", "store", "(II)V"⟩ ∈ lw_tbl := List.mem_of_getElem? (i := 756) (by decide +kernel)
theorem wd_666 : Cond.selects "DreamShares$Sheet" ⟨"DreamShares$Sheet", "store", "(II)V"⟩ ⟨"DreamShares$Sheet", "store", "(II)V"⟩ ∈ lw_tbl := List.mem_of_getElem? (i := 757) (by decide +kernel)
set_option maxRecDepth 20000 in
theorem wd_667 : Cond.code ⟨"DreamShares$Sheet", "store", "(II)V"⟩ prog_8_method_5_code 3 (none : Option FieldType) ∈ lw_tbl := List.mem_of_getElem? (i := 758) rfl
theorem wd_672 : Cond.constant "DreamShares" 298 (-2147483648) ∈ lw_tbl := List.mem_of_getElem? (i := 763) (by decide +kernel)
theorem wd_677 : Cond.methodLink "DreamShares" 302 ⟨"DreamShares$Sheet", "holds", "(II)Z"⟩ ∈ lw_tbl := List.mem_of_getElem? (i := 768) (by decide +kernel)
theorem wd_678 : Cond.instanceMethod ⟨"DreamShares$Sheet", "holds", "(II)Z"⟩ ∈ lw_tbl := List.mem_of_getElem? (i := 769) (by decide +kernel)
theorem wd_679 : Cond.selects "DreamShares$Sheet" ⟨"DreamShares$Sheet", "holds", "(II)Z"⟩ ⟨"DreamShares$Sheet", "holds", "(II)Z"⟩ ∈ lw_tbl := List.mem_of_getElem? (i := 770) (by decide +kernel)
set_option maxRecDepth 20000 in
theorem wd_680 : Cond.code ⟨"DreamShares$Sheet", "holds", "(II)Z"⟩ prog_8_method_4_code 3 (some .boolean) ∈ lw_tbl := List.mem_of_getElem? (i := 771) rfl
theorem wd_681 : Cond.methodLink "DreamShares" 306 ⟨"java/lang/System", "arraycopy", "(Ljava/lang/Object;ILjava/lang/Object;II)V"⟩ ∈ lw_tbl := List.mem_of_getElem? (i := 772) (by decide +kernel)
theorem wd_682 : Cond.static ⟨"java/lang/System", "arraycopy", "(Ljava/lang/Object;ILjava/lang/Object;II)V"⟩ ∈ lw_tbl := List.mem_of_getElem? (i := 773) (by decide +kernel)
theorem wd_683 : Cond.native ⟨"java/lang/System", "arraycopy", "(Ljava/lang/Object;ILjava/lang/Object;II)V"⟩ ∈ lw_tbl := List.mem_of_getElem? (i := 774) (by decide +kernel)
theorem wd_689 : Cond.instanceMethod ⟨"DreamShares", "count", "(I)I"⟩ ∈ lw_tbl := List.mem_of_getElem? (i := 780) (by decide +kernel)
theorem wd_690 : Cond.selects "DreamShares" ⟨"DreamShares", "count", "(I)I"⟩ ⟨"DreamShares", "count", "(I)I"⟩ ∈ lw_tbl := List.mem_of_getElem? (i := 781) (by decide +kernel)
set_option maxRecDepth 20000 in
theorem wd_691 : Cond.code ⟨"DreamShares", "count", "(I)I"⟩ prog_1_method_35_code 2 (some .int) ∈ lw_tbl := List.mem_of_getElem? (i := 782) rfl
theorem wd_692 : Cond.methodLink "DreamShares" 313 ⟨"DreamShares", "membersWithSupper", "()I"⟩ ∈ lw_tbl := List.mem_of_getElem? (i := 783) (by decide +kernel)
theorem wd_694 : Cond.instanceMethod ⟨"DreamShares", "membersWithSupper", "()I"⟩ ∈ lw_tbl := List.mem_of_getElem? (i := 785) (by decide +kernel)
set_option maxRecDepth 20000 in
theorem wd_695 : Cond.code ⟨"DreamShares", "membersWithSupper", "()I"⟩ prog_1_method_62_code 3 (some .int) ∈ lw_tbl := List.mem_of_getElem? (i := 786) rfl
theorem wd_700 : Cond.constantLong "DreamShares" 319 17 ∈ lw_tbl := List.mem_of_getElem? (i := 791) (by decide +kernel)
theorem wd_701 : Cond.methodLink "DreamShares" 321 ⟨"DreamShares", "count", "(I)I"⟩ ∈ lw_tbl := List.mem_of_getElem? (i := 792) (by decide +kernel)
theorem wd_702 : Cond.methodLink "DreamShares" 324 ⟨"DreamShares", "mix", "(JJ)J"⟩ ∈ lw_tbl := List.mem_of_getElem? (i := 793) (by decide +kernel)
theorem wd_703 : Cond.static ⟨"DreamShares", "mix", "(JJ)J"⟩ ∈ lw_tbl := List.mem_of_getElem? (i := 794) (by decide +kernel)
set_option maxRecDepth 20000 in
theorem wd_704 : Cond.code ⟨"DreamShares", "mix", "(JJ)J"⟩ prog_1_method_40_code 4 (some .long) ∈ lw_tbl := List.mem_of_getElem? (i := 795) rfl
theorem wd_705 : Cond.constantLong "DreamShares" 383 31 ∈ lw_tbl := List.mem_of_getElem? (i := 796) (by decide +kernel)
theorem wd_706 : Cond.methodLink "DreamShares" 328 ⟨"DreamShares", "fault", "(I)I"⟩ ∈ lw_tbl := List.mem_of_getElem? (i := 797) (by decide +kernel)
theorem wd_707 : Cond.methodLink "DreamShares" 331 ⟨"DreamShares", "mixMember", "(JI)J"⟩ ∈ lw_tbl := List.mem_of_getElem? (i := 798) (by decide +kernel)
theorem wd_709 : Cond.instanceMethod ⟨"DreamShares", "mixMember", "(JI)J"⟩ ∈ lw_tbl := List.mem_of_getElem? (i := 800) (by decide +kernel)
set_option maxRecDepth 20000 in
theorem wd_710 : Cond.code ⟨"DreamShares", "mixMember", "(JI)J"⟩ prog_1_method_37_code 7 (some .long) ∈ lw_tbl := List.mem_of_getElem? (i := 801) rfl
theorem wd_711 : Cond.methodLink "DreamShares" 360 ⟨"DreamShares", "member", "(II)I"⟩ ∈ lw_tbl := List.mem_of_getElem? (i := 802) (by decide +kernel)
theorem wd_712 : Cond.methodLink "DreamShares" 341 ⟨"DreamShares", "mixFraction", "(J)J"⟩ ∈ lw_tbl := List.mem_of_getElem? (i := 803) (by decide +kernel)
theorem wd_714 : Cond.instanceMethod ⟨"DreamShares", "mixFraction", "(J)J"⟩ ∈ lw_tbl := List.mem_of_getElem? (i := 805) (by decide +kernel)
set_option maxRecDepth 20000 in
theorem wd_715 : Cond.code ⟨"DreamShares", "mixFraction", "(J)J"⟩ prog_1_method_39_code 3 (some .long) ∈ lw_tbl := List.mem_of_getElem? (i := 806) rfl
theorem wd_716 : Cond.methodLink "DreamShares" 363 ⟨"DreamShares", "best", "(I)I"⟩ ∈ lw_tbl := List.mem_of_getElem? (i := 807) (by decide +kernel)
theorem wd_717 : Cond.methodLink "DreamShares" 366 ⟨"DreamShares", "may", "(IIIII)I"⟩ ∈ lw_tbl := List.mem_of_getElem? (i := 808) (by decide +kernel)
theorem wd_718 : Cond.methodLink "DreamShares" 335 ⟨"DreamShares", "mixRecipe", "(JI)J"⟩ ∈ lw_tbl := List.mem_of_getElem? (i := 809) (by decide +kernel)
theorem wd_720 : Cond.instanceMethod ⟨"DreamShares", "mixRecipe", "(JI)J"⟩ ∈ lw_tbl := List.mem_of_getElem? (i := 811) (by decide +kernel)
set_option maxRecDepth 20000 in
theorem wd_721 : Cond.code ⟨"DreamShares", "mixRecipe", "(JI)J"⟩ prog_1_method_38_code 7 (some .long) ∈ lw_tbl := List.mem_of_getElem? (i := 812) rfl
theorem wd_722 : Cond.methodLink "DreamShares" 370 ⟨"DreamShares", "recipe", "(II)I"⟩ ∈ lw_tbl := List.mem_of_getElem? (i := 813) (by decide +kernel)
theorem wd_723 : Cond.methodLink "DreamShares" 373 ⟨"DreamShares", "made", "(IIIII)I"⟩ ∈ lw_tbl := List.mem_of_getElem? (i := 814) (by decide +kernel)
theorem wd_724 : Cond.methodLink "DreamShares" 338 ⟨"DreamShares", "worth", "(IIII)I"⟩ ∈ lw_tbl := List.mem_of_getElem? (i := 815) (by decide +kernel)
theorem wd_725 : Cond.methodLink "DreamShares" 345 ⟨"DreamShares", "menu", "(II)I"⟩ ∈ lw_tbl := List.mem_of_getElem? (i := 816) (by decide +kernel)
theorem wd_726 : Cond.methodLink "DreamShares" 348 ⟨"DreamShares", "menuMean", "(II)J"⟩ ∈ lw_tbl := List.mem_of_getElem? (i := 817) (by decide +kernel)
theorem wd_727 : Cond.methodLink "DreamShares" 351 ⟨"DreamShares", "rows", "(IIII)I"⟩ ∈ lw_tbl := List.mem_of_getElem? (i := 818) (by decide +kernel)
theorem wd_728 : Cond.methodLink "DreamShares" 354 ⟨"DreamShares", "kept", "(IIII)I"⟩ ∈ lw_tbl := List.mem_of_getElem? (i := 819) (by decide +kernel)
theorem wd_729 : Cond.methodLink "DreamShares" 357 ⟨"DreamShares", "week", "(III)I"⟩ ∈ lw_tbl := List.mem_of_getElem? (i := 820) (by decide +kernel)
theorem wd_736 : Cond.fieldLink "DreamSharesModel" 7 "DreamSharesModel" "typed" "[I" ∈ lw_tbl := List.mem_of_getElem? (i := 827) (by decide +kernel)
theorem wd_737 : Cond.fieldLink "DreamSharesModel" 13 "DreamSharesModel" "texts" "[I" ∈ lw_tbl := List.mem_of_getElem? (i := 828) (by decide +kernel)
theorem wd_738 : Cond.fieldLink "DreamSharesModel" 100 "DreamSharesModel" "members" "I" ∈ lw_tbl := List.mem_of_getElem? (i := 829) (by decide +kernel)
theorem wd_739 : Cond.fieldLink "DreamSharesModel" 16 "DreamSharesModel" "weights" "[I" ∈ lw_tbl := List.mem_of_getElem? (i := 830) (by decide +kernel)
theorem wd_740 : Cond.fieldLink "DreamSharesModel" 103 "DreamSharesModel" "recipes" "I" ∈ lw_tbl := List.mem_of_getElem? (i := 831) (by decide +kernel)
theorem wd_741 : Cond.fieldLink "DreamSharesModel" 19 "DreamSharesModel" "firsts" "[I" ∈ lw_tbl := List.mem_of_getElem? (i := 832) (by decide +kernel)
theorem wd_742 : Cond.fieldLink "DreamSharesModel" 22 "DreamSharesModel" "seconds" "[I" ∈ lw_tbl := List.mem_of_getElem? (i := 833) (by decide +kernel)
theorem wd_743 : Cond.fieldLink "DreamSharesModel" 25 "DreamSharesModel" "prices" "[I" ∈ lw_tbl := List.mem_of_getElem? (i := 834) (by decide +kernel)
theorem wd_744 : Cond.fieldLink "DreamSharesModel" 28 "DreamSharesModel" "suppers" "[I" ∈ lw_tbl := List.mem_of_getElem? (i := 835) (by decide +kernel)
theorem wd_745 : Cond.fieldLink "DreamSharesModel" 72 "DreamSharesModel" "spice" "I" ∈ lw_tbl := List.mem_of_getElem? (i := 836) (by decide +kernel)
theorem wd_746 : Cond.fieldLink "DreamSharesModel" 76 "DreamSharesModel" "loss" "I" ∈ lw_tbl := List.mem_of_getElem? (i := 837) (by decide +kernel)
theorem wd_747 : Cond.fieldLink "DreamSharesModel" 31 "DreamSharesModel" "pays" "[I" ∈ lw_tbl := List.mem_of_getElem? (i := 838) (by decide +kernel)
theorem wd_748 : Cond.fieldLink "DreamSharesModel" 34 "DreamSharesModel" "noted" "[I" ∈ lw_tbl := List.mem_of_getElem? (i := 839) (by decide +kernel)
theorem wd_749 : Cond.fieldLink "DreamSharesModel" 37 "DreamSharesModel" "bests" "[I" ∈ lw_tbl := List.mem_of_getElem? (i := 840) (by decide +kernel)
theorem wd_750 : Cond.fieldLink "DreamSharesModel" 40 "DreamSharesModel" "odds" "[J" ∈ lw_tbl := List.mem_of_getElem? (i := 841) (by decide +kernel)
theorem wd_751 : Cond.fieldLink "DreamSharesModel" 44 "DreamSharesModel" "oddsNext" "[J" ∈ lw_tbl := List.mem_of_getElem? (i := 842) (by decide +kernel)
theorem wd_752 : Cond.fieldLink "DreamSharesModel" 47 "DreamSharesModel" "means" "[J" ∈ lw_tbl := List.mem_of_getElem? (i := 843) (by decide +kernel)
theorem wd_753 : Cond.fieldLink "DreamSharesModel" 200 "DreamSharesModel" "allBelow" "J" ∈ lw_tbl := List.mem_of_getElem? (i := 844) (by decide +kernel)
theorem wd_754 : Cond.fieldLink "DreamSharesModel" 50 "DreamSharesModel" "toldSuppers" "[I" ∈ lw_tbl := List.mem_of_getElem? (i := 845) (by decide +kernel)
theorem wd_755 : Cond.fieldLink "DreamSharesModel" 226 "DreamSharesModel" "menuRow" "I" ∈ lw_tbl := List.mem_of_getElem? (i := 846) (by decide +kernel)
theorem wd_756 : Cond.fieldLink "DreamSharesModel" 232 "DreamSharesModel" "menuTop" "J" ∈ lw_tbl := List.mem_of_getElem? (i := 847) (by decide +kernel)
theorem wd_757 : Cond.fieldLink "DreamSharesModel" 229 "DreamSharesModel" "menuBottom" "J" ∈ lw_tbl := List.mem_of_getElem? (i := 848) (by decide +kernel)
theorem wd_758 : Cond.fieldLink "DreamSharesModel" 53 "DreamSharesModel" "found" "[I" ∈ lw_tbl := List.mem_of_getElem? (i := 849) (by decide +kernel)
theorem wd_759 : Cond.fieldLink "DreamSharesModel" 250 "DreamSharesModel" "foundWeight" "J" ∈ lw_tbl := List.mem_of_getElem? (i := 850) (by decide +kernel)
theorem wd_760 : Cond.fieldLink "DreamSharesModel" 270 "DreamSharesModel" "lotNow" "I" ∈ lw_tbl := List.mem_of_getElem? (i := 851) (by decide +kernel)
theorem wd_761 : Cond.fieldLink "DreamSharesModel" 56 "DreamSharesModel" "isThere" "[Z" ∈ lw_tbl := List.mem_of_getElem? (i := 852) (by decide +kernel)
theorem wd_762 : Cond.fieldLink "DreamSharesModel" 60 "DreamSharesModel" "forms" "[I" ∈ lw_tbl := List.mem_of_getElem? (i := 853) (by decide +kernel)
theorem wd_763 : Cond.fieldLink "DreamSharesModel" 63 "DreamSharesModel" "sizes" "[I" ∈ lw_tbl := List.mem_of_getElem? (i := 854) (by decide +kernel)
theorem wd_764 : Cond.fieldLink "DreamSharesModel" 66 "DreamSharesModel" "items" "[I" ∈ lw_tbl := List.mem_of_getElem? (i := 855) (by decide +kernel)
theorem wd_765 : Cond.fieldLink "DreamSharesModel" 69 "DreamSharesModel" "moved" "[I" ∈ lw_tbl := List.mem_of_getElem? (i := 856) (by decide +kernel)
theorem wd_766 : Cond.fieldLink "DreamSharesModel" 280 "DreamSharesModel" "finding" "I" ∈ lw_tbl := List.mem_of_getElem? (i := 857) (by decide +kernel)
theorem wd_835 : Cond.methodLink "DreamSharesModel" 85 ⟨"DreamSharesModel", "isText", "(I)Z"⟩ ∈ lw_tbl := List.mem_of_getElem? (i := 926) (by decide +kernel)
theorem wd_836 : Cond.static ⟨"DreamSharesModel", "isText", "(I)Z"⟩ ∈ lw_tbl := List.mem_of_getElem? (i := 927) (by decide +kernel)
set_option maxRecDepth 20000 in
theorem wd_837 : Cond.code ⟨"DreamSharesModel", "isText", "(I)Z"⟩ prog_11_method_8_code 1 (some .boolean) ∈ lw_tbl := List.mem_of_getElem? (i := 928) rfl
theorem wd_838 : Cond.methodLink "DreamSharesModel" 81 ⟨"DreamSharesModel", "in", "(III)Z"⟩ ∈ lw_tbl := List.mem_of_getElem? (i := 929) (by decide +kernel)
theorem wd_839 : Cond.static ⟨"DreamSharesModel", "in", "(III)Z"⟩ ∈ lw_tbl := List.mem_of_getElem? (i := 930) (by decide +kernel)
set_option maxRecDepth 20000 in
theorem wd_840 : Cond.code ⟨"DreamSharesModel", "in", "(III)Z"⟩ prog_11_method_3_code 3 (some .boolean) ∈ lw_tbl := List.mem_of_getElem? (i := 931) rfl
theorem wd_853 : Cond.methodLink "DreamSharesModel" 115 ⟨"DreamSharesModel", "faultOf", "(I)I"⟩ ∈ lw_tbl := List.mem_of_getElem? (i := 944) (by decide +kernel)
theorem wd_855 : Cond.instanceMethod ⟨"DreamSharesModel", "faultOf", "(I)I"⟩ ∈ lw_tbl := List.mem_of_getElem? (i := 946) (by decide +kernel)
set_option maxRecDepth 20000 in
theorem wd_856 : Cond.code ⟨"DreamSharesModel", "faultOf", "(I)I"⟩ prog_11_method_19_code 4 (some .int) ∈ lw_tbl := List.mem_of_getElem? (i := 947) rfl
theorem wd_857 : Cond.methodLink "DreamSharesModel" 112 ⟨"DreamSharesModel", "readsText", "(I)I"⟩ ∈ lw_tbl := List.mem_of_getElem? (i := 948) (by decide +kernel)
theorem wd_859 : Cond.instanceMethod ⟨"DreamSharesModel", "readsText", "(I)I"⟩ ∈ lw_tbl := List.mem_of_getElem? (i := 950) (by decide +kernel)
set_option maxRecDepth 20000 in
theorem wd_860 : Cond.code ⟨"DreamSharesModel", "readsText", "(I)I"⟩ prog_11_method_18_code 5 (some .int) ∈ lw_tbl := List.mem_of_getElem? (i := 951) rfl
theorem wd_861 : Cond.methodLink "DreamSharesModel" 106 ⟨"DreamSharesModel", "readsMember", "(II)I"⟩ ∈ lw_tbl := List.mem_of_getElem? (i := 952) (by decide +kernel)
theorem wd_863 : Cond.instanceMethod ⟨"DreamSharesModel", "readsMember", "(II)I"⟩ ∈ lw_tbl := List.mem_of_getElem? (i := 954) (by decide +kernel)
set_option maxRecDepth 20000 in
theorem wd_864 : Cond.code ⟨"DreamSharesModel", "readsMember", "(II)I"⟩ prog_11_method_16_code 6 (some .int) ∈ lw_tbl := List.mem_of_getElem? (i := 955) rfl
theorem wd_865 : Cond.methodLink "DreamSharesModel" 93 ⟨"DreamSharesModel", "figureAt", "(II)I"⟩ ∈ lw_tbl := List.mem_of_getElem? (i := 956) (by decide +kernel)
theorem wd_867 : Cond.instanceMethod ⟨"DreamSharesModel", "figureAt", "(II)I"⟩ ∈ lw_tbl := List.mem_of_getElem? (i := 958) (by decide +kernel)
set_option maxRecDepth 20000 in
theorem wd_868 : Cond.code ⟨"DreamSharesModel", "figureAt", "(II)I"⟩ prog_11_method_14_code 4 (some .int) ∈ lw_tbl := List.mem_of_getElem? (i := 959) rfl
theorem wd_869 : Cond.methodLink "DreamSharesModel" 89 ⟨"DreamSharesModel", "byteAt", "(II)I"⟩ ∈ lw_tbl := List.mem_of_getElem? (i := 960) (by decide +kernel)
theorem wd_871 : Cond.instanceMethod ⟨"DreamSharesModel", "byteAt", "(II)I"⟩ ∈ lw_tbl := List.mem_of_getElem? (i := 962) (by decide +kernel)
set_option maxRecDepth 20000 in
theorem wd_872 : Cond.code ⟨"DreamSharesModel", "byteAt", "(II)I"⟩ prog_11_method_13_code 3 (some .int) ∈ lw_tbl := List.mem_of_getElem? (i := 963) rfl
theorem wd_873 : Cond.methodLink "DreamSharesModel" 109 ⟨"DreamSharesModel", "readsRecipe", "(II)I"⟩ ∈ lw_tbl := List.mem_of_getElem? (i := 964) (by decide +kernel)
theorem wd_875 : Cond.instanceMethod ⟨"DreamSharesModel", "readsRecipe", "(II)I"⟩ ∈ lw_tbl := List.mem_of_getElem? (i := 966) (by decide +kernel)
set_option maxRecDepth 20000 in
theorem wd_876 : Cond.code ⟨"DreamSharesModel", "readsRecipe", "(II)I"⟩ prog_11_method_17_code 6 (some .int) ∈ lw_tbl := List.mem_of_getElem? (i := 967) rfl
theorem wd_877 : Cond.methodLink "DreamSharesModel" 96 ⟨"DreamSharesModel", "kindAt", "(I)I"⟩ ∈ lw_tbl := List.mem_of_getElem? (i := 968) (by decide +kernel)
theorem wd_879 : Cond.instanceMethod ⟨"DreamSharesModel", "kindAt", "(I)I"⟩ ∈ lw_tbl := List.mem_of_getElem? (i := 970) (by decide +kernel)
set_option maxRecDepth 20000 in
theorem wd_880 : Cond.code ⟨"DreamSharesModel", "kindAt", "(I)I"⟩ prog_11_method_15_code 3 (some .int) ∈ lw_tbl := List.mem_of_getElem? (i := 971) rfl
theorem wd_885 : Cond.methodLink "DreamSharesModel" 121 ⟨"DreamSharesModel", "isMember", "(I)Z"⟩ ∈ lw_tbl := List.mem_of_getElem? (i := 976) (by decide +kernel)
theorem wd_887 : Cond.instanceMethod ⟨"DreamSharesModel", "isMember", "(I)Z"⟩ ∈ lw_tbl := List.mem_of_getElem? (i := 978) (by decide +kernel)
set_option maxRecDepth 20000 in
theorem wd_888 : Cond.code ⟨"DreamSharesModel", "isMember", "(I)Z"⟩ prog_11_method_22_code 2 (some .boolean) ∈ lw_tbl := List.mem_of_getElem? (i := 979) rfl
theorem wd_889 : Cond.methodLink "DreamSharesModel" 118 ⟨"DreamSharesModel", "reads", "()V"⟩ ∈ lw_tbl := List.mem_of_getElem? (i := 980) (by decide +kernel)
theorem wd_891 : Cond.instanceMethod ⟨"DreamSharesModel", "reads", "()V"⟩ ∈ lw_tbl := List.mem_of_getElem? (i := 982) (by decide +kernel)
set_option maxRecDepth 20000 in
theorem wd_892 : Cond.code ⟨"DreamSharesModel", "reads", "()V"⟩ prog_11_method_20_code 2 (none : Option FieldType) ∈ lw_tbl := List.mem_of_getElem? (i := 983) rfl
theorem wd_897 : Cond.methodLink "DreamSharesModel" 124 ⟨"DreamSharesModel", "isRecipe", "(I)Z"⟩ ∈ lw_tbl := List.mem_of_getElem? (i := 988) (by decide +kernel)
theorem wd_899 : Cond.instanceMethod ⟨"DreamSharesModel", "isRecipe", "(I)Z"⟩ ∈ lw_tbl := List.mem_of_getElem? (i := 990) (by decide +kernel)
set_option maxRecDepth 20000 in
theorem wd_900 : Cond.code ⟨"DreamSharesModel", "isRecipe", "(I)Z"⟩ prog_11_method_25_code 2 (some .boolean) ∈ lw_tbl := List.mem_of_getElem? (i := 991) rfl
theorem wd_901 : Cond.methodLink "DreamSharesModel" 127 ⟨"DreamSharesModel", "recipeOf", "(II)I"⟩ ∈ lw_tbl := List.mem_of_getElem? (i := 992) (by decide +kernel)
theorem wd_903 : Cond.instanceMethod ⟨"DreamSharesModel", "recipeOf", "(II)I"⟩ ∈ lw_tbl := List.mem_of_getElem? (i := 994) (by decide +kernel)
set_option maxRecDepth 20000 in
theorem wd_904 : Cond.code ⟨"DreamSharesModel", "recipeOf", "(II)I"⟩ prog_11_method_24_code 3 (some .int) ∈ lw_tbl := List.mem_of_getElem? (i := 995) rfl
theorem wd_909 : Cond.methodLink "DreamSharesModel" 130 ⟨"DreamSharesModel", "isSix", "(I)Z"⟩ ∈ lw_tbl := List.mem_of_getElem? (i := 1000) (by decide +kernel)
theorem wd_910 : Cond.static ⟨"DreamSharesModel", "isSix", "(I)Z"⟩ ∈ lw_tbl := List.mem_of_getElem? (i := 1001) (by decide +kernel)
set_option maxRecDepth 20000 in
theorem wd_911 : Cond.code ⟨"DreamSharesModel", "isSix", "(I)Z"⟩ prog_11_method_9_code 1 (some .boolean) ∈ lw_tbl := List.mem_of_getElem? (i := 1002) rfl
theorem wd_928 : Cond.methodLink "DreamSharesModel" 133 ⟨"DreamSharesModel", "isSheet", "(I)Z"⟩ ∈ lw_tbl := List.mem_of_getElem? (i := 1019) (by decide +kernel)
theorem wd_929 : Cond.static ⟨"DreamSharesModel", "isSheet", "(I)Z"⟩ ∈ lw_tbl := List.mem_of_getElem? (i := 1020) (by decide +kernel)
set_option maxRecDepth 20000 in
theorem wd_930 : Cond.code ⟨"DreamSharesModel", "isSheet", "(I)Z"⟩ prog_11_method_82_code 1 (some .boolean) ∈ lw_tbl := List.mem_of_getElem? (i := 1021) rfl
theorem wd_931 : Cond.methodLink "DreamSharesModel" 136 ⟨"DreamSharesModel", "meets", "(I)I"⟩ ∈ lw_tbl := List.mem_of_getElem? (i := 1022) (by decide +kernel)
theorem wd_933 : Cond.instanceMethod ⟨"DreamSharesModel", "meets", "(I)I"⟩ ∈ lw_tbl := List.mem_of_getElem? (i := 1024) (by decide +kernel)
set_option maxRecDepth 20000 in
theorem wd_934 : Cond.code ⟨"DreamSharesModel", "meets", "(I)I"⟩ prog_11_method_81_code 2 (some .int) ∈ lw_tbl := List.mem_of_getElem? (i := 1025) rfl
theorem wd_939 : Cond.methodLink "DreamSharesModel" 154 ⟨"DreamSharesModel", "isPool", "(IIII)Z"⟩ ∈ lw_tbl := List.mem_of_getElem? (i := 1030) (by decide +kernel)
theorem wd_940 : Cond.static ⟨"DreamSharesModel", "isPool", "(IIII)Z"⟩ ∈ lw_tbl := List.mem_of_getElem? (i := 1031) (by decide +kernel)
set_option maxRecDepth 20000 in
theorem wd_941 : Cond.code ⟨"DreamSharesModel", "isPool", "(IIII)Z"⟩ prog_11_method_37_code 4 (some .boolean) ∈ lw_tbl := List.mem_of_getElem? (i := 1032) rfl
theorem wd_942 : Cond.methodLink "DreamSharesModel" 158 ⟨"DreamSharesModel", "poolOf", "(IIII)I"⟩ ∈ lw_tbl := List.mem_of_getElem? (i := 1033) (by decide +kernel)
theorem wd_943 : Cond.static ⟨"DreamSharesModel", "poolOf", "(IIII)I"⟩ ∈ lw_tbl := List.mem_of_getElem? (i := 1034) (by decide +kernel)
set_option maxRecDepth 20000 in
theorem wd_944 : Cond.code ⟨"DreamSharesModel", "poolOf", "(IIII)I"⟩ prog_11_method_38_code 4 (some .int) ∈ lw_tbl := List.mem_of_getElem? (i := 1035) rfl
theorem wd_945 : Cond.methodLink "DreamSharesModel" 162 ⟨"DreamSharesModel", "worthOf", "(I)I"⟩ ∈ lw_tbl := List.mem_of_getElem? (i := 1036) (by decide +kernel)
theorem wd_947 : Cond.instanceMethod ⟨"DreamSharesModel", "worthOf", "(I)I"⟩ ∈ lw_tbl := List.mem_of_getElem? (i := 1038) (by decide +kernel)
set_option maxRecDepth 20000 in
theorem wd_948 : Cond.code ⟨"DreamSharesModel", "worthOf", "(I)I"⟩ prog_11_method_39_code 2 (some .int) ∈ lw_tbl := List.mem_of_getElem? (i := 1039) rfl
theorem wd_949 : Cond.methodLink "DreamSharesModel" 148 ⟨"DreamSharesModel", "laysBests", "()V"⟩ ∈ lw_tbl := List.mem_of_getElem? (i := 1040) (by decide +kernel)
theorem wd_951 : Cond.instanceMethod ⟨"DreamSharesModel", "laysBests", "()V"⟩ ∈ lw_tbl := List.mem_of_getElem? (i := 1042) (by decide +kernel)
set_option maxRecDepth 20000 in
theorem wd_952 : Cond.code ⟨"DreamSharesModel", "laysBests", "()V"⟩ prog_11_method_35_code 6 (none : Option FieldType) ∈ lw_tbl := List.mem_of_getElem? (i := 1043) rfl
theorem wd_953 : Cond.methodLink "DreamSharesModel" 145 ⟨"DreamSharesModel", "leaves", "(II)I"⟩ ∈ lw_tbl := List.mem_of_getElem? (i := 1044) (by decide +kernel)
theorem wd_955 : Cond.instanceMethod ⟨"DreamSharesModel", "leaves", "(II)I"⟩ ∈ lw_tbl := List.mem_of_getElem? (i := 1046) (by decide +kernel)
set_option maxRecDepth 20000 in
theorem wd_956 : Cond.code ⟨"DreamSharesModel", "leaves", "(II)I"⟩ prog_11_method_34_code 4 (some .int) ∈ lw_tbl := List.mem_of_getElem? (i := 1047) rfl
theorem wd_957 : Cond.methodLink "DreamSharesModel" 142 ⟨"DreamSharesModel", "digit", "(II)I"⟩ ∈ lw_tbl := List.mem_of_getElem? (i := 1048) (by decide +kernel)
theorem wd_958 : Cond.static ⟨"DreamSharesModel", "digit", "(II)I"⟩ ∈ lw_tbl := List.mem_of_getElem? (i := 1049) (by decide +kernel)
set_option maxRecDepth 20000 in
theorem wd_959 : Cond.code ⟨"DreamSharesModel", "digit", "(II)I"⟩ prog_11_method_33_code 2 (some .int) ∈ lw_tbl := List.mem_of_getElem? (i := 1050) rfl
theorem wd_960 : Cond.methodLink "DreamSharesModel" 139 ⟨"DreamSharesModel", "power", "(I)I"⟩ ∈ lw_tbl := List.mem_of_getElem? (i := 1051) (by decide +kernel)
theorem wd_961 : Cond.static ⟨"DreamSharesModel", "power", "(I)I"⟩ ∈ lw_tbl := List.mem_of_getElem? (i := 1052) (by decide +kernel)
set_option maxRecDepth 20000 in
theorem wd_962 : Cond.code ⟨"DreamSharesModel", "power", "(I)I"⟩ prog_11_method_32_code 1 (some .int) ∈ lw_tbl := List.mem_of_getElem? (i := 1053) rfl
theorem wd_963 : Cond.methodLink "DreamSharesModel" 151 ⟨"DreamSharesModel", "worthBy", "(I)I"⟩ ∈ lw_tbl := List.mem_of_getElem? (i := 1054) (by decide +kernel)
theorem wd_965 : Cond.instanceMethod ⟨"DreamSharesModel", "worthBy", "(I)I"⟩ ∈ lw_tbl := List.mem_of_getElem? (i := 1056) (by decide +kernel)
set_option maxRecDepth 20000 in
theorem wd_966 : Cond.code ⟨"DreamSharesModel", "worthBy", "(I)I"⟩ prog_11_method_36_code 2 (some .int) ∈ lw_tbl := List.mem_of_getElem? (i := 1057) rfl
theorem wd_971 : Cond.methodLink "DreamSharesModel" 165 ⟨"DreamSharesModel", "madeOf", "(II)I"⟩ ∈ lw_tbl := List.mem_of_getElem? (i := 1062) (by decide +kernel)
theorem wd_973 : Cond.instanceMethod ⟨"DreamSharesModel", "madeOf", "(II)I"⟩ ∈ lw_tbl := List.mem_of_getElem? (i := 1064) (by decide +kernel)
set_option maxRecDepth 20000 in
theorem wd_974 : Cond.code ⟨"DreamSharesModel", "madeOf", "(II)I"⟩ prog_11_method_41_code 7 (some .int) ∈ lw_tbl := List.mem_of_getElem? (i := 1065) rfl
theorem wd_976 : Cond.instanceMethod ⟨"DreamSharesModel", "chance", "(III)J"⟩ ∈ lw_tbl := List.mem_of_getElem? (i := 1067) (by decide +kernel)
theorem wd_977 : Cond.selects "DreamSharesModel" ⟨"DreamSharesModel", "chance", "(III)J"⟩ ⟨"DreamSharesModel", "chance", "(III)J"⟩ ∈ lw_tbl := List.mem_of_getElem? (i := 1068) (by decide +kernel)
set_option maxRecDepth 20000 in
theorem wd_978 : Cond.code ⟨"DreamSharesModel", "chance", "(III)J"⟩ prog_11_method_45_code 5 (some .long) ∈ lw_tbl := List.mem_of_getElem? (i := 1069) rfl
theorem wd_979 : Cond.methodLink "DreamSharesModel" 168 ⟨"DreamSharesModel", "weight", "(II)I"⟩ ∈ lw_tbl := List.mem_of_getElem? (i := 1070) (by decide +kernel)
theorem wd_981 : Cond.instanceMethod ⟨"DreamSharesModel", "weight", "(II)I"⟩ ∈ lw_tbl := List.mem_of_getElem? (i := 1072) (by decide +kernel)
set_option maxRecDepth 20000 in
theorem wd_982 : Cond.code ⟨"DreamSharesModel", "weight", "(II)I"⟩ prog_11_method_43_code 3 (some .int) ∈ lw_tbl := List.mem_of_getElem? (i := 1073) rfl
theorem wd_983 : Cond.methodLink "DreamSharesModel" 171 ⟨"DreamSharesModel", "weightAll", "(I)I"⟩ ∈ lw_tbl := List.mem_of_getElem? (i := 1074) (by decide +kernel)
theorem wd_985 : Cond.instanceMethod ⟨"DreamSharesModel", "weightAll", "(I)I"⟩ ∈ lw_tbl := List.mem_of_getElem? (i := 1076) (by decide +kernel)
set_option maxRecDepth 20000 in
theorem wd_986 : Cond.code ⟨"DreamSharesModel", "weightAll", "(I)I"⟩ prog_11_method_44_code 2 (some .int) ∈ lw_tbl := List.mem_of_getElem? (i := 1077) rfl
theorem wd_987 : Cond.methodLink "DreamSharesModel" 174 ⟨"DreamSharesModel", "lowest", "(JJI)J"⟩ ∈ lw_tbl := List.mem_of_getElem? (i := 1078) (by decide +kernel)
theorem wd_988 : Cond.static ⟨"DreamSharesModel", "lowest", "(JJI)J"⟩ ∈ lw_tbl := List.mem_of_getElem? (i := 1079) (by decide +kernel)
set_option maxRecDepth 20000 in
theorem wd_989 : Cond.code ⟨"DreamSharesModel", "lowest", "(JJI)J"⟩ prog_11_method_7_code 11 (some .long) ∈ lw_tbl := List.mem_of_getElem? (i := 1080) rfl
theorem wd_990 : Cond.methodLink "DreamSharesModel" 178 ⟨"DreamSharesModel", "no", "(I)J"⟩ ∈ lw_tbl := List.mem_of_getElem? (i := 1081) (by decide +kernel)
theorem wd_991 : Cond.static ⟨"DreamSharesModel", "no", "(I)J"⟩ ∈ lw_tbl := List.mem_of_getElem? (i := 1082) (by decide +kernel)
set_option maxRecDepth 20000 in
theorem wd_992 : Cond.code ⟨"DreamSharesModel", "no", "(I)J"⟩ prog_11_method_6_code 1 (some .long) ∈ lw_tbl := List.mem_of_getElem? (i := 1083) rfl
theorem wd_993 : Cond.constantLong "DreamSharesModel" 79 (-9223372036854775808) ∈ lw_tbl := List.mem_of_getElem? (i := 1084) (by decide +kernel)
theorem wd_998 : Cond.methodLink "DreamSharesModel" 196 ⟨"DreamSharesModel", "meanOf", "(II)J"⟩ ∈ lw_tbl := List.mem_of_getElem? (i := 1089) (by decide +kernel)
theorem wd_1000 : Cond.instanceMethod ⟨"DreamSharesModel", "meanOf", "(II)J"⟩ ∈ lw_tbl := List.mem_of_getElem? (i := 1091) (by decide +kernel)
set_option maxRecDepth 20000 in
theorem wd_1001 : Cond.code ⟨"DreamSharesModel", "meanOf", "(II)J"⟩ prog_11_method_49_code 4 (some .long) ∈ lw_tbl := List.mem_of_getElem? (i := 1092) rfl
theorem wd_1002 : Cond.methodLink "DreamSharesModel" 190 ⟨"DreamSharesModel", "meanBy", "(I)J"⟩ ∈ lw_tbl := List.mem_of_getElem? (i := 1093) (by decide +kernel)
theorem wd_1004 : Cond.instanceMethod ⟨"DreamSharesModel", "meanBy", "(I)J"⟩ ∈ lw_tbl := List.mem_of_getElem? (i := 1095) (by decide +kernel)
set_option maxRecDepth 20000 in
theorem wd_1005 : Cond.code ⟨"DreamSharesModel", "meanBy", "(I)J"⟩ prog_11_method_46_code 5 (some .long) ∈ lw_tbl := List.mem_of_getElem? (i := 1096) rfl
theorem wd_1006 : Cond.methodLink "DreamSharesModel" 182 ⟨"DreamSharesModel", "isIn", "(II)Z"⟩ ∈ lw_tbl := List.mem_of_getElem? (i := 1097) (by decide +kernel)
theorem wd_1007 : Cond.static ⟨"DreamSharesModel", "isIn", "(II)Z"⟩ ∈ lw_tbl := List.mem_of_getElem? (i := 1098) (by decide +kernel)
set_option maxRecDepth 20000 in
theorem wd_1008 : Cond.code ⟨"DreamSharesModel", "isIn", "(II)Z"⟩ prog_11_method_4_code 2 (some .boolean) ∈ lw_tbl := List.mem_of_getElem? (i := 1099) rfl
theorem wd_1009 : Cond.methodLink "DreamSharesModel" 186 ⟨"DreamSharesModel", "dreams", "(I)V"⟩ ∈ lw_tbl := List.mem_of_getElem? (i := 1100) (by decide +kernel)
theorem wd_1011 : Cond.instanceMethod ⟨"DreamSharesModel", "dreams", "(I)V"⟩ ∈ lw_tbl := List.mem_of_getElem? (i := 1102) (by decide +kernel)
set_option maxRecDepth 20000 in
theorem wd_1012 : Cond.code ⟨"DreamSharesModel", "dreams", "(I)V"⟩ prog_11_method_47_code 5 (none : Option FieldType) ∈ lw_tbl := List.mem_of_getElem? (i := 1103) rfl
theorem wd_1013 : Cond.methodLink "DreamSharesModel" 193 ⟨"DreamSharesModel", "belowOf", "(I)J"⟩ ∈ lw_tbl := List.mem_of_getElem? (i := 1104) (by decide +kernel)
theorem wd_1015 : Cond.instanceMethod ⟨"DreamSharesModel", "belowOf", "(I)J"⟩ ∈ lw_tbl := List.mem_of_getElem? (i := 1106) (by decide +kernel)
set_option maxRecDepth 20000 in
theorem wd_1016 : Cond.code ⟨"DreamSharesModel", "belowOf", "(I)J"⟩ prog_11_method_48_code 5 (some .long) ∈ lw_tbl := List.mem_of_getElem? (i := 1107) rfl
theorem wd_1021 : Cond.methodLink "DreamSharesModel" 213 ⟨"DreamSharesModel", "shareOf", "(II)J"⟩ ∈ lw_tbl := List.mem_of_getElem? (i := 1112) (by decide +kernel)
theorem wd_1023 : Cond.instanceMethod ⟨"DreamSharesModel", "shareOf", "(II)J"⟩ ∈ lw_tbl := List.mem_of_getElem? (i := 1114) (by decide +kernel)
set_option maxRecDepth 20000 in
theorem wd_1024 : Cond.code ⟨"DreamSharesModel", "shareOf", "(II)J"⟩ prog_11_method_53_code 7 (some .long) ∈ lw_tbl := List.mem_of_getElem? (i := 1115) rfl
theorem wd_1025 : Cond.methodLink "DreamSharesModel" 204 ⟨"DreamSharesModel", "laysMeans", "()V"⟩ ∈ lw_tbl := List.mem_of_getElem? (i := 1116) (by decide +kernel)
theorem wd_1027 : Cond.instanceMethod ⟨"DreamSharesModel", "laysMeans", "()V"⟩ ∈ lw_tbl := List.mem_of_getElem? (i := 1118) (by decide +kernel)
set_option maxRecDepth 20000 in
theorem wd_1028 : Cond.code ⟨"DreamSharesModel", "laysMeans", "()V"⟩ prog_11_method_51_code 2 (none : Option FieldType) ∈ lw_tbl := List.mem_of_getElem? (i := 1119) rfl
theorem wd_1029 : Cond.methodLink "DreamSharesModel" 207 ⟨"DreamSharesModel", "ones", "(I)I"⟩ ∈ lw_tbl := List.mem_of_getElem? (i := 1120) (by decide +kernel)
theorem wd_1030 : Cond.static ⟨"DreamSharesModel", "ones", "(I)I"⟩ ∈ lw_tbl := List.mem_of_getElem? (i := 1121) (by decide +kernel)
set_option maxRecDepth 20000 in
theorem wd_1031 : Cond.code ⟨"DreamSharesModel", "ones", "(I)I"⟩ prog_11_method_5_code 3 (some .int) ∈ lw_tbl := List.mem_of_getElem? (i := 1122) rfl
theorem wd_1032 : Cond.methodLink "DreamSharesModel" 210 ⟨"DreamSharesModel", "factorial", "(I)J"⟩ ∈ lw_tbl := List.mem_of_getElem? (i := 1123) (by decide +kernel)
theorem wd_1033 : Cond.static ⟨"DreamSharesModel", "factorial", "(I)J"⟩ ∈ lw_tbl := List.mem_of_getElem? (i := 1124) (by decide +kernel)
set_option maxRecDepth 20000 in
theorem wd_1034 : Cond.code ⟨"DreamSharesModel", "factorial", "(I)J"⟩ prog_11_method_52_code 4 (some .long) ∈ lw_tbl := List.mem_of_getElem? (i := 1125) rfl
theorem wd_1039 : Cond.methodLink "DreamSharesModel" 216 ⟨"DreamSharesModel", "leaveNow", "()I"⟩ ∈ lw_tbl := List.mem_of_getElem? (i := 1130) (by decide +kernel)
theorem wd_1041 : Cond.instanceMethod ⟨"DreamSharesModel", "leaveNow", "()I"⟩ ∈ lw_tbl := List.mem_of_getElem? (i := 1132) (by decide +kernel)
set_option maxRecDepth 20000 in
theorem wd_1042 : Cond.code ⟨"DreamSharesModel", "leaveNow", "()I"⟩ prog_11_method_55_code 6 (some .int) ∈ lw_tbl := List.mem_of_getElem? (i := 1133) rfl
theorem wd_1047 : Cond.methodLink "DreamSharesModel" 220 ⟨"DreamSharesModel", "strikeOf", "(II)J"⟩ ∈ lw_tbl := List.mem_of_getElem? (i := 1138) (by decide +kernel)
theorem wd_1049 : Cond.instanceMethod ⟨"DreamSharesModel", "strikeOf", "(II)J"⟩ ∈ lw_tbl := List.mem_of_getElem? (i := 1140) (by decide +kernel)
set_option maxRecDepth 20000 in
theorem wd_1050 : Cond.code ⟨"DreamSharesModel", "strikeOf", "(II)J"⟩ prog_11_method_57_code 4 (some .long) ∈ lw_tbl := List.mem_of_getElem? (i := 1141) rfl
theorem wd_1055 : Cond.methodLink "DreamSharesModel" 223 ⟨"DreamSharesModel", "bestOf", "(I)I"⟩ ∈ lw_tbl := List.mem_of_getElem? (i := 1146) (by decide +kernel)
theorem wd_1057 : Cond.instanceMethod ⟨"DreamSharesModel", "bestOf", "(I)I"⟩ ∈ lw_tbl := List.mem_of_getElem? (i := 1148) (by decide +kernel)
set_option maxRecDepth 20000 in
theorem wd_1058 : Cond.code ⟨"DreamSharesModel", "bestOf", "(I)I"⟩ prog_11_method_59_code 12 (some .int) ∈ lw_tbl := List.mem_of_getElem? (i := 1149) rfl
theorem wd_1060 : Cond.instanceMethod ⟨"DreamSharesModel", "menu", "(II)I"⟩ ∈ lw_tbl := List.mem_of_getElem? (i := 1151) (by decide +kernel)
theorem wd_1061 : Cond.selects "DreamSharesModel" ⟨"DreamSharesModel", "menu", "(II)I"⟩ ⟨"DreamSharesModel", "menu", "(II)I"⟩ ∈ lw_tbl := List.mem_of_getElem? (i := 1152) (by decide +kernel)
set_option maxRecDepth 20000 in
theorem wd_1062 : Cond.code ⟨"DreamSharesModel", "menu", "(II)I"⟩ prog_11_method_64_code 3 (some .int) ∈ lw_tbl := List.mem_of_getElem? (i := 1153) rfl
theorem wd_1063 : Cond.methodLink "DreamSharesModel" 238 ⟨"DreamSharesModel", "isMenu", "(I)Z"⟩ ∈ lw_tbl := List.mem_of_getElem? (i := 1154) (by decide +kernel)
theorem wd_1065 : Cond.instanceMethod ⟨"DreamSharesModel", "isMenu", "(I)Z"⟩ ∈ lw_tbl := List.mem_of_getElem? (i := 1156) (by decide +kernel)
set_option maxRecDepth 20000 in
theorem wd_1066 : Cond.code ⟨"DreamSharesModel", "isMenu", "(I)Z"⟩ prog_11_method_63_code 2 (some .boolean) ∈ lw_tbl := List.mem_of_getElem? (i := 1157) rfl
theorem wd_1067 : Cond.methodLink "DreamSharesModel" 241 ⟨"DreamSharesModel", "menuOf", "(II)I"⟩ ∈ lw_tbl := List.mem_of_getElem? (i := 1158) (by decide +kernel)
theorem wd_1069 : Cond.instanceMethod ⟨"DreamSharesModel", "menuOf", "(II)I"⟩ ∈ lw_tbl := List.mem_of_getElem? (i := 1160) (by decide +kernel)
set_option maxRecDepth 20000 in
theorem wd_1070 : Cond.code ⟨"DreamSharesModel", "menuOf", "(II)I"⟩ prog_11_method_62_code 3 (some .int) ∈ lw_tbl := List.mem_of_getElem? (i := 1161) rfl
theorem wd_1071 : Cond.methodLink "DreamSharesModel" 235 ⟨"DreamSharesModel", "menus", "(I)V"⟩ ∈ lw_tbl := List.mem_of_getElem? (i := 1162) (by decide +kernel)
theorem wd_1073 : Cond.instanceMethod ⟨"DreamSharesModel", "menus", "(I)V"⟩ ∈ lw_tbl := List.mem_of_getElem? (i := 1164) (by decide +kernel)
set_option maxRecDepth 20000 in
theorem wd_1074 : Cond.code ⟨"DreamSharesModel", "menus", "(I)V"⟩ prog_11_method_61_code 7 (none : Option FieldType) ∈ lw_tbl := List.mem_of_getElem? (i := 1165) rfl
theorem wd_1076 : Cond.instanceMethod ⟨"DreamSharesModel", "menuMean", "(II)J"⟩ ∈ lw_tbl := List.mem_of_getElem? (i := 1167) (by decide +kernel)
theorem wd_1077 : Cond.selects "DreamSharesModel" ⟨"DreamSharesModel", "menuMean", "(II)J"⟩ ⟨"DreamSharesModel", "menuMean", "(II)J"⟩ ∈ lw_tbl := List.mem_of_getElem? (i := 1168) (by decide +kernel)
set_option maxRecDepth 20000 in
theorem wd_1078 : Cond.code ⟨"DreamSharesModel", "menuMean", "(II)J"⟩ prog_11_method_66_code 3 (some .long) ∈ lw_tbl := List.mem_of_getElem? (i := 1169) rfl
theorem wd_1079 : Cond.methodLink "DreamSharesModel" 244 ⟨"DreamSharesModel", "menuMeanOf", "(II)J"⟩ ∈ lw_tbl := List.mem_of_getElem? (i := 1170) (by decide +kernel)
theorem wd_1081 : Cond.instanceMethod ⟨"DreamSharesModel", "menuMeanOf", "(II)J"⟩ ∈ lw_tbl := List.mem_of_getElem? (i := 1172) (by decide +kernel)
set_option maxRecDepth 20000 in
theorem wd_1082 : Cond.code ⟨"DreamSharesModel", "menuMeanOf", "(II)J"⟩ prog_11_method_65_code 3 (some .long) ∈ lw_tbl := List.mem_of_getElem? (i := 1173) rfl
theorem wd_1087 : Cond.methodLink "DreamSharesModel" 247 ⟨"DreamSharesModel", "dreadOf", "(II)J"⟩ ∈ lw_tbl := List.mem_of_getElem? (i := 1178) (by decide +kernel)
theorem wd_1089 : Cond.instanceMethod ⟨"DreamSharesModel", "dreadOf", "(II)J"⟩ ∈ lw_tbl := List.mem_of_getElem? (i := 1180) (by decide +kernel)
set_option maxRecDepth 20000 in
theorem wd_1090 : Cond.code ⟨"DreamSharesModel", "dreadOf", "(II)J"⟩ prog_11_method_67_code 8 (some .long) ∈ lw_tbl := List.mem_of_getElem? (i := 1181) rfl
theorem wd_1095 : Cond.methodLink "DreamSharesModel" 257 ⟨"DreamSharesModel", "rowsOf", "(I)I"⟩ ∈ lw_tbl := List.mem_of_getElem? (i := 1186) (by decide +kernel)
theorem wd_1097 : Cond.instanceMethod ⟨"DreamSharesModel", "rowsOf", "(I)I"⟩ ∈ lw_tbl := List.mem_of_getElem? (i := 1188) (by decide +kernel)
set_option maxRecDepth 20000 in
theorem wd_1098 : Cond.code ⟨"DreamSharesModel", "rowsOf", "(I)I"⟩ prog_11_method_70_code 2 (some .int) ∈ lw_tbl := List.mem_of_getElem? (i := 1189) rfl
theorem wd_1099 : Cond.methodLink "DreamSharesModel" 253 ⟨"DreamSharesModel", "findsRows", "(II)V"⟩ ∈ lw_tbl := List.mem_of_getElem? (i := 1190) (by decide +kernel)
theorem wd_1101 : Cond.instanceMethod ⟨"DreamSharesModel", "findsRows", "(II)V"⟩ ∈ lw_tbl := List.mem_of_getElem? (i := 1192) (by decide +kernel)
set_option maxRecDepth 20000 in
theorem wd_1102 : Cond.code ⟨"DreamSharesModel", "findsRows", "(II)V"⟩ prog_11_method_69_code 9 (none : Option FieldType) ∈ lw_tbl := List.mem_of_getElem? (i := 1193) rfl
theorem wd_1107 : Cond.methodLink "DreamSharesModel" 260 ⟨"DreamSharesModel", "mayOf", "(II)I"⟩ ∈ lw_tbl := List.mem_of_getElem? (i := 1198) (by decide +kernel)
theorem wd_1109 : Cond.instanceMethod ⟨"DreamSharesModel", "mayOf", "(II)I"⟩ ∈ lw_tbl := List.mem_of_getElem? (i := 1200) (by decide +kernel)
set_option maxRecDepth 20000 in
theorem wd_1110 : Cond.code ⟨"DreamSharesModel", "mayOf", "(II)I"⟩ prog_11_method_72_code 3 (some .int) ∈ lw_tbl := List.mem_of_getElem? (i := 1201) rfl
theorem wd_1115 : Cond.methodLink "DreamSharesModel" 263 ⟨"DreamSharesModel", "likeliestOf", "(II)I"⟩ ∈ lw_tbl := List.mem_of_getElem? (i := 1206) (by decide +kernel)
theorem wd_1117 : Cond.instanceMethod ⟨"DreamSharesModel", "likeliestOf", "(II)I"⟩ ∈ lw_tbl := List.mem_of_getElem? (i := 1208) (by decide +kernel)
set_option maxRecDepth 20000 in
theorem wd_1118 : Cond.code ⟨"DreamSharesModel", "likeliestOf", "(II)I"⟩ prog_11_method_74_code 3 (some .int) ∈ lw_tbl := List.mem_of_getElem? (i := 1209) rfl
theorem wd_1123 : Cond.methodLink "DreamSharesModel" 266 ⟨"DreamSharesModel", "keptOf", "(I)I"⟩ ∈ lw_tbl := List.mem_of_getElem? (i := 1214) (by decide +kernel)
theorem wd_1125 : Cond.instanceMethod ⟨"DreamSharesModel", "keptOf", "(I)I"⟩ ∈ lw_tbl := List.mem_of_getElem? (i := 1216) (by decide +kernel)
set_option maxRecDepth 20000 in
theorem wd_1126 : Cond.code ⟨"DreamSharesModel", "keptOf", "(I)I"⟩ prog_11_method_76_code 5 (some .int) ∈ lw_tbl := List.mem_of_getElem? (i := 1217) rfl
theorem wd_1131 : Cond.methodLink "DreamSharesModel" 276 ⟨"DreamSharesModel", "weekOf", "(III)I"⟩ ∈ lw_tbl := List.mem_of_getElem? (i := 1222) (by decide +kernel)
theorem wd_1133 : Cond.instanceMethod ⟨"DreamSharesModel", "weekOf", "(III)I"⟩ ∈ lw_tbl := List.mem_of_getElem? (i := 1224) (by decide +kernel)
set_option maxRecDepth 20000 in
theorem wd_1134 : Cond.code ⟨"DreamSharesModel", "weekOf", "(III)I"⟩ prog_11_method_79_code 8 (some .int) ∈ lw_tbl := List.mem_of_getElem? (i := 1225) rfl
theorem wd_1135 : Cond.methodLink "DreamSharesModel" 273 ⟨"DreamSharesModel", "nightWorth", "()I"⟩ ∈ lw_tbl := List.mem_of_getElem? (i := 1226) (by decide +kernel)
theorem wd_1137 : Cond.instanceMethod ⟨"DreamSharesModel", "nightWorth", "()I"⟩ ∈ lw_tbl := List.mem_of_getElem? (i := 1228) (by decide +kernel)
set_option maxRecDepth 20000 in
theorem wd_1138 : Cond.code ⟨"DreamSharesModel", "nightWorth", "()I"⟩ prog_11_method_78_code 5 (some .int) ∈ lw_tbl := List.mem_of_getElem? (i := 1229) rfl
theorem wd_1139 : Cond.constant "DreamSharesModel" 269 1103515245 ∈ lw_tbl := List.mem_of_getElem? (i := 1230) (by decide +kernel)
theorem wd_1152 : Cond.methodLink "DreamSharesModel" 283 ⟨"DreamSharesModel", "lacks", "(III)I"⟩ ∈ lw_tbl := List.mem_of_getElem? (i := 1243) (by decide +kernel)
theorem wd_1154 : Cond.instanceMethod ⟨"DreamSharesModel", "lacks", "(III)I"⟩ ∈ lw_tbl := List.mem_of_getElem? (i := 1245) (by decide +kernel)
set_option maxRecDepth 20000 in
theorem wd_1155 : Cond.code ⟨"DreamSharesModel", "lacks", "(III)I"⟩ prog_11_method_85_code 4 (some .int) ∈ lw_tbl := List.mem_of_getElem? (i := 1246) rfl
theorem wd_1156 : Cond.methodLink "DreamSharesModel" 286 ⟨"DreamSharesModel", "keep", "(III)V"⟩ ∈ lw_tbl := List.mem_of_getElem? (i := 1247) (by decide +kernel)
theorem wd_1158 : Cond.instanceMethod ⟨"DreamSharesModel", "keep", "(III)V"⟩ ∈ lw_tbl := List.mem_of_getElem? (i := 1249) (by decide +kernel)
set_option maxRecDepth 20000 in
theorem wd_1159 : Cond.code ⟨"DreamSharesModel", "keep", "(III)V"⟩ prog_11_method_86_code 4 (none : Option FieldType) ∈ lw_tbl := List.mem_of_getElem? (i := 1250) rfl
theorem wd_1164 : Cond.constant "DreamSharesModel" 290 (-2147483648) ∈ lw_tbl := List.mem_of_getElem? (i := 1255) (by decide +kernel)
theorem wd_1174 : Cond.instanceMethod ⟨"DreamSharesModel", "count", "(I)I"⟩ ∈ lw_tbl := List.mem_of_getElem? (i := 1265) (by decide +kernel)
theorem wd_1175 : Cond.selects "DreamSharesModel" ⟨"DreamSharesModel", "count", "(I)I"⟩ ⟨"DreamSharesModel", "count", "(I)I"⟩ ∈ lw_tbl := List.mem_of_getElem? (i := 1266) (by decide +kernel)
set_option maxRecDepth 20000 in
theorem wd_1176 : Cond.code ⟨"DreamSharesModel", "count", "(I)I"⟩ prog_11_method_92_code 2 (some .int) ∈ lw_tbl := List.mem_of_getElem? (i := 1267) rfl
theorem wd_1177 : Cond.methodLink "DreamSharesModel" 291 ⟨"DreamSharesModel", "sumOf", "(I)I"⟩ ∈ lw_tbl := List.mem_of_getElem? (i := 1268) (by decide +kernel)
theorem wd_1179 : Cond.instanceMethod ⟨"DreamSharesModel", "sumOf", "(I)I"⟩ ∈ lw_tbl := List.mem_of_getElem? (i := 1270) (by decide +kernel)
set_option maxRecDepth 20000 in
theorem wd_1180 : Cond.code ⟨"DreamSharesModel", "sumOf", "(I)I"⟩ prog_11_method_91_code 4 (some .int) ∈ lw_tbl := List.mem_of_getElem? (i := 1271) rfl
theorem wd_1185 : Cond.constantLong "DreamSharesModel" 300 17 ∈ lw_tbl := List.mem_of_getElem? (i := 1276) (by decide +kernel)
theorem wd_1186 : Cond.constantLong "DreamSharesModel" 294 31 ∈ lw_tbl := List.mem_of_getElem? (i := 1277) (by decide +kernel)
theorem wd_1187 : Cond.methodLink "DreamSharesModel" 302 ⟨"DreamSharesModel", "count", "(I)I"⟩ ∈ lw_tbl := List.mem_of_getElem? (i := 1278) (by decide +kernel)
theorem wd_1188 : Cond.methodLink "DreamSharesModel" 305 ⟨"DreamSharesModel", "memberDigest", "(JI)J"⟩ ∈ lw_tbl := List.mem_of_getElem? (i := 1279) (by decide +kernel)
theorem wd_1190 : Cond.instanceMethod ⟨"DreamSharesModel", "memberDigest", "(JI)J"⟩ ∈ lw_tbl := List.mem_of_getElem? (i := 1281) (by decide +kernel)
set_option maxRecDepth 20000 in
theorem wd_1191 : Cond.code ⟨"DreamSharesModel", "memberDigest", "(JI)J"⟩ prog_11_method_93_code 7 (some .long) ∈ lw_tbl := List.mem_of_getElem? (i := 1282) rfl
theorem wd_1192 : Cond.methodLink "DreamSharesModel" 296 ⟨"DreamSharesModel", "chance", "(III)J"⟩ ∈ lw_tbl := List.mem_of_getElem? (i := 1283) (by decide +kernel)
theorem wd_1193 : Cond.methodLink "DreamSharesModel" 309 ⟨"DreamSharesModel", "menu", "(II)I"⟩ ∈ lw_tbl := List.mem_of_getElem? (i := 1284) (by decide +kernel)
theorem wd_1194 : Cond.methodLink "DreamSharesModel" 312 ⟨"DreamSharesModel", "menuMean", "(II)J"⟩ ∈ lw_tbl := List.mem_of_getElem? (i := 1285) (by decide +kernel)
theorem ws_1 : Cond.selects "DreamShares" ⟨"DreamShares", "textOf", "(I)LDreamShares$Text;"⟩ ⟨"DreamShares", "textOf", "(I)LDreamShares$Text;"⟩ ∈ lw_tbl := List.mem_of_getElem? (i := 1) (by decide +kernel)
theorem ws_2 : Cond.selects "DreamShares" ⟨"DreamShares", "parse", "(I)V"⟩ ⟨"DreamShares", "parse", "(I)V"⟩ ∈ lw_tbl := List.mem_of_getElem? (i := 2) (by decide +kernel)
theorem ws_3 : Cond.selects "DreamShares$Kitchen" ⟨"DreamShares$Kitchen", "goesOn", "(I)Z"⟩ ⟨"DreamShares$Kitchen", "goesOn", "(I)Z"⟩ ∈ lw_tbl := List.mem_of_getElem? (i := 3) (by decide +kernel)
theorem ws_4 : Cond.selects "DreamShares$Kitchen" ⟨"DreamShares$Kitchen", "takeLetter", "(I)Z"⟩ ⟨"DreamShares$Kitchen", "takeLetter", "(I)Z"⟩ ∈ lw_tbl := List.mem_of_getElem? (i := 4) (by decide +kernel)
theorem ws_5 : Cond.selects "DreamShares$Kitchen" ⟨"DreamShares$Kitchen", "takePrice", "(I)Z"⟩ ⟨"DreamShares$Kitchen", "takePrice", "(I)Z"⟩ ∈ lw_tbl := List.mem_of_getElem? (i := 5) (by decide +kernel)
theorem ws_6 : Cond.selects "DreamShares$Kitchen" ⟨"DreamShares$Kitchen", "fillMost", "()V"⟩ ⟨"DreamShares$Kitchen", "fillMost", "()V"⟩ ∈ lw_tbl := List.mem_of_getElem? (i := 6) (by decide +kernel)
theorem ws_7 : Cond.selects "DreamShares$Kitchen" ⟨"DreamShares$Kitchen", "withRecipe", "(II)I"⟩ ⟨"DreamShares$Kitchen", "withRecipe", "(II)I"⟩ ∈ lw_tbl := List.mem_of_getElem? (i := 7) (by decide +kernel)
theorem ws_8 : Cond.selects "DreamShares$Kitchen" ⟨"DreamShares$Kitchen", "raise", "(II)V"⟩ ⟨"DreamShares$Kitchen", "raise", "(II)V"⟩ ∈ lw_tbl := List.mem_of_getElem? (i := 8) (by decide +kernel)
theorem ws_9 : Cond.selects "DreamShares" ⟨"DreamShares", "isThere", "(I)Z"⟩ ⟨"DreamShares", "isThere", "(I)Z"⟩ ∈ lw_tbl := List.mem_of_getElem? (i := 9) (by decide +kernel)
theorem ws_10 : Cond.selects "DreamShares" ⟨"DreamShares", "found", "(I)I"⟩ ⟨"DreamShares", "found", "(I)I"⟩ ∈ lw_tbl := List.mem_of_getElem? (i := 10) (by decide +kernel)
theorem ws_11 : Cond.selects "DreamShares" ⟨"DreamShares", "findChance", "(II)V"⟩ ⟨"DreamShares", "findChance", "(II)V"⟩ ∈ lw_tbl := List.mem_of_getElem? (i := 11) (by decide +kernel)
theorem ws_12 : Cond.selects "DreamShares" ⟨"DreamShares", "weight", "(III)I"⟩ ⟨"DreamShares", "weight", "(III)I"⟩ ∈ lw_tbl := List.mem_of_getElem? (i := 12) (by decide +kernel)
theorem ws_13 : Cond.selects "DreamShares" ⟨"DreamShares", "weights", "(II)I"⟩ ⟨"DreamShares", "weights", "(II)I"⟩ ∈ lw_tbl := List.mem_of_getElem? (i := 13) (by decide +kernel)
theorem ws_14 : Cond.selects "DreamShares" ⟨"DreamShares", "worthOf", "(I)I"⟩ ⟨"DreamShares", "worthOf", "(I)I"⟩ ∈ lw_tbl := List.mem_of_getElem? (i := 14) (by decide +kernel)
theorem ws_15 : Cond.selects "DreamShares" ⟨"DreamShares", "layDreams", "(IIII)V"⟩ ⟨"DreamShares", "layDreams", "(IIII)V"⟩ ∈ lw_tbl := List.mem_of_getElem? (i := 15) (by decide +kernel)
theorem ws_16 : Cond.selects "DreamShares$Kitchen" ⟨"DreamShares$Kitchen", "isMadeOnce", "([II)Z"⟩ ⟨"DreamShares$Kitchen", "isMadeOnce", "([II)Z"⟩ ∈ lw_tbl := List.mem_of_getElem? (i := 16) (by decide +kernel)
theorem ws_17 : Cond.selects "DreamShares$Kitchen" ⟨"DreamShares$Kitchen", "mostOf", "([I)I"⟩ ⟨"DreamShares$Kitchen", "mostOf", "([I)I"⟩ ∈ lw_tbl := List.mem_of_getElem? (i := 17) (by decide +kernel)
theorem ws_18 : Cond.selects "DreamShares$Kitchen" ⟨"DreamShares$Kitchen", "addRecipe", "([III)V"⟩ ⟨"DreamShares$Kitchen", "addRecipe", "([III)V"⟩ ∈ lw_tbl := List.mem_of_getElem? (i := 18) (by decide +kernel)
theorem ws_19 : Cond.selects "DreamShares" ⟨"DreamShares", "findMean", "(I)V"⟩ ⟨"DreamShares", "findMean", "(I)V"⟩ ∈ lw_tbl := List.mem_of_getElem? (i := 19) (by decide +kernel)
theorem ws_20 : Cond.selects "DreamShares" ⟨"DreamShares", "everybody", "()I"⟩ ⟨"DreamShares", "everybody", "()I"⟩ ∈ lw_tbl := List.mem_of_getElem? (i := 20) (by decide +kernel)
theorem ws_21 : Cond.selects "DreamShares" ⟨"DreamShares", "meanTimesAllWeights", "(I)J"⟩ ⟨"DreamShares", "meanTimesAllWeights", "(I)J"⟩ ∈ lw_tbl := List.mem_of_getElem? (i := 21) (by decide +kernel)
theorem ws_22 : Cond.selects "DreamShares" ⟨"DreamShares", "foldWorth", "(II)V"⟩ ⟨"DreamShares", "foldWorth", "(II)V"⟩ ∈ lw_tbl := List.mem_of_getElem? (i := 22) (by decide +kernel)
theorem ws_23 : Cond.selects "DreamShares" ⟨"DreamShares", "foldMembers", "(II[I)V"⟩ ⟨"DreamShares", "foldMembers", "(II[I)V"⟩ ∈ lw_tbl := List.mem_of_getElem? (i := 23) (by decide +kernel)
theorem ws_24 : Cond.selects "DreamShares" ⟨"DreamShares", "productOfWeights", "(I[I)J"⟩ ⟨"DreamShares", "productOfWeights", "(I[I)J"⟩ ∈ lw_tbl := List.mem_of_getElem? (i := 24) (by decide +kernel)
theorem ws_25 : Cond.selects "DreamShares" ⟨"DreamShares", "fillMeans", "()V"⟩ ⟨"DreamShares", "fillMeans", "()V"⟩ ∈ lw_tbl := List.mem_of_getElem? (i := 25) (by decide +kernel)
theorem ws_26 : Cond.selects "DreamShares" ⟨"DreamShares", "findShare", "(I)V"⟩ ⟨"DreamShares", "findShare", "(I)V"⟩ ∈ lw_tbl := List.mem_of_getElem? (i := 26) (by decide +kernel)
theorem ws_27 : Cond.selects "DreamShares" ⟨"DreamShares", "leaversByMeans", "()I"⟩ ⟨"DreamShares", "leaversByMeans", "()I"⟩ ∈ lw_tbl := List.mem_of_getElem? (i := 27) (by decide +kernel)
theorem ws_28 : Cond.selects "DreamShares" ⟨"DreamShares", "payOf", "(I)I"⟩ ⟨"DreamShares", "payOf", "(I)I"⟩ ∈ lw_tbl := List.mem_of_getElem? (i := 28) (by decide +kernel)
theorem ws_29 : Cond.selects "DreamShares" ⟨"DreamShares", "findStrike", "(I)V"⟩ ⟨"DreamShares", "findStrike", "(I)V"⟩ ∈ lw_tbl := List.mem_of_getElem? (i := 29) (by decide +kernel)
theorem ws_30 : Cond.selects "DreamShares" ⟨"DreamShares", "aboveWithDish", "(II)J"⟩ ⟨"DreamShares", "aboveWithDish", "(II)J"⟩ ∈ lw_tbl := List.mem_of_getElem? (i := 30) (by decide +kernel)
theorem ws_31 : Cond.selects "DreamShares" ⟨"DreamShares", "isMenuSize", "(I)Z"⟩ ⟨"DreamShares", "isMenuSize", "(I)Z"⟩ ∈ lw_tbl := List.mem_of_getElem? (i := 31) (by decide +kernel)
theorem ws_32 : Cond.selects "DreamShares" ⟨"DreamShares", "bestMenu", "(I)I"⟩ ⟨"DreamShares", "bestMenu", "(I)I"⟩ ∈ lw_tbl := List.mem_of_getElem? (i := 32) (by decide +kernel)
theorem ws_33 : Cond.selects "DreamShares" ⟨"DreamShares", "aboveWithMenu", "(II)J"⟩ ⟨"DreamShares", "aboveWithMenu", "(II)J"⟩ ∈ lw_tbl := List.mem_of_getElem? (i := 33) (by decide +kernel)
theorem ws_34 : Cond.selects "DreamShares" ⟨"DreamShares", "layTrial", "(II)V"⟩ ⟨"DreamShares", "layTrial", "(II)V"⟩ ∈ lw_tbl := List.mem_of_getElem? (i := 34) (by decide +kernel)
theorem ws_35 : Cond.selects "DreamShares" ⟨"DreamShares", "findMenuMean", "(I)V"⟩ ⟨"DreamShares", "findMenuMean", "(I)V"⟩ ∈ lw_tbl := List.mem_of_getElem? (i := 35) (by decide +kernel)
theorem ws_36 : Cond.selects "DreamShares" ⟨"DreamShares", "findDread", "(I)V"⟩ ⟨"DreamShares", "findDread", "(I)V"⟩ ∈ lw_tbl := List.mem_of_getElem? (i := 36) (by decide +kernel)
theorem ws_37 : Cond.selects "DreamShares" ⟨"DreamShares", "foldWays", "(II)V"⟩ ⟨"DreamShares", "foldWays", "(II)V"⟩ ∈ lw_tbl := List.mem_of_getElem? (i := 37) (by decide +kernel)
theorem ws_38 : Cond.selects "DreamShares" ⟨"DreamShares", "foldGreatest", "()V"⟩ ⟨"DreamShares", "foldGreatest", "()V"⟩ ∈ lw_tbl := List.mem_of_getElem? (i := 38) (by decide +kernel)
theorem ws_39 : Cond.selects "DreamShares" ⟨"DreamShares", "kindOnGreatestRow", "(I)I"⟩ ⟨"DreamShares", "kindOnGreatestRow", "(I)I"⟩ ∈ lw_tbl := List.mem_of_getElem? (i := 39) (by decide +kernel)
theorem ws_40 : Cond.selects "DreamShares" ⟨"DreamShares", "isJustOneTooMany", "(I)Z"⟩ ⟨"DreamShares", "isJustOneTooMany", "(I)Z"⟩ ∈ lw_tbl := List.mem_of_getElem? (i := 40) (by decide +kernel)
theorem ws_41 : Cond.selects "DreamShares" ⟨"DreamShares", "worthOfNight", "()I"⟩ ⟨"DreamShares", "worthOfNight", "()I"⟩ ∈ lw_tbl := List.mem_of_getElem? (i := 41) (by decide +kernel)
theorem ws_42 : Cond.selects "DreamShares" ⟨"DreamShares", "kindByLot", "(I)I"⟩ ⟨"DreamShares", "kindByLot", "(I)I"⟩ ∈ lw_tbl := List.mem_of_getElem? (i := 42) (by decide +kernel)
theorem ws_43 : Cond.selects "DreamShares" ⟨"DreamShares", "membersWithSupper", "()I"⟩ ⟨"DreamShares", "membersWithSupper", "()I"⟩ ∈ lw_tbl := List.mem_of_getElem? (i := 43) (by decide +kernel)
theorem ws_44 : Cond.selects "DreamShares" ⟨"DreamShares", "mixMember", "(JI)J"⟩ ⟨"DreamShares", "mixMember", "(JI)J"⟩ ∈ lw_tbl := List.mem_of_getElem? (i := 44) (by decide +kernel)
theorem ws_45 : Cond.selects "DreamShares" ⟨"DreamShares", "mixFraction", "(J)J"⟩ ⟨"DreamShares", "mixFraction", "(J)J"⟩ ∈ lw_tbl := List.mem_of_getElem? (i := 45) (by decide +kernel)
theorem ws_46 : Cond.selects "DreamShares" ⟨"DreamShares", "mixRecipe", "(JI)J"⟩ ⟨"DreamShares", "mixRecipe", "(JI)J"⟩ ∈ lw_tbl := List.mem_of_getElem? (i := 46) (by decide +kernel)
theorem ws_47 : Cond.selects "DreamSharesModel" ⟨"DreamSharesModel", "faultOf", "(I)I"⟩ ⟨"DreamSharesModel", "faultOf", "(I)I"⟩ ∈ lw_tbl := List.mem_of_getElem? (i := 47) (by decide +kernel)
theorem ws_48 : Cond.selects "DreamSharesModel" ⟨"DreamSharesModel", "readsText", "(I)I"⟩ ⟨"DreamSharesModel", "readsText", "(I)I"⟩ ∈ lw_tbl := List.mem_of_getElem? (i := 48) (by decide +kernel)
theorem ws_49 : Cond.selects "DreamSharesModel" ⟨"DreamSharesModel", "readsMember", "(II)I"⟩ ⟨"DreamSharesModel", "readsMember", "(II)I"⟩ ∈ lw_tbl := List.mem_of_getElem? (i := 49) (by decide +kernel)
theorem ws_50 : Cond.selects "DreamSharesModel" ⟨"DreamSharesModel", "figureAt", "(II)I"⟩ ⟨"DreamSharesModel", "figureAt", "(II)I"⟩ ∈ lw_tbl := List.mem_of_getElem? (i := 50) (by decide +kernel)
theorem ws_51 : Cond.selects "DreamSharesModel" ⟨"DreamSharesModel", "byteAt", "(II)I"⟩ ⟨"DreamSharesModel", "byteAt", "(II)I"⟩ ∈ lw_tbl := List.mem_of_getElem? (i := 51) (by decide +kernel)
theorem ws_52 : Cond.selects "DreamSharesModel" ⟨"DreamSharesModel", "readsRecipe", "(II)I"⟩ ⟨"DreamSharesModel", "readsRecipe", "(II)I"⟩ ∈ lw_tbl := List.mem_of_getElem? (i := 52) (by decide +kernel)
theorem ws_53 : Cond.selects "DreamSharesModel" ⟨"DreamSharesModel", "kindAt", "(I)I"⟩ ⟨"DreamSharesModel", "kindAt", "(I)I"⟩ ∈ lw_tbl := List.mem_of_getElem? (i := 53) (by decide +kernel)
theorem ws_54 : Cond.selects "DreamSharesModel" ⟨"DreamSharesModel", "isMember", "(I)Z"⟩ ⟨"DreamSharesModel", "isMember", "(I)Z"⟩ ∈ lw_tbl := List.mem_of_getElem? (i := 54) (by decide +kernel)
theorem ws_55 : Cond.selects "DreamSharesModel" ⟨"DreamSharesModel", "reads", "()V"⟩ ⟨"DreamSharesModel", "reads", "()V"⟩ ∈ lw_tbl := List.mem_of_getElem? (i := 55) (by decide +kernel)
theorem ws_56 : Cond.selects "DreamSharesModel" ⟨"DreamSharesModel", "isRecipe", "(I)Z"⟩ ⟨"DreamSharesModel", "isRecipe", "(I)Z"⟩ ∈ lw_tbl := List.mem_of_getElem? (i := 56) (by decide +kernel)
theorem ws_57 : Cond.selects "DreamSharesModel" ⟨"DreamSharesModel", "recipeOf", "(II)I"⟩ ⟨"DreamSharesModel", "recipeOf", "(II)I"⟩ ∈ lw_tbl := List.mem_of_getElem? (i := 57) (by decide +kernel)
theorem ws_58 : Cond.selects "DreamSharesModel" ⟨"DreamSharesModel", "meets", "(I)I"⟩ ⟨"DreamSharesModel", "meets", "(I)I"⟩ ∈ lw_tbl := List.mem_of_getElem? (i := 58) (by decide +kernel)
theorem ws_59 : Cond.selects "DreamSharesModel" ⟨"DreamSharesModel", "worthOf", "(I)I"⟩ ⟨"DreamSharesModel", "worthOf", "(I)I"⟩ ∈ lw_tbl := List.mem_of_getElem? (i := 59) (by decide +kernel)
theorem ws_60 : Cond.selects "DreamSharesModel" ⟨"DreamSharesModel", "laysBests", "()V"⟩ ⟨"DreamSharesModel", "laysBests", "()V"⟩ ∈ lw_tbl := List.mem_of_getElem? (i := 60) (by decide +kernel)
theorem ws_61 : Cond.selects "DreamSharesModel" ⟨"DreamSharesModel", "leaves", "(II)I"⟩ ⟨"DreamSharesModel", "leaves", "(II)I"⟩ ∈ lw_tbl := List.mem_of_getElem? (i := 61) (by decide +kernel)
theorem ws_62 : Cond.selects "DreamSharesModel" ⟨"DreamSharesModel", "worthBy", "(I)I"⟩ ⟨"DreamSharesModel", "worthBy", "(I)I"⟩ ∈ lw_tbl := List.mem_of_getElem? (i := 62) (by decide +kernel)
theorem ws_63 : Cond.selects "DreamSharesModel" ⟨"DreamSharesModel", "madeOf", "(II)I"⟩ ⟨"DreamSharesModel", "madeOf", "(II)I"⟩ ∈ lw_tbl := List.mem_of_getElem? (i := 63) (by decide +kernel)
theorem ws_64 : Cond.selects "DreamSharesModel" ⟨"DreamSharesModel", "weight", "(II)I"⟩ ⟨"DreamSharesModel", "weight", "(II)I"⟩ ∈ lw_tbl := List.mem_of_getElem? (i := 64) (by decide +kernel)
theorem ws_65 : Cond.selects "DreamSharesModel" ⟨"DreamSharesModel", "weightAll", "(I)I"⟩ ⟨"DreamSharesModel", "weightAll", "(I)I"⟩ ∈ lw_tbl := List.mem_of_getElem? (i := 65) (by decide +kernel)
theorem ws_66 : Cond.selects "DreamSharesModel" ⟨"DreamSharesModel", "meanOf", "(II)J"⟩ ⟨"DreamSharesModel", "meanOf", "(II)J"⟩ ∈ lw_tbl := List.mem_of_getElem? (i := 66) (by decide +kernel)
theorem ws_67 : Cond.selects "DreamSharesModel" ⟨"DreamSharesModel", "meanBy", "(I)J"⟩ ⟨"DreamSharesModel", "meanBy", "(I)J"⟩ ∈ lw_tbl := List.mem_of_getElem? (i := 67) (by decide +kernel)
theorem ws_68 : Cond.selects "DreamSharesModel" ⟨"DreamSharesModel", "dreams", "(I)V"⟩ ⟨"DreamSharesModel", "dreams", "(I)V"⟩ ∈ lw_tbl := List.mem_of_getElem? (i := 68) (by decide +kernel)
theorem ws_69 : Cond.selects "DreamSharesModel" ⟨"DreamSharesModel", "belowOf", "(I)J"⟩ ⟨"DreamSharesModel", "belowOf", "(I)J"⟩ ∈ lw_tbl := List.mem_of_getElem? (i := 69) (by decide +kernel)
theorem ws_70 : Cond.selects "DreamSharesModel" ⟨"DreamSharesModel", "shareOf", "(II)J"⟩ ⟨"DreamSharesModel", "shareOf", "(II)J"⟩ ∈ lw_tbl := List.mem_of_getElem? (i := 70) (by decide +kernel)
theorem ws_71 : Cond.selects "DreamSharesModel" ⟨"DreamSharesModel", "laysMeans", "()V"⟩ ⟨"DreamSharesModel", "laysMeans", "()V"⟩ ∈ lw_tbl := List.mem_of_getElem? (i := 71) (by decide +kernel)
theorem ws_72 : Cond.selects "DreamSharesModel" ⟨"DreamSharesModel", "leaveNow", "()I"⟩ ⟨"DreamSharesModel", "leaveNow", "()I"⟩ ∈ lw_tbl := List.mem_of_getElem? (i := 72) (by decide +kernel)
theorem ws_73 : Cond.selects "DreamSharesModel" ⟨"DreamSharesModel", "strikeOf", "(II)J"⟩ ⟨"DreamSharesModel", "strikeOf", "(II)J"⟩ ∈ lw_tbl := List.mem_of_getElem? (i := 73) (by decide +kernel)
theorem ws_74 : Cond.selects "DreamSharesModel" ⟨"DreamSharesModel", "bestOf", "(I)I"⟩ ⟨"DreamSharesModel", "bestOf", "(I)I"⟩ ∈ lw_tbl := List.mem_of_getElem? (i := 74) (by decide +kernel)
theorem ws_75 : Cond.selects "DreamSharesModel" ⟨"DreamSharesModel", "isMenu", "(I)Z"⟩ ⟨"DreamSharesModel", "isMenu", "(I)Z"⟩ ∈ lw_tbl := List.mem_of_getElem? (i := 75) (by decide +kernel)
theorem ws_76 : Cond.selects "DreamSharesModel" ⟨"DreamSharesModel", "menuOf", "(II)I"⟩ ⟨"DreamSharesModel", "menuOf", "(II)I"⟩ ∈ lw_tbl := List.mem_of_getElem? (i := 76) (by decide +kernel)
theorem ws_77 : Cond.selects "DreamSharesModel" ⟨"DreamSharesModel", "menus", "(I)V"⟩ ⟨"DreamSharesModel", "menus", "(I)V"⟩ ∈ lw_tbl := List.mem_of_getElem? (i := 77) (by decide +kernel)
theorem ws_78 : Cond.selects "DreamSharesModel" ⟨"DreamSharesModel", "menuMeanOf", "(II)J"⟩ ⟨"DreamSharesModel", "menuMeanOf", "(II)J"⟩ ∈ lw_tbl := List.mem_of_getElem? (i := 78) (by decide +kernel)
theorem ws_79 : Cond.selects "DreamSharesModel" ⟨"DreamSharesModel", "dreadOf", "(II)J"⟩ ⟨"DreamSharesModel", "dreadOf", "(II)J"⟩ ∈ lw_tbl := List.mem_of_getElem? (i := 79) (by decide +kernel)
theorem ws_80 : Cond.selects "DreamSharesModel" ⟨"DreamSharesModel", "rowsOf", "(I)I"⟩ ⟨"DreamSharesModel", "rowsOf", "(I)I"⟩ ∈ lw_tbl := List.mem_of_getElem? (i := 80) (by decide +kernel)
theorem ws_81 : Cond.selects "DreamSharesModel" ⟨"DreamSharesModel", "findsRows", "(II)V"⟩ ⟨"DreamSharesModel", "findsRows", "(II)V"⟩ ∈ lw_tbl := List.mem_of_getElem? (i := 81) (by decide +kernel)
theorem ws_82 : Cond.selects "DreamSharesModel" ⟨"DreamSharesModel", "mayOf", "(II)I"⟩ ⟨"DreamSharesModel", "mayOf", "(II)I"⟩ ∈ lw_tbl := List.mem_of_getElem? (i := 82) (by decide +kernel)
theorem ws_83 : Cond.selects "DreamSharesModel" ⟨"DreamSharesModel", "likeliestOf", "(II)I"⟩ ⟨"DreamSharesModel", "likeliestOf", "(II)I"⟩ ∈ lw_tbl := List.mem_of_getElem? (i := 83) (by decide +kernel)
theorem ws_84 : Cond.selects "DreamSharesModel" ⟨"DreamSharesModel", "keptOf", "(I)I"⟩ ⟨"DreamSharesModel", "keptOf", "(I)I"⟩ ∈ lw_tbl := List.mem_of_getElem? (i := 84) (by decide +kernel)
theorem ws_85 : Cond.selects "DreamSharesModel" ⟨"DreamSharesModel", "weekOf", "(III)I"⟩ ⟨"DreamSharesModel", "weekOf", "(III)I"⟩ ∈ lw_tbl := List.mem_of_getElem? (i := 85) (by decide +kernel)
theorem ws_86 : Cond.selects "DreamSharesModel" ⟨"DreamSharesModel", "nightWorth", "()I"⟩ ⟨"DreamSharesModel", "nightWorth", "()I"⟩ ∈ lw_tbl := List.mem_of_getElem? (i := 86) (by decide +kernel)
theorem ws_87 : Cond.selects "DreamSharesModel" ⟨"DreamSharesModel", "lacks", "(III)I"⟩ ⟨"DreamSharesModel", "lacks", "(III)I"⟩ ∈ lw_tbl := List.mem_of_getElem? (i := 87) (by decide +kernel)
theorem ws_88 : Cond.selects "DreamSharesModel" ⟨"DreamSharesModel", "keep", "(III)V"⟩ ⟨"DreamSharesModel", "keep", "(III)V"⟩ ∈ lw_tbl := List.mem_of_getElem? (i := 88) (by decide +kernel)
theorem ws_89 : Cond.selects "DreamSharesModel" ⟨"DreamSharesModel", "sumOf", "(I)I"⟩ ⟨"DreamSharesModel", "sumOf", "(I)I"⟩ ∈ lw_tbl := List.mem_of_getElem? (i := 89) (by decide +kernel)
theorem ws_90 : Cond.selects "DreamSharesModel" ⟨"DreamSharesModel", "memberDigest", "(JI)J"⟩ ⟨"DreamSharesModel", "memberDigest", "(JI)J"⟩ ∈ lw_tbl := List.mem_of_getElem? (i := 90) (by decide +kernel)
theorem fw0 : ∀ w ∈ u_ws RX0 TX0 3, w ∈ tt := fun w h => (by have := List.all_eq_true.mp (by decide +kernel : (u_ws RX0 TX0 3).all (fun w => decide (w ∈ lw_tbl) && goodWord w) = true) w h; rw [Bool.and_eq_true] at this; exact tt_mem (of_decide_eq_true this.1) this.2)
theorem fw1 : ∀ w ∈ u_ws RX1 TX1 2, w ∈ tt := fun w h => (by have := List.all_eq_true.mp (by decide +kernel : (u_ws RX1 TX1 2).all (fun w => decide (w ∈ lw_tbl) && goodWord w) = true) w h; rw [Bool.and_eq_true] at this; exact tt_mem (of_decide_eq_true this.1) this.2)
theorem fw2 : ∀ w ∈ u_ws RX2 TX2 8, w ∈ tt := fun w h => (by have := List.all_eq_true.mp (by decide +kernel : (u_ws RX2 TX2 8).all (fun w => decide (w ∈ lw_tbl) && goodWord w) = true) w h; rw [Bool.and_eq_true] at this; exact tt_mem (of_decide_eq_true this.1) this.2)
theorem fw3 : ∀ w ∈ u_ws RX3 TX3 1, w ∈ tt := fun w h => (by have := List.all_eq_true.mp (by decide +kernel : (u_ws RX3 TX3 1).all (fun w => decide (w ∈ lw_tbl) && goodWord w) = true) w h; rw [Bool.and_eq_true] at this; exact tt_mem (of_decide_eq_true this.1) this.2)
theorem fw4 : ∀ w ∈ u_ws RX4 TX4 2, w ∈ tt := fun w h => (by have := List.all_eq_true.mp (by decide +kernel : (u_ws RX4 TX4 2).all (fun w => decide (w ∈ lw_tbl) && goodWord w) = true) w h; rw [Bool.and_eq_true] at this; exact tt_mem (of_decide_eq_true this.1) this.2)
theorem fw5 : ∀ w ∈ u_ws RX5 TX5 3, w ∈ tt := fun w h => (by have := List.all_eq_true.mp (by decide +kernel : (u_ws RX5 TX5 3).all (fun w => decide (w ∈ lw_tbl) && goodWord w) = true) w h; rw [Bool.and_eq_true] at this; exact tt_mem (of_decide_eq_true this.1) this.2)
theorem fw6 : ∀ w ∈ u_ws RX6 TX6 4, w ∈ tt := fun w h => (by have := List.all_eq_true.mp (by decide +kernel : (u_ws RX6 TX6 4).all (fun w => decide (w ∈ lw_tbl) && goodWord w) = true) w h; rw [Bool.and_eq_true] at this; exact tt_mem (of_decide_eq_true this.1) this.2)
theorem fw7 : ∀ w ∈ u_ws RX7 TX7 2, w ∈ tt := fun w h => (by have := List.all_eq_true.mp (by decide +kernel : (u_ws RX7 TX7 2).all (fun w => decide (w ∈ lw_tbl) && goodWord w) = true) w h; rw [Bool.and_eq_true] at this; exact tt_mem (of_decide_eq_true this.1) this.2)
theorem fw8 : ∀ w ∈ u_ws RX8 TX8 18, w ∈ tt := fun w h => (by have := List.all_eq_true.mp (by decide +kernel : (u_ws RX8 TX8 18).all (fun w => decide (w ∈ lw_tbl) && goodWord w) = true) w h; rw [Bool.and_eq_true] at this; exact tt_mem (of_decide_eq_true this.1) this.2)
theorem fw9 : ∀ w ∈ u_ws RX9 TX9 31, w ∈ tt := fun w h => (by have := List.all_eq_true.mp (by decide +kernel : (u_ws RX9 TX9 31).all (fun w => decide (w ∈ lw_tbl) && goodWord w) = true) w h; rw [Bool.and_eq_true] at this; exact tt_mem (of_decide_eq_true this.1) this.2)
