/-! the other constructors (by program) -/
def M_Tape_init : pM := (⟨"CornerMaps$Tape", "<init>", "()V"⟩, prog_10_method_1_code, 1, none)
theorem co_Tape_init : CalOK M_Tape_init 0 := ⟨g_at 107 (by decide +kernel) rfl, g_at 4 (by decide +kernel) rfl, by decide +kernel, by decide +kernel, by decide +kernel⟩
theorem pn_Tape_init : plainName M_Tape_init.1.cls = true := by decide +kernel
def M_Maker_init : pM := (⟨"CornerMaps$Maker", "<init>", "()V"⟩, prog_2_method_1_code, 1, none)
theorem co_Maker_init : CalOK M_Maker_init 0 := ⟨g_at 124 (by decide +kernel) rfl, g_at 5 (by decide +kernel) rfl, by decide +kernel, by decide +kernel, by decide +kernel⟩
theorem pn_Maker_init : plainName M_Maker_init.1.cls = true := by decide +kernel
def M_Reader_init : pM := (⟨"CornerMaps$Reader", "<init>", "(LCornerMaps$Tape;LCornerMaps$Maker;LCornerMaps$Plane;)V"⟩, prog_8_method_1_code, 4, none)
theorem co_Reader_init : CalOK M_Reader_init 3 := ⟨g_at 142 (by decide +kernel) rfl, g_at 6 (by decide +kernel) rfl, by decide +kernel, by decide +kernel, by decide +kernel⟩
theorem pn_Reader_init : plainName M_Reader_init.1.cls = true := by decide +kernel
def M_Past_init : pM := (⟨"CornerMaps$Past", "<init>", "()V"⟩, prog_5_method_1_code, 1, none)
theorem co_Past_init : CalOK M_Past_init 0 := ⟨g_at 193 (by decide +kernel) rfl, g_at 7 (by decide +kernel) rfl, by decide +kernel, by decide +kernel, by decide +kernel⟩
theorem pn_Past_init : plainName M_Past_init.1.cls = true := by decide +kernel
def M_Pairs_init : pM := (⟨"CornerMaps$Pairs", "<init>", "()V"⟩, prog_4_method_1_code, 1, none)
theorem co_Pairs_init : CalOK M_Pairs_init 0 := ⟨g_at 217 (by decide +kernel) rfl, g_at 8 (by decide +kernel) rfl, by decide +kernel, by decide +kernel, by decide +kernel⟩
theorem pn_Pairs_init : plainName M_Pairs_init.1.cls = true := by decide +kernel
def M_ASB_init : pM := (⟨"java/lang/AbstractStringBuilder", "<init>", "(I)V"⟩, prog_14_method_2_code, 2, none)
theorem co_ASB_init : CalOK M_ASB_init 1 := ⟨g_at 239 (by decide +kernel) rfl, g_at 9 (by decide +kernel) rfl, by decide +kernel, by decide +kernel, by decide +kernel⟩
theorem pn_ASB_init : plainName M_ASB_init.1.cls = true := by decide +kernel
def M_SB_init : pM := (⟨"java/lang/StringBuilder", "<init>", "()V"⟩, prog_28_method_1_code, 1, none)
theorem co_SB_init : CalOK M_SB_init 0 := ⟨g_at 236 (by decide +kernel) rfl, g_at 10 (by decide +kernel) rfl, by decide +kernel, by decide +kernel, by decide +kernel⟩
theorem pn_SB_init : plainName M_SB_init.1.cls = true := by decide +kernel
def M_CM_init : pM := (⟨"CornerMaps", "<init>", "()V"⟩, prog_1_method_1_code, 1, none)
theorem co_CM_init : CalOK M_CM_init 0 := ⟨g_at 36 (by decide +kernel) rfl, g_at 1 (by decide +kernel) rfl, by decide +kernel, by decide +kernel, by decide +kernel⟩
theorem pn_CM_init : plainName M_CM_init.1.cls = true := by decide +kernel
def M_MD_init : pM := (⟨"CornerMapsModel", "<init>", "()V"⟩, prog_12_method_1_code, 1, none)
theorem co_MD_init : CalOK M_MD_init 0 := ⟨g_at 1495 (by decide +kernel) rfl, g_at 13 (by decide +kernel) rfl, by decide +kernel, by decide +kernel, by decide +kernel⟩
theorem pn_MD_init : plainName M_MD_init.1.cls = true := by decide +kernel
theorem im_ASB_init : Cond.instanceMethod M_ASB_init.1 ∈ gtbl := g_at 238 (by decide +kernel) rfl
theorem im_Tape_init : Cond.instanceMethod M_Tape_init.1 ∈ gtbl := g_at 106 (by decide +kernel) rfl
theorem im_Maker_init : Cond.instanceMethod M_Maker_init.1 ∈ gtbl := g_at 123 (by decide +kernel) rfl
theorem im_Reader_init : Cond.instanceMethod M_Reader_init.1 ∈ gtbl := g_at 141 (by decide +kernel) rfl
theorem im_Past_init : Cond.instanceMethod M_Past_init.1 ∈ gtbl := g_at 192 (by decide +kernel) rfl
theorem im_Pairs_init : Cond.instanceMethod M_Pairs_init.1 ∈ gtbl := g_at 216 (by decide +kernel) rfl
theorem im_SB_init : Cond.instanceMethod M_SB_init.1 ∈ gtbl := g_at 235 (by decide +kernel) rfl
theorem L_Tape_3 : Cond.methodLink "CornerMaps$Tape" 3 ⟨"java/lang/Object", "<init>", "()V"⟩ ∈ gtbl := g_at 108 (by decide +kernel) rfl
theorem L_Tape_9 : Cond.fieldLink "CornerMaps$Tape" 9 "CornerMaps$Tape" "bytes" "[I" ∈ gtbl := g_at 109 (by decide +kernel) rfl
theorem L_Maker_1 : Cond.methodLink "CornerMaps$Maker" 1 ⟨"java/lang/Object", "<init>", "()V"⟩ ∈ gtbl := g_at 125 (by decide +kernel) rfl
theorem L_Maker_7 : Cond.fieldLink "CornerMaps$Maker" 7 "CornerMaps$Maker" "frame" "[J" ∈ gtbl := g_at 128 (by decide +kernel) rfl
theorem L_Maker_13 : Cond.fieldLink "CornerMaps$Maker" 13 "CornerMaps$Maker" "back" "[J" ∈ gtbl := g_at 129 (by decide +kernel) rfl
theorem L_Maker_16 : Cond.classLink "CornerMaps$Maker" 16 "CornerMaps$Quad" ∈ gtbl := g_at 126 (by decide +kernel) rfl
theorem L_Maker_18 : Cond.methodLinkNest "CornerMaps$Maker" 18 ⟨"CornerMaps$Quad", "<init>", "()V"⟩ "CornerMaps" ∈ ntbl := nt_at 127 (by decide +kernel) rfl
theorem L_Maker_19 : Cond.fieldLink "CornerMaps$Maker" 19 "CornerMaps$Maker" "square" "LCornerMaps$Quad;" ∈ gtbl := g_at 130 (by decide +kernel) rfl
theorem L_Reader_3 : Cond.methodLink "CornerMaps$Reader" 3 ⟨"java/lang/Object", "<init>", "()V"⟩ ∈ gtbl := g_at 143 (by decide +kernel) rfl
theorem L_Reader_9 : Cond.fieldLink "CornerMaps$Reader" 9 "CornerMaps$Reader" "quadNames" "[I" ∈ gtbl := g_at 146 (by decide +kernel) rfl
theorem L_Reader_15 : Cond.fieldLink "CornerMaps$Reader" 15 "CornerMaps$Reader" "mapNames" "[I" ∈ gtbl := g_at 147 (by decide +kernel) rfl
theorem L_Reader_18 : Cond.fieldLink "CornerMaps$Reader" 18 "CornerMaps$Reader" "row" "[J" ∈ gtbl := g_at 148 (by decide +kernel) rfl
theorem L_Reader_22 : Cond.fieldLink "CornerMaps$Reader" 22 "CornerMaps$Reader" "madeMap" "[J" ∈ gtbl := g_at 149 (by decide +kernel) rfl
theorem L_Reader_25 : Cond.fieldLink "CornerMaps$Reader" 25 "CornerMaps$Reader" "faultPlace" "I" ∈ gtbl := g_at 158 (by decide +kernel) rfl
theorem L_Reader_29 : Cond.fieldLink "CornerMaps$Reader" 29 "CornerMaps$Reader" "tape" "LCornerMaps$Tape;" ∈ gtbl := g_at 144 (by decide +kernel) rfl
theorem L_Reader_33 : Cond.fieldLink "CornerMaps$Reader" 33 "CornerMaps$Reader" "maker" "LCornerMaps$Maker;" ∈ gtbl := g_at 145 (by decide +kernel) rfl
theorem L_Reader_37 : Cond.fieldLink "CornerMaps$Reader" 37 "CornerMaps$Reader" "plane" "LCornerMaps$Plane;" ∈ gtbl := g_at 150 (by decide +kernel) rfl
theorem L_Past_3 : Cond.methodLink "CornerMaps$Past" 3 ⟨"java/lang/Object", "<init>", "()V"⟩ ∈ gtbl := g_at 194 (by decide +kernel) rfl
theorem L_Past_9 : Cond.fieldLink "CornerMaps$Past" 9 "CornerMaps$Past" "deeds" "[I" ∈ gtbl := g_at 196 (by decide +kernel) rfl
theorem L_Past_15 : Cond.fieldLink "CornerMaps$Past" 15 "CornerMaps$Past" "numbers" "[I" ∈ gtbl := g_at 197 (by decide +kernel) rfl
theorem L_Past_18 : Cond.classLink "CornerMaps$Past" 18 "[[J" ∈ gtbl := g_at 195 (by decide +kernel) rfl
theorem L_Past_20 : Cond.fieldLink "CornerMaps$Past" 20 "CornerMaps$Past" "rows" "[[J" ∈ gtbl := g_at 198 (by decide +kernel) rfl
theorem L_Pairs_3 : Cond.methodLink "CornerMaps$Pairs" 3 ⟨"java/lang/Object", "<init>", "()V"⟩ ∈ gtbl := g_at 218 (by decide +kernel) rfl
theorem L_Pairs_9 : Cond.classLink "CornerMaps$Pairs" 9 "[[J" ∈ gtbl := g_at 219 (by decide +kernel) rfl
theorem L_Pairs_11 : Cond.fieldLink "CornerMaps$Pairs" 11 "CornerMaps$Pairs" "rows" "[[J" ∈ gtbl := g_at 220 (by decide +kernel) rfl
theorem L_ASB_3 : Cond.methodLink "java/lang/AbstractStringBuilder" 3 ⟨"java/lang/Object", "<init>", "()V"⟩ ∈ gtbl := g_at 240 (by decide +kernel) rfl
theorem L_ASB_18 : Cond.fieldLink "java/lang/AbstractStringBuilder" 18 "java/lang/String" "COMPACT_STRINGS" "Z" ∈ gtbl := g_at 241 (by decide +kernel) rfl
theorem L_ASB_15 : Cond.fieldLink "java/lang/AbstractStringBuilder" 15 "java/lang/AbstractStringBuilder" "value" "[B" ∈ gtbl := g_at 250 (by decide +kernel) rfl
theorem L_ASB_22 : Cond.fieldLink "java/lang/AbstractStringBuilder" 22 "java/lang/AbstractStringBuilder" "coder" "B" ∈ gtbl := g_at 251 (by decide +kernel) rfl
theorem L_SB_1 : Cond.methodLink "java/lang/StringBuilder" 1 ⟨"java/lang/AbstractStringBuilder", "<init>", "(I)V"⟩ ∈ gtbl := g_at 237 (by decide +kernel) rfl
theorem L_CM_3 : Cond.methodLink "CornerMaps" 3 ⟨"java/lang/Object", "<init>", "()V"⟩ ∈ gtbl := g_at 37 (by decide +kernel) rfl
theorem L_CM_9 : Cond.classLink "CornerMaps" 9 "CornerMaps$Plane" ∈ gtbl := g_at 40 (by decide +kernel) rfl
theorem L_CM_11 : Cond.methodLink "CornerMaps" 11 ⟨"CornerMaps$Plane", "<init>", "()V"⟩ ∈ gtbl := g_at 42 (by decide +kernel) rfl
theorem L_CM_12 : Cond.fieldLink "CornerMaps" 12 "CornerMaps" "plane" "LCornerMaps$Plane;" ∈ gtbl := g_at 266 (by decide +kernel) rfl
theorem L_CM_18 : Cond.fieldLink "CornerMaps" 18 "CornerMaps" "spare" "LCornerMaps$Plane;" ∈ gtbl := g_at 267 (by decide +kernel) rfl
theorem L_CM_21 : Cond.classLink "CornerMaps" 21 "CornerMaps$Tape" ∈ gtbl := g_at 103 (by decide +kernel) rfl
theorem L_CM_23 : Cond.methodLinkNest "CornerMaps" 23 ⟨"CornerMaps$Tape", "<init>", "()V"⟩ "CornerMaps" ∈ ntbl := nt_at 105 (by decide +kernel) rfl
theorem L_CM_24 : Cond.fieldLink "CornerMaps" 24 "CornerMaps" "tape" "LCornerMaps$Tape;" ∈ gtbl := g_at 268 (by decide +kernel) rfl
theorem L_CM_28 : Cond.classLink "CornerMaps" 28 "CornerMaps$Maker" ∈ gtbl := g_at 120 (by decide +kernel) rfl
theorem L_CM_30 : Cond.methodLinkNest "CornerMaps" 30 ⟨"CornerMaps$Maker", "<init>", "()V"⟩ "CornerMaps" ∈ ntbl := nt_at 122 (by decide +kernel) rfl
theorem L_CM_31 : Cond.fieldLink "CornerMaps" 31 "CornerMaps" "maker" "LCornerMaps$Maker;" ∈ gtbl := g_at 271 (by decide +kernel) rfl
theorem L_CM_35 : Cond.classLink "CornerMaps" 35 "CornerMaps$Reader" ∈ gtbl := g_at 138 (by decide +kernel) rfl
theorem L_CM_37 : Cond.methodLink "CornerMaps" 37 ⟨"CornerMaps$Reader", "<init>", "(LCornerMaps$Tape;LCornerMaps$Maker;LCornerMaps$Plane;)V"⟩ ∈ gtbl := g_at 140 (by decide +kernel) rfl
theorem L_CM_40 : Cond.fieldLink "CornerMaps" 40 "CornerMaps" "reader" "LCornerMaps$Reader;" ∈ gtbl := g_at 269 (by decide +kernel) rfl
theorem L_CM_44 : Cond.classLink "CornerMaps" 44 "CornerMaps$Past" ∈ gtbl := g_at 189 (by decide +kernel) rfl
theorem L_CM_46 : Cond.methodLinkNest "CornerMaps" 46 ⟨"CornerMaps$Past", "<init>", "()V"⟩ "CornerMaps" ∈ ntbl := nt_at 191 (by decide +kernel) rfl
theorem L_CM_47 : Cond.fieldLink "CornerMaps" 47 "CornerMaps" "past" "LCornerMaps$Past;" ∈ gtbl := g_at 270 (by decide +kernel) rfl
theorem L_CM_51 : Cond.classLink "CornerMaps" 51 "CornerMaps$Pairs" ∈ gtbl := g_at 213 (by decide +kernel) rfl
theorem L_CM_53 : Cond.methodLinkNest "CornerMaps" 53 ⟨"CornerMaps$Pairs", "<init>", "()V"⟩ "CornerMaps" ∈ ntbl := nt_at 215 (by decide +kernel) rfl
theorem L_CM_54 : Cond.fieldLink "CornerMaps" 54 "CornerMaps" "products" "LCornerMaps$Pairs;" ∈ gtbl := g_at 272 (by decide +kernel) rfl
theorem L_CM_58 : Cond.classLink "CornerMaps" 58 "java/lang/StringBuilder" ∈ gtbl := g_at 232 (by decide +kernel) rfl
theorem L_CM_60 : Cond.methodLink "CornerMaps" 60 ⟨"java/lang/StringBuilder", "<init>", "()V"⟩ ∈ gtbl := g_at 234 (by decide +kernel) rfl
theorem L_CM_61 : Cond.fieldLink "CornerMaps" 61 "CornerMaps" "spelled" "Ljava/lang/StringBuilder;" ∈ gtbl := g_at 273 (by decide +kernel) rfl
theorem L_CM_65 : Cond.fieldLink "CornerMaps" 65 "CornerMaps" "work" "[J" ∈ gtbl := g_at 274 (by decide +kernel) rfl
theorem L_CM_69 : Cond.fieldLink "CornerMaps" 69 "CornerMaps" "otherWork" "[J" ∈ gtbl := g_at 275 (by decide +kernel) rfl
theorem L_CM_72 : Cond.fieldLink "CornerMaps" 72 "CornerMaps" "risen" "[J" ∈ gtbl := g_at 276 (by decide +kernel) rfl
theorem L_CM_75 : Cond.fieldLink "CornerMaps" 75 "CornerMaps" "given" "[J" ∈ gtbl := g_at 277 (by decide +kernel) rfl
theorem L_CM_78 : Cond.fieldLink "CornerMaps" 78 "CornerMaps" "result" "[J" ∈ gtbl := g_at 278 (by decide +kernel) rfl
theorem L_CM_81 : Cond.fieldLink "CornerMaps" 81 "CornerMaps" "step" "[J" ∈ gtbl := g_at 279 (by decide +kernel) rfl
theorem L_CM_84 : Cond.fieldLink "CornerMaps" 84 "CornerMaps" "firstLine" "[J" ∈ gtbl := g_at 280 (by decide +kernel) rfl
theorem L_CM_87 : Cond.fieldLink "CornerMaps" 87 "CornerMaps" "secondLine" "[J" ∈ gtbl := g_at 281 (by decide +kernel) rfl
theorem L_CM_90 : Cond.classLink "CornerMaps" 90 "[[J" ∈ gtbl := g_at 265 (by decide +kernel) rfl
theorem L_CM_92 : Cond.fieldLink "CornerMaps" 92 "CornerMaps" "moved" "[[J" ∈ gtbl := g_at 282 (by decide +kernel) rfl
theorem L_CM_95 : Cond.fieldLink "CornerMaps" 95 "CornerMaps" "found" "[I" ∈ gtbl := g_at 283 (by decide +kernel) rfl
theorem L_MD_3 : Cond.methodLink "CornerMapsModel" 3 ⟨"java/lang/Object", "<init>", "()V"⟩ ∈ gtbl := g_at 1496 (by decide +kernel) rfl
theorem L_MD_9 : Cond.fieldLink "CornerMapsModel" 9 "CornerMapsModel" "tape" "[I" ∈ gtbl := g_at 1498 (by decide +kernel) rfl
theorem L_MD_15 : Cond.fieldLink "CornerMapsModel" 15 "CornerMapsModel" "quad" "[I" ∈ gtbl := g_at 1500 (by decide +kernel) rfl
theorem L_MD_18 : Cond.fieldLink "CornerMapsModel" 18 "CornerMapsModel" "newQuad" "[I" ∈ gtbl := g_at 1501 (by decide +kernel) rfl
theorem L_MD_21 : Cond.fieldLink "CornerMapsModel" 21 "CornerMapsModel" "now" "[J" ∈ gtbl := g_at 1504 (by decide +kernel) rfl
theorem L_MD_25 : Cond.fieldLink "CornerMapsModel" 25 "CornerMapsModel" "newNow" "[J" ∈ gtbl := g_at 1505 (by decide +kernel) rfl
theorem L_MD_28 : Cond.fieldLink "CornerMapsModel" 28 "CornerMapsModel" "past" "[J" ∈ gtbl := g_at 1506 (by decide +kernel) rfl
theorem L_MD_31 : Cond.fieldLink "CornerMapsModel" 31 "CornerMapsModel" "quadName" "[I" ∈ gtbl := g_at 1510 (by decide +kernel) rfl
theorem L_MD_34 : Cond.fieldLink "CornerMapsModel" 34 "CornerMapsModel" "mapName" "[I" ∈ gtbl := g_at 1511 (by decide +kernel) rfl
theorem L_MD_37 : Cond.fieldLink "CornerMapsModel" 37 "CornerMapsModel" "lastPlace" "I" ∈ gtbl := g_at 1521 (by decide +kernel) rfl
theorem L_MD_41 : Cond.fieldLink "CornerMapsModel" 41 "CornerMapsModel" "nine" "[J" ∈ gtbl := g_at 1522 (by decide +kernel) rfl
theorem L_MD_44 : Cond.fieldLink "CornerMapsModel" 44 "CornerMapsModel" "other" "[J" ∈ gtbl := g_at 1523 (by decide +kernel) rfl
theorem L_MD_47 : Cond.fieldLink "CornerMapsModel" 47 "CornerMapsModel" "third" "[J" ∈ gtbl := g_at 1524 (by decide +kernel) rfl
theorem L_MD_50 : Cond.fieldLink "CornerMapsModel" 50 "CornerMapsModel" "three" "[J" ∈ gtbl := g_at 1525 (by decide +kernel) rfl
theorem L_MD_53 : Cond.fieldLink "CornerMapsModel" 53 "CornerMapsModel" "more" "[J" ∈ gtbl := g_at 1526 (by decide +kernel) rfl
theorem L_MD_56 : Cond.fieldLink "CornerMapsModel" 56 "CornerMapsModel" "pair" "[I" ∈ gtbl := g_at 1527 (by decide +kernel) rfl
theorem L_MD_59 : Cond.fieldLink "CornerMapsModel" 59 "CornerMapsModel" "kept" "[J" ∈ gtbl := g_at 1528 (by decide +kernel) rfl
theorem L_MD_62 : Cond.fieldLink "CornerMapsModel" 62 "CornerMapsModel" "row" "[I" ∈ gtbl := g_at 1529 (by decide +kernel) rfl
theorem L_MD_65 : Cond.fieldLink "CornerMapsModel" 65 "CornerMapsModel" "unlike" "[J" ∈ gtbl := g_at 1531 (by decide +kernel) rfl
theorem L_MD_68 : Cond.fieldLink "CornerMapsModel" 68 "CornerMapsModel" "spelt" "[I" ∈ gtbl := g_at 1533 (by decide +kernel) rfl
theorem L_MD_71 : Cond.fieldLink "CornerMapsModel" 71 "CornerMapsModel" "undone" "I" ∈ gtbl := g_at 1507 (by decide +kernel) rfl
theorem F_Tape_init_0 : Jvm.Free.DS.Facts prog_10_method_1_code 0 [(.aload_n 0, 1), (.invokespecial 3, 3), (.aload_n 0, 1), (.sipush (900), 3), (.newarray .int, 2), (.putfield 9, 3), (.return_, 1)] := Jvm.Free.DS.facts 0 _ (by decide +kernel) (by decide +kernel)
theorem d_Tape_init_0 : decode prog_10_method_1_code 0 = .ok (.aload_n 0, 1) := F_Tape_init_0.1
theorem d_Tape_init_1 : decode prog_10_method_1_code 1 = .ok (.invokespecial 3, 3) := F_Tape_init_0.2.1
theorem d_Tape_init_4 : decode prog_10_method_1_code 4 = .ok (.aload_n 0, 1) := F_Tape_init_0.2.2.1
theorem d_Tape_init_5 : decode prog_10_method_1_code 5 = .ok (.sipush (900), 3) := F_Tape_init_0.2.2.2.1
theorem d_Tape_init_8 : decode prog_10_method_1_code 8 = .ok (.newarray .int, 2) := F_Tape_init_0.2.2.2.2.1
theorem d_Tape_init_10 : decode prog_10_method_1_code 10 = .ok (.putfield 9, 3) := F_Tape_init_0.2.2.2.2.2.1
theorem d_Tape_init_13 : decode prog_10_method_1_code 13 = .ok (.return_, 1) := F_Tape_init_0.2.2.2.2.2.2.1
theorem F_Maker_init_0 : Jvm.Free.DS.Facts prog_2_method_1_code 0 [(.aload_n 0, 1), (.invokespecial 1, 3), (.aload_n 0, 1), (.bipush (9), 2), (.newarray .long, 2), (.putfield 7, 3), (.aload_n 0, 1), (.bipush (9), 2), (.newarray .long, 2), (.putfield 13, 3), (.aload_n 0, 1), (.new 16, 3), (.dup, 1), (.invokespecial 18, 3), (.putfield 19, 3), (.return_, 1)] := Jvm.Free.DS.facts 0 _ (by decide +kernel) (by decide +kernel)
theorem d_Maker_init_0 : decode prog_2_method_1_code 0 = .ok (.aload_n 0, 1) := F_Maker_init_0.1
theorem d_Maker_init_1 : decode prog_2_method_1_code 1 = .ok (.invokespecial 1, 3) := F_Maker_init_0.2.1
theorem d_Maker_init_4 : decode prog_2_method_1_code 4 = .ok (.aload_n 0, 1) := F_Maker_init_0.2.2.1
theorem d_Maker_init_5 : decode prog_2_method_1_code 5 = .ok (.bipush (9), 2) := F_Maker_init_0.2.2.2.1
theorem d_Maker_init_7 : decode prog_2_method_1_code 7 = .ok (.newarray .long, 2) := F_Maker_init_0.2.2.2.2.1
theorem d_Maker_init_9 : decode prog_2_method_1_code 9 = .ok (.putfield 7, 3) := F_Maker_init_0.2.2.2.2.2.1
theorem d_Maker_init_12 : decode prog_2_method_1_code 12 = .ok (.aload_n 0, 1) := F_Maker_init_0.2.2.2.2.2.2.1
theorem d_Maker_init_13 : decode prog_2_method_1_code 13 = .ok (.bipush (9), 2) := F_Maker_init_0.2.2.2.2.2.2.2.1
theorem d_Maker_init_15 : decode prog_2_method_1_code 15 = .ok (.newarray .long, 2) := F_Maker_init_0.2.2.2.2.2.2.2.2.1
theorem d_Maker_init_17 : decode prog_2_method_1_code 17 = .ok (.putfield 13, 3) := F_Maker_init_0.2.2.2.2.2.2.2.2.2.1
theorem d_Maker_init_20 : decode prog_2_method_1_code 20 = .ok (.aload_n 0, 1) := F_Maker_init_0.2.2.2.2.2.2.2.2.2.2.1
theorem d_Maker_init_21 : decode prog_2_method_1_code 21 = .ok (.new 16, 3) := F_Maker_init_0.2.2.2.2.2.2.2.2.2.2.2.1
theorem d_Maker_init_24 : decode prog_2_method_1_code 24 = .ok (.dup, 1) := F_Maker_init_0.2.2.2.2.2.2.2.2.2.2.2.2.1
theorem d_Maker_init_25 : decode prog_2_method_1_code 25 = .ok (.invokespecial 18, 3) := F_Maker_init_0.2.2.2.2.2.2.2.2.2.2.2.2.2.1
theorem d_Maker_init_28 : decode prog_2_method_1_code 28 = .ok (.putfield 19, 3) := F_Maker_init_0.2.2.2.2.2.2.2.2.2.2.2.2.2.2.1
theorem d_Maker_init_31 : decode prog_2_method_1_code 31 = .ok (.return_, 1) := F_Maker_init_0.2.2.2.2.2.2.2.2.2.2.2.2.2.2.2.1
theorem F_Reader_init_0 : Jvm.Free.DS.Facts prog_8_method_1_code 0 [(.aload_n 0, 1), (.invokespecial 3, 3), (.aload_n 0, 1), (.bipush (8), 2), (.newarray .int, 2), (.putfield 9, 3), (.aload_n 0, 1), (.bipush (8), 2), (.newarray .int, 2), (.putfield 15, 3), (.aload_n 0, 1), (.iconst 3, 1), (.newarray .long, 2), (.putfield 18, 3), (.aload_n 0, 1), (.bipush (9), 2), (.newarray .long, 2), (.putfield 22, 3), (.aload_n 0, 1), (.iconst (-1), 1), (.putfield 25, 3), (.aload_n 0, 1), (.aload_n 1, 1), (.putfield 29, 3), (.aload_n 0, 1), (.aload_n 2, 1), (.putfield 33, 3), (.aload_n 0, 1), (.aload_n 3, 1), (.putfield 37, 3), (.return_, 1)] := Jvm.Free.DS.facts 0 _ (by decide +kernel) (by decide +kernel)
theorem d_Reader_init_0 : decode prog_8_method_1_code 0 = .ok (.aload_n 0, 1) := F_Reader_init_0.1
theorem d_Reader_init_1 : decode prog_8_method_1_code 1 = .ok (.invokespecial 3, 3) := F_Reader_init_0.2.1
theorem d_Reader_init_4 : decode prog_8_method_1_code 4 = .ok (.aload_n 0, 1) := F_Reader_init_0.2.2.1
theorem d_Reader_init_5 : decode prog_8_method_1_code 5 = .ok (.bipush (8), 2) := F_Reader_init_0.2.2.2.1
theorem d_Reader_init_7 : decode prog_8_method_1_code 7 = .ok (.newarray .int, 2) := F_Reader_init_0.2.2.2.2.1
theorem d_Reader_init_9 : decode prog_8_method_1_code 9 = .ok (.putfield 9, 3) := F_Reader_init_0.2.2.2.2.2.1
theorem d_Reader_init_12 : decode prog_8_method_1_code 12 = .ok (.aload_n 0, 1) := F_Reader_init_0.2.2.2.2.2.2.1
theorem d_Reader_init_13 : decode prog_8_method_1_code 13 = .ok (.bipush (8), 2) := F_Reader_init_0.2.2.2.2.2.2.2.1
theorem d_Reader_init_15 : decode prog_8_method_1_code 15 = .ok (.newarray .int, 2) := F_Reader_init_0.2.2.2.2.2.2.2.2.1
theorem d_Reader_init_17 : decode prog_8_method_1_code 17 = .ok (.putfield 15, 3) := F_Reader_init_0.2.2.2.2.2.2.2.2.2.1
theorem d_Reader_init_20 : decode prog_8_method_1_code 20 = .ok (.aload_n 0, 1) := F_Reader_init_0.2.2.2.2.2.2.2.2.2.2.1
theorem d_Reader_init_21 : decode prog_8_method_1_code 21 = .ok (.iconst 3, 1) := F_Reader_init_0.2.2.2.2.2.2.2.2.2.2.2.1
theorem d_Reader_init_22 : decode prog_8_method_1_code 22 = .ok (.newarray .long, 2) := F_Reader_init_0.2.2.2.2.2.2.2.2.2.2.2.2.1
theorem d_Reader_init_24 : decode prog_8_method_1_code 24 = .ok (.putfield 18, 3) := F_Reader_init_0.2.2.2.2.2.2.2.2.2.2.2.2.2.1
theorem d_Reader_init_27 : decode prog_8_method_1_code 27 = .ok (.aload_n 0, 1) := F_Reader_init_0.2.2.2.2.2.2.2.2.2.2.2.2.2.2.1
theorem d_Reader_init_28 : decode prog_8_method_1_code 28 = .ok (.bipush (9), 2) := F_Reader_init_0.2.2.2.2.2.2.2.2.2.2.2.2.2.2.2.1
theorem d_Reader_init_30 : decode prog_8_method_1_code 30 = .ok (.newarray .long, 2) := F_Reader_init_0.2.2.2.2.2.2.2.2.2.2.2.2.2.2.2.2.1
theorem d_Reader_init_32 : decode prog_8_method_1_code 32 = .ok (.putfield 22, 3) := F_Reader_init_0.2.2.2.2.2.2.2.2.2.2.2.2.2.2.2.2.2.1
theorem d_Reader_init_35 : decode prog_8_method_1_code 35 = .ok (.aload_n 0, 1) := F_Reader_init_0.2.2.2.2.2.2.2.2.2.2.2.2.2.2.2.2.2.2.1
theorem d_Reader_init_36 : decode prog_8_method_1_code 36 = .ok (.iconst (-1), 1) := F_Reader_init_0.2.2.2.2.2.2.2.2.2.2.2.2.2.2.2.2.2.2.2.1
theorem d_Reader_init_37 : decode prog_8_method_1_code 37 = .ok (.putfield 25, 3) := F_Reader_init_0.2.2.2.2.2.2.2.2.2.2.2.2.2.2.2.2.2.2.2.2.1
theorem d_Reader_init_40 : decode prog_8_method_1_code 40 = .ok (.aload_n 0, 1) := F_Reader_init_0.2.2.2.2.2.2.2.2.2.2.2.2.2.2.2.2.2.2.2.2.2.1
theorem d_Reader_init_41 : decode prog_8_method_1_code 41 = .ok (.aload_n 1, 1) := F_Reader_init_0.2.2.2.2.2.2.2.2.2.2.2.2.2.2.2.2.2.2.2.2.2.2.1
theorem d_Reader_init_42 : decode prog_8_method_1_code 42 = .ok (.putfield 29, 3) := F_Reader_init_0.2.2.2.2.2.2.2.2.2.2.2.2.2.2.2.2.2.2.2.2.2.2.2.1
theorem d_Reader_init_45 : decode prog_8_method_1_code 45 = .ok (.aload_n 0, 1) := F_Reader_init_0.2.2.2.2.2.2.2.2.2.2.2.2.2.2.2.2.2.2.2.2.2.2.2.2.1
theorem d_Reader_init_46 : decode prog_8_method_1_code 46 = .ok (.aload_n 2, 1) := F_Reader_init_0.2.2.2.2.2.2.2.2.2.2.2.2.2.2.2.2.2.2.2.2.2.2.2.2.2.1
theorem d_Reader_init_47 : decode prog_8_method_1_code 47 = .ok (.putfield 33, 3) := F_Reader_init_0.2.2.2.2.2.2.2.2.2.2.2.2.2.2.2.2.2.2.2.2.2.2.2.2.2.2.1
theorem d_Reader_init_50 : decode prog_8_method_1_code 50 = .ok (.aload_n 0, 1) := F_Reader_init_0.2.2.2.2.2.2.2.2.2.2.2.2.2.2.2.2.2.2.2.2.2.2.2.2.2.2.2.1
theorem d_Reader_init_51 : decode prog_8_method_1_code 51 = .ok (.aload_n 3, 1) := F_Reader_init_0.2.2.2.2.2.2.2.2.2.2.2.2.2.2.2.2.2.2.2.2.2.2.2.2.2.2.2.2.1
theorem d_Reader_init_52 : decode prog_8_method_1_code 52 = .ok (.putfield 37, 3) := F_Reader_init_0.2.2.2.2.2.2.2.2.2.2.2.2.2.2.2.2.2.2.2.2.2.2.2.2.2.2.2.2.2.1
theorem d_Reader_init_55 : decode prog_8_method_1_code 55 = .ok (.return_, 1) := F_Reader_init_0.2.2.2.2.2.2.2.2.2.2.2.2.2.2.2.2.2.2.2.2.2.2.2.2.2.2.2.2.2.2.1
theorem F_Past_init_0 : Jvm.Free.DS.Facts prog_5_method_1_code 0 [(.aload_n 0, 1), (.invokespecial 3, 3), (.aload_n 0, 1), (.bipush (16), 2), (.newarray .int, 2), (.putfield 9, 3), (.aload_n 0, 1), (.bipush (16), 2), (.newarray .int, 2), (.putfield 15, 3), (.aload_n 0, 1), (.bipush (16), 2), (.bipush (24), 2), (.multianewarray 18 2, 4), (.putfield 20, 3), (.return_, 1)] := Jvm.Free.DS.facts 0 _ (by decide +kernel) (by decide +kernel)
theorem d_Past_init_0 : decode prog_5_method_1_code 0 = .ok (.aload_n 0, 1) := F_Past_init_0.1
theorem d_Past_init_1 : decode prog_5_method_1_code 1 = .ok (.invokespecial 3, 3) := F_Past_init_0.2.1
theorem d_Past_init_4 : decode prog_5_method_1_code 4 = .ok (.aload_n 0, 1) := F_Past_init_0.2.2.1
theorem d_Past_init_5 : decode prog_5_method_1_code 5 = .ok (.bipush (16), 2) := F_Past_init_0.2.2.2.1
theorem d_Past_init_7 : decode prog_5_method_1_code 7 = .ok (.newarray .int, 2) := F_Past_init_0.2.2.2.2.1
theorem d_Past_init_9 : decode prog_5_method_1_code 9 = .ok (.putfield 9, 3) := F_Past_init_0.2.2.2.2.2.1
theorem d_Past_init_12 : decode prog_5_method_1_code 12 = .ok (.aload_n 0, 1) := F_Past_init_0.2.2.2.2.2.2.1
theorem d_Past_init_13 : decode prog_5_method_1_code 13 = .ok (.bipush (16), 2) := F_Past_init_0.2.2.2.2.2.2.2.1
theorem d_Past_init_15 : decode prog_5_method_1_code 15 = .ok (.newarray .int, 2) := F_Past_init_0.2.2.2.2.2.2.2.2.1
theorem d_Past_init_17 : decode prog_5_method_1_code 17 = .ok (.putfield 15, 3) := F_Past_init_0.2.2.2.2.2.2.2.2.2.1
theorem d_Past_init_20 : decode prog_5_method_1_code 20 = .ok (.aload_n 0, 1) := F_Past_init_0.2.2.2.2.2.2.2.2.2.2.1
theorem d_Past_init_21 : decode prog_5_method_1_code 21 = .ok (.bipush (16), 2) := F_Past_init_0.2.2.2.2.2.2.2.2.2.2.2.1
theorem d_Past_init_23 : decode prog_5_method_1_code 23 = .ok (.bipush (24), 2) := F_Past_init_0.2.2.2.2.2.2.2.2.2.2.2.2.1
theorem d_Past_init_25 : decode prog_5_method_1_code 25 = .ok (.multianewarray 18 2, 4) := F_Past_init_0.2.2.2.2.2.2.2.2.2.2.2.2.2.1
theorem d_Past_init_29 : decode prog_5_method_1_code 29 = .ok (.putfield 20, 3) := F_Past_init_0.2.2.2.2.2.2.2.2.2.2.2.2.2.2.1
theorem d_Past_init_32 : decode prog_5_method_1_code 32 = .ok (.return_, 1) := F_Past_init_0.2.2.2.2.2.2.2.2.2.2.2.2.2.2.2.1
theorem F_Pairs_init_0 : Jvm.Free.DS.Facts prog_4_method_1_code 0 [(.aload_n 0, 1), (.invokespecial 3, 3), (.aload_n 0, 1), (.sipush (256), 3), (.bipush (9), 2), (.multianewarray 9 2, 4), (.putfield 11, 3), (.return_, 1)] := Jvm.Free.DS.facts 0 _ (by decide +kernel) (by decide +kernel)
theorem d_Pairs_init_0 : decode prog_4_method_1_code 0 = .ok (.aload_n 0, 1) := F_Pairs_init_0.1
theorem d_Pairs_init_1 : decode prog_4_method_1_code 1 = .ok (.invokespecial 3, 3) := F_Pairs_init_0.2.1
theorem d_Pairs_init_4 : decode prog_4_method_1_code 4 = .ok (.aload_n 0, 1) := F_Pairs_init_0.2.2.1
theorem d_Pairs_init_5 : decode prog_4_method_1_code 5 = .ok (.sipush (256), 3) := F_Pairs_init_0.2.2.2.1
theorem d_Pairs_init_8 : decode prog_4_method_1_code 8 = .ok (.bipush (9), 2) := F_Pairs_init_0.2.2.2.2.1
theorem d_Pairs_init_10 : decode prog_4_method_1_code 10 = .ok (.multianewarray 9 2, 4) := F_Pairs_init_0.2.2.2.2.2.1
theorem d_Pairs_init_14 : decode prog_4_method_1_code 14 = .ok (.putfield 11, 3) := F_Pairs_init_0.2.2.2.2.2.2.1
theorem d_Pairs_init_17 : decode prog_4_method_1_code 17 = .ok (.return_, 1) := F_Pairs_init_0.2.2.2.2.2.2.2.1
theorem F_ASB_init_0 : Jvm.Free.DS.Facts prog_14_method_2_code 0 [(.aload_n 0, 1), (.invokespecial 3, 3), (.getstatic 18, 3), (.ifCond .eq (18), 3), (.aload_n 0, 1), (.iload_n 1, 1), (.newarray .byte, 2), (.putfield 15, 3), (.aload_n 0, 1), (.iconst 0, 1), (.putfield 22, 3), (.goto (16), 3)] := Jvm.Free.DS.facts 0 _ (by decide +kernel) (by decide +kernel)
theorem d_ASB_init_0 : decode prog_14_method_2_code 0 = .ok (.aload_n 0, 1) := F_ASB_init_0.1
theorem d_ASB_init_1 : decode prog_14_method_2_code 1 = .ok (.invokespecial 3, 3) := F_ASB_init_0.2.1
theorem d_ASB_init_4 : decode prog_14_method_2_code 4 = .ok (.getstatic 18, 3) := F_ASB_init_0.2.2.1
theorem d_ASB_init_7 : decode prog_14_method_2_code 7 = .ok (.ifCond .eq (18), 3) := F_ASB_init_0.2.2.2.1
theorem d_ASB_init_10 : decode prog_14_method_2_code 10 = .ok (.aload_n 0, 1) := F_ASB_init_0.2.2.2.2.1
theorem d_ASB_init_11 : decode prog_14_method_2_code 11 = .ok (.iload_n 1, 1) := F_ASB_init_0.2.2.2.2.2.1
theorem d_ASB_init_12 : decode prog_14_method_2_code 12 = .ok (.newarray .byte, 2) := F_ASB_init_0.2.2.2.2.2.2.1
theorem d_ASB_init_14 : decode prog_14_method_2_code 14 = .ok (.putfield 15, 3) := F_ASB_init_0.2.2.2.2.2.2.2.1
theorem d_ASB_init_17 : decode prog_14_method_2_code 17 = .ok (.aload_n 0, 1) := F_ASB_init_0.2.2.2.2.2.2.2.2.1
theorem d_ASB_init_18 : decode prog_14_method_2_code 18 = .ok (.iconst 0, 1) := F_ASB_init_0.2.2.2.2.2.2.2.2.2.1
theorem d_ASB_init_19 : decode prog_14_method_2_code 19 = .ok (.putfield 22, 3) := F_ASB_init_0.2.2.2.2.2.2.2.2.2.2.1
theorem d_ASB_init_22 : decode prog_14_method_2_code 22 = .ok (.goto (16), 3) := F_ASB_init_0.2.2.2.2.2.2.2.2.2.2.2.1
theorem F_ASB_init_38 : Jvm.Free.DS.Facts prog_14_method_2_code 38 [(.return_, 1)] := Jvm.Free.DS.facts 38 _ (by decide +kernel) (by decide +kernel)
theorem d_ASB_init_38 : decode prog_14_method_2_code 38 = .ok (.return_, 1) := F_ASB_init_38.1
theorem F_SB_init_0 : Jvm.Free.DS.Facts prog_28_method_1_code 0 [(.aload_n 0, 1), (.bipush (16), 2), (.invokespecial 1, 3), (.return_, 1)] := Jvm.Free.DS.facts 0 _ (by decide +kernel) (by decide +kernel)
theorem d_SB_init_0 : decode prog_28_method_1_code 0 = .ok (.aload_n 0, 1) := F_SB_init_0.1
theorem d_SB_init_1 : decode prog_28_method_1_code 1 = .ok (.bipush (16), 2) := F_SB_init_0.2.1
theorem d_SB_init_3 : decode prog_28_method_1_code 3 = .ok (.invokespecial 1, 3) := F_SB_init_0.2.2.1
theorem d_SB_init_6 : decode prog_28_method_1_code 6 = .ok (.return_, 1) := F_SB_init_0.2.2.2.1
theorem F_CM_init_0 : Jvm.Free.DS.Facts prog_1_method_1_code 0 [(.aload_n 0, 1), (.invokespecial 3, 3), (.aload_n 0, 1), (.new 9, 3), (.dup, 1), (.invokespecial 11, 3), (.putfield 12, 3), (.aload_n 0, 1), (.new 9, 3), (.dup, 1), (.invokespecial 11, 3), (.putfield 18, 3), (.aload_n 0, 1), (.new 21, 3), (.dup, 1), (.invokespecial 23, 3), (.putfield 24, 3), (.aload_n 0, 1), (.new 28, 3), (.dup, 1), (.invokespecial 30, 3), (.putfield 31, 3), (.aload_n 0, 1), (.new 35, 3), (.dup, 1), (.aload_n 0, 1), (.getfield 24, 3), (.aload_n 0, 1), (.getfield 31, 3), (.aload_n 0, 1), (.getfield 18, 3), (.invokespecial 37, 3)] := Jvm.Free.DS.facts 0 _ (by decide +kernel) (by decide +kernel)
theorem d_CM_init_0 : decode prog_1_method_1_code 0 = .ok (.aload_n 0, 1) := F_CM_init_0.1
theorem d_CM_init_1 : decode prog_1_method_1_code 1 = .ok (.invokespecial 3, 3) := F_CM_init_0.2.1
theorem d_CM_init_4 : decode prog_1_method_1_code 4 = .ok (.aload_n 0, 1) := F_CM_init_0.2.2.1
theorem d_CM_init_5 : decode prog_1_method_1_code 5 = .ok (.new 9, 3) := F_CM_init_0.2.2.2.1
theorem d_CM_init_8 : decode prog_1_method_1_code 8 = .ok (.dup, 1) := F_CM_init_0.2.2.2.2.1
theorem d_CM_init_9 : decode prog_1_method_1_code 9 = .ok (.invokespecial 11, 3) := F_CM_init_0.2.2.2.2.2.1
theorem d_CM_init_12 : decode prog_1_method_1_code 12 = .ok (.putfield 12, 3) := F_CM_init_0.2.2.2.2.2.2.1
theorem d_CM_init_15 : decode prog_1_method_1_code 15 = .ok (.aload_n 0, 1) := F_CM_init_0.2.2.2.2.2.2.2.1
theorem d_CM_init_16 : decode prog_1_method_1_code 16 = .ok (.new 9, 3) := F_CM_init_0.2.2.2.2.2.2.2.2.1
theorem d_CM_init_19 : decode prog_1_method_1_code 19 = .ok (.dup, 1) := F_CM_init_0.2.2.2.2.2.2.2.2.2.1
theorem d_CM_init_20 : decode prog_1_method_1_code 20 = .ok (.invokespecial 11, 3) := F_CM_init_0.2.2.2.2.2.2.2.2.2.2.1
theorem d_CM_init_23 : decode prog_1_method_1_code 23 = .ok (.putfield 18, 3) := F_CM_init_0.2.2.2.2.2.2.2.2.2.2.2.1
theorem d_CM_init_26 : decode prog_1_method_1_code 26 = .ok (.aload_n 0, 1) := F_CM_init_0.2.2.2.2.2.2.2.2.2.2.2.2.1
theorem d_CM_init_27 : decode prog_1_method_1_code 27 = .ok (.new 21, 3) := F_CM_init_0.2.2.2.2.2.2.2.2.2.2.2.2.2.1
theorem d_CM_init_30 : decode prog_1_method_1_code 30 = .ok (.dup, 1) := F_CM_init_0.2.2.2.2.2.2.2.2.2.2.2.2.2.2.1
theorem d_CM_init_31 : decode prog_1_method_1_code 31 = .ok (.invokespecial 23, 3) := F_CM_init_0.2.2.2.2.2.2.2.2.2.2.2.2.2.2.2.1
theorem d_CM_init_34 : decode prog_1_method_1_code 34 = .ok (.putfield 24, 3) := F_CM_init_0.2.2.2.2.2.2.2.2.2.2.2.2.2.2.2.2.1
theorem d_CM_init_37 : decode prog_1_method_1_code 37 = .ok (.aload_n 0, 1) := F_CM_init_0.2.2.2.2.2.2.2.2.2.2.2.2.2.2.2.2.2.1
theorem d_CM_init_38 : decode prog_1_method_1_code 38 = .ok (.new 28, 3) := F_CM_init_0.2.2.2.2.2.2.2.2.2.2.2.2.2.2.2.2.2.2.1
theorem d_CM_init_41 : decode prog_1_method_1_code 41 = .ok (.dup, 1) := F_CM_init_0.2.2.2.2.2.2.2.2.2.2.2.2.2.2.2.2.2.2.2.1
theorem d_CM_init_42 : decode prog_1_method_1_code 42 = .ok (.invokespecial 30, 3) := F_CM_init_0.2.2.2.2.2.2.2.2.2.2.2.2.2.2.2.2.2.2.2.2.1
theorem d_CM_init_45 : decode prog_1_method_1_code 45 = .ok (.putfield 31, 3) := F_CM_init_0.2.2.2.2.2.2.2.2.2.2.2.2.2.2.2.2.2.2.2.2.2.1
theorem d_CM_init_48 : decode prog_1_method_1_code 48 = .ok (.aload_n 0, 1) := F_CM_init_0.2.2.2.2.2.2.2.2.2.2.2.2.2.2.2.2.2.2.2.2.2.2.1
theorem d_CM_init_49 : decode prog_1_method_1_code 49 = .ok (.new 35, 3) := F_CM_init_0.2.2.2.2.2.2.2.2.2.2.2.2.2.2.2.2.2.2.2.2.2.2.2.1
theorem d_CM_init_52 : decode prog_1_method_1_code 52 = .ok (.dup, 1) := F_CM_init_0.2.2.2.2.2.2.2.2.2.2.2.2.2.2.2.2.2.2.2.2.2.2.2.2.1
theorem d_CM_init_53 : decode prog_1_method_1_code 53 = .ok (.aload_n 0, 1) := F_CM_init_0.2.2.2.2.2.2.2.2.2.2.2.2.2.2.2.2.2.2.2.2.2.2.2.2.2.1
theorem d_CM_init_54 : decode prog_1_method_1_code 54 = .ok (.getfield 24, 3) := F_CM_init_0.2.2.2.2.2.2.2.2.2.2.2.2.2.2.2.2.2.2.2.2.2.2.2.2.2.2.1
theorem d_CM_init_57 : decode prog_1_method_1_code 57 = .ok (.aload_n 0, 1) := F_CM_init_0.2.2.2.2.2.2.2.2.2.2.2.2.2.2.2.2.2.2.2.2.2.2.2.2.2.2.2.1
theorem d_CM_init_58 : decode prog_1_method_1_code 58 = .ok (.getfield 31, 3) := F_CM_init_0.2.2.2.2.2.2.2.2.2.2.2.2.2.2.2.2.2.2.2.2.2.2.2.2.2.2.2.2.1
theorem d_CM_init_61 : decode prog_1_method_1_code 61 = .ok (.aload_n 0, 1) := F_CM_init_0.2.2.2.2.2.2.2.2.2.2.2.2.2.2.2.2.2.2.2.2.2.2.2.2.2.2.2.2.2.1
theorem d_CM_init_62 : decode prog_1_method_1_code 62 = .ok (.getfield 18, 3) := F_CM_init_0.2.2.2.2.2.2.2.2.2.2.2.2.2.2.2.2.2.2.2.2.2.2.2.2.2.2.2.2.2.2.1
theorem d_CM_init_65 : decode prog_1_method_1_code 65 = .ok (.invokespecial 37, 3) := F_CM_init_0.2.2.2.2.2.2.2.2.2.2.2.2.2.2.2.2.2.2.2.2.2.2.2.2.2.2.2.2.2.2.2.1
theorem F_CM_init_68 : Jvm.Free.DS.Facts prog_1_method_1_code 68 [(.putfield 40, 3), (.aload_n 0, 1), (.new 44, 3), (.dup, 1), (.invokespecial 46, 3), (.putfield 47, 3), (.aload_n 0, 1), (.new 51, 3), (.dup, 1), (.invokespecial 53, 3), (.putfield 54, 3), (.aload_n 0, 1), (.new 58, 3), (.dup, 1), (.invokespecial 60, 3), (.putfield 61, 3), (.aload_n 0, 1), (.bipush (9), 2), (.newarray .long, 2), (.putfield 65, 3), (.aload_n 0, 1), (.bipush (9), 2), (.newarray .long, 2), (.putfield 69, 3), (.aload_n 0, 1), (.bipush (9), 2), (.newarray .long, 2), (.putfield 72, 3), (.aload_n 0, 1), (.iconst 3, 1), (.newarray .long, 2), (.putfield 75, 3)] := Jvm.Free.DS.facts 68 _ (by decide +kernel) (by decide +kernel)
theorem d_CM_init_68 : decode prog_1_method_1_code 68 = .ok (.putfield 40, 3) := F_CM_init_68.1
theorem d_CM_init_71 : decode prog_1_method_1_code 71 = .ok (.aload_n 0, 1) := F_CM_init_68.2.1
theorem d_CM_init_72 : decode prog_1_method_1_code 72 = .ok (.new 44, 3) := F_CM_init_68.2.2.1
theorem d_CM_init_75 : decode prog_1_method_1_code 75 = .ok (.dup, 1) := F_CM_init_68.2.2.2.1
theorem d_CM_init_76 : decode prog_1_method_1_code 76 = .ok (.invokespecial 46, 3) := F_CM_init_68.2.2.2.2.1
theorem d_CM_init_79 : decode prog_1_method_1_code 79 = .ok (.putfield 47, 3) := F_CM_init_68.2.2.2.2.2.1
theorem d_CM_init_82 : decode prog_1_method_1_code 82 = .ok (.aload_n 0, 1) := F_CM_init_68.2.2.2.2.2.2.1
theorem d_CM_init_83 : decode prog_1_method_1_code 83 = .ok (.new 51, 3) := F_CM_init_68.2.2.2.2.2.2.2.1
theorem d_CM_init_86 : decode prog_1_method_1_code 86 = .ok (.dup, 1) := F_CM_init_68.2.2.2.2.2.2.2.2.1
theorem d_CM_init_87 : decode prog_1_method_1_code 87 = .ok (.invokespecial 53, 3) := F_CM_init_68.2.2.2.2.2.2.2.2.2.1
theorem d_CM_init_90 : decode prog_1_method_1_code 90 = .ok (.putfield 54, 3) := F_CM_init_68.2.2.2.2.2.2.2.2.2.2.1
theorem d_CM_init_93 : decode prog_1_method_1_code 93 = .ok (.aload_n 0, 1) := F_CM_init_68.2.2.2.2.2.2.2.2.2.2.2.1
theorem d_CM_init_94 : decode prog_1_method_1_code 94 = .ok (.new 58, 3) := F_CM_init_68.2.2.2.2.2.2.2.2.2.2.2.2.1
theorem d_CM_init_97 : decode prog_1_method_1_code 97 = .ok (.dup, 1) := F_CM_init_68.2.2.2.2.2.2.2.2.2.2.2.2.2.1
theorem d_CM_init_98 : decode prog_1_method_1_code 98 = .ok (.invokespecial 60, 3) := F_CM_init_68.2.2.2.2.2.2.2.2.2.2.2.2.2.2.1
theorem d_CM_init_101 : decode prog_1_method_1_code 101 = .ok (.putfield 61, 3) := F_CM_init_68.2.2.2.2.2.2.2.2.2.2.2.2.2.2.2.1
theorem d_CM_init_104 : decode prog_1_method_1_code 104 = .ok (.aload_n 0, 1) := F_CM_init_68.2.2.2.2.2.2.2.2.2.2.2.2.2.2.2.2.1
theorem d_CM_init_105 : decode prog_1_method_1_code 105 = .ok (.bipush (9), 2) := F_CM_init_68.2.2.2.2.2.2.2.2.2.2.2.2.2.2.2.2.2.1
theorem d_CM_init_107 : decode prog_1_method_1_code 107 = .ok (.newarray .long, 2) := F_CM_init_68.2.2.2.2.2.2.2.2.2.2.2.2.2.2.2.2.2.2.1
theorem d_CM_init_109 : decode prog_1_method_1_code 109 = .ok (.putfield 65, 3) := F_CM_init_68.2.2.2.2.2.2.2.2.2.2.2.2.2.2.2.2.2.2.2.1
theorem d_CM_init_112 : decode prog_1_method_1_code 112 = .ok (.aload_n 0, 1) := F_CM_init_68.2.2.2.2.2.2.2.2.2.2.2.2.2.2.2.2.2.2.2.2.1
theorem d_CM_init_113 : decode prog_1_method_1_code 113 = .ok (.bipush (9), 2) := F_CM_init_68.2.2.2.2.2.2.2.2.2.2.2.2.2.2.2.2.2.2.2.2.2.1
theorem d_CM_init_115 : decode prog_1_method_1_code 115 = .ok (.newarray .long, 2) := F_CM_init_68.2.2.2.2.2.2.2.2.2.2.2.2.2.2.2.2.2.2.2.2.2.2.1
theorem d_CM_init_117 : decode prog_1_method_1_code 117 = .ok (.putfield 69, 3) := F_CM_init_68.2.2.2.2.2.2.2.2.2.2.2.2.2.2.2.2.2.2.2.2.2.2.2.1
theorem d_CM_init_120 : decode prog_1_method_1_code 120 = .ok (.aload_n 0, 1) := F_CM_init_68.2.2.2.2.2.2.2.2.2.2.2.2.2.2.2.2.2.2.2.2.2.2.2.2.1
theorem d_CM_init_121 : decode prog_1_method_1_code 121 = .ok (.bipush (9), 2) := F_CM_init_68.2.2.2.2.2.2.2.2.2.2.2.2.2.2.2.2.2.2.2.2.2.2.2.2.2.1
theorem d_CM_init_123 : decode prog_1_method_1_code 123 = .ok (.newarray .long, 2) := F_CM_init_68.2.2.2.2.2.2.2.2.2.2.2.2.2.2.2.2.2.2.2.2.2.2.2.2.2.2.1
theorem d_CM_init_125 : decode prog_1_method_1_code 125 = .ok (.putfield 72, 3) := F_CM_init_68.2.2.2.2.2.2.2.2.2.2.2.2.2.2.2.2.2.2.2.2.2.2.2.2.2.2.2.1
theorem d_CM_init_128 : decode prog_1_method_1_code 128 = .ok (.aload_n 0, 1) := F_CM_init_68.2.2.2.2.2.2.2.2.2.2.2.2.2.2.2.2.2.2.2.2.2.2.2.2.2.2.2.2.1
theorem d_CM_init_129 : decode prog_1_method_1_code 129 = .ok (.iconst 3, 1) := F_CM_init_68.2.2.2.2.2.2.2.2.2.2.2.2.2.2.2.2.2.2.2.2.2.2.2.2.2.2.2.2.2.1
theorem d_CM_init_130 : decode prog_1_method_1_code 130 = .ok (.newarray .long, 2) := F_CM_init_68.2.2.2.2.2.2.2.2.2.2.2.2.2.2.2.2.2.2.2.2.2.2.2.2.2.2.2.2.2.2.1
theorem d_CM_init_132 : decode prog_1_method_1_code 132 = .ok (.putfield 75, 3) := F_CM_init_68.2.2.2.2.2.2.2.2.2.2.2.2.2.2.2.2.2.2.2.2.2.2.2.2.2.2.2.2.2.2.2.1
theorem F_CM_init_135 : Jvm.Free.DS.Facts prog_1_method_1_code 135 [(.aload_n 0, 1), (.iconst 3, 1), (.newarray .long, 2), (.putfield 78, 3), (.aload_n 0, 1), (.iconst 3, 1), (.newarray .long, 2), (.putfield 81, 3), (.aload_n 0, 1), (.iconst 3, 1), (.newarray .long, 2), (.putfield 84, 3), (.aload_n 0, 1), (.iconst 3, 1), (.newarray .long, 2), (.putfield 87, 3), (.aload_n 0, 1), (.bipush (8), 2), (.iconst 3, 1), (.multianewarray 90 2, 4), (.putfield 92, 3), (.aload_n 0, 1), (.iconst 3, 1), (.newarray .int, 2), (.putfield 95, 3), (.return_, 1)] := Jvm.Free.DS.facts 135 _ (by decide +kernel) (by decide +kernel)
theorem d_CM_init_135 : decode prog_1_method_1_code 135 = .ok (.aload_n 0, 1) := F_CM_init_135.1
theorem d_CM_init_136 : decode prog_1_method_1_code 136 = .ok (.iconst 3, 1) := F_CM_init_135.2.1
theorem d_CM_init_137 : decode prog_1_method_1_code 137 = .ok (.newarray .long, 2) := F_CM_init_135.2.2.1
theorem d_CM_init_139 : decode prog_1_method_1_code 139 = .ok (.putfield 78, 3) := F_CM_init_135.2.2.2.1
theorem d_CM_init_142 : decode prog_1_method_1_code 142 = .ok (.aload_n 0, 1) := F_CM_init_135.2.2.2.2.1
theorem d_CM_init_143 : decode prog_1_method_1_code 143 = .ok (.iconst 3, 1) := F_CM_init_135.2.2.2.2.2.1
theorem d_CM_init_144 : decode prog_1_method_1_code 144 = .ok (.newarray .long, 2) := F_CM_init_135.2.2.2.2.2.2.1
theorem d_CM_init_146 : decode prog_1_method_1_code 146 = .ok (.putfield 81, 3) := F_CM_init_135.2.2.2.2.2.2.2.1
theorem d_CM_init_149 : decode prog_1_method_1_code 149 = .ok (.aload_n 0, 1) := F_CM_init_135.2.2.2.2.2.2.2.2.1
theorem d_CM_init_150 : decode prog_1_method_1_code 150 = .ok (.iconst 3, 1) := F_CM_init_135.2.2.2.2.2.2.2.2.2.1
theorem d_CM_init_151 : decode prog_1_method_1_code 151 = .ok (.newarray .long, 2) := F_CM_init_135.2.2.2.2.2.2.2.2.2.2.1
theorem d_CM_init_153 : decode prog_1_method_1_code 153 = .ok (.putfield 84, 3) := F_CM_init_135.2.2.2.2.2.2.2.2.2.2.2.1
theorem d_CM_init_156 : decode prog_1_method_1_code 156 = .ok (.aload_n 0, 1) := F_CM_init_135.2.2.2.2.2.2.2.2.2.2.2.2.1
theorem d_CM_init_157 : decode prog_1_method_1_code 157 = .ok (.iconst 3, 1) := F_CM_init_135.2.2.2.2.2.2.2.2.2.2.2.2.2.1
theorem d_CM_init_158 : decode prog_1_method_1_code 158 = .ok (.newarray .long, 2) := F_CM_init_135.2.2.2.2.2.2.2.2.2.2.2.2.2.2.1
theorem d_CM_init_160 : decode prog_1_method_1_code 160 = .ok (.putfield 87, 3) := F_CM_init_135.2.2.2.2.2.2.2.2.2.2.2.2.2.2.2.1
theorem d_CM_init_163 : decode prog_1_method_1_code 163 = .ok (.aload_n 0, 1) := F_CM_init_135.2.2.2.2.2.2.2.2.2.2.2.2.2.2.2.2.1
theorem d_CM_init_164 : decode prog_1_method_1_code 164 = .ok (.bipush (8), 2) := F_CM_init_135.2.2.2.2.2.2.2.2.2.2.2.2.2.2.2.2.2.1
theorem d_CM_init_166 : decode prog_1_method_1_code 166 = .ok (.iconst 3, 1) := F_CM_init_135.2.2.2.2.2.2.2.2.2.2.2.2.2.2.2.2.2.2.1
theorem d_CM_init_167 : decode prog_1_method_1_code 167 = .ok (.multianewarray 90 2, 4) := F_CM_init_135.2.2.2.2.2.2.2.2.2.2.2.2.2.2.2.2.2.2.2.1
theorem d_CM_init_171 : decode prog_1_method_1_code 171 = .ok (.putfield 92, 3) := F_CM_init_135.2.2.2.2.2.2.2.2.2.2.2.2.2.2.2.2.2.2.2.2.1
theorem d_CM_init_174 : decode prog_1_method_1_code 174 = .ok (.aload_n 0, 1) := F_CM_init_135.2.2.2.2.2.2.2.2.2.2.2.2.2.2.2.2.2.2.2.2.2.1
theorem d_CM_init_175 : decode prog_1_method_1_code 175 = .ok (.iconst 3, 1) := F_CM_init_135.2.2.2.2.2.2.2.2.2.2.2.2.2.2.2.2.2.2.2.2.2.2.1
theorem d_CM_init_176 : decode prog_1_method_1_code 176 = .ok (.newarray .int, 2) := F_CM_init_135.2.2.2.2.2.2.2.2.2.2.2.2.2.2.2.2.2.2.2.2.2.2.2.1
theorem d_CM_init_178 : decode prog_1_method_1_code 178 = .ok (.putfield 95, 3) := F_CM_init_135.2.2.2.2.2.2.2.2.2.2.2.2.2.2.2.2.2.2.2.2.2.2.2.2.1
theorem d_CM_init_181 : decode prog_1_method_1_code 181 = .ok (.return_, 1) := F_CM_init_135.2.2.2.2.2.2.2.2.2.2.2.2.2.2.2.2.2.2.2.2.2.2.2.2.2.1
theorem F_MD_init_0 : Jvm.Free.DS.Facts prog_12_method_1_code 0 [(.aload_n 0, 1), (.invokespecial 3, 3), (.aload_n 0, 1), (.sipush (900), 3), (.newarray .int, 2), (.putfield 9, 3), (.aload_n 0, 1), (.bipush (64), 2), (.newarray .int, 2), (.putfield 15, 3), (.aload_n 0, 1), (.bipush (64), 2), (.newarray .int, 2), (.putfield 18, 3), (.aload_n 0, 1), (.sipush (170), 3), (.newarray .long, 2), (.putfield 21, 3), (.aload_n 0, 1), (.sipush (170), 3), (.newarray .long, 2), (.putfield 25, 3), (.aload_n 0, 1), (.sipush (2720), 3), (.newarray .long, 2), (.putfield 28, 3), (.aload_n 0, 1), (.bipush (8), 2), (.newarray .int, 2), (.putfield 31, 3), (.aload_n 0, 1), (.bipush (8), 2)] := Jvm.Free.DS.facts 0 _ (by decide +kernel) (by decide +kernel)
theorem d_MD_init_0 : decode prog_12_method_1_code 0 = .ok (.aload_n 0, 1) := F_MD_init_0.1
theorem d_MD_init_1 : decode prog_12_method_1_code 1 = .ok (.invokespecial 3, 3) := F_MD_init_0.2.1
theorem d_MD_init_4 : decode prog_12_method_1_code 4 = .ok (.aload_n 0, 1) := F_MD_init_0.2.2.1
theorem d_MD_init_5 : decode prog_12_method_1_code 5 = .ok (.sipush (900), 3) := F_MD_init_0.2.2.2.1
theorem d_MD_init_8 : decode prog_12_method_1_code 8 = .ok (.newarray .int, 2) := F_MD_init_0.2.2.2.2.1
theorem d_MD_init_10 : decode prog_12_method_1_code 10 = .ok (.putfield 9, 3) := F_MD_init_0.2.2.2.2.2.1
theorem d_MD_init_13 : decode prog_12_method_1_code 13 = .ok (.aload_n 0, 1) := F_MD_init_0.2.2.2.2.2.2.1
theorem d_MD_init_14 : decode prog_12_method_1_code 14 = .ok (.bipush (64), 2) := F_MD_init_0.2.2.2.2.2.2.2.1
theorem d_MD_init_16 : decode prog_12_method_1_code 16 = .ok (.newarray .int, 2) := F_MD_init_0.2.2.2.2.2.2.2.2.1
theorem d_MD_init_18 : decode prog_12_method_1_code 18 = .ok (.putfield 15, 3) := F_MD_init_0.2.2.2.2.2.2.2.2.2.1
theorem d_MD_init_21 : decode prog_12_method_1_code 21 = .ok (.aload_n 0, 1) := F_MD_init_0.2.2.2.2.2.2.2.2.2.2.1
theorem d_MD_init_22 : decode prog_12_method_1_code 22 = .ok (.bipush (64), 2) := F_MD_init_0.2.2.2.2.2.2.2.2.2.2.2.1
theorem d_MD_init_24 : decode prog_12_method_1_code 24 = .ok (.newarray .int, 2) := F_MD_init_0.2.2.2.2.2.2.2.2.2.2.2.2.1
theorem d_MD_init_26 : decode prog_12_method_1_code 26 = .ok (.putfield 18, 3) := F_MD_init_0.2.2.2.2.2.2.2.2.2.2.2.2.2.1
theorem d_MD_init_29 : decode prog_12_method_1_code 29 = .ok (.aload_n 0, 1) := F_MD_init_0.2.2.2.2.2.2.2.2.2.2.2.2.2.2.1
theorem d_MD_init_30 : decode prog_12_method_1_code 30 = .ok (.sipush (170), 3) := F_MD_init_0.2.2.2.2.2.2.2.2.2.2.2.2.2.2.2.1
theorem d_MD_init_33 : decode prog_12_method_1_code 33 = .ok (.newarray .long, 2) := F_MD_init_0.2.2.2.2.2.2.2.2.2.2.2.2.2.2.2.2.1
theorem d_MD_init_35 : decode prog_12_method_1_code 35 = .ok (.putfield 21, 3) := F_MD_init_0.2.2.2.2.2.2.2.2.2.2.2.2.2.2.2.2.2.1
theorem d_MD_init_38 : decode prog_12_method_1_code 38 = .ok (.aload_n 0, 1) := F_MD_init_0.2.2.2.2.2.2.2.2.2.2.2.2.2.2.2.2.2.2.1
theorem d_MD_init_39 : decode prog_12_method_1_code 39 = .ok (.sipush (170), 3) := F_MD_init_0.2.2.2.2.2.2.2.2.2.2.2.2.2.2.2.2.2.2.2.1
theorem d_MD_init_42 : decode prog_12_method_1_code 42 = .ok (.newarray .long, 2) := F_MD_init_0.2.2.2.2.2.2.2.2.2.2.2.2.2.2.2.2.2.2.2.2.1
theorem d_MD_init_44 : decode prog_12_method_1_code 44 = .ok (.putfield 25, 3) := F_MD_init_0.2.2.2.2.2.2.2.2.2.2.2.2.2.2.2.2.2.2.2.2.2.1
theorem d_MD_init_47 : decode prog_12_method_1_code 47 = .ok (.aload_n 0, 1) := F_MD_init_0.2.2.2.2.2.2.2.2.2.2.2.2.2.2.2.2.2.2.2.2.2.2.1
theorem d_MD_init_48 : decode prog_12_method_1_code 48 = .ok (.sipush (2720), 3) := F_MD_init_0.2.2.2.2.2.2.2.2.2.2.2.2.2.2.2.2.2.2.2.2.2.2.2.1
theorem d_MD_init_51 : decode prog_12_method_1_code 51 = .ok (.newarray .long, 2) := F_MD_init_0.2.2.2.2.2.2.2.2.2.2.2.2.2.2.2.2.2.2.2.2.2.2.2.2.1
theorem d_MD_init_53 : decode prog_12_method_1_code 53 = .ok (.putfield 28, 3) := F_MD_init_0.2.2.2.2.2.2.2.2.2.2.2.2.2.2.2.2.2.2.2.2.2.2.2.2.2.1
theorem d_MD_init_56 : decode prog_12_method_1_code 56 = .ok (.aload_n 0, 1) := F_MD_init_0.2.2.2.2.2.2.2.2.2.2.2.2.2.2.2.2.2.2.2.2.2.2.2.2.2.2.1
theorem d_MD_init_57 : decode prog_12_method_1_code 57 = .ok (.bipush (8), 2) := F_MD_init_0.2.2.2.2.2.2.2.2.2.2.2.2.2.2.2.2.2.2.2.2.2.2.2.2.2.2.2.1
theorem d_MD_init_59 : decode prog_12_method_1_code 59 = .ok (.newarray .int, 2) := F_MD_init_0.2.2.2.2.2.2.2.2.2.2.2.2.2.2.2.2.2.2.2.2.2.2.2.2.2.2.2.2.1
theorem d_MD_init_61 : decode prog_12_method_1_code 61 = .ok (.putfield 31, 3) := F_MD_init_0.2.2.2.2.2.2.2.2.2.2.2.2.2.2.2.2.2.2.2.2.2.2.2.2.2.2.2.2.2.1
theorem d_MD_init_64 : decode prog_12_method_1_code 64 = .ok (.aload_n 0, 1) := F_MD_init_0.2.2.2.2.2.2.2.2.2.2.2.2.2.2.2.2.2.2.2.2.2.2.2.2.2.2.2.2.2.2.1
theorem d_MD_init_65 : decode prog_12_method_1_code 65 = .ok (.bipush (8), 2) := F_MD_init_0.2.2.2.2.2.2.2.2.2.2.2.2.2.2.2.2.2.2.2.2.2.2.2.2.2.2.2.2.2.2.2.1
theorem F_MD_init_67 : Jvm.Free.DS.Facts prog_12_method_1_code 67 [(.newarray .int, 2), (.putfield 34, 3), (.aload_n 0, 1), (.iconst (-1), 1), (.putfield 37, 3), (.aload_n 0, 1), (.bipush (9), 2), (.newarray .long, 2), (.putfield 41, 3), (.aload_n 0, 1), (.bipush (9), 2), (.newarray .long, 2), (.putfield 44, 3), (.aload_n 0, 1), (.bipush (9), 2), (.newarray .long, 2), (.putfield 47, 3), (.aload_n 0, 1), (.iconst 3, 1), (.newarray .long, 2), (.putfield 50, 3), (.aload_n 0, 1), (.iconst 3, 1), (.newarray .long, 2), (.putfield 53, 3), (.aload_n 0, 1), (.bipush (16), 2), (.newarray .int, 2), (.putfield 56, 3), (.aload_n 0, 1), (.bipush (9), 2), (.newarray .long, 2)] := Jvm.Free.DS.facts 67 _ (by decide +kernel) (by decide +kernel)
theorem d_MD_init_67 : decode prog_12_method_1_code 67 = .ok (.newarray .int, 2) := F_MD_init_67.1
theorem d_MD_init_69 : decode prog_12_method_1_code 69 = .ok (.putfield 34, 3) := F_MD_init_67.2.1
theorem d_MD_init_72 : decode prog_12_method_1_code 72 = .ok (.aload_n 0, 1) := F_MD_init_67.2.2.1
theorem d_MD_init_73 : decode prog_12_method_1_code 73 = .ok (.iconst (-1), 1) := F_MD_init_67.2.2.2.1
theorem d_MD_init_74 : decode prog_12_method_1_code 74 = .ok (.putfield 37, 3) := F_MD_init_67.2.2.2.2.1
theorem d_MD_init_77 : decode prog_12_method_1_code 77 = .ok (.aload_n 0, 1) := F_MD_init_67.2.2.2.2.2.1
theorem d_MD_init_78 : decode prog_12_method_1_code 78 = .ok (.bipush (9), 2) := F_MD_init_67.2.2.2.2.2.2.1
theorem d_MD_init_80 : decode prog_12_method_1_code 80 = .ok (.newarray .long, 2) := F_MD_init_67.2.2.2.2.2.2.2.1
theorem d_MD_init_82 : decode prog_12_method_1_code 82 = .ok (.putfield 41, 3) := F_MD_init_67.2.2.2.2.2.2.2.2.1
theorem d_MD_init_85 : decode prog_12_method_1_code 85 = .ok (.aload_n 0, 1) := F_MD_init_67.2.2.2.2.2.2.2.2.2.1
theorem d_MD_init_86 : decode prog_12_method_1_code 86 = .ok (.bipush (9), 2) := F_MD_init_67.2.2.2.2.2.2.2.2.2.2.1
theorem d_MD_init_88 : decode prog_12_method_1_code 88 = .ok (.newarray .long, 2) := F_MD_init_67.2.2.2.2.2.2.2.2.2.2.2.1
theorem d_MD_init_90 : decode prog_12_method_1_code 90 = .ok (.putfield 44, 3) := F_MD_init_67.2.2.2.2.2.2.2.2.2.2.2.2.1
theorem d_MD_init_93 : decode prog_12_method_1_code 93 = .ok (.aload_n 0, 1) := F_MD_init_67.2.2.2.2.2.2.2.2.2.2.2.2.2.1
theorem d_MD_init_94 : decode prog_12_method_1_code 94 = .ok (.bipush (9), 2) := F_MD_init_67.2.2.2.2.2.2.2.2.2.2.2.2.2.2.1
theorem d_MD_init_96 : decode prog_12_method_1_code 96 = .ok (.newarray .long, 2) := F_MD_init_67.2.2.2.2.2.2.2.2.2.2.2.2.2.2.2.1
theorem d_MD_init_98 : decode prog_12_method_1_code 98 = .ok (.putfield 47, 3) := F_MD_init_67.2.2.2.2.2.2.2.2.2.2.2.2.2.2.2.2.1
theorem d_MD_init_101 : decode prog_12_method_1_code 101 = .ok (.aload_n 0, 1) := F_MD_init_67.2.2.2.2.2.2.2.2.2.2.2.2.2.2.2.2.2.1
theorem d_MD_init_102 : decode prog_12_method_1_code 102 = .ok (.iconst 3, 1) := F_MD_init_67.2.2.2.2.2.2.2.2.2.2.2.2.2.2.2.2.2.2.1
theorem d_MD_init_103 : decode prog_12_method_1_code 103 = .ok (.newarray .long, 2) := F_MD_init_67.2.2.2.2.2.2.2.2.2.2.2.2.2.2.2.2.2.2.2.1
theorem d_MD_init_105 : decode prog_12_method_1_code 105 = .ok (.putfield 50, 3) := F_MD_init_67.2.2.2.2.2.2.2.2.2.2.2.2.2.2.2.2.2.2.2.2.1
theorem d_MD_init_108 : decode prog_12_method_1_code 108 = .ok (.aload_n 0, 1) := F_MD_init_67.2.2.2.2.2.2.2.2.2.2.2.2.2.2.2.2.2.2.2.2.2.1
theorem d_MD_init_109 : decode prog_12_method_1_code 109 = .ok (.iconst 3, 1) := F_MD_init_67.2.2.2.2.2.2.2.2.2.2.2.2.2.2.2.2.2.2.2.2.2.2.1
theorem d_MD_init_110 : decode prog_12_method_1_code 110 = .ok (.newarray .long, 2) := F_MD_init_67.2.2.2.2.2.2.2.2.2.2.2.2.2.2.2.2.2.2.2.2.2.2.2.1
theorem d_MD_init_112 : decode prog_12_method_1_code 112 = .ok (.putfield 53, 3) := F_MD_init_67.2.2.2.2.2.2.2.2.2.2.2.2.2.2.2.2.2.2.2.2.2.2.2.2.1
theorem d_MD_init_115 : decode prog_12_method_1_code 115 = .ok (.aload_n 0, 1) := F_MD_init_67.2.2.2.2.2.2.2.2.2.2.2.2.2.2.2.2.2.2.2.2.2.2.2.2.2.1
theorem d_MD_init_116 : decode prog_12_method_1_code 116 = .ok (.bipush (16), 2) := F_MD_init_67.2.2.2.2.2.2.2.2.2.2.2.2.2.2.2.2.2.2.2.2.2.2.2.2.2.2.1
theorem d_MD_init_118 : decode prog_12_method_1_code 118 = .ok (.newarray .int, 2) := F_MD_init_67.2.2.2.2.2.2.2.2.2.2.2.2.2.2.2.2.2.2.2.2.2.2.2.2.2.2.2.1
theorem d_MD_init_120 : decode prog_12_method_1_code 120 = .ok (.putfield 56, 3) := F_MD_init_67.2.2.2.2.2.2.2.2.2.2.2.2.2.2.2.2.2.2.2.2.2.2.2.2.2.2.2.2.1
theorem d_MD_init_123 : decode prog_12_method_1_code 123 = .ok (.aload_n 0, 1) := F_MD_init_67.2.2.2.2.2.2.2.2.2.2.2.2.2.2.2.2.2.2.2.2.2.2.2.2.2.2.2.2.2.1
theorem d_MD_init_124 : decode prog_12_method_1_code 124 = .ok (.bipush (9), 2) := F_MD_init_67.2.2.2.2.2.2.2.2.2.2.2.2.2.2.2.2.2.2.2.2.2.2.2.2.2.2.2.2.2.2.1
theorem d_MD_init_126 : decode prog_12_method_1_code 126 = .ok (.newarray .long, 2) := F_MD_init_67.2.2.2.2.2.2.2.2.2.2.2.2.2.2.2.2.2.2.2.2.2.2.2.2.2.2.2.2.2.2.2.1
theorem F_MD_init_128 : Jvm.Free.DS.Facts prog_12_method_1_code 128 [(.putfield 59, 3), (.aload_n 0, 1), (.iconst 3, 1), (.newarray .int, 2), (.putfield 62, 3), (.aload_n 0, 1), (.sipush (2448), 3), (.newarray .long, 2), (.putfield 65, 3), (.aload_n 0, 1), (.bipush (108), 2), (.newarray .int, 2), (.putfield 68, 3), (.aload_n 0, 1), (.iconst 0, 1), (.putfield 71, 3), (.return_, 1)] := Jvm.Free.DS.facts 128 _ (by decide +kernel) (by decide +kernel)
theorem d_MD_init_128 : decode prog_12_method_1_code 128 = .ok (.putfield 59, 3) := F_MD_init_128.1
theorem d_MD_init_131 : decode prog_12_method_1_code 131 = .ok (.aload_n 0, 1) := F_MD_init_128.2.1
theorem d_MD_init_132 : decode prog_12_method_1_code 132 = .ok (.iconst 3, 1) := F_MD_init_128.2.2.1
theorem d_MD_init_133 : decode prog_12_method_1_code 133 = .ok (.newarray .int, 2) := F_MD_init_128.2.2.2.1
theorem d_MD_init_135 : decode prog_12_method_1_code 135 = .ok (.putfield 62, 3) := F_MD_init_128.2.2.2.2.1
theorem d_MD_init_138 : decode prog_12_method_1_code 138 = .ok (.aload_n 0, 1) := F_MD_init_128.2.2.2.2.2.1
theorem d_MD_init_139 : decode prog_12_method_1_code 139 = .ok (.sipush (2448), 3) := F_MD_init_128.2.2.2.2.2.2.1
theorem d_MD_init_142 : decode prog_12_method_1_code 142 = .ok (.newarray .long, 2) := F_MD_init_128.2.2.2.2.2.2.2.1
theorem d_MD_init_144 : decode prog_12_method_1_code 144 = .ok (.putfield 65, 3) := F_MD_init_128.2.2.2.2.2.2.2.2.1
theorem d_MD_init_147 : decode prog_12_method_1_code 147 = .ok (.aload_n 0, 1) := F_MD_init_128.2.2.2.2.2.2.2.2.2.1
theorem d_MD_init_148 : decode prog_12_method_1_code 148 = .ok (.bipush (108), 2) := F_MD_init_128.2.2.2.2.2.2.2.2.2.2.1
theorem d_MD_init_150 : decode prog_12_method_1_code 150 = .ok (.newarray .int, 2) := F_MD_init_128.2.2.2.2.2.2.2.2.2.2.2.1
theorem d_MD_init_152 : decode prog_12_method_1_code 152 = .ok (.putfield 68, 3) := F_MD_init_128.2.2.2.2.2.2.2.2.2.2.2.2.1
theorem d_MD_init_155 : decode prog_12_method_1_code 155 = .ok (.aload_n 0, 1) := F_MD_init_128.2.2.2.2.2.2.2.2.2.2.2.2.2.1
theorem d_MD_init_156 : decode prog_12_method_1_code 156 = .ok (.iconst 0, 1) := F_MD_init_128.2.2.2.2.2.2.2.2.2.2.2.2.2.2.1
theorem d_MD_init_157 : decode prog_12_method_1_code 157 = .ok (.putfield 71, 3) := F_MD_init_128.2.2.2.2.2.2.2.2.2.2.2.2.2.2.2.1
theorem d_MD_init_160 : decode prog_12_method_1_code 160 = .ok (.return_, 1) := F_MD_init_128.2.2.2.2.2.2.2.2.2.2.2.2.2.2.2.2.1
set_option maxRecDepth 20000 in
theorem c_Tape_init {G : pG} (f : Nat → pE) (h153 : f 153 = .inr (2, [.null, .int 0])) : PM G M_Tape_init 1 1 900 [.ref 153] (154, f) (fun r w' => r = none ∧ ∃ g : Nat → pE, w' = (155, g) ∧ (∀ i, i ≠ 153 → (i < 154 ∨ 155 ≤ i) → g i = f i) ∧ (g 154 = .inl (0, 900, .inl (fun _ => 0))) ∧ (g 153 = .inr (2, [.ref 154, .int 0]))) := by
  refine PM_of pn_Tape_init (le_b rfl) ?_
  show PW _ _ _ _ _ _ (0, [(0, .ref 153)], [], (154, f))
  refine P_aload_n d_Tape_init_0 rfl ?_
  refine P_objInit d_Tape_init_1 L_Tape_3 im_objInit cd_objInit ⟨le_b rfl, le_b rfl⟩ (le_b rfl) ?_
  refine P_aload_n d_Tape_init_4 rfl ?_
  refine P_sipush (v := 900) d_Tape_init_5 (by decide) ?_
  refine P_newarr (t := 0) (N := 900) (a0 := (900, .inl (fun _ => 0))) d_Tape_init_8 rfl (by decide) ac_int ⟨by decide, by decide⟩ (le_b rfl) ⟨rfl, fun _ _ => rfl⟩ (le_b rfl) (le_b rfl) (le_b rfl) ?_
  obtain ⟨f1, e1⟩ : ∃ f1 : Nat → pE, f1 = wu f 154 (.inl (0, 900, .inl (fun _ => 0))) := ⟨_, rfl⟩
  replace h153 : f1 153 = .inr (2, [.null, .int 0]) := by rw [e1]; exact (wu_n (by decide)).trans h153
  have h154 : f1 154 = .inl (0, 900, .inl (fun _ => 0)) := by rw [e1]; exact wu_s _ _ _
  have o1 : ∀ i, (i < 154 ∨ 155 ≤ i) → f1 i = f i := fun i h1 => by rw [e1]; exact wu_n (by omega)
  show PW _ _ _ _ _ _ (10, [(0, .ref 153)], [.ref 154, .ref 153], (155, wu f 154 (.inl (0, 900, .inl (fun _ => 0)))))
  rw [← e1]
  refine P_putF (i := 0) d_Tape_init_10 ok_Tape (by decide) rfl L_Tape_9 rfl rfl h153 (fun _ => rfl) (fun _ => rfl) ?_
  obtain ⟨f2, e2⟩ : ∃ f2 : Nat → pE, f2 = wu f1 153 (.inr (2, [.ref 154, .int 0])) := ⟨_, rfl⟩
  replace h154 : f2 154 = .inl (0, 900, .inl (fun _ => 0)) := by rw [e2]; exact (wu_n (by decide)).trans h154
  replace h153 : f2 153 = .inr (2, [.ref 154, .int 0]) := by rw [e2]; exact wu_s _ _ _
  have o2 : ∀ i, (i < 153 ∨ 154 ≤ i) → f2 i = f1 i := fun i h1 => by rw [e2]; exact wu_n (by omega)
  show PW _ _ _ _ _ _ (13, [(0, .ref 153)], [], (155, wu f1 153 (.inr (2, [.ref 154, .int 0]))))
  rw [← e2]
  exact P_vret d_Tape_init_13 rfl (le_b rfl) (le_b rfl) ⟨rfl, f2, rfl, fun i h1 h2 => by rw [o2 i (by omega), o1 i (by omega)], h154, h153⟩
set_option maxRecDepth 20000 in
theorem c_Maker_init {G : pG} (f : Nat → pE) (h155 : f 155 = .inr (3, [.null, .null, .null])) : PM G M_Maker_init 2 8 35 [.ref 155] (156, f) (fun r w' => r = none ∧ ∃ g : Nat → pE, w' = (164, g) ∧ (∀ i, i ≠ 155 → (i < 156 ∨ 164 ≤ i) → g i = f i) ∧ (g 156 = .inl (1, 9, .inr (.inl (fun _ => 0)))) ∧ (g 157 = .inl (1, 9, .inr (.inl (fun _ => 0)))) ∧ (QuadAt g 158 159) ∧ (g 155 = .inr (3, [.ref 156, .ref 157, .ref 158]))) := by
  refine PM_of pn_Maker_init (le_b rfl) ?_
  show PW _ _ _ _ _ _ (0, [(0, .ref 155)], [], (156, f))
  refine P_aload_n d_Maker_init_0 rfl ?_
  refine P_objInit d_Maker_init_1 L_Maker_1 im_objInit cd_objInit ⟨le_b rfl, le_b rfl⟩ (le_b rfl) ?_
  refine P_aload_n d_Maker_init_4 rfl ?_
  refine P_bipush (v := 9) d_Maker_init_5 (by decide) ?_
  refine P_newarr (t := 1) (N := 9) (a0 := (9, .inr (.inl (fun _ => 0)))) d_Maker_init_7 rfl (by decide) ac_long ⟨by decide, by decide⟩ (le_b rfl) ⟨rfl, fun _ _ => rfl⟩ (le_b rfl) (le_b rfl) (le_b rfl) ?_
  obtain ⟨f1, e1⟩ : ∃ f1 : Nat → pE, f1 = wu f 156 (.inl (1, 9, .inr (.inl (fun _ => 0)))) := ⟨_, rfl⟩
  replace h155 : f1 155 = .inr (3, [.null, .null, .null]) := by rw [e1]; exact (wu_n (by decide)).trans h155
  have h156 : f1 156 = .inl (1, 9, .inr (.inl (fun _ => 0))) := by rw [e1]; exact wu_s _ _ _
  have o1 : ∀ i, (i < 156 ∨ 157 ≤ i) → f1 i = f i := fun i h1 => by rw [e1]; exact wu_n (by omega)
  show PW _ _ _ _ _ _ (9, [(0, .ref 155)], [.ref 156, .ref 155], (157, wu f 156 (.inl (1, 9, .inr (.inl (fun _ => 0))))))
  rw [← e1]
  refine P_putF (i := 0) d_Maker_init_9 ok_Maker (by decide) rfl L_Maker_7 rfl rfl h155 (fun _ => rfl) (fun _ => rfl) ?_
  obtain ⟨f2, e2⟩ : ∃ f2 : Nat → pE, f2 = wu f1 155 (.inr (3, [.ref 156, .null, .null])) := ⟨_, rfl⟩
  replace h156 : f2 156 = .inl (1, 9, .inr (.inl (fun _ => 0))) := by rw [e2]; exact (wu_n (by decide)).trans h156
  replace h155 : f2 155 = .inr (3, [.ref 156, .null, .null]) := by rw [e2]; exact wu_s _ _ _
  have o2 : ∀ i, (i < 155 ∨ 156 ≤ i) → f2 i = f1 i := fun i h1 => by rw [e2]; exact wu_n (by omega)
  show PW _ _ _ _ _ _ (12, [(0, .ref 155)], [], (157, wu f1 155 (.inr (3, [.ref 156, .null, .null]))))
  rw [← e2]
  refine P_aload_n d_Maker_init_12 rfl ?_
  refine P_bipush (v := 9) d_Maker_init_13 (by decide) ?_
  refine P_newarr (t := 1) (N := 9) (a0 := (9, .inr (.inl (fun _ => 0)))) d_Maker_init_15 rfl (by decide) ac_long ⟨by decide, by decide⟩ (le_b rfl) ⟨rfl, fun _ _ => rfl⟩ (le_b rfl) (le_b rfl) (le_b rfl) ?_
  obtain ⟨f3, e3⟩ : ∃ f3 : Nat → pE, f3 = wu f2 157 (.inl (1, 9, .inr (.inl (fun _ => 0)))) := ⟨_, rfl⟩
  replace h156 : f3 156 = .inl (1, 9, .inr (.inl (fun _ => 0))) := by rw [e3]; exact (wu_n (by decide)).trans h156
  replace h155 : f3 155 = .inr (3, [.ref 156, .null, .null]) := by rw [e3]; exact (wu_n (by decide)).trans h155
  have h157 : f3 157 = .inl (1, 9, .inr (.inl (fun _ => 0))) := by rw [e3]; exact wu_s _ _ _
  have o3 : ∀ i, (i < 157 ∨ 158 ≤ i) → f3 i = f2 i := fun i h1 => by rw [e3]; exact wu_n (by omega)
  show PW _ _ _ _ _ _ (17, [(0, .ref 155)], [.ref 157, .ref 155], (158, wu f2 157 (.inl (1, 9, .inr (.inl (fun _ => 0))))))
  rw [← e3]
  refine P_putF (i := 1) d_Maker_init_17 ok_Maker (by decide) rfl L_Maker_13 rfl rfl h155 (fun _ => rfl) (fun _ => rfl) ?_
  obtain ⟨f4, e4⟩ : ∃ f4 : Nat → pE, f4 = wu f3 155 (.inr (3, [.ref 156, .ref 157, .null])) := ⟨_, rfl⟩
  replace h156 : f4 156 = .inl (1, 9, .inr (.inl (fun _ => 0))) := by rw [e4]; exact (wu_n (by decide)).trans h156
  replace h157 : f4 157 = .inl (1, 9, .inr (.inl (fun _ => 0))) := by rw [e4]; exact (wu_n (by decide)).trans h157
  replace h155 : f4 155 = .inr (3, [.ref 156, .ref 157, .null]) := by rw [e4]; exact wu_s _ _ _
  have o4 : ∀ i, (i < 155 ∨ 156 ≤ i) → f4 i = f3 i := fun i h1 => by rw [e4]; exact wu_n (by omega)
  show PW _ _ _ _ _ _ (20, [(0, .ref 155)], [], (158, wu f3 155 (.inr (3, [.ref 156, .ref 157, .null]))))
  rw [← e4]
  refine P_aload_n d_Maker_init_20 rfl ?_
  refine P_new (fs := [.null]) d_Maker_init_21 ok_Quad L_Maker_16 in_Quad.1 in_Quad.2 rfl (fun j hj => by rcases (show j = 0 by omega) with rfl <;> rfl) (fun _ => rfl) (le_b rfl) (le_b rfl) (le_b rfl) ?_
  obtain ⟨f5, e5⟩ : ∃ f5 : Nat → pE, f5 = wu f4 158 (.inr (0, [.null])) := ⟨_, rfl⟩
  replace h156 : f5 156 = .inl (1, 9, .inr (.inl (fun _ => 0))) := by rw [e5]; exact (wu_n (by decide)).trans h156
  replace h157 : f5 157 = .inl (1, 9, .inr (.inl (fun _ => 0))) := by rw [e5]; exact (wu_n (by decide)).trans h157
  replace h155 : f5 155 = .inr (3, [.ref 156, .ref 157, .null]) := by rw [e5]; exact (wu_n (by decide)).trans h155
  have h158 : f5 158 = .inr (0, [.null]) := by rw [e5]; exact wu_s _ _ _
  have o5 : ∀ i, (i < 158 ∨ 159 ≤ i) → f5 i = f4 i := fun i h1 => by rw [e5]; exact wu_n (by omega)
  show PW _ _ _ _ _ _ (24, [(0, .ref 155)], [.ref 158, .ref 155], (159, wu f4 158 (.inr (0, [.null]))))
  rw [← e5]
  refine P_dup d_Maker_init_24 rfl ?_
  refine P_callIN (M := M_Maker_init) (pc := 25) (as := []) (b := 158) d_Maker_init_25 co_Quad_init rfl rfl L_Maker_18 im_Quad_init (c_Quad_init 158 159 _ h158 (le_b rfl) (by decide)) rfl ⟨le_b rfl, le_b rfl⟩ ⟨le_b rfl, le_b rfl⟩ (le_b rfl) ?_ _ rfl
  clear h158
  rintro _ _ ⟨rfl, f6, rfl, o6, p158⟩
  replace h156 : f6 156 = .inl (1, 9, .inr (.inl (fun _ => 0))) := (o6 _ (by decide) (by decide)).trans h156
  replace h157 : f6 157 = .inl (1, 9, .inr (.inl (fun _ => 0))) := (o6 _ (by decide) (by decide)).trans h157
  replace h155 : f6 155 = .inr (3, [.ref 156, .ref 157, .null]) := (o6 _ (by decide) (by decide)).trans h155
  show PW _ _ _ _ _ _ (28, [(0, .ref 155)], [.ref 158, .ref 155], (164, f6))
  refine P_putF (i := 2) d_Maker_init_28 ok_Maker (by decide) rfl L_Maker_19 rfl rfl h155 (fun _ => rfl) (fun _ => rfl) ?_
  obtain ⟨f7, e7⟩ : ∃ f7 : Nat → pE, f7 = wu f6 155 (.inr (3, [.ref 156, .ref 157, .ref 158])) := ⟨_, rfl⟩
  replace h156 : f7 156 = .inl (1, 9, .inr (.inl (fun _ => 0))) := by rw [e7]; exact (wu_n (by decide)).trans h156
  replace h157 : f7 157 = .inl (1, 9, .inr (.inl (fun _ => 0))) := by rw [e7]; exact (wu_n (by decide)).trans h157
  replace p158 : QuadAt f7 158 159 := p158.kept (by rw [e7]; exact wu_n (by decide)) (fun i h1 h2 => by rw [e7]; exact wu_n (by omega))
  replace h155 : f7 155 = .inr (3, [.ref 156, .ref 157, .ref 158]) := by rw [e7]; exact wu_s _ _ _
  have o7 : ∀ i, (i < 155 ∨ 156 ≤ i) → f7 i = f6 i := fun i h1 => by rw [e7]; exact wu_n (by omega)
  show PW _ _ _ _ _ _ (31, [(0, .ref 155)], [], (164, wu f6 155 (.inr (3, [.ref 156, .ref 157, .ref 158]))))
  rw [← e7]
  exact P_vret d_Maker_init_31 rfl (le_b rfl) (le_b rfl) ⟨rfl, f7, rfl, fun i h1 h2 => by rw [o7 i (by omega), o6 i (by omega) (by omega), o5 i (by omega), o4 i (by omega), o3 i (by omega), o2 i (by omega), o1 i (by omega)], h156, h157, p158, h155⟩
set_option maxRecDepth 20000 in
theorem c_Reader_init {G : pG} (f : Nat → pE) (h164 : f 164 = .inr (4, [.null, .null, .null, .null, .null, .null, .null, .int 0, .int 0, .int 0, .int 0, .int 0, .int 0, .int 0])) : PM G M_Reader_init 1 4 28 [.ref 164, .ref 153, .ref 155, .ref 77] (165, f) (fun r w' => r = none ∧ ∃ g : Nat → pE, w' = (169, g) ∧ (∀ i, i ≠ 164 → (i < 165 ∨ 169 ≤ i) → g i = f i) ∧ (g 165 = .inl (0, 8, .inl (fun _ => 0))) ∧ (g 166 = .inl (0, 8, .inl (fun _ => 0))) ∧ (g 167 = .inl (1, 3, .inr (.inl (fun _ => 0)))) ∧ (g 168 = .inl (1, 9, .inr (.inl (fun _ => 0)))) ∧ (g 164 = .inr (4, [.ref 153, .ref 155, .ref 165, .ref 166, .ref 167, .ref 168, .ref 77, .int 0, .int 0, .int 0, .int 0, .int 0, .int 0, .int (-1)]))) := by
  refine PM_of pn_Reader_init (le_b rfl) ?_
  show PW _ _ _ _ _ _ (0, [(0, .ref 164), (1, .ref 153), (2, .ref 155), (3, .ref 77)], [], (165, f))
  refine P_aload_n d_Reader_init_0 rfl ?_
  refine P_objInit d_Reader_init_1 L_Reader_3 im_objInit cd_objInit ⟨le_b rfl, le_b rfl⟩ (le_b rfl) ?_
  refine P_aload_n d_Reader_init_4 rfl ?_
  refine P_bipush (v := 8) d_Reader_init_5 (by decide) ?_
  refine P_newarr (t := 0) (N := 8) (a0 := (8, .inl (fun _ => 0))) d_Reader_init_7 rfl (by decide) ac_int ⟨by decide, by decide⟩ (le_b rfl) ⟨rfl, fun _ _ => rfl⟩ (le_b rfl) (le_b rfl) (le_b rfl) ?_
  obtain ⟨f1, e1⟩ : ∃ f1 : Nat → pE, f1 = wu f 165 (.inl (0, 8, .inl (fun _ => 0))) := ⟨_, rfl⟩
  replace h164 : f1 164 = .inr (4, [.null, .null, .null, .null, .null, .null, .null, .int 0, .int 0, .int 0, .int 0, .int 0, .int 0, .int 0]) := by rw [e1]; exact (wu_n (by decide)).trans h164
  have h165 : f1 165 = .inl (0, 8, .inl (fun _ => 0)) := by rw [e1]; exact wu_s _ _ _
  have o1 : ∀ i, (i < 165 ∨ 166 ≤ i) → f1 i = f i := fun i h1 => by rw [e1]; exact wu_n (by omega)
  show PW _ _ _ _ _ _ (9, [(0, .ref 164), (1, .ref 153), (2, .ref 155), (3, .ref 77)], [.ref 165, .ref 164], (166, wu f 165 (.inl (0, 8, .inl (fun _ => 0)))))
  rw [← e1]
  refine P_putF (i := 2) d_Reader_init_9 ok_Reader (by decide) rfl L_Reader_9 rfl rfl h164 (fun _ => rfl) (fun _ => rfl) ?_
  obtain ⟨f2, e2⟩ : ∃ f2 : Nat → pE, f2 = wu f1 164 (.inr (4, [.null, .null, .ref 165, .null, .null, .null, .null, .int 0, .int 0, .int 0, .int 0, .int 0, .int 0, .int 0])) := ⟨_, rfl⟩
  replace h165 : f2 165 = .inl (0, 8, .inl (fun _ => 0)) := by rw [e2]; exact (wu_n (by decide)).trans h165
  replace h164 : f2 164 = .inr (4, [.null, .null, .ref 165, .null, .null, .null, .null, .int 0, .int 0, .int 0, .int 0, .int 0, .int 0, .int 0]) := by rw [e2]; exact wu_s _ _ _
  have o2 : ∀ i, (i < 164 ∨ 165 ≤ i) → f2 i = f1 i := fun i h1 => by rw [e2]; exact wu_n (by omega)
  show PW _ _ _ _ _ _ (12, [(0, .ref 164), (1, .ref 153), (2, .ref 155), (3, .ref 77)], [], (166, wu f1 164 (.inr (4, [.null, .null, .ref 165, .null, .null, .null, .null, .int 0, .int 0, .int 0, .int 0, .int 0, .int 0, .int 0]))))
  rw [← e2]
  refine P_aload_n d_Reader_init_12 rfl ?_
  refine P_bipush (v := 8) d_Reader_init_13 (by decide) ?_
  refine P_newarr (t := 0) (N := 8) (a0 := (8, .inl (fun _ => 0))) d_Reader_init_15 rfl (by decide) ac_int ⟨by decide, by decide⟩ (le_b rfl) ⟨rfl, fun _ _ => rfl⟩ (le_b rfl) (le_b rfl) (le_b rfl) ?_
  obtain ⟨f3, e3⟩ : ∃ f3 : Nat → pE, f3 = wu f2 166 (.inl (0, 8, .inl (fun _ => 0))) := ⟨_, rfl⟩
  replace h165 : f3 165 = .inl (0, 8, .inl (fun _ => 0)) := by rw [e3]; exact (wu_n (by decide)).trans h165
  replace h164 : f3 164 = .inr (4, [.null, .null, .ref 165, .null, .null, .null, .null, .int 0, .int 0, .int 0, .int 0, .int 0, .int 0, .int 0]) := by rw [e3]; exact (wu_n (by decide)).trans h164
  have h166 : f3 166 = .inl (0, 8, .inl (fun _ => 0)) := by rw [e3]; exact wu_s _ _ _
  have o3 : ∀ i, (i < 166 ∨ 167 ≤ i) → f3 i = f2 i := fun i h1 => by rw [e3]; exact wu_n (by omega)
  show PW _ _ _ _ _ _ (17, [(0, .ref 164), (1, .ref 153), (2, .ref 155), (3, .ref 77)], [.ref 166, .ref 164], (167, wu f2 166 (.inl (0, 8, .inl (fun _ => 0)))))
  rw [← e3]
  refine P_putF (i := 3) d_Reader_init_17 ok_Reader (by decide) rfl L_Reader_15 rfl rfl h164 (fun _ => rfl) (fun _ => rfl) ?_
  obtain ⟨f4, e4⟩ : ∃ f4 : Nat → pE, f4 = wu f3 164 (.inr (4, [.null, .null, .ref 165, .ref 166, .null, .null, .null, .int 0, .int 0, .int 0, .int 0, .int 0, .int 0, .int 0])) := ⟨_, rfl⟩
  replace h165 : f4 165 = .inl (0, 8, .inl (fun _ => 0)) := by rw [e4]; exact (wu_n (by decide)).trans h165
  replace h166 : f4 166 = .inl (0, 8, .inl (fun _ => 0)) := by rw [e4]; exact (wu_n (by decide)).trans h166
  replace h164 : f4 164 = .inr (4, [.null, .null, .ref 165, .ref 166, .null, .null, .null, .int 0, .int 0, .int 0, .int 0, .int 0, .int 0, .int 0]) := by rw [e4]; exact wu_s _ _ _
  have o4 : ∀ i, (i < 164 ∨ 165 ≤ i) → f4 i = f3 i := fun i h1 => by rw [e4]; exact wu_n (by omega)
  show PW _ _ _ _ _ _ (20, [(0, .ref 164), (1, .ref 153), (2, .ref 155), (3, .ref 77)], [], (167, wu f3 164 (.inr (4, [.null, .null, .ref 165, .ref 166, .null, .null, .null, .int 0, .int 0, .int 0, .int 0, .int 0, .int 0, .int 0]))))
  rw [← e4]
  refine P_aload_n d_Reader_init_20 rfl ?_
  refine P_iconst (v := 3) d_Reader_init_21 (by decide) ?_
  refine P_newarr (t := 1) (N := 3) (a0 := (3, .inr (.inl (fun _ => 0)))) d_Reader_init_22 rfl (by decide) ac_long ⟨by decide, by decide⟩ (le_b rfl) ⟨rfl, fun _ _ => rfl⟩ (le_b rfl) (le_b rfl) (le_b rfl) ?_
  obtain ⟨f5, e5⟩ : ∃ f5 : Nat → pE, f5 = wu f4 167 (.inl (1, 3, .inr (.inl (fun _ => 0)))) := ⟨_, rfl⟩
  replace h165 : f5 165 = .inl (0, 8, .inl (fun _ => 0)) := by rw [e5]; exact (wu_n (by decide)).trans h165
  replace h166 : f5 166 = .inl (0, 8, .inl (fun _ => 0)) := by rw [e5]; exact (wu_n (by decide)).trans h166
  replace h164 : f5 164 = .inr (4, [.null, .null, .ref 165, .ref 166, .null, .null, .null, .int 0, .int 0, .int 0, .int 0, .int 0, .int 0, .int 0]) := by rw [e5]; exact (wu_n (by decide)).trans h164
  have h167 : f5 167 = .inl (1, 3, .inr (.inl (fun _ => 0))) := by rw [e5]; exact wu_s _ _ _
  have o5 : ∀ i, (i < 167 ∨ 168 ≤ i) → f5 i = f4 i := fun i h1 => by rw [e5]; exact wu_n (by omega)
  show PW _ _ _ _ _ _ (24, [(0, .ref 164), (1, .ref 153), (2, .ref 155), (3, .ref 77)], [.ref 167, .ref 164], (168, wu f4 167 (.inl (1, 3, .inr (.inl (fun _ => 0))))))
  rw [← e5]
  refine P_putF (i := 4) d_Reader_init_24 ok_Reader (by decide) rfl L_Reader_18 rfl rfl h164 (fun _ => rfl) (fun _ => rfl) ?_
  obtain ⟨f6, e6⟩ : ∃ f6 : Nat → pE, f6 = wu f5 164 (.inr (4, [.null, .null, .ref 165, .ref 166, .ref 167, .null, .null, .int 0, .int 0, .int 0, .int 0, .int 0, .int 0, .int 0])) := ⟨_, rfl⟩
  replace h165 : f6 165 = .inl (0, 8, .inl (fun _ => 0)) := by rw [e6]; exact (wu_n (by decide)).trans h165
  replace h166 : f6 166 = .inl (0, 8, .inl (fun _ => 0)) := by rw [e6]; exact (wu_n (by decide)).trans h166
  replace h167 : f6 167 = .inl (1, 3, .inr (.inl (fun _ => 0))) := by rw [e6]; exact (wu_n (by decide)).trans h167
  replace h164 : f6 164 = .inr (4, [.null, .null, .ref 165, .ref 166, .ref 167, .null, .null, .int 0, .int 0, .int 0, .int 0, .int 0, .int 0, .int 0]) := by rw [e6]; exact wu_s _ _ _
  have o6 : ∀ i, (i < 164 ∨ 165 ≤ i) → f6 i = f5 i := fun i h1 => by rw [e6]; exact wu_n (by omega)
  show PW _ _ _ _ _ _ (27, [(0, .ref 164), (1, .ref 153), (2, .ref 155), (3, .ref 77)], [], (168, wu f5 164 (.inr (4, [.null, .null, .ref 165, .ref 166, .ref 167, .null, .null, .int 0, .int 0, .int 0, .int 0, .int 0, .int 0, .int 0]))))
  rw [← e6]
  refine P_aload_n d_Reader_init_27 rfl ?_
  refine P_bipush (v := 9) d_Reader_init_28 (by decide) ?_
  refine P_newarr (t := 1) (N := 9) (a0 := (9, .inr (.inl (fun _ => 0)))) d_Reader_init_30 rfl (by decide) ac_long ⟨by decide, by decide⟩ (le_b rfl) ⟨rfl, fun _ _ => rfl⟩ (le_b rfl) (le_b rfl) (le_b rfl) ?_
  obtain ⟨f7, e7⟩ : ∃ f7 : Nat → pE, f7 = wu f6 168 (.inl (1, 9, .inr (.inl (fun _ => 0)))) := ⟨_, rfl⟩
  replace h165 : f7 165 = .inl (0, 8, .inl (fun _ => 0)) := by rw [e7]; exact (wu_n (by decide)).trans h165
  replace h166 : f7 166 = .inl (0, 8, .inl (fun _ => 0)) := by rw [e7]; exact (wu_n (by decide)).trans h166
  replace h167 : f7 167 = .inl (1, 3, .inr (.inl (fun _ => 0))) := by rw [e7]; exact (wu_n (by decide)).trans h167
  replace h164 : f7 164 = .inr (4, [.null, .null, .ref 165, .ref 166, .ref 167, .null, .null, .int 0, .int 0, .int 0, .int 0, .int 0, .int 0, .int 0]) := by rw [e7]; exact (wu_n (by decide)).trans h164
  have h168 : f7 168 = .inl (1, 9, .inr (.inl (fun _ => 0))) := by rw [e7]; exact wu_s _ _ _
  have o7 : ∀ i, (i < 168 ∨ 169 ≤ i) → f7 i = f6 i := fun i h1 => by rw [e7]; exact wu_n (by omega)
  show PW _ _ _ _ _ _ (32, [(0, .ref 164), (1, .ref 153), (2, .ref 155), (3, .ref 77)], [.ref 168, .ref 164], (169, wu f6 168 (.inl (1, 9, .inr (.inl (fun _ => 0))))))
  rw [← e7]
  refine P_putF (i := 5) d_Reader_init_32 ok_Reader (by decide) rfl L_Reader_22 rfl rfl h164 (fun _ => rfl) (fun _ => rfl) ?_
  obtain ⟨f8, e8⟩ : ∃ f8 : Nat → pE, f8 = wu f7 164 (.inr (4, [.null, .null, .ref 165, .ref 166, .ref 167, .ref 168, .null, .int 0, .int 0, .int 0, .int 0, .int 0, .int 0, .int 0])) := ⟨_, rfl⟩
  replace h165 : f8 165 = .inl (0, 8, .inl (fun _ => 0)) := by rw [e8]; exact (wu_n (by decide)).trans h165
  replace h166 : f8 166 = .inl (0, 8, .inl (fun _ => 0)) := by rw [e8]; exact (wu_n (by decide)).trans h166
  replace h167 : f8 167 = .inl (1, 3, .inr (.inl (fun _ => 0))) := by rw [e8]; exact (wu_n (by decide)).trans h167
  replace h168 : f8 168 = .inl (1, 9, .inr (.inl (fun _ => 0))) := by rw [e8]; exact (wu_n (by decide)).trans h168
  replace h164 : f8 164 = .inr (4, [.null, .null, .ref 165, .ref 166, .ref 167, .ref 168, .null, .int 0, .int 0, .int 0, .int 0, .int 0, .int 0, .int 0]) := by rw [e8]; exact wu_s _ _ _
  have o8 : ∀ i, (i < 164 ∨ 165 ≤ i) → f8 i = f7 i := fun i h1 => by rw [e8]; exact wu_n (by omega)
  show PW _ _ _ _ _ _ (35, [(0, .ref 164), (1, .ref 153), (2, .ref 155), (3, .ref 77)], [], (169, wu f7 164 (.inr (4, [.null, .null, .ref 165, .ref 166, .ref 167, .ref 168, .null, .int 0, .int 0, .int 0, .int 0, .int 0, .int 0, .int 0]))))
  rw [← e8]
  refine P_aload_n d_Reader_init_35 rfl ?_
  refine P_iconst (v := (-1)) d_Reader_init_36 (by decide) ?_
  refine P_put (i := 13) d_Reader_init_37 ok_Reader (by decide) rfl L_Reader_25 h164 (fun _ => rfl) (fun _ => rfl) ?_
  obtain ⟨f9, e9⟩ : ∃ f9 : Nat → pE, f9 = wu f8 164 (.inr (4, [.null, .null, .ref 165, .ref 166, .ref 167, .ref 168, .null, .int 0, .int 0, .int 0, .int 0, .int 0, .int 0, .int (-1)])) := ⟨_, rfl⟩
  replace h165 : f9 165 = .inl (0, 8, .inl (fun _ => 0)) := by rw [e9]; exact (wu_n (by decide)).trans h165
  replace h166 : f9 166 = .inl (0, 8, .inl (fun _ => 0)) := by rw [e9]; exact (wu_n (by decide)).trans h166
  replace h167 : f9 167 = .inl (1, 3, .inr (.inl (fun _ => 0))) := by rw [e9]; exact (wu_n (by decide)).trans h167
  replace h168 : f9 168 = .inl (1, 9, .inr (.inl (fun _ => 0))) := by rw [e9]; exact (wu_n (by decide)).trans h168
  replace h164 : f9 164 = .inr (4, [.null, .null, .ref 165, .ref 166, .ref 167, .ref 168, .null, .int 0, .int 0, .int 0, .int 0, .int 0, .int 0, .int (-1)]) := by rw [e9]; exact wu_s _ _ _
  have o9 : ∀ i, (i < 164 ∨ 165 ≤ i) → f9 i = f8 i := fun i h1 => by rw [e9]; exact wu_n (by omega)
  show PW _ _ _ _ _ _ (40, [(0, .ref 164), (1, .ref 153), (2, .ref 155), (3, .ref 77)], [], (169, wu f8 164 (.inr (4, [.null, .null, .ref 165, .ref 166, .ref 167, .ref 168, .null, .int 0, .int 0, .int 0, .int 0, .int 0, .int 0, .int (-1)]))))
  rw [← e9]
  refine P_aload_n d_Reader_init_40 rfl ?_
  refine P_aload_n d_Reader_init_41 rfl ?_
  refine P_putF (i := 0) d_Reader_init_42 ok_Reader (by decide) rfl L_Reader_29 rfl rfl h164 (fun _ => rfl) (fun _ => rfl) ?_
  obtain ⟨f10, e10⟩ : ∃ f10 : Nat → pE, f10 = wu f9 164 (.inr (4, [.ref 153, .null, .ref 165, .ref 166, .ref 167, .ref 168, .null, .int 0, .int 0, .int 0, .int 0, .int 0, .int 0, .int (-1)])) := ⟨_, rfl⟩
  replace h165 : f10 165 = .inl (0, 8, .inl (fun _ => 0)) := by rw [e10]; exact (wu_n (by decide)).trans h165
  replace h166 : f10 166 = .inl (0, 8, .inl (fun _ => 0)) := by rw [e10]; exact (wu_n (by decide)).trans h166
  replace h167 : f10 167 = .inl (1, 3, .inr (.inl (fun _ => 0))) := by rw [e10]; exact (wu_n (by decide)).trans h167
  replace h168 : f10 168 = .inl (1, 9, .inr (.inl (fun _ => 0))) := by rw [e10]; exact (wu_n (by decide)).trans h168
  replace h164 : f10 164 = .inr (4, [.ref 153, .null, .ref 165, .ref 166, .ref 167, .ref 168, .null, .int 0, .int 0, .int 0, .int 0, .int 0, .int 0, .int (-1)]) := by rw [e10]; exact wu_s _ _ _
  have o10 : ∀ i, (i < 164 ∨ 165 ≤ i) → f10 i = f9 i := fun i h1 => by rw [e10]; exact wu_n (by omega)
  show PW _ _ _ _ _ _ (45, [(0, .ref 164), (1, .ref 153), (2, .ref 155), (3, .ref 77)], [], (169, wu f9 164 (.inr (4, [.ref 153, .null, .ref 165, .ref 166, .ref 167, .ref 168, .null, .int 0, .int 0, .int 0, .int 0, .int 0, .int 0, .int (-1)]))))
  rw [← e10]
  refine P_aload_n d_Reader_init_45 rfl ?_
  refine P_aload_n d_Reader_init_46 rfl ?_
  refine P_putF (i := 1) d_Reader_init_47 ok_Reader (by decide) rfl L_Reader_33 rfl rfl h164 (fun _ => rfl) (fun _ => rfl) ?_
  obtain ⟨f11, e11⟩ : ∃ f11 : Nat → pE, f11 = wu f10 164 (.inr (4, [.ref 153, .ref 155, .ref 165, .ref 166, .ref 167, .ref 168, .null, .int 0, .int 0, .int 0, .int 0, .int 0, .int 0, .int (-1)])) := ⟨_, rfl⟩
  replace h165 : f11 165 = .inl (0, 8, .inl (fun _ => 0)) := by rw [e11]; exact (wu_n (by decide)).trans h165
  replace h166 : f11 166 = .inl (0, 8, .inl (fun _ => 0)) := by rw [e11]; exact (wu_n (by decide)).trans h166
  replace h167 : f11 167 = .inl (1, 3, .inr (.inl (fun _ => 0))) := by rw [e11]; exact (wu_n (by decide)).trans h167
  replace h168 : f11 168 = .inl (1, 9, .inr (.inl (fun _ => 0))) := by rw [e11]; exact (wu_n (by decide)).trans h168
  replace h164 : f11 164 = .inr (4, [.ref 153, .ref 155, .ref 165, .ref 166, .ref 167, .ref 168, .null, .int 0, .int 0, .int 0, .int 0, .int 0, .int 0, .int (-1)]) := by rw [e11]; exact wu_s _ _ _
  have o11 : ∀ i, (i < 164 ∨ 165 ≤ i) → f11 i = f10 i := fun i h1 => by rw [e11]; exact wu_n (by omega)
  show PW _ _ _ _ _ _ (50, [(0, .ref 164), (1, .ref 153), (2, .ref 155), (3, .ref 77)], [], (169, wu f10 164 (.inr (4, [.ref 153, .ref 155, .ref 165, .ref 166, .ref 167, .ref 168, .null, .int 0, .int 0, .int 0, .int 0, .int 0, .int 0, .int (-1)]))))
  rw [← e11]
  refine P_aload_n d_Reader_init_50 rfl ?_
  refine P_aload_n d_Reader_init_51 rfl ?_
  refine P_put (i := 6) d_Reader_init_52 ok_Reader (by decide) rfl L_Reader_37 h164 (fun _ => rfl) (fun _ => rfl) ?_
  obtain ⟨f12, e12⟩ : ∃ f12 : Nat → pE, f12 = wu f11 164 (.inr (4, [.ref 153, .ref 155, .ref 165, .ref 166, .ref 167, .ref 168, .ref 77, .int 0, .int 0, .int 0, .int 0, .int 0, .int 0, .int (-1)])) := ⟨_, rfl⟩
  replace h165 : f12 165 = .inl (0, 8, .inl (fun _ => 0)) := by rw [e12]; exact (wu_n (by decide)).trans h165
  replace h166 : f12 166 = .inl (0, 8, .inl (fun _ => 0)) := by rw [e12]; exact (wu_n (by decide)).trans h166
  replace h167 : f12 167 = .inl (1, 3, .inr (.inl (fun _ => 0))) := by rw [e12]; exact (wu_n (by decide)).trans h167
  replace h168 : f12 168 = .inl (1, 9, .inr (.inl (fun _ => 0))) := by rw [e12]; exact (wu_n (by decide)).trans h168
  replace h164 : f12 164 = .inr (4, [.ref 153, .ref 155, .ref 165, .ref 166, .ref 167, .ref 168, .ref 77, .int 0, .int 0, .int 0, .int 0, .int 0, .int 0, .int (-1)]) := by rw [e12]; exact wu_s _ _ _
  have o12 : ∀ i, (i < 164 ∨ 165 ≤ i) → f12 i = f11 i := fun i h1 => by rw [e12]; exact wu_n (by omega)
  show PW _ _ _ _ _ _ (55, [(0, .ref 164), (1, .ref 153), (2, .ref 155), (3, .ref 77)], [], (169, wu f11 164 (.inr (4, [.ref 153, .ref 155, .ref 165, .ref 166, .ref 167, .ref 168, .ref 77, .int 0, .int 0, .int 0, .int 0, .int 0, .int 0, .int (-1)]))))
  rw [← e12]
  exact P_vret d_Reader_init_55 rfl (le_b rfl) (le_b rfl) ⟨rfl, f12, rfl, fun i h1 h2 => by rw [o12 i (by omega), o11 i (by omega), o10 i (by omega), o9 i (by omega), o8 i (by omega), o7 i (by omega), o6 i (by omega), o5 i (by omega), o4 i (by omega), o3 i (by omega), o2 i (by omega), o1 i (by omega)], h165, h166, h167, h168, h164⟩
set_option maxRecDepth 20000 in
theorem c_Past_init {G : pG} (f : Nat → pE) (h169 : f 169 = .inr (5, [.null, .null, .null, .int 0, .int 0])) : PM G M_Past_init 1 19 432 [.ref 169] (170, f) (fun r w' => r = none ∧ ∃ g : Nat → pE, w' = (189, g) ∧ (∀ i, i ≠ 169 → (i < 170 ∨ 189 ≤ i) → g i = f i) ∧ (g 170 = .inl (0, 16, .inl (fun _ => 0))) ∧ (g 171 = .inl (0, 16, .inl (fun _ => 0))) ∧ (g 172 = .inl (3, 16, refs (rows_of 172 16))) ∧ (∀ i, i < 16 → g (173 + i) = .inl (1, 24, .inr (.inl (fun _ => 0)))) ∧ (g 169 = .inr (5, [.ref 170, .ref 171, .ref 172, .int 0, .int 0]))) := by
  refine PM_of pn_Past_init (le_b rfl) ?_
  show PW _ _ _ _ _ _ (0, [(0, .ref 169)], [], (170, f))
  refine P_aload_n d_Past_init_0 rfl ?_
  refine P_objInit d_Past_init_1 L_Past_3 im_objInit cd_objInit ⟨le_b rfl, le_b rfl⟩ (le_b rfl) ?_
  refine P_aload_n d_Past_init_4 rfl ?_
  refine P_bipush (v := 16) d_Past_init_5 (by decide) ?_
  refine P_newarr (t := 0) (N := 16) (a0 := (16, .inl (fun _ => 0))) d_Past_init_7 rfl (by decide) ac_int ⟨by decide, by decide⟩ (le_b rfl) ⟨rfl, fun _ _ => rfl⟩ (le_b rfl) (le_b rfl) (le_b rfl) ?_
  obtain ⟨f1, e1⟩ : ∃ f1 : Nat → pE, f1 = wu f 170 (.inl (0, 16, .inl (fun _ => 0))) := ⟨_, rfl⟩
  replace h169 : f1 169 = .inr (5, [.null, .null, .null, .int 0, .int 0]) := by rw [e1]; exact (wu_n (by decide)).trans h169
  have h170 : f1 170 = .inl (0, 16, .inl (fun _ => 0)) := by rw [e1]; exact wu_s _ _ _
  have o1 : ∀ i, (i < 170 ∨ 171 ≤ i) → f1 i = f i := fun i h1 => by rw [e1]; exact wu_n (by omega)
  show PW _ _ _ _ _ _ (9, [(0, .ref 169)], [.ref 170, .ref 169], (171, wu f 170 (.inl (0, 16, .inl (fun _ => 0)))))
  rw [← e1]
  refine P_putF (i := 0) d_Past_init_9 ok_Past (by decide) rfl L_Past_9 rfl rfl h169 (fun _ => rfl) (fun _ => rfl) ?_
  obtain ⟨f2, e2⟩ : ∃ f2 : Nat → pE, f2 = wu f1 169 (.inr (5, [.ref 170, .null, .null, .int 0, .int 0])) := ⟨_, rfl⟩
  replace h170 : f2 170 = .inl (0, 16, .inl (fun _ => 0)) := by rw [e2]; exact (wu_n (by decide)).trans h170
  replace h169 : f2 169 = .inr (5, [.ref 170, .null, .null, .int 0, .int 0]) := by rw [e2]; exact wu_s _ _ _
  have o2 : ∀ i, (i < 169 ∨ 170 ≤ i) → f2 i = f1 i := fun i h1 => by rw [e2]; exact wu_n (by omega)
  show PW _ _ _ _ _ _ (12, [(0, .ref 169)], [], (171, wu f1 169 (.inr (5, [.ref 170, .null, .null, .int 0, .int 0]))))
  rw [← e2]
  refine P_aload_n d_Past_init_12 rfl ?_
  refine P_bipush (v := 16) d_Past_init_13 (by decide) ?_
  refine P_newarr (t := 0) (N := 16) (a0 := (16, .inl (fun _ => 0))) d_Past_init_15 rfl (by decide) ac_int ⟨by decide, by decide⟩ (le_b rfl) ⟨rfl, fun _ _ => rfl⟩ (le_b rfl) (le_b rfl) (le_b rfl) ?_
  obtain ⟨f3, e3⟩ : ∃ f3 : Nat → pE, f3 = wu f2 171 (.inl (0, 16, .inl (fun _ => 0))) := ⟨_, rfl⟩
  replace h170 : f3 170 = .inl (0, 16, .inl (fun _ => 0)) := by rw [e3]; exact (wu_n (by decide)).trans h170
  replace h169 : f3 169 = .inr (5, [.ref 170, .null, .null, .int 0, .int 0]) := by rw [e3]; exact (wu_n (by decide)).trans h169
  have h171 : f3 171 = .inl (0, 16, .inl (fun _ => 0)) := by rw [e3]; exact wu_s _ _ _
  have o3 : ∀ i, (i < 171 ∨ 172 ≤ i) → f3 i = f2 i := fun i h1 => by rw [e3]; exact wu_n (by omega)
  show PW _ _ _ _ _ _ (17, [(0, .ref 169)], [.ref 171, .ref 169], (172, wu f2 171 (.inl (0, 16, .inl (fun _ => 0)))))
  rw [← e3]
  refine P_putF (i := 1) d_Past_init_17 ok_Past (by decide) rfl L_Past_15 rfl rfl h169 (fun _ => rfl) (fun _ => rfl) ?_
  obtain ⟨f4, e4⟩ : ∃ f4 : Nat → pE, f4 = wu f3 169 (.inr (5, [.ref 170, .ref 171, .null, .int 0, .int 0])) := ⟨_, rfl⟩
  replace h170 : f4 170 = .inl (0, 16, .inl (fun _ => 0)) := by rw [e4]; exact (wu_n (by decide)).trans h170
  replace h171 : f4 171 = .inl (0, 16, .inl (fun _ => 0)) := by rw [e4]; exact (wu_n (by decide)).trans h171
  replace h169 : f4 169 = .inr (5, [.ref 170, .ref 171, .null, .int 0, .int 0]) := by rw [e4]; exact wu_s _ _ _
  have o4 : ∀ i, (i < 169 ∨ 170 ≤ i) → f4 i = f3 i := fun i h1 => by rw [e4]; exact wu_n (by omega)
  show PW _ _ _ _ _ _ (20, [(0, .ref 169)], [], (172, wu f3 169 (.inr (5, [.ref 170, .ref 171, .null, .int 0, .int 0]))))
  rw [← e4]
  refine P_aload_n d_Past_init_20 rfl ?_
  refine P_bipush (v := 16) d_Past_init_21 (by decide) ?_
  refine P_bipush (v := 24) d_Past_init_23 (by decide) ?_
  refine P_mnew (N := 16) (K := 24) d_Past_init_25 L_Past_18 ac_long ⟨by decide, by decide⟩ ⟨by decide, by decide⟩ (le_b rfl) (le_b rfl) (le_b rfl) (le_b rfl) (le_b rfl) ?_
  obtain ⟨f5, e5⟩ : ∃ f5 : Nat → pE, f5 = wr (wu f4 172 (.inl (3, 16, refs (rows_of 172 16)))) 173 189 (.inl (1, 24, .inr (.inl (fun _ => 0)))) := ⟨_, rfl⟩
  replace h170 : f5 170 = .inl (0, 16, .inl (fun _ => 0)) := by rw [e5]; exact ((wr_out (by decide)).trans (wu_n (by decide))).trans h170
  replace h171 : f5 171 = .inl (0, 16, .inl (fun _ => 0)) := by rw [e5]; exact ((wr_out (by decide)).trans (wu_n (by decide))).trans h171
  replace h169 : f5 169 = .inr (5, [.ref 170, .ref 171, .null, .int 0, .int 0]) := by rw [e5]; exact ((wr_out (by decide)).trans (wu_n (by decide))).trans h169
  have h172 : f5 172 = .inl (3, 16, refs (rows_of 172 16)) := by rw [e5]; exact (wr_out (by decide)).trans (wu_s _ _ _)
  have h173 : ∀ i, i < 16 → f5 (173 + i) = .inl (1, 24, .inr (.inl (fun _ => 0))) := by rw [e5]; exact fun i hi => wr_in (by omega) (by omega)
  have o5 : ∀ i, (i < 172 ∨ 189 ≤ i) → f5 i = f4 i := fun i h1 => by rw [e5]; exact (wr_out (by omega)).trans (wu_n (by omega))
  show PW _ _ _ _ _ _ (29, [(0, .ref 169)], [.ref 172, .ref 169], (189, wr (wu f4 172 (.inl (3, 16, refs (rows_of 172 16)))) 173 189 (.inl (1, 24, .inr (.inl (fun _ => 0))))))
  rw [← e5]
  refine P_putF (i := 2) d_Past_init_29 ok_Past (by decide) rfl L_Past_20 rfl rfl h169 (fun _ => rfl) (fun _ => rfl) ?_
  obtain ⟨f6, e6⟩ : ∃ f6 : Nat → pE, f6 = wu f5 169 (.inr (5, [.ref 170, .ref 171, .ref 172, .int 0, .int 0])) := ⟨_, rfl⟩
  replace h170 : f6 170 = .inl (0, 16, .inl (fun _ => 0)) := by rw [e6]; exact (wu_n (by decide)).trans h170
  replace h171 : f6 171 = .inl (0, 16, .inl (fun _ => 0)) := by rw [e6]; exact (wu_n (by decide)).trans h171
  replace h172 : f6 172 = .inl (3, 16, refs (rows_of 172 16)) := by rw [e6]; exact (wu_n (by decide)).trans h172
  replace h173 : ∀ i, i < 16 → f6 (173 + i) = .inl (1, 24, .inr (.inl (fun _ => 0))) := fun i hi => by rw [e6]; exact (wu_n (by omega)).trans (h173 i hi)
  replace h169 : f6 169 = .inr (5, [.ref 170, .ref 171, .ref 172, .int 0, .int 0]) := by rw [e6]; exact wu_s _ _ _
  have o6 : ∀ i, (i < 169 ∨ 170 ≤ i) → f6 i = f5 i := fun i h1 => by rw [e6]; exact wu_n (by omega)
  show PW _ _ _ _ _ _ (32, [(0, .ref 169)], [], (189, wu f5 169 (.inr (5, [.ref 170, .ref 171, .ref 172, .int 0, .int 0]))))
  rw [← e6]
  exact P_vret d_Past_init_32 rfl (le_b rfl) (le_b rfl) ⟨rfl, f6, rfl, fun i h1 h2 => by rw [o6 i (by omega), o5 i (by omega), o4 i (by omega), o3 i (by omega), o2 i (by omega), o1 i (by omega)], h170, h171, h172, h173, h169⟩
set_option maxRecDepth 20000 in
theorem c_Pairs_init {G : pG} (f : Nat → pE) (h189 : f 189 = .inr (6, [.null, .int 0, .int 0])) : PM G M_Pairs_init 1 257 2560 [.ref 189] (190, f) (fun r w' => r = none ∧ ∃ g : Nat → pE, w' = (447, g) ∧ (∀ i, i ≠ 189 → (i < 190 ∨ 447 ≤ i) → g i = f i) ∧ (g 190 = .inl (3, 256, refs (rows_of 190 256))) ∧ (∀ i, i < 256 → g (191 + i) = .inl (1, 9, .inr (.inl (fun _ => 0)))) ∧ (g 189 = .inr (6, [.ref 190, .int 0, .int 0]))) := by
  refine PM_of pn_Pairs_init (le_b rfl) ?_
  show PW _ _ _ _ _ _ (0, [(0, .ref 189)], [], (190, f))
  refine P_aload_n d_Pairs_init_0 rfl ?_
  refine P_objInit d_Pairs_init_1 L_Pairs_3 im_objInit cd_objInit ⟨le_b rfl, le_b rfl⟩ (le_b rfl) ?_
  refine P_aload_n d_Pairs_init_4 rfl ?_
  refine P_sipush (v := 256) d_Pairs_init_5 (by decide) ?_
  refine P_bipush (v := 9) d_Pairs_init_8 (by decide) ?_
  refine P_mnew (N := 256) (K := 9) d_Pairs_init_10 L_Pairs_9 ac_long ⟨by decide, by decide⟩ ⟨by decide, by decide⟩ (le_b rfl) (le_b rfl) (le_b rfl) (le_b rfl) (le_b rfl) ?_
  obtain ⟨f1, e1⟩ : ∃ f1 : Nat → pE, f1 = wr (wu f 190 (.inl (3, 256, refs (rows_of 190 256)))) 191 447 (.inl (1, 9, .inr (.inl (fun _ => 0)))) := ⟨_, rfl⟩
  replace h189 : f1 189 = .inr (6, [.null, .int 0, .int 0]) := by rw [e1]; exact ((wr_out (by decide)).trans (wu_n (by decide))).trans h189
  have h190 : f1 190 = .inl (3, 256, refs (rows_of 190 256)) := by rw [e1]; exact (wr_out (by decide)).trans (wu_s _ _ _)
  have h191 : ∀ i, i < 256 → f1 (191 + i) = .inl (1, 9, .inr (.inl (fun _ => 0))) := by rw [e1]; exact fun i hi => wr_in (by omega) (by omega)
  have o1 : ∀ i, (i < 190 ∨ 447 ≤ i) → f1 i = f i := fun i h1 => by rw [e1]; exact (wr_out (by omega)).trans (wu_n (by omega))
  show PW _ _ _ _ _ _ (14, [(0, .ref 189)], [.ref 190, .ref 189], (447, wr (wu f 190 (.inl (3, 256, refs (rows_of 190 256)))) 191 447 (.inl (1, 9, .inr (.inl (fun _ => 0))))))
  rw [← e1]
  refine P_putF (i := 0) d_Pairs_init_14 ok_Pairs (by decide) rfl L_Pairs_11 rfl rfl h189 (fun _ => rfl) (fun _ => rfl) ?_
  obtain ⟨f2, e2⟩ : ∃ f2 : Nat → pE, f2 = wu f1 189 (.inr (6, [.ref 190, .int 0, .int 0])) := ⟨_, rfl⟩
  replace h190 : f2 190 = .inl (3, 256, refs (rows_of 190 256)) := by rw [e2]; exact (wu_n (by decide)).trans h190
  replace h191 : ∀ i, i < 256 → f2 (191 + i) = .inl (1, 9, .inr (.inl (fun _ => 0))) := fun i hi => by rw [e2]; exact (wu_n (by omega)).trans (h191 i hi)
  replace h189 : f2 189 = .inr (6, [.ref 190, .int 0, .int 0]) := by rw [e2]; exact wu_s _ _ _
  have o2 : ∀ i, (i < 189 ∨ 190 ≤ i) → f2 i = f1 i := fun i h1 => by rw [e2]; exact wu_n (by omega)
  show PW _ _ _ _ _ _ (17, [(0, .ref 189)], [], (447, wu f1 189 (.inr (6, [.ref 190, .int 0, .int 0]))))
  rw [← e2]
  exact P_vret d_Pairs_init_17 rfl (le_b rfl) (le_b rfl) ⟨rfl, f2, rfl, fun i h1 h2 => by rw [o2 i (by omega), o1 i (by omega)], h190, h191, h189⟩
set_option maxRecDepth 20000 in
theorem c_ASB_init {G : pG} (f : Nat → pE) (h447 : f 447 = .inr (7, [.null, .int 0, .int 0, .int 0])) : PM G M_ASB_init 1 1 16 [.ref 447, .int 16] (448, f) (fun r w' => r = none ∧ ∃ g : Nat → pE, w' = (449, g) ∧ (∀ i, i ≠ 447 → (i < 448 ∨ 449 ≤ i) → g i = f i) ∧ (g 448 = .inl (2, 16, .inl (fun _ => 0))) ∧ (g 447 = .inr (7, [.ref 448, .int 0, .int 0, .int 0]))) := by
  refine PM_of pn_ASB_init (le_b rfl) ?_
  show PW _ _ _ _ _ _ (0, [(0, .ref 447), (1, .int 16)], [], (448, f))
  refine P_aload_n d_ASB_init_0 rfl ?_
  refine P_objInit d_ASB_init_1 L_ASB_3 im_objInit cd_objInit ⟨le_b rfl, le_b rfl⟩ (le_b rfl) ?_
  refine P_getv ("java/lang/String", "COMPACT_STRINGS", "Z", .int 1) (List.mem_of_getElem? (i := 0) rfl) (fun _ => rfl) d_ASB_init_4 L_ASB_18 ?_
  refine P_if_eq 25 d_ASB_init_7 (by decide) (fun h => absurd h (by decide)) (fun _ => ?_)
  refine P_aload_n d_ASB_init_10 rfl ?_
  refine P_iload_n d_ASB_init_11 rfl ?_
  refine P_newarr (t := 2) (N := 16) (a0 := (16, .inl (fun _ => 0))) d_ASB_init_12 rfl (by decide) ac_byte ⟨by decide, by decide⟩ (le_b rfl) ⟨rfl, fun _ _ => rfl⟩ (le_b rfl) (le_b rfl) (le_b rfl) ?_
  obtain ⟨f1, e1⟩ : ∃ f1 : Nat → pE, f1 = wu f 448 (.inl (2, 16, .inl (fun _ => 0))) := ⟨_, rfl⟩
  replace h447 : f1 447 = .inr (7, [.null, .int 0, .int 0, .int 0]) := by rw [e1]; exact (wu_n (by decide)).trans h447
  have h448 : f1 448 = .inl (2, 16, .inl (fun _ => 0)) := by rw [e1]; exact wu_s _ _ _
  have o1 : ∀ i, (i < 448 ∨ 449 ≤ i) → f1 i = f i := fun i h1 => by rw [e1]; exact wu_n (by omega)
  show PW _ _ _ _ _ _ (14, [(0, .ref 447), (1, .int 16)], [.ref 448, .ref 447], (449, wu f 448 (.inl (2, 16, .inl (fun _ => 0)))))
  rw [← e1]
  refine P_put (i := 0) d_ASB_init_14 ok_SB (by decide) rfl L_ASB_15 h447 (fun _ => rfl) (fun _ => rfl) ?_
  obtain ⟨f2, e2⟩ : ∃ f2 : Nat → pE, f2 = wu f1 447 (.inr (7, [.ref 448, .int 0, .int 0, .int 0])) := ⟨_, rfl⟩
  replace h448 : f2 448 = .inl (2, 16, .inl (fun _ => 0)) := by rw [e2]; exact (wu_n (by decide)).trans h448
  replace h447 : f2 447 = .inr (7, [.ref 448, .int 0, .int 0, .int 0]) := by rw [e2]; exact wu_s _ _ _
  have o2 : ∀ i, (i < 447 ∨ 448 ≤ i) → f2 i = f1 i := fun i h1 => by rw [e2]; exact wu_n (by omega)
  show PW _ _ _ _ _ _ (17, [(0, .ref 447), (1, .int 16)], [], (449, wu f1 447 (.inr (7, [.ref 448, .int 0, .int 0, .int 0]))))
  rw [← e2]
  refine P_aload_n d_ASB_init_17 rfl ?_
  refine P_iconst (v := 0) d_ASB_init_18 (by decide) ?_
  refine P_putS (i := 1) d_ASB_init_19 ok_SB (by decide) rfl L_ASB_22 h447 (fun _ => rfl) (fun _ => rfl) rfl ?_
  refine P_goto 38 d_ASB_init_22 (by decide) ?_
  exact P_vret d_ASB_init_38 rfl (le_b rfl) (le_b rfl) ⟨rfl, f2, rfl, fun i h1 h2 => by rw [o2 i (by omega), o1 i (by omega)], h448, h447⟩
set_option maxRecDepth 20000 in
theorem c_SB_init {G : pG} (f : Nat → pE) (h447 : f 447 = .inr (7, [.null, .int 0, .int 0, .int 0])) : PM G M_SB_init 2 1 16 [.ref 447] (448, f) (fun r w' => r = none ∧ ∃ g : Nat → pE, w' = (449, g) ∧ (∀ i, i ≠ 447 → (i < 448 ∨ 449 ≤ i) → g i = f i) ∧ (g 448 = .inl (2, 16, .inl (fun _ => 0))) ∧ (g 447 = .inr (7, [.ref 448, .int 0, .int 0, .int 0]))) := by
  refine PM_of pn_SB_init (le_b rfl) ?_
  show PW _ _ _ _ _ _ (0, [(0, .ref 447)], [], (448, f))
  refine P_aload_n d_SB_init_0 rfl ?_
  refine P_bipush (v := 16) d_SB_init_1 (by decide) ?_
  refine P_callI (M := M_SB_init) (pc := 3) (as := [.int 16]) (b := 447) d_SB_init_3 co_ASB_init rfl rfl L_SB_1 im_ASB_init (c_ASB_init _ h447) rfl ⟨le_b rfl, le_b rfl⟩ ⟨le_b rfl, le_b rfl⟩ (le_b rfl) ?_ _ rfl
  clear h447
  rintro _ _ ⟨rfl, f1, rfl, o1, h448, h447⟩
  show PW _ _ _ _ _ _ (6, [(0, .ref 447)], [], (449, f1))
  exact P_vret d_SB_init_6 rfl (le_b rfl) (le_b rfl) ⟨rfl, f1, rfl, fun i h1 h2 => by rw [o1 i (by omega) (by omega)], h448, h447⟩
set_option maxRecDepth 20000 in
theorem c_CM_init {G : pG} (f : Nat → pE) (h0 : f 0 = .inr (8, [.null, .null, .null, .null, .null, .null, .null, .null, .null, .null, .null, .null, .null, .null, .null, .null, .null, .null])) : PM G M_CM_init 3 466 4765 [.ref 0] (1, f) (fun r w' => r = none ∧ ∃ g : Nat → pE, w' = (467, g) ∧ (∀ i, i ≠ 0 → (i < 1 ∨ 467 ≤ i) → g i = f i) ∧ (PlaneAt g 1 2) ∧ (PlaneAt g 77 78) ∧ (g 154 = .inl (0, 900, .inl (fun _ => 0))) ∧ (g 153 = .inr (2, [.ref 154, .int 0])) ∧ (g 156 = .inl (1, 9, .inr (.inl (fun _ => 0)))) ∧ (g 157 = .inl (1, 9, .inr (.inl (fun _ => 0)))) ∧ (QuadAt g 158 159) ∧ (g 155 = .inr (3, [.ref 156, .ref 157, .ref 158])) ∧ (g 165 = .inl (0, 8, .inl (fun _ => 0))) ∧ (g 166 = .inl (0, 8, .inl (fun _ => 0))) ∧ (g 167 = .inl (1, 3, .inr (.inl (fun _ => 0)))) ∧ (g 168 = .inl (1, 9, .inr (.inl (fun _ => 0)))) ∧ (g 164 = .inr (4, [.ref 153, .ref 155, .ref 165, .ref 166, .ref 167, .ref 168, .ref 77, .int 0, .int 0, .int 0, .int 0, .int 0, .int 0, .int (-1)])) ∧ (g 170 = .inl (0, 16, .inl (fun _ => 0))) ∧ (g 171 = .inl (0, 16, .inl (fun _ => 0))) ∧ (g 172 = .inl (3, 16, refs (rows_of 172 16))) ∧ (∀ i, i < 16 → g (173 + i) = .inl (1, 24, .inr (.inl (fun _ => 0)))) ∧ (g 169 = .inr (5, [.ref 170, .ref 171, .ref 172, .int 0, .int 0])) ∧ (g 190 = .inl (3, 256, refs (rows_of 190 256))) ∧ (∀ i, i < 256 → g (191 + i) = .inl (1, 9, .inr (.inl (fun _ => 0)))) ∧ (g 189 = .inr (6, [.ref 190, .int 0, .int 0])) ∧ (g 448 = .inl (2, 16, .inl (fun _ => 0))) ∧ (g 447 = .inr (7, [.ref 448, .int 0, .int 0, .int 0])) ∧ (g 449 = .inl (1, 9, .inr (.inl (fun _ => 0)))) ∧ (g 450 = .inl (1, 9, .inr (.inl (fun _ => 0)))) ∧ (g 451 = .inl (1, 9, .inr (.inl (fun _ => 0)))) ∧ (g 452 = .inl (1, 3, .inr (.inl (fun _ => 0)))) ∧ (g 453 = .inl (1, 3, .inr (.inl (fun _ => 0)))) ∧ (g 454 = .inl (1, 3, .inr (.inl (fun _ => 0)))) ∧ (g 455 = .inl (1, 3, .inr (.inl (fun _ => 0)))) ∧ (g 456 = .inl (1, 3, .inr (.inl (fun _ => 0)))) ∧ (g 457 = .inl (3, 8, refs (rows_of 457 8))) ∧ (∀ i, i < 8 → g (458 + i) = .inl (1, 3, .inr (.inl (fun _ => 0)))) ∧ (g 466 = .inl (0, 3, .inl (fun _ => 0))) ∧ (g 0 = .inr (8, [.ref 1, .ref 77, .ref 153, .ref 164, .ref 169, .ref 155, .ref 189, .ref 447, .ref 449, .ref 450, .ref 451, .ref 452, .ref 453, .ref 454, .ref 455, .ref 456, .ref 457, .ref 466]))) := by
  refine PM_of pn_CM_init (le_b rfl) ?_
  show PW _ _ _ _ _ _ (0, [(0, .ref 0)], [], (1, f))
  refine P_aload_n d_CM_init_0 rfl ?_
  refine P_objInit d_CM_init_1 L_CM_3 im_objInit cd_objInit ⟨le_b rfl, le_b rfl⟩ (le_b rfl) ?_
  refine P_aload_n d_CM_init_4 rfl ?_
  refine P_new (fs := [.null, .null, .null, .int 0, .int 0, .int 0, .int 0]) d_CM_init_5 ok_Plane L_CM_9 in_Plane.1 in_Plane.2 rfl (fun j hj => by rcases (show j = 0 ∨ j = 1 ∨ j = 2 ∨ j = 3 ∨ j = 4 ∨ j = 5 ∨ j = 6 by omega) with rfl | rfl | rfl | rfl | rfl | rfl | rfl <;> rfl) (fun _ => rfl) (le_b rfl) (le_b rfl) (le_b rfl) ?_
  obtain ⟨f1, e1⟩ : ∃ f1 : Nat → pE, f1 = wu f 1 (.inr (1, [.null, .null, .null, .int 0, .int 0, .int 0, .int 0])) := ⟨_, rfl⟩
  replace h0 : f1 0 = .inr (8, [.null, .null, .null, .null, .null, .null, .null, .null, .null, .null, .null, .null, .null, .null, .null, .null, .null, .null]) := by rw [e1]; exact (wu_n (by decide)).trans h0
  have h1 : f1 1 = .inr (1, [.null, .null, .null, .int 0, .int 0, .int 0, .int 0]) := by rw [e1]; exact wu_s _ _ _
  have o1 : ∀ i, (i < 1 ∨ 2 ≤ i) → f1 i = f i := fun i h1 => by rw [e1]; exact wu_n (by omega)
  show PW _ _ _ _ _ _ (8, [(0, .ref 0)], [.ref 1, .ref 0], (2, wu f 1 (.inr (1, [.null, .null, .null, .int 0, .int 0, .int 0, .int 0]))))
  rw [← e1]
  refine P_dup d_CM_init_8 rfl ?_
  refine P_callI (M := M_CM_init) (pc := 9) (as := []) (b := 1) d_CM_init_9 co_Plane_init rfl rfl L_CM_11 im_Plane_init (c_Plane_init 1 2 _ h1 (le_b rfl) (by decide)) rfl ⟨le_b rfl, le_b rfl⟩ ⟨le_b rfl, le_b rfl⟩ (le_b rfl) ?_ _ rfl
  clear h1
  rintro _ _ ⟨rfl, f2, rfl, o2, p1⟩
  replace h0 : f2 0 = .inr (8, [.null, .null, .null, .null, .null, .null, .null, .null, .null, .null, .null, .null, .null, .null, .null, .null, .null, .null]) := (o2 _ (by decide) (by decide)).trans h0
  show PW _ _ _ _ _ _ (12, [(0, .ref 0)], [.ref 1, .ref 0], (77, f2))
  refine P_put (i := 0) d_CM_init_12 ok_CM (by decide) rfl L_CM_12 h0 (fun _ => rfl) (fun _ => rfl) ?_
  obtain ⟨f3, e3⟩ : ∃ f3 : Nat → pE, f3 = wu f2 0 (.inr (8, [.ref 1, .null, .null, .null, .null, .null, .null, .null, .null, .null, .null, .null, .null, .null, .null, .null, .null, .null])) := ⟨_, rfl⟩
  replace p1 : PlaneAt f3 1 2 := p1.kept (by rw [e3]; exact wu_n (by decide)) (fun i h1 h2 => by rw [e3]; exact wu_n (by omega))
  replace h0 : f3 0 = .inr (8, [.ref 1, .null, .null, .null, .null, .null, .null, .null, .null, .null, .null, .null, .null, .null, .null, .null, .null, .null]) := by rw [e3]; exact wu_s _ _ _
  have o3 : ∀ i, (i < 0 ∨ 1 ≤ i) → f3 i = f2 i := fun i h1 => by rw [e3]; exact wu_n (by omega)
  show PW _ _ _ _ _ _ (15, [(0, .ref 0)], [], (77, wu f2 0 (.inr (8, [.ref 1, .null, .null, .null, .null, .null, .null, .null, .null, .null, .null, .null, .null, .null, .null, .null, .null, .null]))))
  rw [← e3]
  refine P_aload_n d_CM_init_15 rfl ?_
  refine P_new (fs := [.null, .null, .null, .int 0, .int 0, .int 0, .int 0]) d_CM_init_16 ok_Plane L_CM_9 in_Plane.1 in_Plane.2 rfl (fun j hj => by rcases (show j = 0 ∨ j = 1 ∨ j = 2 ∨ j = 3 ∨ j = 4 ∨ j = 5 ∨ j = 6 by omega) with rfl | rfl | rfl | rfl | rfl | rfl | rfl <;> rfl) (fun _ => rfl) (le_b rfl) (le_b rfl) (le_b rfl) ?_
  obtain ⟨f4, e4⟩ : ∃ f4 : Nat → pE, f4 = wu f3 77 (.inr (1, [.null, .null, .null, .int 0, .int 0, .int 0, .int 0])) := ⟨_, rfl⟩
  replace p1 : PlaneAt f4 1 2 := p1.kept (by rw [e4]; exact wu_n (by decide)) (fun i h1 h2 => by rw [e4]; exact wu_n (by omega))
  replace h0 : f4 0 = .inr (8, [.ref 1, .null, .null, .null, .null, .null, .null, .null, .null, .null, .null, .null, .null, .null, .null, .null, .null, .null]) := by rw [e4]; exact (wu_n (by decide)).trans h0
  have h77 : f4 77 = .inr (1, [.null, .null, .null, .int 0, .int 0, .int 0, .int 0]) := by rw [e4]; exact wu_s _ _ _
  have o4 : ∀ i, (i < 77 ∨ 78 ≤ i) → f4 i = f3 i := fun i h1 => by rw [e4]; exact wu_n (by omega)
  show PW _ _ _ _ _ _ (19, [(0, .ref 0)], [.ref 77, .ref 0], (78, wu f3 77 (.inr (1, [.null, .null, .null, .int 0, .int 0, .int 0, .int 0]))))
  rw [← e4]
  refine P_dup d_CM_init_19 rfl ?_
  refine P_callI (M := M_CM_init) (pc := 20) (as := []) (b := 77) d_CM_init_20 co_Plane_init rfl rfl L_CM_11 im_Plane_init (c_Plane_init 77 78 _ h77 (le_b rfl) (by decide)) rfl ⟨le_b rfl, le_b rfl⟩ ⟨le_b rfl, le_b rfl⟩ (le_b rfl) ?_ _ rfl
  clear h77
  rintro _ _ ⟨rfl, f5, rfl, o5, p77⟩
  replace p1 : PlaneAt f5 1 2 := p1.kept (o5 _ (by decide) (by decide)) (fun i h1 h2 => o5 i (by omega) (by omega))
  replace h0 : f5 0 = .inr (8, [.ref 1, .null, .null, .null, .null, .null, .null, .null, .null, .null, .null, .null, .null, .null, .null, .null, .null, .null]) := (o5 _ (by decide) (by decide)).trans h0
  show PW _ _ _ _ _ _ (23, [(0, .ref 0)], [.ref 77, .ref 0], (153, f5))
  refine P_put (i := 1) d_CM_init_23 ok_CM (by decide) rfl L_CM_18 h0 (fun _ => rfl) (fun _ => rfl) ?_
  obtain ⟨f6, e6⟩ : ∃ f6 : Nat → pE, f6 = wu f5 0 (.inr (8, [.ref 1, .ref 77, .null, .null, .null, .null, .null, .null, .null, .null, .null, .null, .null, .null, .null, .null, .null, .null])) := ⟨_, rfl⟩
  replace p1 : PlaneAt f6 1 2 := p1.kept (by rw [e6]; exact wu_n (by decide)) (fun i h1 h2 => by rw [e6]; exact wu_n (by omega))
  replace p77 : PlaneAt f6 77 78 := p77.kept (by rw [e6]; exact wu_n (by decide)) (fun i h1 h2 => by rw [e6]; exact wu_n (by omega))
  replace h0 : f6 0 = .inr (8, [.ref 1, .ref 77, .null, .null, .null, .null, .null, .null, .null, .null, .null, .null, .null, .null, .null, .null, .null, .null]) := by rw [e6]; exact wu_s _ _ _
  have o6 : ∀ i, (i < 0 ∨ 1 ≤ i) → f6 i = f5 i := fun i h1 => by rw [e6]; exact wu_n (by omega)
  show PW _ _ _ _ _ _ (26, [(0, .ref 0)], [], (153, wu f5 0 (.inr (8, [.ref 1, .ref 77, .null, .null, .null, .null, .null, .null, .null, .null, .null, .null, .null, .null, .null, .null, .null, .null]))))
  rw [← e6]
  refine P_aload_n d_CM_init_26 rfl ?_
  refine P_new (fs := [.null, .int 0]) d_CM_init_27 ok_Tape L_CM_21 in_Tape.1 in_Tape.2 rfl (fun j hj => by rcases (show j = 0 ∨ j = 1 by omega) with rfl | rfl <;> rfl) (fun _ => rfl) (le_b rfl) (le_b rfl) (le_b rfl) ?_
  obtain ⟨f7, e7⟩ : ∃ f7 : Nat → pE, f7 = wu f6 153 (.inr (2, [.null, .int 0])) := ⟨_, rfl⟩
  replace p1 : PlaneAt f7 1 2 := p1.kept (by rw [e7]; exact wu_n (by decide)) (fun i h1 h2 => by rw [e7]; exact wu_n (by omega))
  replace p77 : PlaneAt f7 77 78 := p77.kept (by rw [e7]; exact wu_n (by decide)) (fun i h1 h2 => by rw [e7]; exact wu_n (by omega))
  replace h0 : f7 0 = .inr (8, [.ref 1, .ref 77, .null, .null, .null, .null, .null, .null, .null, .null, .null, .null, .null, .null, .null, .null, .null, .null]) := by rw [e7]; exact (wu_n (by decide)).trans h0
  have h153 : f7 153 = .inr (2, [.null, .int 0]) := by rw [e7]; exact wu_s _ _ _
  have o7 : ∀ i, (i < 153 ∨ 154 ≤ i) → f7 i = f6 i := fun i h1 => by rw [e7]; exact wu_n (by omega)
  show PW _ _ _ _ _ _ (30, [(0, .ref 0)], [.ref 153, .ref 0], (154, wu f6 153 (.inr (2, [.null, .int 0]))))
  rw [← e7]
  refine P_dup d_CM_init_30 rfl ?_
  refine P_callIN (M := M_CM_init) (pc := 31) (as := []) (b := 153) d_CM_init_31 co_Tape_init rfl rfl L_CM_23 im_Tape_init (c_Tape_init _ h153) rfl ⟨le_b rfl, le_b rfl⟩ ⟨le_b rfl, le_b rfl⟩ (le_b rfl) ?_ _ rfl
  clear h153
  rintro _ _ ⟨rfl, f8, rfl, o8, h154, h153⟩
  replace p1 : PlaneAt f8 1 2 := p1.kept (o8 _ (by decide) (by decide)) (fun i h1 h2 => o8 i (by omega) (by omega))
  replace p77 : PlaneAt f8 77 78 := p77.kept (o8 _ (by decide) (by decide)) (fun i h1 h2 => o8 i (by omega) (by omega))
  replace h0 : f8 0 = .inr (8, [.ref 1, .ref 77, .null, .null, .null, .null, .null, .null, .null, .null, .null, .null, .null, .null, .null, .null, .null, .null]) := (o8 _ (by decide) (by decide)).trans h0
  show PW _ _ _ _ _ _ (34, [(0, .ref 0)], [.ref 153, .ref 0], (155, f8))
  refine P_putF (i := 2) d_CM_init_34 ok_CM (by decide) rfl L_CM_24 rfl rfl h0 (fun _ => rfl) (fun _ => rfl) ?_
  obtain ⟨f9, e9⟩ : ∃ f9 : Nat → pE, f9 = wu f8 0 (.inr (8, [.ref 1, .ref 77, .ref 153, .null, .null, .null, .null, .null, .null, .null, .null, .null, .null, .null, .null, .null, .null, .null])) := ⟨_, rfl⟩
  replace p1 : PlaneAt f9 1 2 := p1.kept (by rw [e9]; exact wu_n (by decide)) (fun i h1 h2 => by rw [e9]; exact wu_n (by omega))
  replace p77 : PlaneAt f9 77 78 := p77.kept (by rw [e9]; exact wu_n (by decide)) (fun i h1 h2 => by rw [e9]; exact wu_n (by omega))
  replace h154 : f9 154 = .inl (0, 900, .inl (fun _ => 0)) := by rw [e9]; exact (wu_n (by decide)).trans h154
  replace h153 : f9 153 = .inr (2, [.ref 154, .int 0]) := by rw [e9]; exact (wu_n (by decide)).trans h153
  replace h0 : f9 0 = .inr (8, [.ref 1, .ref 77, .ref 153, .null, .null, .null, .null, .null, .null, .null, .null, .null, .null, .null, .null, .null, .null, .null]) := by rw [e9]; exact wu_s _ _ _
  have o9 : ∀ i, (i < 0 ∨ 1 ≤ i) → f9 i = f8 i := fun i h1 => by rw [e9]; exact wu_n (by omega)
  show PW _ _ _ _ _ _ (37, [(0, .ref 0)], [], (155, wu f8 0 (.inr (8, [.ref 1, .ref 77, .ref 153, .null, .null, .null, .null, .null, .null, .null, .null, .null, .null, .null, .null, .null, .null, .null]))))
  rw [← e9]
  refine P_aload_n d_CM_init_37 rfl ?_
  refine P_new (fs := [.null, .null, .null]) d_CM_init_38 ok_Maker L_CM_28 in_Maker.1 in_Maker.2 rfl (fun j hj => by rcases (show j = 0 ∨ j = 1 ∨ j = 2 by omega) with rfl | rfl | rfl <;> rfl) (fun _ => rfl) (le_b rfl) (le_b rfl) (le_b rfl) ?_
  obtain ⟨f10, e10⟩ : ∃ f10 : Nat → pE, f10 = wu f9 155 (.inr (3, [.null, .null, .null])) := ⟨_, rfl⟩
  replace p1 : PlaneAt f10 1 2 := p1.kept (by rw [e10]; exact wu_n (by decide)) (fun i h1 h2 => by rw [e10]; exact wu_n (by omega))
  replace p77 : PlaneAt f10 77 78 := p77.kept (by rw [e10]; exact wu_n (by decide)) (fun i h1 h2 => by rw [e10]; exact wu_n (by omega))
  replace h154 : f10 154 = .inl (0, 900, .inl (fun _ => 0)) := by rw [e10]; exact (wu_n (by decide)).trans h154
  replace h153 : f10 153 = .inr (2, [.ref 154, .int 0]) := by rw [e10]; exact (wu_n (by decide)).trans h153
  replace h0 : f10 0 = .inr (8, [.ref 1, .ref 77, .ref 153, .null, .null, .null, .null, .null, .null, .null, .null, .null, .null, .null, .null, .null, .null, .null]) := by rw [e10]; exact (wu_n (by decide)).trans h0
  have h155 : f10 155 = .inr (3, [.null, .null, .null]) := by rw [e10]; exact wu_s _ _ _
  have o10 : ∀ i, (i < 155 ∨ 156 ≤ i) → f10 i = f9 i := fun i h1 => by rw [e10]; exact wu_n (by omega)
  show PW _ _ _ _ _ _ (41, [(0, .ref 0)], [.ref 155, .ref 0], (156, wu f9 155 (.inr (3, [.null, .null, .null]))))
  rw [← e10]
  refine P_dup d_CM_init_41 rfl ?_
  refine P_callIN (M := M_CM_init) (pc := 42) (as := []) (b := 155) d_CM_init_42 co_Maker_init rfl rfl L_CM_30 im_Maker_init (c_Maker_init _ h155) rfl ⟨le_b rfl, le_b rfl⟩ ⟨le_b rfl, le_b rfl⟩ (le_b rfl) ?_ _ rfl
  clear h155
  rintro _ _ ⟨rfl, f11, rfl, o11, h156, h157, p158, h155⟩
  replace p1 : PlaneAt f11 1 2 := p1.kept (o11 _ (by decide) (by decide)) (fun i h1 h2 => o11 i (by omega) (by omega))
  replace p77 : PlaneAt f11 77 78 := p77.kept (o11 _ (by decide) (by decide)) (fun i h1 h2 => o11 i (by omega) (by omega))
  replace h154 : f11 154 = .inl (0, 900, .inl (fun _ => 0)) := (o11 _ (by decide) (by decide)).trans h154
  replace h153 : f11 153 = .inr (2, [.ref 154, .int 0]) := (o11 _ (by decide) (by decide)).trans h153
  replace h0 : f11 0 = .inr (8, [.ref 1, .ref 77, .ref 153, .null, .null, .null, .null, .null, .null, .null, .null, .null, .null, .null, .null, .null, .null, .null]) := (o11 _ (by decide) (by decide)).trans h0
  show PW _ _ _ _ _ _ (45, [(0, .ref 0)], [.ref 155, .ref 0], (164, f11))
  refine P_putF (i := 5) d_CM_init_45 ok_CM (by decide) rfl L_CM_31 rfl rfl h0 (fun _ => rfl) (fun _ => rfl) ?_
  obtain ⟨f12, e12⟩ : ∃ f12 : Nat → pE, f12 = wu f11 0 (.inr (8, [.ref 1, .ref 77, .ref 153, .null, .null, .ref 155, .null, .null, .null, .null, .null, .null, .null, .null, .null, .null, .null, .null])) := ⟨_, rfl⟩
  replace p1 : PlaneAt f12 1 2 := p1.kept (by rw [e12]; exact wu_n (by decide)) (fun i h1 h2 => by rw [e12]; exact wu_n (by omega))
  replace p77 : PlaneAt f12 77 78 := p77.kept (by rw [e12]; exact wu_n (by decide)) (fun i h1 h2 => by rw [e12]; exact wu_n (by omega))
  replace h154 : f12 154 = .inl (0, 900, .inl (fun _ => 0)) := by rw [e12]; exact (wu_n (by decide)).trans h154
  replace h153 : f12 153 = .inr (2, [.ref 154, .int 0]) := by rw [e12]; exact (wu_n (by decide)).trans h153
  replace h156 : f12 156 = .inl (1, 9, .inr (.inl (fun _ => 0))) := by rw [e12]; exact (wu_n (by decide)).trans h156
  replace h157 : f12 157 = .inl (1, 9, .inr (.inl (fun _ => 0))) := by rw [e12]; exact (wu_n (by decide)).trans h157
  replace p158 : QuadAt f12 158 159 := p158.kept (by rw [e12]; exact wu_n (by decide)) (fun i h1 h2 => by rw [e12]; exact wu_n (by omega))
  replace h155 : f12 155 = .inr (3, [.ref 156, .ref 157, .ref 158]) := by rw [e12]; exact (wu_n (by decide)).trans h155
  replace h0 : f12 0 = .inr (8, [.ref 1, .ref 77, .ref 153, .null, .null, .ref 155, .null, .null, .null, .null, .null, .null, .null, .null, .null, .null, .null, .null]) := by rw [e12]; exact wu_s _ _ _
  have o12 : ∀ i, (i < 0 ∨ 1 ≤ i) → f12 i = f11 i := fun i h1 => by rw [e12]; exact wu_n (by omega)
  show PW _ _ _ _ _ _ (48, [(0, .ref 0)], [], (164, wu f11 0 (.inr (8, [.ref 1, .ref 77, .ref 153, .null, .null, .ref 155, .null, .null, .null, .null, .null, .null, .null, .null, .null, .null, .null, .null]))))
  rw [← e12]
  refine P_aload_n d_CM_init_48 rfl ?_
  refine P_new (fs := [.null, .null, .null, .null, .null, .null, .null, .int 0, .int 0, .int 0, .int 0, .int 0, .int 0, .int 0]) d_CM_init_49 ok_Reader L_CM_35 in_Reader.1 in_Reader.2 rfl (fun j hj => by rcases (show j = 0 ∨ j = 1 ∨ j = 2 ∨ j = 3 ∨ j = 4 ∨ j = 5 ∨ j = 6 ∨ j = 7 ∨ j = 8 ∨ j = 9 ∨ j = 10 ∨ j = 11 ∨ j = 12 ∨ j = 13 by omega) with rfl | rfl | rfl | rfl | rfl | rfl | rfl | rfl | rfl | rfl | rfl | rfl | rfl | rfl <;> rfl) (fun _ => rfl) (le_b rfl) (le_b rfl) (le_b rfl) ?_
  obtain ⟨f13, e13⟩ : ∃ f13 : Nat → pE, f13 = wu f12 164 (.inr (4, [.null, .null, .null, .null, .null, .null, .null, .int 0, .int 0, .int 0, .int 0, .int 0, .int 0, .int 0])) := ⟨_, rfl⟩
  replace p1 : PlaneAt f13 1 2 := p1.kept (by rw [e13]; exact wu_n (by decide)) (fun i h1 h2 => by rw [e13]; exact wu_n (by omega))
  replace p77 : PlaneAt f13 77 78 := p77.kept (by rw [e13]; exact wu_n (by decide)) (fun i h1 h2 => by rw [e13]; exact wu_n (by omega))
  replace h154 : f13 154 = .inl (0, 900, .inl (fun _ => 0)) := by rw [e13]; exact (wu_n (by decide)).trans h154
  replace h153 : f13 153 = .inr (2, [.ref 154, .int 0]) := by rw [e13]; exact (wu_n (by decide)).trans h153
  replace h156 : f13 156 = .inl (1, 9, .inr (.inl (fun _ => 0))) := by rw [e13]; exact (wu_n (by decide)).trans h156
  replace h157 : f13 157 = .inl (1, 9, .inr (.inl (fun _ => 0))) := by rw [e13]; exact (wu_n (by decide)).trans h157
  replace p158 : QuadAt f13 158 159 := p158.kept (by rw [e13]; exact wu_n (by decide)) (fun i h1 h2 => by rw [e13]; exact wu_n (by omega))
  replace h155 : f13 155 = .inr (3, [.ref 156, .ref 157, .ref 158]) := by rw [e13]; exact (wu_n (by decide)).trans h155
  replace h0 : f13 0 = .inr (8, [.ref 1, .ref 77, .ref 153, .null, .null, .ref 155, .null, .null, .null, .null, .null, .null, .null, .null, .null, .null, .null, .null]) := by rw [e13]; exact (wu_n (by decide)).trans h0
  have h164 : f13 164 = .inr (4, [.null, .null, .null, .null, .null, .null, .null, .int 0, .int 0, .int 0, .int 0, .int 0, .int 0, .int 0]) := by rw [e13]; exact wu_s _ _ _
  have o13 : ∀ i, (i < 164 ∨ 165 ≤ i) → f13 i = f12 i := fun i h1 => by rw [e13]; exact wu_n (by omega)
  show PW _ _ _ _ _ _ (52, [(0, .ref 0)], [.ref 164, .ref 0], (165, wu f12 164 (.inr (4, [.null, .null, .null, .null, .null, .null, .null, .int 0, .int 0, .int 0, .int 0, .int 0, .int 0, .int 0]))))
  rw [← e13]
  refine P_dup d_CM_init_52 rfl ?_
  refine P_aload_n d_CM_init_53 rfl ?_
  refine P_getf (i := 2) d_CM_init_54 ok_CM (by decide) L_CM_24 h0 rfl ?_
  refine P_aload_n d_CM_init_57 rfl ?_
  refine P_getf (i := 5) d_CM_init_58 ok_CM (by decide) L_CM_31 h0 rfl ?_
  refine P_aload_n d_CM_init_61 rfl ?_
  refine P_getf (i := 1) d_CM_init_62 ok_CM (by decide) L_CM_18 h0 rfl ?_
  refine P_callI (M := M_CM_init) (pc := 65) (as := [.ref 153, .ref 155, .ref 77]) (b := 164) d_CM_init_65 co_Reader_init rfl rfl L_CM_37 im_Reader_init (c_Reader_init _ h164) rfl ⟨le_b rfl, le_b rfl⟩ ⟨le_b rfl, le_b rfl⟩ (le_b rfl) ?_ _ rfl
  clear h164
  rintro _ _ ⟨rfl, f14, rfl, o14, h165, h166, h167, h168, h164⟩
  replace p1 : PlaneAt f14 1 2 := p1.kept (o14 _ (by decide) (by decide)) (fun i h1 h2 => o14 i (by omega) (by omega))
  replace p77 : PlaneAt f14 77 78 := p77.kept (o14 _ (by decide) (by decide)) (fun i h1 h2 => o14 i (by omega) (by omega))
  replace h154 : f14 154 = .inl (0, 900, .inl (fun _ => 0)) := (o14 _ (by decide) (by decide)).trans h154
  replace h153 : f14 153 = .inr (2, [.ref 154, .int 0]) := (o14 _ (by decide) (by decide)).trans h153
  replace h156 : f14 156 = .inl (1, 9, .inr (.inl (fun _ => 0))) := (o14 _ (by decide) (by decide)).trans h156
  replace h157 : f14 157 = .inl (1, 9, .inr (.inl (fun _ => 0))) := (o14 _ (by decide) (by decide)).trans h157
  replace p158 : QuadAt f14 158 159 := p158.kept (o14 _ (by decide) (by decide)) (fun i h1 h2 => o14 i (by omega) (by omega))
  replace h155 : f14 155 = .inr (3, [.ref 156, .ref 157, .ref 158]) := (o14 _ (by decide) (by decide)).trans h155
  replace h0 : f14 0 = .inr (8, [.ref 1, .ref 77, .ref 153, .null, .null, .ref 155, .null, .null, .null, .null, .null, .null, .null, .null, .null, .null, .null, .null]) := (o14 _ (by decide) (by decide)).trans h0
  show PW _ _ _ _ _ _ (68, [(0, .ref 0)], [.ref 164, .ref 0], (169, f14))
  refine P_putF (i := 3) d_CM_init_68 ok_CM (by decide) rfl L_CM_40 rfl rfl h0 (fun _ => rfl) (fun _ => rfl) ?_
  obtain ⟨f15, e15⟩ : ∃ f15 : Nat → pE, f15 = wu f14 0 (.inr (8, [.ref 1, .ref 77, .ref 153, .ref 164, .null, .ref 155, .null, .null, .null, .null, .null, .null, .null, .null, .null, .null, .null, .null])) := ⟨_, rfl⟩
  replace p1 : PlaneAt f15 1 2 := p1.kept (by rw [e15]; exact wu_n (by decide)) (fun i h1 h2 => by rw [e15]; exact wu_n (by omega))
  replace p77 : PlaneAt f15 77 78 := p77.kept (by rw [e15]; exact wu_n (by decide)) (fun i h1 h2 => by rw [e15]; exact wu_n (by omega))
  replace h154 : f15 154 = .inl (0, 900, .inl (fun _ => 0)) := by rw [e15]; exact (wu_n (by decide)).trans h154
  replace h153 : f15 153 = .inr (2, [.ref 154, .int 0]) := by rw [e15]; exact (wu_n (by decide)).trans h153
  replace h156 : f15 156 = .inl (1, 9, .inr (.inl (fun _ => 0))) := by rw [e15]; exact (wu_n (by decide)).trans h156
  replace h157 : f15 157 = .inl (1, 9, .inr (.inl (fun _ => 0))) := by rw [e15]; exact (wu_n (by decide)).trans h157
  replace p158 : QuadAt f15 158 159 := p158.kept (by rw [e15]; exact wu_n (by decide)) (fun i h1 h2 => by rw [e15]; exact wu_n (by omega))
  replace h155 : f15 155 = .inr (3, [.ref 156, .ref 157, .ref 158]) := by rw [e15]; exact (wu_n (by decide)).trans h155
  replace h165 : f15 165 = .inl (0, 8, .inl (fun _ => 0)) := by rw [e15]; exact (wu_n (by decide)).trans h165
  replace h166 : f15 166 = .inl (0, 8, .inl (fun _ => 0)) := by rw [e15]; exact (wu_n (by decide)).trans h166
  replace h167 : f15 167 = .inl (1, 3, .inr (.inl (fun _ => 0))) := by rw [e15]; exact (wu_n (by decide)).trans h167
  replace h168 : f15 168 = .inl (1, 9, .inr (.inl (fun _ => 0))) := by rw [e15]; exact (wu_n (by decide)).trans h168
  replace h164 : f15 164 = .inr (4, [.ref 153, .ref 155, .ref 165, .ref 166, .ref 167, .ref 168, .ref 77, .int 0, .int 0, .int 0, .int 0, .int 0, .int 0, .int (-1)]) := by rw [e15]; exact (wu_n (by decide)).trans h164
  replace h0 : f15 0 = .inr (8, [.ref 1, .ref 77, .ref 153, .ref 164, .null, .ref 155, .null, .null, .null, .null, .null, .null, .null, .null, .null, .null, .null, .null]) := by rw [e15]; exact wu_s _ _ _
  have o15 : ∀ i, (i < 0 ∨ 1 ≤ i) → f15 i = f14 i := fun i h1 => by rw [e15]; exact wu_n (by omega)
  show PW _ _ _ _ _ _ (71, [(0, .ref 0)], [], (169, wu f14 0 (.inr (8, [.ref 1, .ref 77, .ref 153, .ref 164, .null, .ref 155, .null, .null, .null, .null, .null, .null, .null, .null, .null, .null, .null, .null]))))
  rw [← e15]
  refine P_aload_n d_CM_init_71 rfl ?_
  refine P_new (fs := [.null, .null, .null, .int 0, .int 0]) d_CM_init_72 ok_Past L_CM_44 in_Past.1 in_Past.2 rfl (fun j hj => by rcases (show j = 0 ∨ j = 1 ∨ j = 2 ∨ j = 3 ∨ j = 4 by omega) with rfl | rfl | rfl | rfl | rfl <;> rfl) (fun _ => rfl) (le_b rfl) (le_b rfl) (le_b rfl) ?_
  obtain ⟨f16, e16⟩ : ∃ f16 : Nat → pE, f16 = wu f15 169 (.inr (5, [.null, .null, .null, .int 0, .int 0])) := ⟨_, rfl⟩
  replace p1 : PlaneAt f16 1 2 := p1.kept (by rw [e16]; exact wu_n (by decide)) (fun i h1 h2 => by rw [e16]; exact wu_n (by omega))
  replace p77 : PlaneAt f16 77 78 := p77.kept (by rw [e16]; exact wu_n (by decide)) (fun i h1 h2 => by rw [e16]; exact wu_n (by omega))
  replace h154 : f16 154 = .inl (0, 900, .inl (fun _ => 0)) := by rw [e16]; exact (wu_n (by decide)).trans h154
  replace h153 : f16 153 = .inr (2, [.ref 154, .int 0]) := by rw [e16]; exact (wu_n (by decide)).trans h153
  replace h156 : f16 156 = .inl (1, 9, .inr (.inl (fun _ => 0))) := by rw [e16]; exact (wu_n (by decide)).trans h156
  replace h157 : f16 157 = .inl (1, 9, .inr (.inl (fun _ => 0))) := by rw [e16]; exact (wu_n (by decide)).trans h157
  replace p158 : QuadAt f16 158 159 := p158.kept (by rw [e16]; exact wu_n (by decide)) (fun i h1 h2 => by rw [e16]; exact wu_n (by omega))
  replace h155 : f16 155 = .inr (3, [.ref 156, .ref 157, .ref 158]) := by rw [e16]; exact (wu_n (by decide)).trans h155
  replace h165 : f16 165 = .inl (0, 8, .inl (fun _ => 0)) := by rw [e16]; exact (wu_n (by decide)).trans h165
  replace h166 : f16 166 = .inl (0, 8, .inl (fun _ => 0)) := by rw [e16]; exact (wu_n (by decide)).trans h166
  replace h167 : f16 167 = .inl (1, 3, .inr (.inl (fun _ => 0))) := by rw [e16]; exact (wu_n (by decide)).trans h167
  replace h168 : f16 168 = .inl (1, 9, .inr (.inl (fun _ => 0))) := by rw [e16]; exact (wu_n (by decide)).trans h168
  replace h164 : f16 164 = .inr (4, [.ref 153, .ref 155, .ref 165, .ref 166, .ref 167, .ref 168, .ref 77, .int 0, .int 0, .int 0, .int 0, .int 0, .int 0, .int (-1)]) := by rw [e16]; exact (wu_n (by decide)).trans h164
  replace h0 : f16 0 = .inr (8, [.ref 1, .ref 77, .ref 153, .ref 164, .null, .ref 155, .null, .null, .null, .null, .null, .null, .null, .null, .null, .null, .null, .null]) := by rw [e16]; exact (wu_n (by decide)).trans h0
  have h169 : f16 169 = .inr (5, [.null, .null, .null, .int 0, .int 0]) := by rw [e16]; exact wu_s _ _ _
  have o16 : ∀ i, (i < 169 ∨ 170 ≤ i) → f16 i = f15 i := fun i h1 => by rw [e16]; exact wu_n (by omega)
  show PW _ _ _ _ _ _ (75, [(0, .ref 0)], [.ref 169, .ref 0], (170, wu f15 169 (.inr (5, [.null, .null, .null, .int 0, .int 0]))))
  rw [← e16]
  refine P_dup d_CM_init_75 rfl ?_
  refine P_callIN (M := M_CM_init) (pc := 76) (as := []) (b := 169) d_CM_init_76 co_Past_init rfl rfl L_CM_46 im_Past_init (c_Past_init _ h169) rfl ⟨le_b rfl, le_b rfl⟩ ⟨le_b rfl, le_b rfl⟩ (le_b rfl) ?_ _ rfl
  clear h169
  rintro _ _ ⟨rfl, f17, rfl, o17, h170, h171, h172, h173, h169⟩
  replace p1 : PlaneAt f17 1 2 := p1.kept (o17 _ (by decide) (by decide)) (fun i h1 h2 => o17 i (by omega) (by omega))
  replace p77 : PlaneAt f17 77 78 := p77.kept (o17 _ (by decide) (by decide)) (fun i h1 h2 => o17 i (by omega) (by omega))
  replace h154 : f17 154 = .inl (0, 900, .inl (fun _ => 0)) := (o17 _ (by decide) (by decide)).trans h154
  replace h153 : f17 153 = .inr (2, [.ref 154, .int 0]) := (o17 _ (by decide) (by decide)).trans h153
  replace h156 : f17 156 = .inl (1, 9, .inr (.inl (fun _ => 0))) := (o17 _ (by decide) (by decide)).trans h156
  replace h157 : f17 157 = .inl (1, 9, .inr (.inl (fun _ => 0))) := (o17 _ (by decide) (by decide)).trans h157
  replace p158 : QuadAt f17 158 159 := p158.kept (o17 _ (by decide) (by decide)) (fun i h1 h2 => o17 i (by omega) (by omega))
  replace h155 : f17 155 = .inr (3, [.ref 156, .ref 157, .ref 158]) := (o17 _ (by decide) (by decide)).trans h155
  replace h165 : f17 165 = .inl (0, 8, .inl (fun _ => 0)) := (o17 _ (by decide) (by decide)).trans h165
  replace h166 : f17 166 = .inl (0, 8, .inl (fun _ => 0)) := (o17 _ (by decide) (by decide)).trans h166
  replace h167 : f17 167 = .inl (1, 3, .inr (.inl (fun _ => 0))) := (o17 _ (by decide) (by decide)).trans h167
  replace h168 : f17 168 = .inl (1, 9, .inr (.inl (fun _ => 0))) := (o17 _ (by decide) (by decide)).trans h168
  replace h164 : f17 164 = .inr (4, [.ref 153, .ref 155, .ref 165, .ref 166, .ref 167, .ref 168, .ref 77, .int 0, .int 0, .int 0, .int 0, .int 0, .int 0, .int (-1)]) := (o17 _ (by decide) (by decide)).trans h164
  replace h0 : f17 0 = .inr (8, [.ref 1, .ref 77, .ref 153, .ref 164, .null, .ref 155, .null, .null, .null, .null, .null, .null, .null, .null, .null, .null, .null, .null]) := (o17 _ (by decide) (by decide)).trans h0
  show PW _ _ _ _ _ _ (79, [(0, .ref 0)], [.ref 169, .ref 0], (189, f17))
  refine P_putF (i := 4) d_CM_init_79 ok_CM (by decide) rfl L_CM_47 rfl rfl h0 (fun _ => rfl) (fun _ => rfl) ?_
  obtain ⟨f18, e18⟩ : ∃ f18 : Nat → pE, f18 = wu f17 0 (.inr (8, [.ref 1, .ref 77, .ref 153, .ref 164, .ref 169, .ref 155, .null, .null, .null, .null, .null, .null, .null, .null, .null, .null, .null, .null])) := ⟨_, rfl⟩
  replace p1 : PlaneAt f18 1 2 := p1.kept (by rw [e18]; exact wu_n (by decide)) (fun i h1 h2 => by rw [e18]; exact wu_n (by omega))
  replace p77 : PlaneAt f18 77 78 := p77.kept (by rw [e18]; exact wu_n (by decide)) (fun i h1 h2 => by rw [e18]; exact wu_n (by omega))
  replace h154 : f18 154 = .inl (0, 900, .inl (fun _ => 0)) := by rw [e18]; exact (wu_n (by decide)).trans h154
  replace h153 : f18 153 = .inr (2, [.ref 154, .int 0]) := by rw [e18]; exact (wu_n (by decide)).trans h153
  replace h156 : f18 156 = .inl (1, 9, .inr (.inl (fun _ => 0))) := by rw [e18]; exact (wu_n (by decide)).trans h156
  replace h157 : f18 157 = .inl (1, 9, .inr (.inl (fun _ => 0))) := by rw [e18]; exact (wu_n (by decide)).trans h157
  replace p158 : QuadAt f18 158 159 := p158.kept (by rw [e18]; exact wu_n (by decide)) (fun i h1 h2 => by rw [e18]; exact wu_n (by omega))
  replace h155 : f18 155 = .inr (3, [.ref 156, .ref 157, .ref 158]) := by rw [e18]; exact (wu_n (by decide)).trans h155
  replace h165 : f18 165 = .inl (0, 8, .inl (fun _ => 0)) := by rw [e18]; exact (wu_n (by decide)).trans h165
  replace h166 : f18 166 = .inl (0, 8, .inl (fun _ => 0)) := by rw [e18]; exact (wu_n (by decide)).trans h166
  replace h167 : f18 167 = .inl (1, 3, .inr (.inl (fun _ => 0))) := by rw [e18]; exact (wu_n (by decide)).trans h167
  replace h168 : f18 168 = .inl (1, 9, .inr (.inl (fun _ => 0))) := by rw [e18]; exact (wu_n (by decide)).trans h168
  replace h164 : f18 164 = .inr (4, [.ref 153, .ref 155, .ref 165, .ref 166, .ref 167, .ref 168, .ref 77, .int 0, .int 0, .int 0, .int 0, .int 0, .int 0, .int (-1)]) := by rw [e18]; exact (wu_n (by decide)).trans h164
  replace h170 : f18 170 = .inl (0, 16, .inl (fun _ => 0)) := by rw [e18]; exact (wu_n (by decide)).trans h170
  replace h171 : f18 171 = .inl (0, 16, .inl (fun _ => 0)) := by rw [e18]; exact (wu_n (by decide)).trans h171
  replace h172 : f18 172 = .inl (3, 16, refs (rows_of 172 16)) := by rw [e18]; exact (wu_n (by decide)).trans h172
  replace h173 : ∀ i, i < 16 → f18 (173 + i) = .inl (1, 24, .inr (.inl (fun _ => 0))) := fun i hi => by rw [e18]; exact (wu_n (by omega)).trans (h173 i hi)
  replace h169 : f18 169 = .inr (5, [.ref 170, .ref 171, .ref 172, .int 0, .int 0]) := by rw [e18]; exact (wu_n (by decide)).trans h169
  replace h0 : f18 0 = .inr (8, [.ref 1, .ref 77, .ref 153, .ref 164, .ref 169, .ref 155, .null, .null, .null, .null, .null, .null, .null, .null, .null, .null, .null, .null]) := by rw [e18]; exact wu_s _ _ _
  have o18 : ∀ i, (i < 0 ∨ 1 ≤ i) → f18 i = f17 i := fun i h1 => by rw [e18]; exact wu_n (by omega)
  show PW _ _ _ _ _ _ (82, [(0, .ref 0)], [], (189, wu f17 0 (.inr (8, [.ref 1, .ref 77, .ref 153, .ref 164, .ref 169, .ref 155, .null, .null, .null, .null, .null, .null, .null, .null, .null, .null, .null, .null]))))
  rw [← e18]
  refine P_aload_n d_CM_init_82 rfl ?_
  refine P_new (fs := [.null, .int 0, .int 0]) d_CM_init_83 ok_Pairs L_CM_51 in_Pairs.1 in_Pairs.2 rfl (fun j hj => by rcases (show j = 0 ∨ j = 1 ∨ j = 2 by omega) with rfl | rfl | rfl <;> rfl) (fun _ => rfl) (le_b rfl) (le_b rfl) (le_b rfl) ?_
  obtain ⟨f19, e19⟩ : ∃ f19 : Nat → pE, f19 = wu f18 189 (.inr (6, [.null, .int 0, .int 0])) := ⟨_, rfl⟩
  replace p1 : PlaneAt f19 1 2 := p1.kept (by rw [e19]; exact wu_n (by decide)) (fun i h1 h2 => by rw [e19]; exact wu_n (by omega))
  replace p77 : PlaneAt f19 77 78 := p77.kept (by rw [e19]; exact wu_n (by decide)) (fun i h1 h2 => by rw [e19]; exact wu_n (by omega))
  replace h154 : f19 154 = .inl (0, 900, .inl (fun _ => 0)) := by rw [e19]; exact (wu_n (by decide)).trans h154
  replace h153 : f19 153 = .inr (2, [.ref 154, .int 0]) := by rw [e19]; exact (wu_n (by decide)).trans h153
  replace h156 : f19 156 = .inl (1, 9, .inr (.inl (fun _ => 0))) := by rw [e19]; exact (wu_n (by decide)).trans h156
  replace h157 : f19 157 = .inl (1, 9, .inr (.inl (fun _ => 0))) := by rw [e19]; exact (wu_n (by decide)).trans h157
  replace p158 : QuadAt f19 158 159 := p158.kept (by rw [e19]; exact wu_n (by decide)) (fun i h1 h2 => by rw [e19]; exact wu_n (by omega))
  replace h155 : f19 155 = .inr (3, [.ref 156, .ref 157, .ref 158]) := by rw [e19]; exact (wu_n (by decide)).trans h155
  replace h165 : f19 165 = .inl (0, 8, .inl (fun _ => 0)) := by rw [e19]; exact (wu_n (by decide)).trans h165
  replace h166 : f19 166 = .inl (0, 8, .inl (fun _ => 0)) := by rw [e19]; exact (wu_n (by decide)).trans h166
  replace h167 : f19 167 = .inl (1, 3, .inr (.inl (fun _ => 0))) := by rw [e19]; exact (wu_n (by decide)).trans h167
  replace h168 : f19 168 = .inl (1, 9, .inr (.inl (fun _ => 0))) := by rw [e19]; exact (wu_n (by decide)).trans h168
  replace h164 : f19 164 = .inr (4, [.ref 153, .ref 155, .ref 165, .ref 166, .ref 167, .ref 168, .ref 77, .int 0, .int 0, .int 0, .int 0, .int 0, .int 0, .int (-1)]) := by rw [e19]; exact (wu_n (by decide)).trans h164
  replace h170 : f19 170 = .inl (0, 16, .inl (fun _ => 0)) := by rw [e19]; exact (wu_n (by decide)).trans h170
  replace h171 : f19 171 = .inl (0, 16, .inl (fun _ => 0)) := by rw [e19]; exact (wu_n (by decide)).trans h171
  replace h172 : f19 172 = .inl (3, 16, refs (rows_of 172 16)) := by rw [e19]; exact (wu_n (by decide)).trans h172
  replace h173 : ∀ i, i < 16 → f19 (173 + i) = .inl (1, 24, .inr (.inl (fun _ => 0))) := fun i hi => by rw [e19]; exact (wu_n (by omega)).trans (h173 i hi)
  replace h169 : f19 169 = .inr (5, [.ref 170, .ref 171, .ref 172, .int 0, .int 0]) := by rw [e19]; exact (wu_n (by decide)).trans h169
  replace h0 : f19 0 = .inr (8, [.ref 1, .ref 77, .ref 153, .ref 164, .ref 169, .ref 155, .null, .null, .null, .null, .null, .null, .null, .null, .null, .null, .null, .null]) := by rw [e19]; exact (wu_n (by decide)).trans h0
  have h189 : f19 189 = .inr (6, [.null, .int 0, .int 0]) := by rw [e19]; exact wu_s _ _ _
  have o19 : ∀ i, (i < 189 ∨ 190 ≤ i) → f19 i = f18 i := fun i h1 => by rw [e19]; exact wu_n (by omega)
  show PW _ _ _ _ _ _ (86, [(0, .ref 0)], [.ref 189, .ref 0], (190, wu f18 189 (.inr (6, [.null, .int 0, .int 0]))))
  rw [← e19]
  refine P_dup d_CM_init_86 rfl ?_
  refine P_callIN (M := M_CM_init) (pc := 87) (as := []) (b := 189) d_CM_init_87 co_Pairs_init rfl rfl L_CM_53 im_Pairs_init (c_Pairs_init _ h189) rfl ⟨le_b rfl, le_b rfl⟩ ⟨le_b rfl, le_b rfl⟩ (le_b rfl) ?_ _ rfl
  clear h189
  rintro _ _ ⟨rfl, f20, rfl, o20, h190, h191, h189⟩
  replace p1 : PlaneAt f20 1 2 := p1.kept (o20 _ (by decide) (by decide)) (fun i h1 h2 => o20 i (by omega) (by omega))
  replace p77 : PlaneAt f20 77 78 := p77.kept (o20 _ (by decide) (by decide)) (fun i h1 h2 => o20 i (by omega) (by omega))
  replace h154 : f20 154 = .inl (0, 900, .inl (fun _ => 0)) := (o20 _ (by decide) (by decide)).trans h154
  replace h153 : f20 153 = .inr (2, [.ref 154, .int 0]) := (o20 _ (by decide) (by decide)).trans h153
  replace h156 : f20 156 = .inl (1, 9, .inr (.inl (fun _ => 0))) := (o20 _ (by decide) (by decide)).trans h156
  replace h157 : f20 157 = .inl (1, 9, .inr (.inl (fun _ => 0))) := (o20 _ (by decide) (by decide)).trans h157
  replace p158 : QuadAt f20 158 159 := p158.kept (o20 _ (by decide) (by decide)) (fun i h1 h2 => o20 i (by omega) (by omega))
  replace h155 : f20 155 = .inr (3, [.ref 156, .ref 157, .ref 158]) := (o20 _ (by decide) (by decide)).trans h155
  replace h165 : f20 165 = .inl (0, 8, .inl (fun _ => 0)) := (o20 _ (by decide) (by decide)).trans h165
  replace h166 : f20 166 = .inl (0, 8, .inl (fun _ => 0)) := (o20 _ (by decide) (by decide)).trans h166
  replace h167 : f20 167 = .inl (1, 3, .inr (.inl (fun _ => 0))) := (o20 _ (by decide) (by decide)).trans h167
  replace h168 : f20 168 = .inl (1, 9, .inr (.inl (fun _ => 0))) := (o20 _ (by decide) (by decide)).trans h168
  replace h164 : f20 164 = .inr (4, [.ref 153, .ref 155, .ref 165, .ref 166, .ref 167, .ref 168, .ref 77, .int 0, .int 0, .int 0, .int 0, .int 0, .int 0, .int (-1)]) := (o20 _ (by decide) (by decide)).trans h164
  replace h170 : f20 170 = .inl (0, 16, .inl (fun _ => 0)) := (o20 _ (by decide) (by decide)).trans h170
  replace h171 : f20 171 = .inl (0, 16, .inl (fun _ => 0)) := (o20 _ (by decide) (by decide)).trans h171
  replace h172 : f20 172 = .inl (3, 16, refs (rows_of 172 16)) := (o20 _ (by decide) (by decide)).trans h172
  replace h173 : ∀ i, i < 16 → f20 (173 + i) = .inl (1, 24, .inr (.inl (fun _ => 0))) := fun i hi => (o20 _ (by omega) (by omega)).trans (h173 i hi)
  replace h169 : f20 169 = .inr (5, [.ref 170, .ref 171, .ref 172, .int 0, .int 0]) := (o20 _ (by decide) (by decide)).trans h169
  replace h0 : f20 0 = .inr (8, [.ref 1, .ref 77, .ref 153, .ref 164, .ref 169, .ref 155, .null, .null, .null, .null, .null, .null, .null, .null, .null, .null, .null, .null]) := (o20 _ (by decide) (by decide)).trans h0
  show PW _ _ _ _ _ _ (90, [(0, .ref 0)], [.ref 189, .ref 0], (447, f20))
  refine P_putF (i := 6) d_CM_init_90 ok_CM (by decide) rfl L_CM_54 rfl rfl h0 (fun _ => rfl) (fun _ => rfl) ?_
  obtain ⟨f21, e21⟩ : ∃ f21 : Nat → pE, f21 = wu f20 0 (.inr (8, [.ref 1, .ref 77, .ref 153, .ref 164, .ref 169, .ref 155, .ref 189, .null, .null, .null, .null, .null, .null, .null, .null, .null, .null, .null])) := ⟨_, rfl⟩
  replace p1 : PlaneAt f21 1 2 := p1.kept (by rw [e21]; exact wu_n (by decide)) (fun i h1 h2 => by rw [e21]; exact wu_n (by omega))
  replace p77 : PlaneAt f21 77 78 := p77.kept (by rw [e21]; exact wu_n (by decide)) (fun i h1 h2 => by rw [e21]; exact wu_n (by omega))
  replace h154 : f21 154 = .inl (0, 900, .inl (fun _ => 0)) := by rw [e21]; exact (wu_n (by decide)).trans h154
  replace h153 : f21 153 = .inr (2, [.ref 154, .int 0]) := by rw [e21]; exact (wu_n (by decide)).trans h153
  replace h156 : f21 156 = .inl (1, 9, .inr (.inl (fun _ => 0))) := by rw [e21]; exact (wu_n (by decide)).trans h156
  replace h157 : f21 157 = .inl (1, 9, .inr (.inl (fun _ => 0))) := by rw [e21]; exact (wu_n (by decide)).trans h157
  replace p158 : QuadAt f21 158 159 := p158.kept (by rw [e21]; exact wu_n (by decide)) (fun i h1 h2 => by rw [e21]; exact wu_n (by omega))
  replace h155 : f21 155 = .inr (3, [.ref 156, .ref 157, .ref 158]) := by rw [e21]; exact (wu_n (by decide)).trans h155
  replace h165 : f21 165 = .inl (0, 8, .inl (fun _ => 0)) := by rw [e21]; exact (wu_n (by decide)).trans h165
  replace h166 : f21 166 = .inl (0, 8, .inl (fun _ => 0)) := by rw [e21]; exact (wu_n (by decide)).trans h166
  replace h167 : f21 167 = .inl (1, 3, .inr (.inl (fun _ => 0))) := by rw [e21]; exact (wu_n (by decide)).trans h167
  replace h168 : f21 168 = .inl (1, 9, .inr (.inl (fun _ => 0))) := by rw [e21]; exact (wu_n (by decide)).trans h168
  replace h164 : f21 164 = .inr (4, [.ref 153, .ref 155, .ref 165, .ref 166, .ref 167, .ref 168, .ref 77, .int 0, .int 0, .int 0, .int 0, .int 0, .int 0, .int (-1)]) := by rw [e21]; exact (wu_n (by decide)).trans h164
  replace h170 : f21 170 = .inl (0, 16, .inl (fun _ => 0)) := by rw [e21]; exact (wu_n (by decide)).trans h170
  replace h171 : f21 171 = .inl (0, 16, .inl (fun _ => 0)) := by rw [e21]; exact (wu_n (by decide)).trans h171
  replace h172 : f21 172 = .inl (3, 16, refs (rows_of 172 16)) := by rw [e21]; exact (wu_n (by decide)).trans h172
  replace h173 : ∀ i, i < 16 → f21 (173 + i) = .inl (1, 24, .inr (.inl (fun _ => 0))) := fun i hi => by rw [e21]; exact (wu_n (by omega)).trans (h173 i hi)
  replace h169 : f21 169 = .inr (5, [.ref 170, .ref 171, .ref 172, .int 0, .int 0]) := by rw [e21]; exact (wu_n (by decide)).trans h169
  replace h190 : f21 190 = .inl (3, 256, refs (rows_of 190 256)) := by rw [e21]; exact (wu_n (by decide)).trans h190
  replace h191 : ∀ i, i < 256 → f21 (191 + i) = .inl (1, 9, .inr (.inl (fun _ => 0))) := fun i hi => by rw [e21]; exact (wu_n (by omega)).trans (h191 i hi)
  replace h189 : f21 189 = .inr (6, [.ref 190, .int 0, .int 0]) := by rw [e21]; exact (wu_n (by decide)).trans h189
  replace h0 : f21 0 = .inr (8, [.ref 1, .ref 77, .ref 153, .ref 164, .ref 169, .ref 155, .ref 189, .null, .null, .null, .null, .null, .null, .null, .null, .null, .null, .null]) := by rw [e21]; exact wu_s _ _ _
  have o21 : ∀ i, (i < 0 ∨ 1 ≤ i) → f21 i = f20 i := fun i h1 => by rw [e21]; exact wu_n (by omega)
  show PW _ _ _ _ _ _ (93, [(0, .ref 0)], [], (447, wu f20 0 (.inr (8, [.ref 1, .ref 77, .ref 153, .ref 164, .ref 169, .ref 155, .ref 189, .null, .null, .null, .null, .null, .null, .null, .null, .null, .null, .null]))))
  rw [← e21]
  refine P_aload_n d_CM_init_93 rfl ?_
  refine P_new (fs := [.null, .int 0, .int 0, .int 0]) d_CM_init_94 ok_SB L_CM_58 in_SB.1 in_SB.2 rfl (fun j hj => by rcases (show j = 0 ∨ j = 1 ∨ j = 2 ∨ j = 3 by omega) with rfl | rfl | rfl | rfl <;> rfl) (fun _ => rfl) (le_b rfl) (le_b rfl) (le_b rfl) ?_
  obtain ⟨f22, e22⟩ : ∃ f22 : Nat → pE, f22 = wu f21 447 (.inr (7, [.null, .int 0, .int 0, .int 0])) := ⟨_, rfl⟩
  replace p1 : PlaneAt f22 1 2 := p1.kept (by rw [e22]; exact wu_n (by decide)) (fun i h1 h2 => by rw [e22]; exact wu_n (by omega))
  replace p77 : PlaneAt f22 77 78 := p77.kept (by rw [e22]; exact wu_n (by decide)) (fun i h1 h2 => by rw [e22]; exact wu_n (by omega))
  replace h154 : f22 154 = .inl (0, 900, .inl (fun _ => 0)) := by rw [e22]; exact (wu_n (by decide)).trans h154
  replace h153 : f22 153 = .inr (2, [.ref 154, .int 0]) := by rw [e22]; exact (wu_n (by decide)).trans h153
  replace h156 : f22 156 = .inl (1, 9, .inr (.inl (fun _ => 0))) := by rw [e22]; exact (wu_n (by decide)).trans h156
  replace h157 : f22 157 = .inl (1, 9, .inr (.inl (fun _ => 0))) := by rw [e22]; exact (wu_n (by decide)).trans h157
  replace p158 : QuadAt f22 158 159 := p158.kept (by rw [e22]; exact wu_n (by decide)) (fun i h1 h2 => by rw [e22]; exact wu_n (by omega))
  replace h155 : f22 155 = .inr (3, [.ref 156, .ref 157, .ref 158]) := by rw [e22]; exact (wu_n (by decide)).trans h155
  replace h165 : f22 165 = .inl (0, 8, .inl (fun _ => 0)) := by rw [e22]; exact (wu_n (by decide)).trans h165
  replace h166 : f22 166 = .inl (0, 8, .inl (fun _ => 0)) := by rw [e22]; exact (wu_n (by decide)).trans h166
  replace h167 : f22 167 = .inl (1, 3, .inr (.inl (fun _ => 0))) := by rw [e22]; exact (wu_n (by decide)).trans h167
  replace h168 : f22 168 = .inl (1, 9, .inr (.inl (fun _ => 0))) := by rw [e22]; exact (wu_n (by decide)).trans h168
  replace h164 : f22 164 = .inr (4, [.ref 153, .ref 155, .ref 165, .ref 166, .ref 167, .ref 168, .ref 77, .int 0, .int 0, .int 0, .int 0, .int 0, .int 0, .int (-1)]) := by rw [e22]; exact (wu_n (by decide)).trans h164
  replace h170 : f22 170 = .inl (0, 16, .inl (fun _ => 0)) := by rw [e22]; exact (wu_n (by decide)).trans h170
  replace h171 : f22 171 = .inl (0, 16, .inl (fun _ => 0)) := by rw [e22]; exact (wu_n (by decide)).trans h171
  replace h172 : f22 172 = .inl (3, 16, refs (rows_of 172 16)) := by rw [e22]; exact (wu_n (by decide)).trans h172
  replace h173 : ∀ i, i < 16 → f22 (173 + i) = .inl (1, 24, .inr (.inl (fun _ => 0))) := fun i hi => by rw [e22]; exact (wu_n (by omega)).trans (h173 i hi)
  replace h169 : f22 169 = .inr (5, [.ref 170, .ref 171, .ref 172, .int 0, .int 0]) := by rw [e22]; exact (wu_n (by decide)).trans h169
  replace h190 : f22 190 = .inl (3, 256, refs (rows_of 190 256)) := by rw [e22]; exact (wu_n (by decide)).trans h190
  replace h191 : ∀ i, i < 256 → f22 (191 + i) = .inl (1, 9, .inr (.inl (fun _ => 0))) := fun i hi => by rw [e22]; exact (wu_n (by omega)).trans (h191 i hi)
  replace h189 : f22 189 = .inr (6, [.ref 190, .int 0, .int 0]) := by rw [e22]; exact (wu_n (by decide)).trans h189
  replace h0 : f22 0 = .inr (8, [.ref 1, .ref 77, .ref 153, .ref 164, .ref 169, .ref 155, .ref 189, .null, .null, .null, .null, .null, .null, .null, .null, .null, .null, .null]) := by rw [e22]; exact (wu_n (by decide)).trans h0
  have h447 : f22 447 = .inr (7, [.null, .int 0, .int 0, .int 0]) := by rw [e22]; exact wu_s _ _ _
  have o22 : ∀ i, (i < 447 ∨ 448 ≤ i) → f22 i = f21 i := fun i h1 => by rw [e22]; exact wu_n (by omega)
  show PW _ _ _ _ _ _ (97, [(0, .ref 0)], [.ref 447, .ref 0], (448, wu f21 447 (.inr (7, [.null, .int 0, .int 0, .int 0]))))
  rw [← e22]
  refine P_dup d_CM_init_97 rfl ?_
  refine P_callI (M := M_CM_init) (pc := 98) (as := []) (b := 447) d_CM_init_98 co_SB_init rfl rfl L_CM_60 im_SB_init (c_SB_init _ h447) rfl ⟨le_b rfl, le_b rfl⟩ ⟨le_b rfl, le_b rfl⟩ (le_b rfl) ?_ _ rfl
  clear h447
  rintro _ _ ⟨rfl, f23, rfl, o23, h448, h447⟩
  replace p1 : PlaneAt f23 1 2 := p1.kept (o23 _ (by decide) (by decide)) (fun i h1 h2 => o23 i (by omega) (by omega))
  replace p77 : PlaneAt f23 77 78 := p77.kept (o23 _ (by decide) (by decide)) (fun i h1 h2 => o23 i (by omega) (by omega))
  replace h154 : f23 154 = .inl (0, 900, .inl (fun _ => 0)) := (o23 _ (by decide) (by decide)).trans h154
  replace h153 : f23 153 = .inr (2, [.ref 154, .int 0]) := (o23 _ (by decide) (by decide)).trans h153
  replace h156 : f23 156 = .inl (1, 9, .inr (.inl (fun _ => 0))) := (o23 _ (by decide) (by decide)).trans h156
  replace h157 : f23 157 = .inl (1, 9, .inr (.inl (fun _ => 0))) := (o23 _ (by decide) (by decide)).trans h157
  replace p158 : QuadAt f23 158 159 := p158.kept (o23 _ (by decide) (by decide)) (fun i h1 h2 => o23 i (by omega) (by omega))
  replace h155 : f23 155 = .inr (3, [.ref 156, .ref 157, .ref 158]) := (o23 _ (by decide) (by decide)).trans h155
  replace h165 : f23 165 = .inl (0, 8, .inl (fun _ => 0)) := (o23 _ (by decide) (by decide)).trans h165
  replace h166 : f23 166 = .inl (0, 8, .inl (fun _ => 0)) := (o23 _ (by decide) (by decide)).trans h166
  replace h167 : f23 167 = .inl (1, 3, .inr (.inl (fun _ => 0))) := (o23 _ (by decide) (by decide)).trans h167
  replace h168 : f23 168 = .inl (1, 9, .inr (.inl (fun _ => 0))) := (o23 _ (by decide) (by decide)).trans h168
  replace h164 : f23 164 = .inr (4, [.ref 153, .ref 155, .ref 165, .ref 166, .ref 167, .ref 168, .ref 77, .int 0, .int 0, .int 0, .int 0, .int 0, .int 0, .int (-1)]) := (o23 _ (by decide) (by decide)).trans h164
  replace h170 : f23 170 = .inl (0, 16, .inl (fun _ => 0)) := (o23 _ (by decide) (by decide)).trans h170
  replace h171 : f23 171 = .inl (0, 16, .inl (fun _ => 0)) := (o23 _ (by decide) (by decide)).trans h171
  replace h172 : f23 172 = .inl (3, 16, refs (rows_of 172 16)) := (o23 _ (by decide) (by decide)).trans h172
  replace h173 : ∀ i, i < 16 → f23 (173 + i) = .inl (1, 24, .inr (.inl (fun _ => 0))) := fun i hi => (o23 _ (by omega) (by omega)).trans (h173 i hi)
  replace h169 : f23 169 = .inr (5, [.ref 170, .ref 171, .ref 172, .int 0, .int 0]) := (o23 _ (by decide) (by decide)).trans h169
  replace h190 : f23 190 = .inl (3, 256, refs (rows_of 190 256)) := (o23 _ (by decide) (by decide)).trans h190
  replace h191 : ∀ i, i < 256 → f23 (191 + i) = .inl (1, 9, .inr (.inl (fun _ => 0))) := fun i hi => (o23 _ (by omega) (by omega)).trans (h191 i hi)
  replace h189 : f23 189 = .inr (6, [.ref 190, .int 0, .int 0]) := (o23 _ (by decide) (by decide)).trans h189
  replace h0 : f23 0 = .inr (8, [.ref 1, .ref 77, .ref 153, .ref 164, .ref 169, .ref 155, .ref 189, .null, .null, .null, .null, .null, .null, .null, .null, .null, .null, .null]) := (o23 _ (by decide) (by decide)).trans h0
  show PW _ _ _ _ _ _ (101, [(0, .ref 0)], [.ref 447, .ref 0], (449, f23))
  refine P_putF (i := 7) d_CM_init_101 ok_CM (by decide) rfl L_CM_61 rfl rfl h0 (fun _ => rfl) (fun _ => rfl) ?_
  obtain ⟨f24, e24⟩ : ∃ f24 : Nat → pE, f24 = wu f23 0 (.inr (8, [.ref 1, .ref 77, .ref 153, .ref 164, .ref 169, .ref 155, .ref 189, .ref 447, .null, .null, .null, .null, .null, .null, .null, .null, .null, .null])) := ⟨_, rfl⟩
  replace p1 : PlaneAt f24 1 2 := p1.kept (by rw [e24]; exact wu_n (by decide)) (fun i h1 h2 => by rw [e24]; exact wu_n (by omega))
  replace p77 : PlaneAt f24 77 78 := p77.kept (by rw [e24]; exact wu_n (by decide)) (fun i h1 h2 => by rw [e24]; exact wu_n (by omega))
  replace h154 : f24 154 = .inl (0, 900, .inl (fun _ => 0)) := by rw [e24]; exact (wu_n (by decide)).trans h154
  replace h153 : f24 153 = .inr (2, [.ref 154, .int 0]) := by rw [e24]; exact (wu_n (by decide)).trans h153
  replace h156 : f24 156 = .inl (1, 9, .inr (.inl (fun _ => 0))) := by rw [e24]; exact (wu_n (by decide)).trans h156
  replace h157 : f24 157 = .inl (1, 9, .inr (.inl (fun _ => 0))) := by rw [e24]; exact (wu_n (by decide)).trans h157
  replace p158 : QuadAt f24 158 159 := p158.kept (by rw [e24]; exact wu_n (by decide)) (fun i h1 h2 => by rw [e24]; exact wu_n (by omega))
  replace h155 : f24 155 = .inr (3, [.ref 156, .ref 157, .ref 158]) := by rw [e24]; exact (wu_n (by decide)).trans h155
  replace h165 : f24 165 = .inl (0, 8, .inl (fun _ => 0)) := by rw [e24]; exact (wu_n (by decide)).trans h165
  replace h166 : f24 166 = .inl (0, 8, .inl (fun _ => 0)) := by rw [e24]; exact (wu_n (by decide)).trans h166
  replace h167 : f24 167 = .inl (1, 3, .inr (.inl (fun _ => 0))) := by rw [e24]; exact (wu_n (by decide)).trans h167
  replace h168 : f24 168 = .inl (1, 9, .inr (.inl (fun _ => 0))) := by rw [e24]; exact (wu_n (by decide)).trans h168
  replace h164 : f24 164 = .inr (4, [.ref 153, .ref 155, .ref 165, .ref 166, .ref 167, .ref 168, .ref 77, .int 0, .int 0, .int 0, .int 0, .int 0, .int 0, .int (-1)]) := by rw [e24]; exact (wu_n (by decide)).trans h164
  replace h170 : f24 170 = .inl (0, 16, .inl (fun _ => 0)) := by rw [e24]; exact (wu_n (by decide)).trans h170
  replace h171 : f24 171 = .inl (0, 16, .inl (fun _ => 0)) := by rw [e24]; exact (wu_n (by decide)).trans h171
  replace h172 : f24 172 = .inl (3, 16, refs (rows_of 172 16)) := by rw [e24]; exact (wu_n (by decide)).trans h172
  replace h173 : ∀ i, i < 16 → f24 (173 + i) = .inl (1, 24, .inr (.inl (fun _ => 0))) := fun i hi => by rw [e24]; exact (wu_n (by omega)).trans (h173 i hi)
  replace h169 : f24 169 = .inr (5, [.ref 170, .ref 171, .ref 172, .int 0, .int 0]) := by rw [e24]; exact (wu_n (by decide)).trans h169
  replace h190 : f24 190 = .inl (3, 256, refs (rows_of 190 256)) := by rw [e24]; exact (wu_n (by decide)).trans h190
  replace h191 : ∀ i, i < 256 → f24 (191 + i) = .inl (1, 9, .inr (.inl (fun _ => 0))) := fun i hi => by rw [e24]; exact (wu_n (by omega)).trans (h191 i hi)
  replace h189 : f24 189 = .inr (6, [.ref 190, .int 0, .int 0]) := by rw [e24]; exact (wu_n (by decide)).trans h189
  replace h448 : f24 448 = .inl (2, 16, .inl (fun _ => 0)) := by rw [e24]; exact (wu_n (by decide)).trans h448
  replace h447 : f24 447 = .inr (7, [.ref 448, .int 0, .int 0, .int 0]) := by rw [e24]; exact (wu_n (by decide)).trans h447
  replace h0 : f24 0 = .inr (8, [.ref 1, .ref 77, .ref 153, .ref 164, .ref 169, .ref 155, .ref 189, .ref 447, .null, .null, .null, .null, .null, .null, .null, .null, .null, .null]) := by rw [e24]; exact wu_s _ _ _
  have o24 : ∀ i, (i < 0 ∨ 1 ≤ i) → f24 i = f23 i := fun i h1 => by rw [e24]; exact wu_n (by omega)
  show PW _ _ _ _ _ _ (104, [(0, .ref 0)], [], (449, wu f23 0 (.inr (8, [.ref 1, .ref 77, .ref 153, .ref 164, .ref 169, .ref 155, .ref 189, .ref 447, .null, .null, .null, .null, .null, .null, .null, .null, .null, .null]))))
  rw [← e24]
  refine P_aload_n d_CM_init_104 rfl ?_
  refine P_bipush (v := 9) d_CM_init_105 (by decide) ?_
  refine P_newarr (t := 1) (N := 9) (a0 := (9, .inr (.inl (fun _ => 0)))) d_CM_init_107 rfl (by decide) ac_long ⟨by decide, by decide⟩ (le_b rfl) ⟨rfl, fun _ _ => rfl⟩ (le_b rfl) (le_b rfl) (le_b rfl) ?_
  obtain ⟨f25, e25⟩ : ∃ f25 : Nat → pE, f25 = wu f24 449 (.inl (1, 9, .inr (.inl (fun _ => 0)))) := ⟨_, rfl⟩
  replace p1 : PlaneAt f25 1 2 := p1.kept (by rw [e25]; exact wu_n (by decide)) (fun i h1 h2 => by rw [e25]; exact wu_n (by omega))
  replace p77 : PlaneAt f25 77 78 := p77.kept (by rw [e25]; exact wu_n (by decide)) (fun i h1 h2 => by rw [e25]; exact wu_n (by omega))
  replace h154 : f25 154 = .inl (0, 900, .inl (fun _ => 0)) := by rw [e25]; exact (wu_n (by decide)).trans h154
  replace h153 : f25 153 = .inr (2, [.ref 154, .int 0]) := by rw [e25]; exact (wu_n (by decide)).trans h153
  replace h156 : f25 156 = .inl (1, 9, .inr (.inl (fun _ => 0))) := by rw [e25]; exact (wu_n (by decide)).trans h156
  replace h157 : f25 157 = .inl (1, 9, .inr (.inl (fun _ => 0))) := by rw [e25]; exact (wu_n (by decide)).trans h157
  replace p158 : QuadAt f25 158 159 := p158.kept (by rw [e25]; exact wu_n (by decide)) (fun i h1 h2 => by rw [e25]; exact wu_n (by omega))
  replace h155 : f25 155 = .inr (3, [.ref 156, .ref 157, .ref 158]) := by rw [e25]; exact (wu_n (by decide)).trans h155
  replace h165 : f25 165 = .inl (0, 8, .inl (fun _ => 0)) := by rw [e25]; exact (wu_n (by decide)).trans h165
  replace h166 : f25 166 = .inl (0, 8, .inl (fun _ => 0)) := by rw [e25]; exact (wu_n (by decide)).trans h166
  replace h167 : f25 167 = .inl (1, 3, .inr (.inl (fun _ => 0))) := by rw [e25]; exact (wu_n (by decide)).trans h167
  replace h168 : f25 168 = .inl (1, 9, .inr (.inl (fun _ => 0))) := by rw [e25]; exact (wu_n (by decide)).trans h168
  replace h164 : f25 164 = .inr (4, [.ref 153, .ref 155, .ref 165, .ref 166, .ref 167, .ref 168, .ref 77, .int 0, .int 0, .int 0, .int 0, .int 0, .int 0, .int (-1)]) := by rw [e25]; exact (wu_n (by decide)).trans h164
  replace h170 : f25 170 = .inl (0, 16, .inl (fun _ => 0)) := by rw [e25]; exact (wu_n (by decide)).trans h170
  replace h171 : f25 171 = .inl (0, 16, .inl (fun _ => 0)) := by rw [e25]; exact (wu_n (by decide)).trans h171
  replace h172 : f25 172 = .inl (3, 16, refs (rows_of 172 16)) := by rw [e25]; exact (wu_n (by decide)).trans h172
  replace h173 : ∀ i, i < 16 → f25 (173 + i) = .inl (1, 24, .inr (.inl (fun _ => 0))) := fun i hi => by rw [e25]; exact (wu_n (by omega)).trans (h173 i hi)
  replace h169 : f25 169 = .inr (5, [.ref 170, .ref 171, .ref 172, .int 0, .int 0]) := by rw [e25]; exact (wu_n (by decide)).trans h169
  replace h190 : f25 190 = .inl (3, 256, refs (rows_of 190 256)) := by rw [e25]; exact (wu_n (by decide)).trans h190
  replace h191 : ∀ i, i < 256 → f25 (191 + i) = .inl (1, 9, .inr (.inl (fun _ => 0))) := fun i hi => by rw [e25]; exact (wu_n (by omega)).trans (h191 i hi)
  replace h189 : f25 189 = .inr (6, [.ref 190, .int 0, .int 0]) := by rw [e25]; exact (wu_n (by decide)).trans h189
  replace h448 : f25 448 = .inl (2, 16, .inl (fun _ => 0)) := by rw [e25]; exact (wu_n (by decide)).trans h448
  replace h447 : f25 447 = .inr (7, [.ref 448, .int 0, .int 0, .int 0]) := by rw [e25]; exact (wu_n (by decide)).trans h447
  replace h0 : f25 0 = .inr (8, [.ref 1, .ref 77, .ref 153, .ref 164, .ref 169, .ref 155, .ref 189, .ref 447, .null, .null, .null, .null, .null, .null, .null, .null, .null, .null]) := by rw [e25]; exact (wu_n (by decide)).trans h0
  have h449 : f25 449 = .inl (1, 9, .inr (.inl (fun _ => 0))) := by rw [e25]; exact wu_s _ _ _
  have o25 : ∀ i, (i < 449 ∨ 450 ≤ i) → f25 i = f24 i := fun i h1 => by rw [e25]; exact wu_n (by omega)
  show PW _ _ _ _ _ _ (109, [(0, .ref 0)], [.ref 449, .ref 0], (450, wu f24 449 (.inl (1, 9, .inr (.inl (fun _ => 0))))))
  rw [← e25]
  refine P_putF (i := 8) d_CM_init_109 ok_CM (by decide) rfl L_CM_65 rfl rfl h0 (fun _ => rfl) (fun _ => rfl) ?_
  obtain ⟨f26, e26⟩ : ∃ f26 : Nat → pE, f26 = wu f25 0 (.inr (8, [.ref 1, .ref 77, .ref 153, .ref 164, .ref 169, .ref 155, .ref 189, .ref 447, .ref 449, .null, .null, .null, .null, .null, .null, .null, .null, .null])) := ⟨_, rfl⟩
  replace p1 : PlaneAt f26 1 2 := p1.kept (by rw [e26]; exact wu_n (by decide)) (fun i h1 h2 => by rw [e26]; exact wu_n (by omega))
  replace p77 : PlaneAt f26 77 78 := p77.kept (by rw [e26]; exact wu_n (by decide)) (fun i h1 h2 => by rw [e26]; exact wu_n (by omega))
  replace h154 : f26 154 = .inl (0, 900, .inl (fun _ => 0)) := by rw [e26]; exact (wu_n (by decide)).trans h154
  replace h153 : f26 153 = .inr (2, [.ref 154, .int 0]) := by rw [e26]; exact (wu_n (by decide)).trans h153
  replace h156 : f26 156 = .inl (1, 9, .inr (.inl (fun _ => 0))) := by rw [e26]; exact (wu_n (by decide)).trans h156
  replace h157 : f26 157 = .inl (1, 9, .inr (.inl (fun _ => 0))) := by rw [e26]; exact (wu_n (by decide)).trans h157
  replace p158 : QuadAt f26 158 159 := p158.kept (by rw [e26]; exact wu_n (by decide)) (fun i h1 h2 => by rw [e26]; exact wu_n (by omega))
  replace h155 : f26 155 = .inr (3, [.ref 156, .ref 157, .ref 158]) := by rw [e26]; exact (wu_n (by decide)).trans h155
  replace h165 : f26 165 = .inl (0, 8, .inl (fun _ => 0)) := by rw [e26]; exact (wu_n (by decide)).trans h165
  replace h166 : f26 166 = .inl (0, 8, .inl (fun _ => 0)) := by rw [e26]; exact (wu_n (by decide)).trans h166
  replace h167 : f26 167 = .inl (1, 3, .inr (.inl (fun _ => 0))) := by rw [e26]; exact (wu_n (by decide)).trans h167
  replace h168 : f26 168 = .inl (1, 9, .inr (.inl (fun _ => 0))) := by rw [e26]; exact (wu_n (by decide)).trans h168
  replace h164 : f26 164 = .inr (4, [.ref 153, .ref 155, .ref 165, .ref 166, .ref 167, .ref 168, .ref 77, .int 0, .int 0, .int 0, .int 0, .int 0, .int 0, .int (-1)]) := by rw [e26]; exact (wu_n (by decide)).trans h164
  replace h170 : f26 170 = .inl (0, 16, .inl (fun _ => 0)) := by rw [e26]; exact (wu_n (by decide)).trans h170
  replace h171 : f26 171 = .inl (0, 16, .inl (fun _ => 0)) := by rw [e26]; exact (wu_n (by decide)).trans h171
  replace h172 : f26 172 = .inl (3, 16, refs (rows_of 172 16)) := by rw [e26]; exact (wu_n (by decide)).trans h172
  replace h173 : ∀ i, i < 16 → f26 (173 + i) = .inl (1, 24, .inr (.inl (fun _ => 0))) := fun i hi => by rw [e26]; exact (wu_n (by omega)).trans (h173 i hi)
  replace h169 : f26 169 = .inr (5, [.ref 170, .ref 171, .ref 172, .int 0, .int 0]) := by rw [e26]; exact (wu_n (by decide)).trans h169
  replace h190 : f26 190 = .inl (3, 256, refs (rows_of 190 256)) := by rw [e26]; exact (wu_n (by decide)).trans h190
  replace h191 : ∀ i, i < 256 → f26 (191 + i) = .inl (1, 9, .inr (.inl (fun _ => 0))) := fun i hi => by rw [e26]; exact (wu_n (by omega)).trans (h191 i hi)
  replace h189 : f26 189 = .inr (6, [.ref 190, .int 0, .int 0]) := by rw [e26]; exact (wu_n (by decide)).trans h189
  replace h448 : f26 448 = .inl (2, 16, .inl (fun _ => 0)) := by rw [e26]; exact (wu_n (by decide)).trans h448
  replace h447 : f26 447 = .inr (7, [.ref 448, .int 0, .int 0, .int 0]) := by rw [e26]; exact (wu_n (by decide)).trans h447
  replace h449 : f26 449 = .inl (1, 9, .inr (.inl (fun _ => 0))) := by rw [e26]; exact (wu_n (by decide)).trans h449
  replace h0 : f26 0 = .inr (8, [.ref 1, .ref 77, .ref 153, .ref 164, .ref 169, .ref 155, .ref 189, .ref 447, .ref 449, .null, .null, .null, .null, .null, .null, .null, .null, .null]) := by rw [e26]; exact wu_s _ _ _
  have o26 : ∀ i, (i < 0 ∨ 1 ≤ i) → f26 i = f25 i := fun i h1 => by rw [e26]; exact wu_n (by omega)
  show PW _ _ _ _ _ _ (112, [(0, .ref 0)], [], (450, wu f25 0 (.inr (8, [.ref 1, .ref 77, .ref 153, .ref 164, .ref 169, .ref 155, .ref 189, .ref 447, .ref 449, .null, .null, .null, .null, .null, .null, .null, .null, .null]))))
  rw [← e26]
  refine P_aload_n d_CM_init_112 rfl ?_
  refine P_bipush (v := 9) d_CM_init_113 (by decide) ?_
  refine P_newarr (t := 1) (N := 9) (a0 := (9, .inr (.inl (fun _ => 0)))) d_CM_init_115 rfl (by decide) ac_long ⟨by decide, by decide⟩ (le_b rfl) ⟨rfl, fun _ _ => rfl⟩ (le_b rfl) (le_b rfl) (le_b rfl) ?_
  obtain ⟨f27, e27⟩ : ∃ f27 : Nat → pE, f27 = wu f26 450 (.inl (1, 9, .inr (.inl (fun _ => 0)))) := ⟨_, rfl⟩
  replace p1 : PlaneAt f27 1 2 := p1.kept (by rw [e27]; exact wu_n (by decide)) (fun i h1 h2 => by rw [e27]; exact wu_n (by omega))
  replace p77 : PlaneAt f27 77 78 := p77.kept (by rw [e27]; exact wu_n (by decide)) (fun i h1 h2 => by rw [e27]; exact wu_n (by omega))
  replace h154 : f27 154 = .inl (0, 900, .inl (fun _ => 0)) := by rw [e27]; exact (wu_n (by decide)).trans h154
  replace h153 : f27 153 = .inr (2, [.ref 154, .int 0]) := by rw [e27]; exact (wu_n (by decide)).trans h153
  replace h156 : f27 156 = .inl (1, 9, .inr (.inl (fun _ => 0))) := by rw [e27]; exact (wu_n (by decide)).trans h156
  replace h157 : f27 157 = .inl (1, 9, .inr (.inl (fun _ => 0))) := by rw [e27]; exact (wu_n (by decide)).trans h157
  replace p158 : QuadAt f27 158 159 := p158.kept (by rw [e27]; exact wu_n (by decide)) (fun i h1 h2 => by rw [e27]; exact wu_n (by omega))
  replace h155 : f27 155 = .inr (3, [.ref 156, .ref 157, .ref 158]) := by rw [e27]; exact (wu_n (by decide)).trans h155
  replace h165 : f27 165 = .inl (0, 8, .inl (fun _ => 0)) := by rw [e27]; exact (wu_n (by decide)).trans h165
  replace h166 : f27 166 = .inl (0, 8, .inl (fun _ => 0)) := by rw [e27]; exact (wu_n (by decide)).trans h166
  replace h167 : f27 167 = .inl (1, 3, .inr (.inl (fun _ => 0))) := by rw [e27]; exact (wu_n (by decide)).trans h167
  replace h168 : f27 168 = .inl (1, 9, .inr (.inl (fun _ => 0))) := by rw [e27]; exact (wu_n (by decide)).trans h168
  replace h164 : f27 164 = .inr (4, [.ref 153, .ref 155, .ref 165, .ref 166, .ref 167, .ref 168, .ref 77, .int 0, .int 0, .int 0, .int 0, .int 0, .int 0, .int (-1)]) := by rw [e27]; exact (wu_n (by decide)).trans h164
  replace h170 : f27 170 = .inl (0, 16, .inl (fun _ => 0)) := by rw [e27]; exact (wu_n (by decide)).trans h170
  replace h171 : f27 171 = .inl (0, 16, .inl (fun _ => 0)) := by rw [e27]; exact (wu_n (by decide)).trans h171
  replace h172 : f27 172 = .inl (3, 16, refs (rows_of 172 16)) := by rw [e27]; exact (wu_n (by decide)).trans h172
  replace h173 : ∀ i, i < 16 → f27 (173 + i) = .inl (1, 24, .inr (.inl (fun _ => 0))) := fun i hi => by rw [e27]; exact (wu_n (by omega)).trans (h173 i hi)
  replace h169 : f27 169 = .inr (5, [.ref 170, .ref 171, .ref 172, .int 0, .int 0]) := by rw [e27]; exact (wu_n (by decide)).trans h169
  replace h190 : f27 190 = .inl (3, 256, refs (rows_of 190 256)) := by rw [e27]; exact (wu_n (by decide)).trans h190
  replace h191 : ∀ i, i < 256 → f27 (191 + i) = .inl (1, 9, .inr (.inl (fun _ => 0))) := fun i hi => by rw [e27]; exact (wu_n (by omega)).trans (h191 i hi)
  replace h189 : f27 189 = .inr (6, [.ref 190, .int 0, .int 0]) := by rw [e27]; exact (wu_n (by decide)).trans h189
  replace h448 : f27 448 = .inl (2, 16, .inl (fun _ => 0)) := by rw [e27]; exact (wu_n (by decide)).trans h448
  replace h447 : f27 447 = .inr (7, [.ref 448, .int 0, .int 0, .int 0]) := by rw [e27]; exact (wu_n (by decide)).trans h447
  replace h449 : f27 449 = .inl (1, 9, .inr (.inl (fun _ => 0))) := by rw [e27]; exact (wu_n (by decide)).trans h449
  replace h0 : f27 0 = .inr (8, [.ref 1, .ref 77, .ref 153, .ref 164, .ref 169, .ref 155, .ref 189, .ref 447, .ref 449, .null, .null, .null, .null, .null, .null, .null, .null, .null]) := by rw [e27]; exact (wu_n (by decide)).trans h0
  have h450 : f27 450 = .inl (1, 9, .inr (.inl (fun _ => 0))) := by rw [e27]; exact wu_s _ _ _
  have o27 : ∀ i, (i < 450 ∨ 451 ≤ i) → f27 i = f26 i := fun i h1 => by rw [e27]; exact wu_n (by omega)
  show PW _ _ _ _ _ _ (117, [(0, .ref 0)], [.ref 450, .ref 0], (451, wu f26 450 (.inl (1, 9, .inr (.inl (fun _ => 0))))))
  rw [← e27]
  refine P_putF (i := 9) d_CM_init_117 ok_CM (by decide) rfl L_CM_69 rfl rfl h0 (fun _ => rfl) (fun _ => rfl) ?_
  obtain ⟨f28, e28⟩ : ∃ f28 : Nat → pE, f28 = wu f27 0 (.inr (8, [.ref 1, .ref 77, .ref 153, .ref 164, .ref 169, .ref 155, .ref 189, .ref 447, .ref 449, .ref 450, .null, .null, .null, .null, .null, .null, .null, .null])) := ⟨_, rfl⟩
  replace p1 : PlaneAt f28 1 2 := p1.kept (by rw [e28]; exact wu_n (by decide)) (fun i h1 h2 => by rw [e28]; exact wu_n (by omega))
  replace p77 : PlaneAt f28 77 78 := p77.kept (by rw [e28]; exact wu_n (by decide)) (fun i h1 h2 => by rw [e28]; exact wu_n (by omega))
  replace h154 : f28 154 = .inl (0, 900, .inl (fun _ => 0)) := by rw [e28]; exact (wu_n (by decide)).trans h154
  replace h153 : f28 153 = .inr (2, [.ref 154, .int 0]) := by rw [e28]; exact (wu_n (by decide)).trans h153
  replace h156 : f28 156 = .inl (1, 9, .inr (.inl (fun _ => 0))) := by rw [e28]; exact (wu_n (by decide)).trans h156
  replace h157 : f28 157 = .inl (1, 9, .inr (.inl (fun _ => 0))) := by rw [e28]; exact (wu_n (by decide)).trans h157
  replace p158 : QuadAt f28 158 159 := p158.kept (by rw [e28]; exact wu_n (by decide)) (fun i h1 h2 => by rw [e28]; exact wu_n (by omega))
  replace h155 : f28 155 = .inr (3, [.ref 156, .ref 157, .ref 158]) := by rw [e28]; exact (wu_n (by decide)).trans h155
  replace h165 : f28 165 = .inl (0, 8, .inl (fun _ => 0)) := by rw [e28]; exact (wu_n (by decide)).trans h165
  replace h166 : f28 166 = .inl (0, 8, .inl (fun _ => 0)) := by rw [e28]; exact (wu_n (by decide)).trans h166
  replace h167 : f28 167 = .inl (1, 3, .inr (.inl (fun _ => 0))) := by rw [e28]; exact (wu_n (by decide)).trans h167
  replace h168 : f28 168 = .inl (1, 9, .inr (.inl (fun _ => 0))) := by rw [e28]; exact (wu_n (by decide)).trans h168
  replace h164 : f28 164 = .inr (4, [.ref 153, .ref 155, .ref 165, .ref 166, .ref 167, .ref 168, .ref 77, .int 0, .int 0, .int 0, .int 0, .int 0, .int 0, .int (-1)]) := by rw [e28]; exact (wu_n (by decide)).trans h164
  replace h170 : f28 170 = .inl (0, 16, .inl (fun _ => 0)) := by rw [e28]; exact (wu_n (by decide)).trans h170
  replace h171 : f28 171 = .inl (0, 16, .inl (fun _ => 0)) := by rw [e28]; exact (wu_n (by decide)).trans h171
  replace h172 : f28 172 = .inl (3, 16, refs (rows_of 172 16)) := by rw [e28]; exact (wu_n (by decide)).trans h172
  replace h173 : ∀ i, i < 16 → f28 (173 + i) = .inl (1, 24, .inr (.inl (fun _ => 0))) := fun i hi => by rw [e28]; exact (wu_n (by omega)).trans (h173 i hi)
  replace h169 : f28 169 = .inr (5, [.ref 170, .ref 171, .ref 172, .int 0, .int 0]) := by rw [e28]; exact (wu_n (by decide)).trans h169
  replace h190 : f28 190 = .inl (3, 256, refs (rows_of 190 256)) := by rw [e28]; exact (wu_n (by decide)).trans h190
  replace h191 : ∀ i, i < 256 → f28 (191 + i) = .inl (1, 9, .inr (.inl (fun _ => 0))) := fun i hi => by rw [e28]; exact (wu_n (by omega)).trans (h191 i hi)
  replace h189 : f28 189 = .inr (6, [.ref 190, .int 0, .int 0]) := by rw [e28]; exact (wu_n (by decide)).trans h189
  replace h448 : f28 448 = .inl (2, 16, .inl (fun _ => 0)) := by rw [e28]; exact (wu_n (by decide)).trans h448
  replace h447 : f28 447 = .inr (7, [.ref 448, .int 0, .int 0, .int 0]) := by rw [e28]; exact (wu_n (by decide)).trans h447
  replace h449 : f28 449 = .inl (1, 9, .inr (.inl (fun _ => 0))) := by rw [e28]; exact (wu_n (by decide)).trans h449
  replace h450 : f28 450 = .inl (1, 9, .inr (.inl (fun _ => 0))) := by rw [e28]; exact (wu_n (by decide)).trans h450
  replace h0 : f28 0 = .inr (8, [.ref 1, .ref 77, .ref 153, .ref 164, .ref 169, .ref 155, .ref 189, .ref 447, .ref 449, .ref 450, .null, .null, .null, .null, .null, .null, .null, .null]) := by rw [e28]; exact wu_s _ _ _
  have o28 : ∀ i, (i < 0 ∨ 1 ≤ i) → f28 i = f27 i := fun i h1 => by rw [e28]; exact wu_n (by omega)
  show PW _ _ _ _ _ _ (120, [(0, .ref 0)], [], (451, wu f27 0 (.inr (8, [.ref 1, .ref 77, .ref 153, .ref 164, .ref 169, .ref 155, .ref 189, .ref 447, .ref 449, .ref 450, .null, .null, .null, .null, .null, .null, .null, .null]))))
  rw [← e28]
  refine P_aload_n d_CM_init_120 rfl ?_
  refine P_bipush (v := 9) d_CM_init_121 (by decide) ?_
  refine P_newarr (t := 1) (N := 9) (a0 := (9, .inr (.inl (fun _ => 0)))) d_CM_init_123 rfl (by decide) ac_long ⟨by decide, by decide⟩ (le_b rfl) ⟨rfl, fun _ _ => rfl⟩ (le_b rfl) (le_b rfl) (le_b rfl) ?_
  obtain ⟨f29, e29⟩ : ∃ f29 : Nat → pE, f29 = wu f28 451 (.inl (1, 9, .inr (.inl (fun _ => 0)))) := ⟨_, rfl⟩
  replace p1 : PlaneAt f29 1 2 := p1.kept (by rw [e29]; exact wu_n (by decide)) (fun i h1 h2 => by rw [e29]; exact wu_n (by omega))
  replace p77 : PlaneAt f29 77 78 := p77.kept (by rw [e29]; exact wu_n (by decide)) (fun i h1 h2 => by rw [e29]; exact wu_n (by omega))
  replace h154 : f29 154 = .inl (0, 900, .inl (fun _ => 0)) := by rw [e29]; exact (wu_n (by decide)).trans h154
  replace h153 : f29 153 = .inr (2, [.ref 154, .int 0]) := by rw [e29]; exact (wu_n (by decide)).trans h153
  replace h156 : f29 156 = .inl (1, 9, .inr (.inl (fun _ => 0))) := by rw [e29]; exact (wu_n (by decide)).trans h156
  replace h157 : f29 157 = .inl (1, 9, .inr (.inl (fun _ => 0))) := by rw [e29]; exact (wu_n (by decide)).trans h157
  replace p158 : QuadAt f29 158 159 := p158.kept (by rw [e29]; exact wu_n (by decide)) (fun i h1 h2 => by rw [e29]; exact wu_n (by omega))
  replace h155 : f29 155 = .inr (3, [.ref 156, .ref 157, .ref 158]) := by rw [e29]; exact (wu_n (by decide)).trans h155
  replace h165 : f29 165 = .inl (0, 8, .inl (fun _ => 0)) := by rw [e29]; exact (wu_n (by decide)).trans h165
  replace h166 : f29 166 = .inl (0, 8, .inl (fun _ => 0)) := by rw [e29]; exact (wu_n (by decide)).trans h166
  replace h167 : f29 167 = .inl (1, 3, .inr (.inl (fun _ => 0))) := by rw [e29]; exact (wu_n (by decide)).trans h167
  replace h168 : f29 168 = .inl (1, 9, .inr (.inl (fun _ => 0))) := by rw [e29]; exact (wu_n (by decide)).trans h168
  replace h164 : f29 164 = .inr (4, [.ref 153, .ref 155, .ref 165, .ref 166, .ref 167, .ref 168, .ref 77, .int 0, .int 0, .int 0, .int 0, .int 0, .int 0, .int (-1)]) := by rw [e29]; exact (wu_n (by decide)).trans h164
  replace h170 : f29 170 = .inl (0, 16, .inl (fun _ => 0)) := by rw [e29]; exact (wu_n (by decide)).trans h170
  replace h171 : f29 171 = .inl (0, 16, .inl (fun _ => 0)) := by rw [e29]; exact (wu_n (by decide)).trans h171
  replace h172 : f29 172 = .inl (3, 16, refs (rows_of 172 16)) := by rw [e29]; exact (wu_n (by decide)).trans h172
  replace h173 : ∀ i, i < 16 → f29 (173 + i) = .inl (1, 24, .inr (.inl (fun _ => 0))) := fun i hi => by rw [e29]; exact (wu_n (by omega)).trans (h173 i hi)
  replace h169 : f29 169 = .inr (5, [.ref 170, .ref 171, .ref 172, .int 0, .int 0]) := by rw [e29]; exact (wu_n (by decide)).trans h169
  replace h190 : f29 190 = .inl (3, 256, refs (rows_of 190 256)) := by rw [e29]; exact (wu_n (by decide)).trans h190
  replace h191 : ∀ i, i < 256 → f29 (191 + i) = .inl (1, 9, .inr (.inl (fun _ => 0))) := fun i hi => by rw [e29]; exact (wu_n (by omega)).trans (h191 i hi)
  replace h189 : f29 189 = .inr (6, [.ref 190, .int 0, .int 0]) := by rw [e29]; exact (wu_n (by decide)).trans h189
  replace h448 : f29 448 = .inl (2, 16, .inl (fun _ => 0)) := by rw [e29]; exact (wu_n (by decide)).trans h448
  replace h447 : f29 447 = .inr (7, [.ref 448, .int 0, .int 0, .int 0]) := by rw [e29]; exact (wu_n (by decide)).trans h447
  replace h449 : f29 449 = .inl (1, 9, .inr (.inl (fun _ => 0))) := by rw [e29]; exact (wu_n (by decide)).trans h449
  replace h450 : f29 450 = .inl (1, 9, .inr (.inl (fun _ => 0))) := by rw [e29]; exact (wu_n (by decide)).trans h450
  replace h0 : f29 0 = .inr (8, [.ref 1, .ref 77, .ref 153, .ref 164, .ref 169, .ref 155, .ref 189, .ref 447, .ref 449, .ref 450, .null, .null, .null, .null, .null, .null, .null, .null]) := by rw [e29]; exact (wu_n (by decide)).trans h0
  have h451 : f29 451 = .inl (1, 9, .inr (.inl (fun _ => 0))) := by rw [e29]; exact wu_s _ _ _
  have o29 : ∀ i, (i < 451 ∨ 452 ≤ i) → f29 i = f28 i := fun i h1 => by rw [e29]; exact wu_n (by omega)
  show PW _ _ _ _ _ _ (125, [(0, .ref 0)], [.ref 451, .ref 0], (452, wu f28 451 (.inl (1, 9, .inr (.inl (fun _ => 0))))))
  rw [← e29]
  refine P_putF (i := 10) d_CM_init_125 ok_CM (by decide) rfl L_CM_72 rfl rfl h0 (fun _ => rfl) (fun _ => rfl) ?_
  obtain ⟨f30, e30⟩ : ∃ f30 : Nat → pE, f30 = wu f29 0 (.inr (8, [.ref 1, .ref 77, .ref 153, .ref 164, .ref 169, .ref 155, .ref 189, .ref 447, .ref 449, .ref 450, .ref 451, .null, .null, .null, .null, .null, .null, .null])) := ⟨_, rfl⟩
  replace p1 : PlaneAt f30 1 2 := p1.kept (by rw [e30]; exact wu_n (by decide)) (fun i h1 h2 => by rw [e30]; exact wu_n (by omega))
  replace p77 : PlaneAt f30 77 78 := p77.kept (by rw [e30]; exact wu_n (by decide)) (fun i h1 h2 => by rw [e30]; exact wu_n (by omega))
  replace h154 : f30 154 = .inl (0, 900, .inl (fun _ => 0)) := by rw [e30]; exact (wu_n (by decide)).trans h154
  replace h153 : f30 153 = .inr (2, [.ref 154, .int 0]) := by rw [e30]; exact (wu_n (by decide)).trans h153
  replace h156 : f30 156 = .inl (1, 9, .inr (.inl (fun _ => 0))) := by rw [e30]; exact (wu_n (by decide)).trans h156
  replace h157 : f30 157 = .inl (1, 9, .inr (.inl (fun _ => 0))) := by rw [e30]; exact (wu_n (by decide)).trans h157
  replace p158 : QuadAt f30 158 159 := p158.kept (by rw [e30]; exact wu_n (by decide)) (fun i h1 h2 => by rw [e30]; exact wu_n (by omega))
  replace h155 : f30 155 = .inr (3, [.ref 156, .ref 157, .ref 158]) := by rw [e30]; exact (wu_n (by decide)).trans h155
  replace h165 : f30 165 = .inl (0, 8, .inl (fun _ => 0)) := by rw [e30]; exact (wu_n (by decide)).trans h165
  replace h166 : f30 166 = .inl (0, 8, .inl (fun _ => 0)) := by rw [e30]; exact (wu_n (by decide)).trans h166
  replace h167 : f30 167 = .inl (1, 3, .inr (.inl (fun _ => 0))) := by rw [e30]; exact (wu_n (by decide)).trans h167
  replace h168 : f30 168 = .inl (1, 9, .inr (.inl (fun _ => 0))) := by rw [e30]; exact (wu_n (by decide)).trans h168
  replace h164 : f30 164 = .inr (4, [.ref 153, .ref 155, .ref 165, .ref 166, .ref 167, .ref 168, .ref 77, .int 0, .int 0, .int 0, .int 0, .int 0, .int 0, .int (-1)]) := by rw [e30]; exact (wu_n (by decide)).trans h164
  replace h170 : f30 170 = .inl (0, 16, .inl (fun _ => 0)) := by rw [e30]; exact (wu_n (by decide)).trans h170
  replace h171 : f30 171 = .inl (0, 16, .inl (fun _ => 0)) := by rw [e30]; exact (wu_n (by decide)).trans h171
  replace h172 : f30 172 = .inl (3, 16, refs (rows_of 172 16)) := by rw [e30]; exact (wu_n (by decide)).trans h172
  replace h173 : ∀ i, i < 16 → f30 (173 + i) = .inl (1, 24, .inr (.inl (fun _ => 0))) := fun i hi => by rw [e30]; exact (wu_n (by omega)).trans (h173 i hi)
  replace h169 : f30 169 = .inr (5, [.ref 170, .ref 171, .ref 172, .int 0, .int 0]) := by rw [e30]; exact (wu_n (by decide)).trans h169
  replace h190 : f30 190 = .inl (3, 256, refs (rows_of 190 256)) := by rw [e30]; exact (wu_n (by decide)).trans h190
  replace h191 : ∀ i, i < 256 → f30 (191 + i) = .inl (1, 9, .inr (.inl (fun _ => 0))) := fun i hi => by rw [e30]; exact (wu_n (by omega)).trans (h191 i hi)
  replace h189 : f30 189 = .inr (6, [.ref 190, .int 0, .int 0]) := by rw [e30]; exact (wu_n (by decide)).trans h189
  replace h448 : f30 448 = .inl (2, 16, .inl (fun _ => 0)) := by rw [e30]; exact (wu_n (by decide)).trans h448
  replace h447 : f30 447 = .inr (7, [.ref 448, .int 0, .int 0, .int 0]) := by rw [e30]; exact (wu_n (by decide)).trans h447
  replace h449 : f30 449 = .inl (1, 9, .inr (.inl (fun _ => 0))) := by rw [e30]; exact (wu_n (by decide)).trans h449
  replace h450 : f30 450 = .inl (1, 9, .inr (.inl (fun _ => 0))) := by rw [e30]; exact (wu_n (by decide)).trans h450
  replace h451 : f30 451 = .inl (1, 9, .inr (.inl (fun _ => 0))) := by rw [e30]; exact (wu_n (by decide)).trans h451
  replace h0 : f30 0 = .inr (8, [.ref 1, .ref 77, .ref 153, .ref 164, .ref 169, .ref 155, .ref 189, .ref 447, .ref 449, .ref 450, .ref 451, .null, .null, .null, .null, .null, .null, .null]) := by rw [e30]; exact wu_s _ _ _
  have o30 : ∀ i, (i < 0 ∨ 1 ≤ i) → f30 i = f29 i := fun i h1 => by rw [e30]; exact wu_n (by omega)
  show PW _ _ _ _ _ _ (128, [(0, .ref 0)], [], (452, wu f29 0 (.inr (8, [.ref 1, .ref 77, .ref 153, .ref 164, .ref 169, .ref 155, .ref 189, .ref 447, .ref 449, .ref 450, .ref 451, .null, .null, .null, .null, .null, .null, .null]))))
  rw [← e30]
  refine P_aload_n d_CM_init_128 rfl ?_
  refine P_iconst (v := 3) d_CM_init_129 (by decide) ?_
  refine P_newarr (t := 1) (N := 3) (a0 := (3, .inr (.inl (fun _ => 0)))) d_CM_init_130 rfl (by decide) ac_long ⟨by decide, by decide⟩ (le_b rfl) ⟨rfl, fun _ _ => rfl⟩ (le_b rfl) (le_b rfl) (le_b rfl) ?_
  obtain ⟨f31, e31⟩ : ∃ f31 : Nat → pE, f31 = wu f30 452 (.inl (1, 3, .inr (.inl (fun _ => 0)))) := ⟨_, rfl⟩
  replace p1 : PlaneAt f31 1 2 := p1.kept (by rw [e31]; exact wu_n (by decide)) (fun i h1 h2 => by rw [e31]; exact wu_n (by omega))
  replace p77 : PlaneAt f31 77 78 := p77.kept (by rw [e31]; exact wu_n (by decide)) (fun i h1 h2 => by rw [e31]; exact wu_n (by omega))
  replace h154 : f31 154 = .inl (0, 900, .inl (fun _ => 0)) := by rw [e31]; exact (wu_n (by decide)).trans h154
  replace h153 : f31 153 = .inr (2, [.ref 154, .int 0]) := by rw [e31]; exact (wu_n (by decide)).trans h153
  replace h156 : f31 156 = .inl (1, 9, .inr (.inl (fun _ => 0))) := by rw [e31]; exact (wu_n (by decide)).trans h156
  replace h157 : f31 157 = .inl (1, 9, .inr (.inl (fun _ => 0))) := by rw [e31]; exact (wu_n (by decide)).trans h157
  replace p158 : QuadAt f31 158 159 := p158.kept (by rw [e31]; exact wu_n (by decide)) (fun i h1 h2 => by rw [e31]; exact wu_n (by omega))
  replace h155 : f31 155 = .inr (3, [.ref 156, .ref 157, .ref 158]) := by rw [e31]; exact (wu_n (by decide)).trans h155
  replace h165 : f31 165 = .inl (0, 8, .inl (fun _ => 0)) := by rw [e31]; exact (wu_n (by decide)).trans h165
  replace h166 : f31 166 = .inl (0, 8, .inl (fun _ => 0)) := by rw [e31]; exact (wu_n (by decide)).trans h166
  replace h167 : f31 167 = .inl (1, 3, .inr (.inl (fun _ => 0))) := by rw [e31]; exact (wu_n (by decide)).trans h167
  replace h168 : f31 168 = .inl (1, 9, .inr (.inl (fun _ => 0))) := by rw [e31]; exact (wu_n (by decide)).trans h168
  replace h164 : f31 164 = .inr (4, [.ref 153, .ref 155, .ref 165, .ref 166, .ref 167, .ref 168, .ref 77, .int 0, .int 0, .int 0, .int 0, .int 0, .int 0, .int (-1)]) := by rw [e31]; exact (wu_n (by decide)).trans h164
  replace h170 : f31 170 = .inl (0, 16, .inl (fun _ => 0)) := by rw [e31]; exact (wu_n (by decide)).trans h170
  replace h171 : f31 171 = .inl (0, 16, .inl (fun _ => 0)) := by rw [e31]; exact (wu_n (by decide)).trans h171
  replace h172 : f31 172 = .inl (3, 16, refs (rows_of 172 16)) := by rw [e31]; exact (wu_n (by decide)).trans h172
  replace h173 : ∀ i, i < 16 → f31 (173 + i) = .inl (1, 24, .inr (.inl (fun _ => 0))) := fun i hi => by rw [e31]; exact (wu_n (by omega)).trans (h173 i hi)
  replace h169 : f31 169 = .inr (5, [.ref 170, .ref 171, .ref 172, .int 0, .int 0]) := by rw [e31]; exact (wu_n (by decide)).trans h169
  replace h190 : f31 190 = .inl (3, 256, refs (rows_of 190 256)) := by rw [e31]; exact (wu_n (by decide)).trans h190
  replace h191 : ∀ i, i < 256 → f31 (191 + i) = .inl (1, 9, .inr (.inl (fun _ => 0))) := fun i hi => by rw [e31]; exact (wu_n (by omega)).trans (h191 i hi)
  replace h189 : f31 189 = .inr (6, [.ref 190, .int 0, .int 0]) := by rw [e31]; exact (wu_n (by decide)).trans h189
  replace h448 : f31 448 = .inl (2, 16, .inl (fun _ => 0)) := by rw [e31]; exact (wu_n (by decide)).trans h448
  replace h447 : f31 447 = .inr (7, [.ref 448, .int 0, .int 0, .int 0]) := by rw [e31]; exact (wu_n (by decide)).trans h447
  replace h449 : f31 449 = .inl (1, 9, .inr (.inl (fun _ => 0))) := by rw [e31]; exact (wu_n (by decide)).trans h449
  replace h450 : f31 450 = .inl (1, 9, .inr (.inl (fun _ => 0))) := by rw [e31]; exact (wu_n (by decide)).trans h450
  replace h451 : f31 451 = .inl (1, 9, .inr (.inl (fun _ => 0))) := by rw [e31]; exact (wu_n (by decide)).trans h451
  replace h0 : f31 0 = .inr (8, [.ref 1, .ref 77, .ref 153, .ref 164, .ref 169, .ref 155, .ref 189, .ref 447, .ref 449, .ref 450, .ref 451, .null, .null, .null, .null, .null, .null, .null]) := by rw [e31]; exact (wu_n (by decide)).trans h0
  have h452 : f31 452 = .inl (1, 3, .inr (.inl (fun _ => 0))) := by rw [e31]; exact wu_s _ _ _
  have o31 : ∀ i, (i < 452 ∨ 453 ≤ i) → f31 i = f30 i := fun i h1 => by rw [e31]; exact wu_n (by omega)
  show PW _ _ _ _ _ _ (132, [(0, .ref 0)], [.ref 452, .ref 0], (453, wu f30 452 (.inl (1, 3, .inr (.inl (fun _ => 0))))))
  rw [← e31]
  refine P_putF (i := 11) d_CM_init_132 ok_CM (by decide) rfl L_CM_75 rfl rfl h0 (fun _ => rfl) (fun _ => rfl) ?_
  obtain ⟨f32, e32⟩ : ∃ f32 : Nat → pE, f32 = wu f31 0 (.inr (8, [.ref 1, .ref 77, .ref 153, .ref 164, .ref 169, .ref 155, .ref 189, .ref 447, .ref 449, .ref 450, .ref 451, .ref 452, .null, .null, .null, .null, .null, .null])) := ⟨_, rfl⟩
  replace p1 : PlaneAt f32 1 2 := p1.kept (by rw [e32]; exact wu_n (by decide)) (fun i h1 h2 => by rw [e32]; exact wu_n (by omega))
  replace p77 : PlaneAt f32 77 78 := p77.kept (by rw [e32]; exact wu_n (by decide)) (fun i h1 h2 => by rw [e32]; exact wu_n (by omega))
  replace h154 : f32 154 = .inl (0, 900, .inl (fun _ => 0)) := by rw [e32]; exact (wu_n (by decide)).trans h154
  replace h153 : f32 153 = .inr (2, [.ref 154, .int 0]) := by rw [e32]; exact (wu_n (by decide)).trans h153
  replace h156 : f32 156 = .inl (1, 9, .inr (.inl (fun _ => 0))) := by rw [e32]; exact (wu_n (by decide)).trans h156
  replace h157 : f32 157 = .inl (1, 9, .inr (.inl (fun _ => 0))) := by rw [e32]; exact (wu_n (by decide)).trans h157
  replace p158 : QuadAt f32 158 159 := p158.kept (by rw [e32]; exact wu_n (by decide)) (fun i h1 h2 => by rw [e32]; exact wu_n (by omega))
  replace h155 : f32 155 = .inr (3, [.ref 156, .ref 157, .ref 158]) := by rw [e32]; exact (wu_n (by decide)).trans h155
  replace h165 : f32 165 = .inl (0, 8, .inl (fun _ => 0)) := by rw [e32]; exact (wu_n (by decide)).trans h165
  replace h166 : f32 166 = .inl (0, 8, .inl (fun _ => 0)) := by rw [e32]; exact (wu_n (by decide)).trans h166
  replace h167 : f32 167 = .inl (1, 3, .inr (.inl (fun _ => 0))) := by rw [e32]; exact (wu_n (by decide)).trans h167
  replace h168 : f32 168 = .inl (1, 9, .inr (.inl (fun _ => 0))) := by rw [e32]; exact (wu_n (by decide)).trans h168
  replace h164 : f32 164 = .inr (4, [.ref 153, .ref 155, .ref 165, .ref 166, .ref 167, .ref 168, .ref 77, .int 0, .int 0, .int 0, .int 0, .int 0, .int 0, .int (-1)]) := by rw [e32]; exact (wu_n (by decide)).trans h164
  replace h170 : f32 170 = .inl (0, 16, .inl (fun _ => 0)) := by rw [e32]; exact (wu_n (by decide)).trans h170
  replace h171 : f32 171 = .inl (0, 16, .inl (fun _ => 0)) := by rw [e32]; exact (wu_n (by decide)).trans h171
  replace h172 : f32 172 = .inl (3, 16, refs (rows_of 172 16)) := by rw [e32]; exact (wu_n (by decide)).trans h172
  replace h173 : ∀ i, i < 16 → f32 (173 + i) = .inl (1, 24, .inr (.inl (fun _ => 0))) := fun i hi => by rw [e32]; exact (wu_n (by omega)).trans (h173 i hi)
  replace h169 : f32 169 = .inr (5, [.ref 170, .ref 171, .ref 172, .int 0, .int 0]) := by rw [e32]; exact (wu_n (by decide)).trans h169
  replace h190 : f32 190 = .inl (3, 256, refs (rows_of 190 256)) := by rw [e32]; exact (wu_n (by decide)).trans h190
  replace h191 : ∀ i, i < 256 → f32 (191 + i) = .inl (1, 9, .inr (.inl (fun _ => 0))) := fun i hi => by rw [e32]; exact (wu_n (by omega)).trans (h191 i hi)
  replace h189 : f32 189 = .inr (6, [.ref 190, .int 0, .int 0]) := by rw [e32]; exact (wu_n (by decide)).trans h189
  replace h448 : f32 448 = .inl (2, 16, .inl (fun _ => 0)) := by rw [e32]; exact (wu_n (by decide)).trans h448
  replace h447 : f32 447 = .inr (7, [.ref 448, .int 0, .int 0, .int 0]) := by rw [e32]; exact (wu_n (by decide)).trans h447
  replace h449 : f32 449 = .inl (1, 9, .inr (.inl (fun _ => 0))) := by rw [e32]; exact (wu_n (by decide)).trans h449
  replace h450 : f32 450 = .inl (1, 9, .inr (.inl (fun _ => 0))) := by rw [e32]; exact (wu_n (by decide)).trans h450
  replace h451 : f32 451 = .inl (1, 9, .inr (.inl (fun _ => 0))) := by rw [e32]; exact (wu_n (by decide)).trans h451
  replace h452 : f32 452 = .inl (1, 3, .inr (.inl (fun _ => 0))) := by rw [e32]; exact (wu_n (by decide)).trans h452
  replace h0 : f32 0 = .inr (8, [.ref 1, .ref 77, .ref 153, .ref 164, .ref 169, .ref 155, .ref 189, .ref 447, .ref 449, .ref 450, .ref 451, .ref 452, .null, .null, .null, .null, .null, .null]) := by rw [e32]; exact wu_s _ _ _
  have o32 : ∀ i, (i < 0 ∨ 1 ≤ i) → f32 i = f31 i := fun i h1 => by rw [e32]; exact wu_n (by omega)
  show PW _ _ _ _ _ _ (135, [(0, .ref 0)], [], (453, wu f31 0 (.inr (8, [.ref 1, .ref 77, .ref 153, .ref 164, .ref 169, .ref 155, .ref 189, .ref 447, .ref 449, .ref 450, .ref 451, .ref 452, .null, .null, .null, .null, .null, .null]))))
  rw [← e32]
  refine P_aload_n d_CM_init_135 rfl ?_
  refine P_iconst (v := 3) d_CM_init_136 (by decide) ?_
  refine P_newarr (t := 1) (N := 3) (a0 := (3, .inr (.inl (fun _ => 0)))) d_CM_init_137 rfl (by decide) ac_long ⟨by decide, by decide⟩ (le_b rfl) ⟨rfl, fun _ _ => rfl⟩ (le_b rfl) (le_b rfl) (le_b rfl) ?_
  obtain ⟨f33, e33⟩ : ∃ f33 : Nat → pE, f33 = wu f32 453 (.inl (1, 3, .inr (.inl (fun _ => 0)))) := ⟨_, rfl⟩
  replace p1 : PlaneAt f33 1 2 := p1.kept (by rw [e33]; exact wu_n (by decide)) (fun i h1 h2 => by rw [e33]; exact wu_n (by omega))
  replace p77 : PlaneAt f33 77 78 := p77.kept (by rw [e33]; exact wu_n (by decide)) (fun i h1 h2 => by rw [e33]; exact wu_n (by omega))
  replace h154 : f33 154 = .inl (0, 900, .inl (fun _ => 0)) := by rw [e33]; exact (wu_n (by decide)).trans h154
  replace h153 : f33 153 = .inr (2, [.ref 154, .int 0]) := by rw [e33]; exact (wu_n (by decide)).trans h153
  replace h156 : f33 156 = .inl (1, 9, .inr (.inl (fun _ => 0))) := by rw [e33]; exact (wu_n (by decide)).trans h156
  replace h157 : f33 157 = .inl (1, 9, .inr (.inl (fun _ => 0))) := by rw [e33]; exact (wu_n (by decide)).trans h157
  replace p158 : QuadAt f33 158 159 := p158.kept (by rw [e33]; exact wu_n (by decide)) (fun i h1 h2 => by rw [e33]; exact wu_n (by omega))
  replace h155 : f33 155 = .inr (3, [.ref 156, .ref 157, .ref 158]) := by rw [e33]; exact (wu_n (by decide)).trans h155
  replace h165 : f33 165 = .inl (0, 8, .inl (fun _ => 0)) := by rw [e33]; exact (wu_n (by decide)).trans h165
  replace h166 : f33 166 = .inl (0, 8, .inl (fun _ => 0)) := by rw [e33]; exact (wu_n (by decide)).trans h166
  replace h167 : f33 167 = .inl (1, 3, .inr (.inl (fun _ => 0))) := by rw [e33]; exact (wu_n (by decide)).trans h167
  replace h168 : f33 168 = .inl (1, 9, .inr (.inl (fun _ => 0))) := by rw [e33]; exact (wu_n (by decide)).trans h168
  replace h164 : f33 164 = .inr (4, [.ref 153, .ref 155, .ref 165, .ref 166, .ref 167, .ref 168, .ref 77, .int 0, .int 0, .int 0, .int 0, .int 0, .int 0, .int (-1)]) := by rw [e33]; exact (wu_n (by decide)).trans h164
  replace h170 : f33 170 = .inl (0, 16, .inl (fun _ => 0)) := by rw [e33]; exact (wu_n (by decide)).trans h170
  replace h171 : f33 171 = .inl (0, 16, .inl (fun _ => 0)) := by rw [e33]; exact (wu_n (by decide)).trans h171
  replace h172 : f33 172 = .inl (3, 16, refs (rows_of 172 16)) := by rw [e33]; exact (wu_n (by decide)).trans h172
  replace h173 : ∀ i, i < 16 → f33 (173 + i) = .inl (1, 24, .inr (.inl (fun _ => 0))) := fun i hi => by rw [e33]; exact (wu_n (by omega)).trans (h173 i hi)
  replace h169 : f33 169 = .inr (5, [.ref 170, .ref 171, .ref 172, .int 0, .int 0]) := by rw [e33]; exact (wu_n (by decide)).trans h169
  replace h190 : f33 190 = .inl (3, 256, refs (rows_of 190 256)) := by rw [e33]; exact (wu_n (by decide)).trans h190
  replace h191 : ∀ i, i < 256 → f33 (191 + i) = .inl (1, 9, .inr (.inl (fun _ => 0))) := fun i hi => by rw [e33]; exact (wu_n (by omega)).trans (h191 i hi)
  replace h189 : f33 189 = .inr (6, [.ref 190, .int 0, .int 0]) := by rw [e33]; exact (wu_n (by decide)).trans h189
  replace h448 : f33 448 = .inl (2, 16, .inl (fun _ => 0)) := by rw [e33]; exact (wu_n (by decide)).trans h448
  replace h447 : f33 447 = .inr (7, [.ref 448, .int 0, .int 0, .int 0]) := by rw [e33]; exact (wu_n (by decide)).trans h447
  replace h449 : f33 449 = .inl (1, 9, .inr (.inl (fun _ => 0))) := by rw [e33]; exact (wu_n (by decide)).trans h449
  replace h450 : f33 450 = .inl (1, 9, .inr (.inl (fun _ => 0))) := by rw [e33]; exact (wu_n (by decide)).trans h450
  replace h451 : f33 451 = .inl (1, 9, .inr (.inl (fun _ => 0))) := by rw [e33]; exact (wu_n (by decide)).trans h451
  replace h452 : f33 452 = .inl (1, 3, .inr (.inl (fun _ => 0))) := by rw [e33]; exact (wu_n (by decide)).trans h452
  replace h0 : f33 0 = .inr (8, [.ref 1, .ref 77, .ref 153, .ref 164, .ref 169, .ref 155, .ref 189, .ref 447, .ref 449, .ref 450, .ref 451, .ref 452, .null, .null, .null, .null, .null, .null]) := by rw [e33]; exact (wu_n (by decide)).trans h0
  have h453 : f33 453 = .inl (1, 3, .inr (.inl (fun _ => 0))) := by rw [e33]; exact wu_s _ _ _
  have o33 : ∀ i, (i < 453 ∨ 454 ≤ i) → f33 i = f32 i := fun i h1 => by rw [e33]; exact wu_n (by omega)
  show PW _ _ _ _ _ _ (139, [(0, .ref 0)], [.ref 453, .ref 0], (454, wu f32 453 (.inl (1, 3, .inr (.inl (fun _ => 0))))))
  rw [← e33]
  refine P_putF (i := 12) d_CM_init_139 ok_CM (by decide) rfl L_CM_78 rfl rfl h0 (fun _ => rfl) (fun _ => rfl) ?_
  obtain ⟨f34, e34⟩ : ∃ f34 : Nat → pE, f34 = wu f33 0 (.inr (8, [.ref 1, .ref 77, .ref 153, .ref 164, .ref 169, .ref 155, .ref 189, .ref 447, .ref 449, .ref 450, .ref 451, .ref 452, .ref 453, .null, .null, .null, .null, .null])) := ⟨_, rfl⟩
  replace p1 : PlaneAt f34 1 2 := p1.kept (by rw [e34]; exact wu_n (by decide)) (fun i h1 h2 => by rw [e34]; exact wu_n (by omega))
  replace p77 : PlaneAt f34 77 78 := p77.kept (by rw [e34]; exact wu_n (by decide)) (fun i h1 h2 => by rw [e34]; exact wu_n (by omega))
  replace h154 : f34 154 = .inl (0, 900, .inl (fun _ => 0)) := by rw [e34]; exact (wu_n (by decide)).trans h154
  replace h153 : f34 153 = .inr (2, [.ref 154, .int 0]) := by rw [e34]; exact (wu_n (by decide)).trans h153
  replace h156 : f34 156 = .inl (1, 9, .inr (.inl (fun _ => 0))) := by rw [e34]; exact (wu_n (by decide)).trans h156
  replace h157 : f34 157 = .inl (1, 9, .inr (.inl (fun _ => 0))) := by rw [e34]; exact (wu_n (by decide)).trans h157
  replace p158 : QuadAt f34 158 159 := p158.kept (by rw [e34]; exact wu_n (by decide)) (fun i h1 h2 => by rw [e34]; exact wu_n (by omega))
  replace h155 : f34 155 = .inr (3, [.ref 156, .ref 157, .ref 158]) := by rw [e34]; exact (wu_n (by decide)).trans h155
  replace h165 : f34 165 = .inl (0, 8, .inl (fun _ => 0)) := by rw [e34]; exact (wu_n (by decide)).trans h165
  replace h166 : f34 166 = .inl (0, 8, .inl (fun _ => 0)) := by rw [e34]; exact (wu_n (by decide)).trans h166
  replace h167 : f34 167 = .inl (1, 3, .inr (.inl (fun _ => 0))) := by rw [e34]; exact (wu_n (by decide)).trans h167
  replace h168 : f34 168 = .inl (1, 9, .inr (.inl (fun _ => 0))) := by rw [e34]; exact (wu_n (by decide)).trans h168
  replace h164 : f34 164 = .inr (4, [.ref 153, .ref 155, .ref 165, .ref 166, .ref 167, .ref 168, .ref 77, .int 0, .int 0, .int 0, .int 0, .int 0, .int 0, .int (-1)]) := by rw [e34]; exact (wu_n (by decide)).trans h164
  replace h170 : f34 170 = .inl (0, 16, .inl (fun _ => 0)) := by rw [e34]; exact (wu_n (by decide)).trans h170
  replace h171 : f34 171 = .inl (0, 16, .inl (fun _ => 0)) := by rw [e34]; exact (wu_n (by decide)).trans h171
  replace h172 : f34 172 = .inl (3, 16, refs (rows_of 172 16)) := by rw [e34]; exact (wu_n (by decide)).trans h172
  replace h173 : ∀ i, i < 16 → f34 (173 + i) = .inl (1, 24, .inr (.inl (fun _ => 0))) := fun i hi => by rw [e34]; exact (wu_n (by omega)).trans (h173 i hi)
  replace h169 : f34 169 = .inr (5, [.ref 170, .ref 171, .ref 172, .int 0, .int 0]) := by rw [e34]; exact (wu_n (by decide)).trans h169
  replace h190 : f34 190 = .inl (3, 256, refs (rows_of 190 256)) := by rw [e34]; exact (wu_n (by decide)).trans h190
  replace h191 : ∀ i, i < 256 → f34 (191 + i) = .inl (1, 9, .inr (.inl (fun _ => 0))) := fun i hi => by rw [e34]; exact (wu_n (by omega)).trans (h191 i hi)
  replace h189 : f34 189 = .inr (6, [.ref 190, .int 0, .int 0]) := by rw [e34]; exact (wu_n (by decide)).trans h189
  replace h448 : f34 448 = .inl (2, 16, .inl (fun _ => 0)) := by rw [e34]; exact (wu_n (by decide)).trans h448
  replace h447 : f34 447 = .inr (7, [.ref 448, .int 0, .int 0, .int 0]) := by rw [e34]; exact (wu_n (by decide)).trans h447
  replace h449 : f34 449 = .inl (1, 9, .inr (.inl (fun _ => 0))) := by rw [e34]; exact (wu_n (by decide)).trans h449
  replace h450 : f34 450 = .inl (1, 9, .inr (.inl (fun _ => 0))) := by rw [e34]; exact (wu_n (by decide)).trans h450
  replace h451 : f34 451 = .inl (1, 9, .inr (.inl (fun _ => 0))) := by rw [e34]; exact (wu_n (by decide)).trans h451
  replace h452 : f34 452 = .inl (1, 3, .inr (.inl (fun _ => 0))) := by rw [e34]; exact (wu_n (by decide)).trans h452
  replace h453 : f34 453 = .inl (1, 3, .inr (.inl (fun _ => 0))) := by rw [e34]; exact (wu_n (by decide)).trans h453
  replace h0 : f34 0 = .inr (8, [.ref 1, .ref 77, .ref 153, .ref 164, .ref 169, .ref 155, .ref 189, .ref 447, .ref 449, .ref 450, .ref 451, .ref 452, .ref 453, .null, .null, .null, .null, .null]) := by rw [e34]; exact wu_s _ _ _
  have o34 : ∀ i, (i < 0 ∨ 1 ≤ i) → f34 i = f33 i := fun i h1 => by rw [e34]; exact wu_n (by omega)
  show PW _ _ _ _ _ _ (142, [(0, .ref 0)], [], (454, wu f33 0 (.inr (8, [.ref 1, .ref 77, .ref 153, .ref 164, .ref 169, .ref 155, .ref 189, .ref 447, .ref 449, .ref 450, .ref 451, .ref 452, .ref 453, .null, .null, .null, .null, .null]))))
  rw [← e34]
  refine P_aload_n d_CM_init_142 rfl ?_
  refine P_iconst (v := 3) d_CM_init_143 (by decide) ?_
  refine P_newarr (t := 1) (N := 3) (a0 := (3, .inr (.inl (fun _ => 0)))) d_CM_init_144 rfl (by decide) ac_long ⟨by decide, by decide⟩ (le_b rfl) ⟨rfl, fun _ _ => rfl⟩ (le_b rfl) (le_b rfl) (le_b rfl) ?_
  obtain ⟨f35, e35⟩ : ∃ f35 : Nat → pE, f35 = wu f34 454 (.inl (1, 3, .inr (.inl (fun _ => 0)))) := ⟨_, rfl⟩
  replace p1 : PlaneAt f35 1 2 := p1.kept (by rw [e35]; exact wu_n (by decide)) (fun i h1 h2 => by rw [e35]; exact wu_n (by omega))
  replace p77 : PlaneAt f35 77 78 := p77.kept (by rw [e35]; exact wu_n (by decide)) (fun i h1 h2 => by rw [e35]; exact wu_n (by omega))
  replace h154 : f35 154 = .inl (0, 900, .inl (fun _ => 0)) := by rw [e35]; exact (wu_n (by decide)).trans h154
  replace h153 : f35 153 = .inr (2, [.ref 154, .int 0]) := by rw [e35]; exact (wu_n (by decide)).trans h153
  replace h156 : f35 156 = .inl (1, 9, .inr (.inl (fun _ => 0))) := by rw [e35]; exact (wu_n (by decide)).trans h156
  replace h157 : f35 157 = .inl (1, 9, .inr (.inl (fun _ => 0))) := by rw [e35]; exact (wu_n (by decide)).trans h157
  replace p158 : QuadAt f35 158 159 := p158.kept (by rw [e35]; exact wu_n (by decide)) (fun i h1 h2 => by rw [e35]; exact wu_n (by omega))
  replace h155 : f35 155 = .inr (3, [.ref 156, .ref 157, .ref 158]) := by rw [e35]; exact (wu_n (by decide)).trans h155
  replace h165 : f35 165 = .inl (0, 8, .inl (fun _ => 0)) := by rw [e35]; exact (wu_n (by decide)).trans h165
  replace h166 : f35 166 = .inl (0, 8, .inl (fun _ => 0)) := by rw [e35]; exact (wu_n (by decide)).trans h166
  replace h167 : f35 167 = .inl (1, 3, .inr (.inl (fun _ => 0))) := by rw [e35]; exact (wu_n (by decide)).trans h167
  replace h168 : f35 168 = .inl (1, 9, .inr (.inl (fun _ => 0))) := by rw [e35]; exact (wu_n (by decide)).trans h168
  replace h164 : f35 164 = .inr (4, [.ref 153, .ref 155, .ref 165, .ref 166, .ref 167, .ref 168, .ref 77, .int 0, .int 0, .int 0, .int 0, .int 0, .int 0, .int (-1)]) := by rw [e35]; exact (wu_n (by decide)).trans h164
  replace h170 : f35 170 = .inl (0, 16, .inl (fun _ => 0)) := by rw [e35]; exact (wu_n (by decide)).trans h170
  replace h171 : f35 171 = .inl (0, 16, .inl (fun _ => 0)) := by rw [e35]; exact (wu_n (by decide)).trans h171
  replace h172 : f35 172 = .inl (3, 16, refs (rows_of 172 16)) := by rw [e35]; exact (wu_n (by decide)).trans h172
  replace h173 : ∀ i, i < 16 → f35 (173 + i) = .inl (1, 24, .inr (.inl (fun _ => 0))) := fun i hi => by rw [e35]; exact (wu_n (by omega)).trans (h173 i hi)
  replace h169 : f35 169 = .inr (5, [.ref 170, .ref 171, .ref 172, .int 0, .int 0]) := by rw [e35]; exact (wu_n (by decide)).trans h169
  replace h190 : f35 190 = .inl (3, 256, refs (rows_of 190 256)) := by rw [e35]; exact (wu_n (by decide)).trans h190
  replace h191 : ∀ i, i < 256 → f35 (191 + i) = .inl (1, 9, .inr (.inl (fun _ => 0))) := fun i hi => by rw [e35]; exact (wu_n (by omega)).trans (h191 i hi)
  replace h189 : f35 189 = .inr (6, [.ref 190, .int 0, .int 0]) := by rw [e35]; exact (wu_n (by decide)).trans h189
  replace h448 : f35 448 = .inl (2, 16, .inl (fun _ => 0)) := by rw [e35]; exact (wu_n (by decide)).trans h448
  replace h447 : f35 447 = .inr (7, [.ref 448, .int 0, .int 0, .int 0]) := by rw [e35]; exact (wu_n (by decide)).trans h447
  replace h449 : f35 449 = .inl (1, 9, .inr (.inl (fun _ => 0))) := by rw [e35]; exact (wu_n (by decide)).trans h449
  replace h450 : f35 450 = .inl (1, 9, .inr (.inl (fun _ => 0))) := by rw [e35]; exact (wu_n (by decide)).trans h450
  replace h451 : f35 451 = .inl (1, 9, .inr (.inl (fun _ => 0))) := by rw [e35]; exact (wu_n (by decide)).trans h451
  replace h452 : f35 452 = .inl (1, 3, .inr (.inl (fun _ => 0))) := by rw [e35]; exact (wu_n (by decide)).trans h452
  replace h453 : f35 453 = .inl (1, 3, .inr (.inl (fun _ => 0))) := by rw [e35]; exact (wu_n (by decide)).trans h453
  replace h0 : f35 0 = .inr (8, [.ref 1, .ref 77, .ref 153, .ref 164, .ref 169, .ref 155, .ref 189, .ref 447, .ref 449, .ref 450, .ref 451, .ref 452, .ref 453, .null, .null, .null, .null, .null]) := by rw [e35]; exact (wu_n (by decide)).trans h0
  have h454 : f35 454 = .inl (1, 3, .inr (.inl (fun _ => 0))) := by rw [e35]; exact wu_s _ _ _
  have o35 : ∀ i, (i < 454 ∨ 455 ≤ i) → f35 i = f34 i := fun i h1 => by rw [e35]; exact wu_n (by omega)
  show PW _ _ _ _ _ _ (146, [(0, .ref 0)], [.ref 454, .ref 0], (455, wu f34 454 (.inl (1, 3, .inr (.inl (fun _ => 0))))))
  rw [← e35]
  refine P_putF (i := 13) d_CM_init_146 ok_CM (by decide) rfl L_CM_81 rfl rfl h0 (fun _ => rfl) (fun _ => rfl) ?_
  obtain ⟨f36, e36⟩ : ∃ f36 : Nat → pE, f36 = wu f35 0 (.inr (8, [.ref 1, .ref 77, .ref 153, .ref 164, .ref 169, .ref 155, .ref 189, .ref 447, .ref 449, .ref 450, .ref 451, .ref 452, .ref 453, .ref 454, .null, .null, .null, .null])) := ⟨_, rfl⟩
  replace p1 : PlaneAt f36 1 2 := p1.kept (by rw [e36]; exact wu_n (by decide)) (fun i h1 h2 => by rw [e36]; exact wu_n (by omega))
  replace p77 : PlaneAt f36 77 78 := p77.kept (by rw [e36]; exact wu_n (by decide)) (fun i h1 h2 => by rw [e36]; exact wu_n (by omega))
  replace h154 : f36 154 = .inl (0, 900, .inl (fun _ => 0)) := by rw [e36]; exact (wu_n (by decide)).trans h154
  replace h153 : f36 153 = .inr (2, [.ref 154, .int 0]) := by rw [e36]; exact (wu_n (by decide)).trans h153
  replace h156 : f36 156 = .inl (1, 9, .inr (.inl (fun _ => 0))) := by rw [e36]; exact (wu_n (by decide)).trans h156
  replace h157 : f36 157 = .inl (1, 9, .inr (.inl (fun _ => 0))) := by rw [e36]; exact (wu_n (by decide)).trans h157
  replace p158 : QuadAt f36 158 159 := p158.kept (by rw [e36]; exact wu_n (by decide)) (fun i h1 h2 => by rw [e36]; exact wu_n (by omega))
  replace h155 : f36 155 = .inr (3, [.ref 156, .ref 157, .ref 158]) := by rw [e36]; exact (wu_n (by decide)).trans h155
  replace h165 : f36 165 = .inl (0, 8, .inl (fun _ => 0)) := by rw [e36]; exact (wu_n (by decide)).trans h165
  replace h166 : f36 166 = .inl (0, 8, .inl (fun _ => 0)) := by rw [e36]; exact (wu_n (by decide)).trans h166
  replace h167 : f36 167 = .inl (1, 3, .inr (.inl (fun _ => 0))) := by rw [e36]; exact (wu_n (by decide)).trans h167
  replace h168 : f36 168 = .inl (1, 9, .inr (.inl (fun _ => 0))) := by rw [e36]; exact (wu_n (by decide)).trans h168
  replace h164 : f36 164 = .inr (4, [.ref 153, .ref 155, .ref 165, .ref 166, .ref 167, .ref 168, .ref 77, .int 0, .int 0, .int 0, .int 0, .int 0, .int 0, .int (-1)]) := by rw [e36]; exact (wu_n (by decide)).trans h164
  replace h170 : f36 170 = .inl (0, 16, .inl (fun _ => 0)) := by rw [e36]; exact (wu_n (by decide)).trans h170
  replace h171 : f36 171 = .inl (0, 16, .inl (fun _ => 0)) := by rw [e36]; exact (wu_n (by decide)).trans h171
  replace h172 : f36 172 = .inl (3, 16, refs (rows_of 172 16)) := by rw [e36]; exact (wu_n (by decide)).trans h172
  replace h173 : ∀ i, i < 16 → f36 (173 + i) = .inl (1, 24, .inr (.inl (fun _ => 0))) := fun i hi => by rw [e36]; exact (wu_n (by omega)).trans (h173 i hi)
  replace h169 : f36 169 = .inr (5, [.ref 170, .ref 171, .ref 172, .int 0, .int 0]) := by rw [e36]; exact (wu_n (by decide)).trans h169
  replace h190 : f36 190 = .inl (3, 256, refs (rows_of 190 256)) := by rw [e36]; exact (wu_n (by decide)).trans h190
  replace h191 : ∀ i, i < 256 → f36 (191 + i) = .inl (1, 9, .inr (.inl (fun _ => 0))) := fun i hi => by rw [e36]; exact (wu_n (by omega)).trans (h191 i hi)
  replace h189 : f36 189 = .inr (6, [.ref 190, .int 0, .int 0]) := by rw [e36]; exact (wu_n (by decide)).trans h189
  replace h448 : f36 448 = .inl (2, 16, .inl (fun _ => 0)) := by rw [e36]; exact (wu_n (by decide)).trans h448
  replace h447 : f36 447 = .inr (7, [.ref 448, .int 0, .int 0, .int 0]) := by rw [e36]; exact (wu_n (by decide)).trans h447
  replace h449 : f36 449 = .inl (1, 9, .inr (.inl (fun _ => 0))) := by rw [e36]; exact (wu_n (by decide)).trans h449
  replace h450 : f36 450 = .inl (1, 9, .inr (.inl (fun _ => 0))) := by rw [e36]; exact (wu_n (by decide)).trans h450
  replace h451 : f36 451 = .inl (1, 9, .inr (.inl (fun _ => 0))) := by rw [e36]; exact (wu_n (by decide)).trans h451
  replace h452 : f36 452 = .inl (1, 3, .inr (.inl (fun _ => 0))) := by rw [e36]; exact (wu_n (by decide)).trans h452
  replace h453 : f36 453 = .inl (1, 3, .inr (.inl (fun _ => 0))) := by rw [e36]; exact (wu_n (by decide)).trans h453
  replace h454 : f36 454 = .inl (1, 3, .inr (.inl (fun _ => 0))) := by rw [e36]; exact (wu_n (by decide)).trans h454
  replace h0 : f36 0 = .inr (8, [.ref 1, .ref 77, .ref 153, .ref 164, .ref 169, .ref 155, .ref 189, .ref 447, .ref 449, .ref 450, .ref 451, .ref 452, .ref 453, .ref 454, .null, .null, .null, .null]) := by rw [e36]; exact wu_s _ _ _
  have o36 : ∀ i, (i < 0 ∨ 1 ≤ i) → f36 i = f35 i := fun i h1 => by rw [e36]; exact wu_n (by omega)
  show PW _ _ _ _ _ _ (149, [(0, .ref 0)], [], (455, wu f35 0 (.inr (8, [.ref 1, .ref 77, .ref 153, .ref 164, .ref 169, .ref 155, .ref 189, .ref 447, .ref 449, .ref 450, .ref 451, .ref 452, .ref 453, .ref 454, .null, .null, .null, .null]))))
  rw [← e36]
  refine P_aload_n d_CM_init_149 rfl ?_
  refine P_iconst (v := 3) d_CM_init_150 (by decide) ?_
  refine P_newarr (t := 1) (N := 3) (a0 := (3, .inr (.inl (fun _ => 0)))) d_CM_init_151 rfl (by decide) ac_long ⟨by decide, by decide⟩ (le_b rfl) ⟨rfl, fun _ _ => rfl⟩ (le_b rfl) (le_b rfl) (le_b rfl) ?_
  obtain ⟨f37, e37⟩ : ∃ f37 : Nat → pE, f37 = wu f36 455 (.inl (1, 3, .inr (.inl (fun _ => 0)))) := ⟨_, rfl⟩
  replace p1 : PlaneAt f37 1 2 := p1.kept (by rw [e37]; exact wu_n (by decide)) (fun i h1 h2 => by rw [e37]; exact wu_n (by omega))
  replace p77 : PlaneAt f37 77 78 := p77.kept (by rw [e37]; exact wu_n (by decide)) (fun i h1 h2 => by rw [e37]; exact wu_n (by omega))
  replace h154 : f37 154 = .inl (0, 900, .inl (fun _ => 0)) := by rw [e37]; exact (wu_n (by decide)).trans h154
  replace h153 : f37 153 = .inr (2, [.ref 154, .int 0]) := by rw [e37]; exact (wu_n (by decide)).trans h153
  replace h156 : f37 156 = .inl (1, 9, .inr (.inl (fun _ => 0))) := by rw [e37]; exact (wu_n (by decide)).trans h156
  replace h157 : f37 157 = .inl (1, 9, .inr (.inl (fun _ => 0))) := by rw [e37]; exact (wu_n (by decide)).trans h157
  replace p158 : QuadAt f37 158 159 := p158.kept (by rw [e37]; exact wu_n (by decide)) (fun i h1 h2 => by rw [e37]; exact wu_n (by omega))
  replace h155 : f37 155 = .inr (3, [.ref 156, .ref 157, .ref 158]) := by rw [e37]; exact (wu_n (by decide)).trans h155
  replace h165 : f37 165 = .inl (0, 8, .inl (fun _ => 0)) := by rw [e37]; exact (wu_n (by decide)).trans h165
  replace h166 : f37 166 = .inl (0, 8, .inl (fun _ => 0)) := by rw [e37]; exact (wu_n (by decide)).trans h166
  replace h167 : f37 167 = .inl (1, 3, .inr (.inl (fun _ => 0))) := by rw [e37]; exact (wu_n (by decide)).trans h167
  replace h168 : f37 168 = .inl (1, 9, .inr (.inl (fun _ => 0))) := by rw [e37]; exact (wu_n (by decide)).trans h168
  replace h164 : f37 164 = .inr (4, [.ref 153, .ref 155, .ref 165, .ref 166, .ref 167, .ref 168, .ref 77, .int 0, .int 0, .int 0, .int 0, .int 0, .int 0, .int (-1)]) := by rw [e37]; exact (wu_n (by decide)).trans h164
  replace h170 : f37 170 = .inl (0, 16, .inl (fun _ => 0)) := by rw [e37]; exact (wu_n (by decide)).trans h170
  replace h171 : f37 171 = .inl (0, 16, .inl (fun _ => 0)) := by rw [e37]; exact (wu_n (by decide)).trans h171
  replace h172 : f37 172 = .inl (3, 16, refs (rows_of 172 16)) := by rw [e37]; exact (wu_n (by decide)).trans h172
  replace h173 : ∀ i, i < 16 → f37 (173 + i) = .inl (1, 24, .inr (.inl (fun _ => 0))) := fun i hi => by rw [e37]; exact (wu_n (by omega)).trans (h173 i hi)
  replace h169 : f37 169 = .inr (5, [.ref 170, .ref 171, .ref 172, .int 0, .int 0]) := by rw [e37]; exact (wu_n (by decide)).trans h169
  replace h190 : f37 190 = .inl (3, 256, refs (rows_of 190 256)) := by rw [e37]; exact (wu_n (by decide)).trans h190
  replace h191 : ∀ i, i < 256 → f37 (191 + i) = .inl (1, 9, .inr (.inl (fun _ => 0))) := fun i hi => by rw [e37]; exact (wu_n (by omega)).trans (h191 i hi)
  replace h189 : f37 189 = .inr (6, [.ref 190, .int 0, .int 0]) := by rw [e37]; exact (wu_n (by decide)).trans h189
  replace h448 : f37 448 = .inl (2, 16, .inl (fun _ => 0)) := by rw [e37]; exact (wu_n (by decide)).trans h448
  replace h447 : f37 447 = .inr (7, [.ref 448, .int 0, .int 0, .int 0]) := by rw [e37]; exact (wu_n (by decide)).trans h447
  replace h449 : f37 449 = .inl (1, 9, .inr (.inl (fun _ => 0))) := by rw [e37]; exact (wu_n (by decide)).trans h449
  replace h450 : f37 450 = .inl (1, 9, .inr (.inl (fun _ => 0))) := by rw [e37]; exact (wu_n (by decide)).trans h450
  replace h451 : f37 451 = .inl (1, 9, .inr (.inl (fun _ => 0))) := by rw [e37]; exact (wu_n (by decide)).trans h451
  replace h452 : f37 452 = .inl (1, 3, .inr (.inl (fun _ => 0))) := by rw [e37]; exact (wu_n (by decide)).trans h452
  replace h453 : f37 453 = .inl (1, 3, .inr (.inl (fun _ => 0))) := by rw [e37]; exact (wu_n (by decide)).trans h453
  replace h454 : f37 454 = .inl (1, 3, .inr (.inl (fun _ => 0))) := by rw [e37]; exact (wu_n (by decide)).trans h454
  replace h0 : f37 0 = .inr (8, [.ref 1, .ref 77, .ref 153, .ref 164, .ref 169, .ref 155, .ref 189, .ref 447, .ref 449, .ref 450, .ref 451, .ref 452, .ref 453, .ref 454, .null, .null, .null, .null]) := by rw [e37]; exact (wu_n (by decide)).trans h0
  have h455 : f37 455 = .inl (1, 3, .inr (.inl (fun _ => 0))) := by rw [e37]; exact wu_s _ _ _
  have o37 : ∀ i, (i < 455 ∨ 456 ≤ i) → f37 i = f36 i := fun i h1 => by rw [e37]; exact wu_n (by omega)
  show PW _ _ _ _ _ _ (153, [(0, .ref 0)], [.ref 455, .ref 0], (456, wu f36 455 (.inl (1, 3, .inr (.inl (fun _ => 0))))))
  rw [← e37]
  refine P_putF (i := 14) d_CM_init_153 ok_CM (by decide) rfl L_CM_84 rfl rfl h0 (fun _ => rfl) (fun _ => rfl) ?_
  obtain ⟨f38, e38⟩ : ∃ f38 : Nat → pE, f38 = wu f37 0 (.inr (8, [.ref 1, .ref 77, .ref 153, .ref 164, .ref 169, .ref 155, .ref 189, .ref 447, .ref 449, .ref 450, .ref 451, .ref 452, .ref 453, .ref 454, .ref 455, .null, .null, .null])) := ⟨_, rfl⟩
  replace p1 : PlaneAt f38 1 2 := p1.kept (by rw [e38]; exact wu_n (by decide)) (fun i h1 h2 => by rw [e38]; exact wu_n (by omega))
  replace p77 : PlaneAt f38 77 78 := p77.kept (by rw [e38]; exact wu_n (by decide)) (fun i h1 h2 => by rw [e38]; exact wu_n (by omega))
  replace h154 : f38 154 = .inl (0, 900, .inl (fun _ => 0)) := by rw [e38]; exact (wu_n (by decide)).trans h154
  replace h153 : f38 153 = .inr (2, [.ref 154, .int 0]) := by rw [e38]; exact (wu_n (by decide)).trans h153
  replace h156 : f38 156 = .inl (1, 9, .inr (.inl (fun _ => 0))) := by rw [e38]; exact (wu_n (by decide)).trans h156
  replace h157 : f38 157 = .inl (1, 9, .inr (.inl (fun _ => 0))) := by rw [e38]; exact (wu_n (by decide)).trans h157
  replace p158 : QuadAt f38 158 159 := p158.kept (by rw [e38]; exact wu_n (by decide)) (fun i h1 h2 => by rw [e38]; exact wu_n (by omega))
  replace h155 : f38 155 = .inr (3, [.ref 156, .ref 157, .ref 158]) := by rw [e38]; exact (wu_n (by decide)).trans h155
  replace h165 : f38 165 = .inl (0, 8, .inl (fun _ => 0)) := by rw [e38]; exact (wu_n (by decide)).trans h165
  replace h166 : f38 166 = .inl (0, 8, .inl (fun _ => 0)) := by rw [e38]; exact (wu_n (by decide)).trans h166
  replace h167 : f38 167 = .inl (1, 3, .inr (.inl (fun _ => 0))) := by rw [e38]; exact (wu_n (by decide)).trans h167
  replace h168 : f38 168 = .inl (1, 9, .inr (.inl (fun _ => 0))) := by rw [e38]; exact (wu_n (by decide)).trans h168
  replace h164 : f38 164 = .inr (4, [.ref 153, .ref 155, .ref 165, .ref 166, .ref 167, .ref 168, .ref 77, .int 0, .int 0, .int 0, .int 0, .int 0, .int 0, .int (-1)]) := by rw [e38]; exact (wu_n (by decide)).trans h164
  replace h170 : f38 170 = .inl (0, 16, .inl (fun _ => 0)) := by rw [e38]; exact (wu_n (by decide)).trans h170
  replace h171 : f38 171 = .inl (0, 16, .inl (fun _ => 0)) := by rw [e38]; exact (wu_n (by decide)).trans h171
  replace h172 : f38 172 = .inl (3, 16, refs (rows_of 172 16)) := by rw [e38]; exact (wu_n (by decide)).trans h172
  replace h173 : ∀ i, i < 16 → f38 (173 + i) = .inl (1, 24, .inr (.inl (fun _ => 0))) := fun i hi => by rw [e38]; exact (wu_n (by omega)).trans (h173 i hi)
  replace h169 : f38 169 = .inr (5, [.ref 170, .ref 171, .ref 172, .int 0, .int 0]) := by rw [e38]; exact (wu_n (by decide)).trans h169
  replace h190 : f38 190 = .inl (3, 256, refs (rows_of 190 256)) := by rw [e38]; exact (wu_n (by decide)).trans h190
  replace h191 : ∀ i, i < 256 → f38 (191 + i) = .inl (1, 9, .inr (.inl (fun _ => 0))) := fun i hi => by rw [e38]; exact (wu_n (by omega)).trans (h191 i hi)
  replace h189 : f38 189 = .inr (6, [.ref 190, .int 0, .int 0]) := by rw [e38]; exact (wu_n (by decide)).trans h189
  replace h448 : f38 448 = .inl (2, 16, .inl (fun _ => 0)) := by rw [e38]; exact (wu_n (by decide)).trans h448
  replace h447 : f38 447 = .inr (7, [.ref 448, .int 0, .int 0, .int 0]) := by rw [e38]; exact (wu_n (by decide)).trans h447
  replace h449 : f38 449 = .inl (1, 9, .inr (.inl (fun _ => 0))) := by rw [e38]; exact (wu_n (by decide)).trans h449
  replace h450 : f38 450 = .inl (1, 9, .inr (.inl (fun _ => 0))) := by rw [e38]; exact (wu_n (by decide)).trans h450
  replace h451 : f38 451 = .inl (1, 9, .inr (.inl (fun _ => 0))) := by rw [e38]; exact (wu_n (by decide)).trans h451
  replace h452 : f38 452 = .inl (1, 3, .inr (.inl (fun _ => 0))) := by rw [e38]; exact (wu_n (by decide)).trans h452
  replace h453 : f38 453 = .inl (1, 3, .inr (.inl (fun _ => 0))) := by rw [e38]; exact (wu_n (by decide)).trans h453
  replace h454 : f38 454 = .inl (1, 3, .inr (.inl (fun _ => 0))) := by rw [e38]; exact (wu_n (by decide)).trans h454
  replace h455 : f38 455 = .inl (1, 3, .inr (.inl (fun _ => 0))) := by rw [e38]; exact (wu_n (by decide)).trans h455
  replace h0 : f38 0 = .inr (8, [.ref 1, .ref 77, .ref 153, .ref 164, .ref 169, .ref 155, .ref 189, .ref 447, .ref 449, .ref 450, .ref 451, .ref 452, .ref 453, .ref 454, .ref 455, .null, .null, .null]) := by rw [e38]; exact wu_s _ _ _
  have o38 : ∀ i, (i < 0 ∨ 1 ≤ i) → f38 i = f37 i := fun i h1 => by rw [e38]; exact wu_n (by omega)
  show PW _ _ _ _ _ _ (156, [(0, .ref 0)], [], (456, wu f37 0 (.inr (8, [.ref 1, .ref 77, .ref 153, .ref 164, .ref 169, .ref 155, .ref 189, .ref 447, .ref 449, .ref 450, .ref 451, .ref 452, .ref 453, .ref 454, .ref 455, .null, .null, .null]))))
  rw [← e38]
  refine P_aload_n d_CM_init_156 rfl ?_
  refine P_iconst (v := 3) d_CM_init_157 (by decide) ?_
  refine P_newarr (t := 1) (N := 3) (a0 := (3, .inr (.inl (fun _ => 0)))) d_CM_init_158 rfl (by decide) ac_long ⟨by decide, by decide⟩ (le_b rfl) ⟨rfl, fun _ _ => rfl⟩ (le_b rfl) (le_b rfl) (le_b rfl) ?_
  obtain ⟨f39, e39⟩ : ∃ f39 : Nat → pE, f39 = wu f38 456 (.inl (1, 3, .inr (.inl (fun _ => 0)))) := ⟨_, rfl⟩
  replace p1 : PlaneAt f39 1 2 := p1.kept (by rw [e39]; exact wu_n (by decide)) (fun i h1 h2 => by rw [e39]; exact wu_n (by omega))
  replace p77 : PlaneAt f39 77 78 := p77.kept (by rw [e39]; exact wu_n (by decide)) (fun i h1 h2 => by rw [e39]; exact wu_n (by omega))
  replace h154 : f39 154 = .inl (0, 900, .inl (fun _ => 0)) := by rw [e39]; exact (wu_n (by decide)).trans h154
  replace h153 : f39 153 = .inr (2, [.ref 154, .int 0]) := by rw [e39]; exact (wu_n (by decide)).trans h153
  replace h156 : f39 156 = .inl (1, 9, .inr (.inl (fun _ => 0))) := by rw [e39]; exact (wu_n (by decide)).trans h156
  replace h157 : f39 157 = .inl (1, 9, .inr (.inl (fun _ => 0))) := by rw [e39]; exact (wu_n (by decide)).trans h157
  replace p158 : QuadAt f39 158 159 := p158.kept (by rw [e39]; exact wu_n (by decide)) (fun i h1 h2 => by rw [e39]; exact wu_n (by omega))
  replace h155 : f39 155 = .inr (3, [.ref 156, .ref 157, .ref 158]) := by rw [e39]; exact (wu_n (by decide)).trans h155
  replace h165 : f39 165 = .inl (0, 8, .inl (fun _ => 0)) := by rw [e39]; exact (wu_n (by decide)).trans h165
  replace h166 : f39 166 = .inl (0, 8, .inl (fun _ => 0)) := by rw [e39]; exact (wu_n (by decide)).trans h166
  replace h167 : f39 167 = .inl (1, 3, .inr (.inl (fun _ => 0))) := by rw [e39]; exact (wu_n (by decide)).trans h167
  replace h168 : f39 168 = .inl (1, 9, .inr (.inl (fun _ => 0))) := by rw [e39]; exact (wu_n (by decide)).trans h168
  replace h164 : f39 164 = .inr (4, [.ref 153, .ref 155, .ref 165, .ref 166, .ref 167, .ref 168, .ref 77, .int 0, .int 0, .int 0, .int 0, .int 0, .int 0, .int (-1)]) := by rw [e39]; exact (wu_n (by decide)).trans h164
  replace h170 : f39 170 = .inl (0, 16, .inl (fun _ => 0)) := by rw [e39]; exact (wu_n (by decide)).trans h170
  replace h171 : f39 171 = .inl (0, 16, .inl (fun _ => 0)) := by rw [e39]; exact (wu_n (by decide)).trans h171
  replace h172 : f39 172 = .inl (3, 16, refs (rows_of 172 16)) := by rw [e39]; exact (wu_n (by decide)).trans h172
  replace h173 : ∀ i, i < 16 → f39 (173 + i) = .inl (1, 24, .inr (.inl (fun _ => 0))) := fun i hi => by rw [e39]; exact (wu_n (by omega)).trans (h173 i hi)
  replace h169 : f39 169 = .inr (5, [.ref 170, .ref 171, .ref 172, .int 0, .int 0]) := by rw [e39]; exact (wu_n (by decide)).trans h169
  replace h190 : f39 190 = .inl (3, 256, refs (rows_of 190 256)) := by rw [e39]; exact (wu_n (by decide)).trans h190
  replace h191 : ∀ i, i < 256 → f39 (191 + i) = .inl (1, 9, .inr (.inl (fun _ => 0))) := fun i hi => by rw [e39]; exact (wu_n (by omega)).trans (h191 i hi)
  replace h189 : f39 189 = .inr (6, [.ref 190, .int 0, .int 0]) := by rw [e39]; exact (wu_n (by decide)).trans h189
  replace h448 : f39 448 = .inl (2, 16, .inl (fun _ => 0)) := by rw [e39]; exact (wu_n (by decide)).trans h448
  replace h447 : f39 447 = .inr (7, [.ref 448, .int 0, .int 0, .int 0]) := by rw [e39]; exact (wu_n (by decide)).trans h447
  replace h449 : f39 449 = .inl (1, 9, .inr (.inl (fun _ => 0))) := by rw [e39]; exact (wu_n (by decide)).trans h449
  replace h450 : f39 450 = .inl (1, 9, .inr (.inl (fun _ => 0))) := by rw [e39]; exact (wu_n (by decide)).trans h450
  replace h451 : f39 451 = .inl (1, 9, .inr (.inl (fun _ => 0))) := by rw [e39]; exact (wu_n (by decide)).trans h451
  replace h452 : f39 452 = .inl (1, 3, .inr (.inl (fun _ => 0))) := by rw [e39]; exact (wu_n (by decide)).trans h452
  replace h453 : f39 453 = .inl (1, 3, .inr (.inl (fun _ => 0))) := by rw [e39]; exact (wu_n (by decide)).trans h453
  replace h454 : f39 454 = .inl (1, 3, .inr (.inl (fun _ => 0))) := by rw [e39]; exact (wu_n (by decide)).trans h454
  replace h455 : f39 455 = .inl (1, 3, .inr (.inl (fun _ => 0))) := by rw [e39]; exact (wu_n (by decide)).trans h455
  replace h0 : f39 0 = .inr (8, [.ref 1, .ref 77, .ref 153, .ref 164, .ref 169, .ref 155, .ref 189, .ref 447, .ref 449, .ref 450, .ref 451, .ref 452, .ref 453, .ref 454, .ref 455, .null, .null, .null]) := by rw [e39]; exact (wu_n (by decide)).trans h0
  have h456 : f39 456 = .inl (1, 3, .inr (.inl (fun _ => 0))) := by rw [e39]; exact wu_s _ _ _
  have o39 : ∀ i, (i < 456 ∨ 457 ≤ i) → f39 i = f38 i := fun i h1 => by rw [e39]; exact wu_n (by omega)
  show PW _ _ _ _ _ _ (160, [(0, .ref 0)], [.ref 456, .ref 0], (457, wu f38 456 (.inl (1, 3, .inr (.inl (fun _ => 0))))))
  rw [← e39]
  refine P_putF (i := 15) d_CM_init_160 ok_CM (by decide) rfl L_CM_87 rfl rfl h0 (fun _ => rfl) (fun _ => rfl) ?_
  obtain ⟨f40, e40⟩ : ∃ f40 : Nat → pE, f40 = wu f39 0 (.inr (8, [.ref 1, .ref 77, .ref 153, .ref 164, .ref 169, .ref 155, .ref 189, .ref 447, .ref 449, .ref 450, .ref 451, .ref 452, .ref 453, .ref 454, .ref 455, .ref 456, .null, .null])) := ⟨_, rfl⟩
  replace p1 : PlaneAt f40 1 2 := p1.kept (by rw [e40]; exact wu_n (by decide)) (fun i h1 h2 => by rw [e40]; exact wu_n (by omega))
  replace p77 : PlaneAt f40 77 78 := p77.kept (by rw [e40]; exact wu_n (by decide)) (fun i h1 h2 => by rw [e40]; exact wu_n (by omega))
  replace h154 : f40 154 = .inl (0, 900, .inl (fun _ => 0)) := by rw [e40]; exact (wu_n (by decide)).trans h154
  replace h153 : f40 153 = .inr (2, [.ref 154, .int 0]) := by rw [e40]; exact (wu_n (by decide)).trans h153
  replace h156 : f40 156 = .inl (1, 9, .inr (.inl (fun _ => 0))) := by rw [e40]; exact (wu_n (by decide)).trans h156
  replace h157 : f40 157 = .inl (1, 9, .inr (.inl (fun _ => 0))) := by rw [e40]; exact (wu_n (by decide)).trans h157
  replace p158 : QuadAt f40 158 159 := p158.kept (by rw [e40]; exact wu_n (by decide)) (fun i h1 h2 => by rw [e40]; exact wu_n (by omega))
  replace h155 : f40 155 = .inr (3, [.ref 156, .ref 157, .ref 158]) := by rw [e40]; exact (wu_n (by decide)).trans h155
  replace h165 : f40 165 = .inl (0, 8, .inl (fun _ => 0)) := by rw [e40]; exact (wu_n (by decide)).trans h165
  replace h166 : f40 166 = .inl (0, 8, .inl (fun _ => 0)) := by rw [e40]; exact (wu_n (by decide)).trans h166
  replace h167 : f40 167 = .inl (1, 3, .inr (.inl (fun _ => 0))) := by rw [e40]; exact (wu_n (by decide)).trans h167
  replace h168 : f40 168 = .inl (1, 9, .inr (.inl (fun _ => 0))) := by rw [e40]; exact (wu_n (by decide)).trans h168
  replace h164 : f40 164 = .inr (4, [.ref 153, .ref 155, .ref 165, .ref 166, .ref 167, .ref 168, .ref 77, .int 0, .int 0, .int 0, .int 0, .int 0, .int 0, .int (-1)]) := by rw [e40]; exact (wu_n (by decide)).trans h164
  replace h170 : f40 170 = .inl (0, 16, .inl (fun _ => 0)) := by rw [e40]; exact (wu_n (by decide)).trans h170
  replace h171 : f40 171 = .inl (0, 16, .inl (fun _ => 0)) := by rw [e40]; exact (wu_n (by decide)).trans h171
  replace h172 : f40 172 = .inl (3, 16, refs (rows_of 172 16)) := by rw [e40]; exact (wu_n (by decide)).trans h172
  replace h173 : ∀ i, i < 16 → f40 (173 + i) = .inl (1, 24, .inr (.inl (fun _ => 0))) := fun i hi => by rw [e40]; exact (wu_n (by omega)).trans (h173 i hi)
  replace h169 : f40 169 = .inr (5, [.ref 170, .ref 171, .ref 172, .int 0, .int 0]) := by rw [e40]; exact (wu_n (by decide)).trans h169
  replace h190 : f40 190 = .inl (3, 256, refs (rows_of 190 256)) := by rw [e40]; exact (wu_n (by decide)).trans h190
  replace h191 : ∀ i, i < 256 → f40 (191 + i) = .inl (1, 9, .inr (.inl (fun _ => 0))) := fun i hi => by rw [e40]; exact (wu_n (by omega)).trans (h191 i hi)
  replace h189 : f40 189 = .inr (6, [.ref 190, .int 0, .int 0]) := by rw [e40]; exact (wu_n (by decide)).trans h189
  replace h448 : f40 448 = .inl (2, 16, .inl (fun _ => 0)) := by rw [e40]; exact (wu_n (by decide)).trans h448
  replace h447 : f40 447 = .inr (7, [.ref 448, .int 0, .int 0, .int 0]) := by rw [e40]; exact (wu_n (by decide)).trans h447
  replace h449 : f40 449 = .inl (1, 9, .inr (.inl (fun _ => 0))) := by rw [e40]; exact (wu_n (by decide)).trans h449
  replace h450 : f40 450 = .inl (1, 9, .inr (.inl (fun _ => 0))) := by rw [e40]; exact (wu_n (by decide)).trans h450
  replace h451 : f40 451 = .inl (1, 9, .inr (.inl (fun _ => 0))) := by rw [e40]; exact (wu_n (by decide)).trans h451
  replace h452 : f40 452 = .inl (1, 3, .inr (.inl (fun _ => 0))) := by rw [e40]; exact (wu_n (by decide)).trans h452
  replace h453 : f40 453 = .inl (1, 3, .inr (.inl (fun _ => 0))) := by rw [e40]; exact (wu_n (by decide)).trans h453
  replace h454 : f40 454 = .inl (1, 3, .inr (.inl (fun _ => 0))) := by rw [e40]; exact (wu_n (by decide)).trans h454
  replace h455 : f40 455 = .inl (1, 3, .inr (.inl (fun _ => 0))) := by rw [e40]; exact (wu_n (by decide)).trans h455
  replace h456 : f40 456 = .inl (1, 3, .inr (.inl (fun _ => 0))) := by rw [e40]; exact (wu_n (by decide)).trans h456
  replace h0 : f40 0 = .inr (8, [.ref 1, .ref 77, .ref 153, .ref 164, .ref 169, .ref 155, .ref 189, .ref 447, .ref 449, .ref 450, .ref 451, .ref 452, .ref 453, .ref 454, .ref 455, .ref 456, .null, .null]) := by rw [e40]; exact wu_s _ _ _
  have o40 : ∀ i, (i < 0 ∨ 1 ≤ i) → f40 i = f39 i := fun i h1 => by rw [e40]; exact wu_n (by omega)
  show PW _ _ _ _ _ _ (163, [(0, .ref 0)], [], (457, wu f39 0 (.inr (8, [.ref 1, .ref 77, .ref 153, .ref 164, .ref 169, .ref 155, .ref 189, .ref 447, .ref 449, .ref 450, .ref 451, .ref 452, .ref 453, .ref 454, .ref 455, .ref 456, .null, .null]))))
  rw [← e40]
  refine P_aload_n d_CM_init_163 rfl ?_
  refine P_bipush (v := 8) d_CM_init_164 (by decide) ?_
  refine P_iconst (v := 3) d_CM_init_166 (by decide) ?_
  refine P_mnew (N := 8) (K := 3) d_CM_init_167 L_CM_90 ac_long ⟨by decide, by decide⟩ ⟨by decide, by decide⟩ (le_b rfl) (le_b rfl) (le_b rfl) (le_b rfl) (le_b rfl) ?_
  obtain ⟨f41, e41⟩ : ∃ f41 : Nat → pE, f41 = wr (wu f40 457 (.inl (3, 8, refs (rows_of 457 8)))) 458 466 (.inl (1, 3, .inr (.inl (fun _ => 0)))) := ⟨_, rfl⟩
  replace p1 : PlaneAt f41 1 2 := p1.kept (by rw [e41]; exact (wr_out (by decide)).trans (wu_n (by decide))) (fun i h1 h2 => by rw [e41]; exact (wr_out (by omega)).trans (wu_n (by omega)))
  replace p77 : PlaneAt f41 77 78 := p77.kept (by rw [e41]; exact (wr_out (by decide)).trans (wu_n (by decide))) (fun i h1 h2 => by rw [e41]; exact (wr_out (by omega)).trans (wu_n (by omega)))
  replace h154 : f41 154 = .inl (0, 900, .inl (fun _ => 0)) := by rw [e41]; exact ((wr_out (by decide)).trans (wu_n (by decide))).trans h154
  replace h153 : f41 153 = .inr (2, [.ref 154, .int 0]) := by rw [e41]; exact ((wr_out (by decide)).trans (wu_n (by decide))).trans h153
  replace h156 : f41 156 = .inl (1, 9, .inr (.inl (fun _ => 0))) := by rw [e41]; exact ((wr_out (by decide)).trans (wu_n (by decide))).trans h156
  replace h157 : f41 157 = .inl (1, 9, .inr (.inl (fun _ => 0))) := by rw [e41]; exact ((wr_out (by decide)).trans (wu_n (by decide))).trans h157
  replace p158 : QuadAt f41 158 159 := p158.kept (by rw [e41]; exact (wr_out (by decide)).trans (wu_n (by decide))) (fun i h1 h2 => by rw [e41]; exact (wr_out (by omega)).trans (wu_n (by omega)))
  replace h155 : f41 155 = .inr (3, [.ref 156, .ref 157, .ref 158]) := by rw [e41]; exact ((wr_out (by decide)).trans (wu_n (by decide))).trans h155
  replace h165 : f41 165 = .inl (0, 8, .inl (fun _ => 0)) := by rw [e41]; exact ((wr_out (by decide)).trans (wu_n (by decide))).trans h165
  replace h166 : f41 166 = .inl (0, 8, .inl (fun _ => 0)) := by rw [e41]; exact ((wr_out (by decide)).trans (wu_n (by decide))).trans h166
  replace h167 : f41 167 = .inl (1, 3, .inr (.inl (fun _ => 0))) := by rw [e41]; exact ((wr_out (by decide)).trans (wu_n (by decide))).trans h167
  replace h168 : f41 168 = .inl (1, 9, .inr (.inl (fun _ => 0))) := by rw [e41]; exact ((wr_out (by decide)).trans (wu_n (by decide))).trans h168
  replace h164 : f41 164 = .inr (4, [.ref 153, .ref 155, .ref 165, .ref 166, .ref 167, .ref 168, .ref 77, .int 0, .int 0, .int 0, .int 0, .int 0, .int 0, .int (-1)]) := by rw [e41]; exact ((wr_out (by decide)).trans (wu_n (by decide))).trans h164
  replace h170 : f41 170 = .inl (0, 16, .inl (fun _ => 0)) := by rw [e41]; exact ((wr_out (by decide)).trans (wu_n (by decide))).trans h170
  replace h171 : f41 171 = .inl (0, 16, .inl (fun _ => 0)) := by rw [e41]; exact ((wr_out (by decide)).trans (wu_n (by decide))).trans h171
  replace h172 : f41 172 = .inl (3, 16, refs (rows_of 172 16)) := by rw [e41]; exact ((wr_out (by decide)).trans (wu_n (by decide))).trans h172
  replace h173 : ∀ i, i < 16 → f41 (173 + i) = .inl (1, 24, .inr (.inl (fun _ => 0))) := fun i hi => by rw [e41]; exact ((wr_out (by omega)).trans (wu_n (by omega))).trans (h173 i hi)
  replace h169 : f41 169 = .inr (5, [.ref 170, .ref 171, .ref 172, .int 0, .int 0]) := by rw [e41]; exact ((wr_out (by decide)).trans (wu_n (by decide))).trans h169
  replace h190 : f41 190 = .inl (3, 256, refs (rows_of 190 256)) := by rw [e41]; exact ((wr_out (by decide)).trans (wu_n (by decide))).trans h190
  replace h191 : ∀ i, i < 256 → f41 (191 + i) = .inl (1, 9, .inr (.inl (fun _ => 0))) := fun i hi => by rw [e41]; exact ((wr_out (by omega)).trans (wu_n (by omega))).trans (h191 i hi)
  replace h189 : f41 189 = .inr (6, [.ref 190, .int 0, .int 0]) := by rw [e41]; exact ((wr_out (by decide)).trans (wu_n (by decide))).trans h189
  replace h448 : f41 448 = .inl (2, 16, .inl (fun _ => 0)) := by rw [e41]; exact ((wr_out (by decide)).trans (wu_n (by decide))).trans h448
  replace h447 : f41 447 = .inr (7, [.ref 448, .int 0, .int 0, .int 0]) := by rw [e41]; exact ((wr_out (by decide)).trans (wu_n (by decide))).trans h447
  replace h449 : f41 449 = .inl (1, 9, .inr (.inl (fun _ => 0))) := by rw [e41]; exact ((wr_out (by decide)).trans (wu_n (by decide))).trans h449
  replace h450 : f41 450 = .inl (1, 9, .inr (.inl (fun _ => 0))) := by rw [e41]; exact ((wr_out (by decide)).trans (wu_n (by decide))).trans h450
  replace h451 : f41 451 = .inl (1, 9, .inr (.inl (fun _ => 0))) := by rw [e41]; exact ((wr_out (by decide)).trans (wu_n (by decide))).trans h451
  replace h452 : f41 452 = .inl (1, 3, .inr (.inl (fun _ => 0))) := by rw [e41]; exact ((wr_out (by decide)).trans (wu_n (by decide))).trans h452
  replace h453 : f41 453 = .inl (1, 3, .inr (.inl (fun _ => 0))) := by rw [e41]; exact ((wr_out (by decide)).trans (wu_n (by decide))).trans h453
  replace h454 : f41 454 = .inl (1, 3, .inr (.inl (fun _ => 0))) := by rw [e41]; exact ((wr_out (by decide)).trans (wu_n (by decide))).trans h454
  replace h455 : f41 455 = .inl (1, 3, .inr (.inl (fun _ => 0))) := by rw [e41]; exact ((wr_out (by decide)).trans (wu_n (by decide))).trans h455
  replace h456 : f41 456 = .inl (1, 3, .inr (.inl (fun _ => 0))) := by rw [e41]; exact ((wr_out (by decide)).trans (wu_n (by decide))).trans h456
  replace h0 : f41 0 = .inr (8, [.ref 1, .ref 77, .ref 153, .ref 164, .ref 169, .ref 155, .ref 189, .ref 447, .ref 449, .ref 450, .ref 451, .ref 452, .ref 453, .ref 454, .ref 455, .ref 456, .null, .null]) := by rw [e41]; exact ((wr_out (by decide)).trans (wu_n (by decide))).trans h0
  have h457 : f41 457 = .inl (3, 8, refs (rows_of 457 8)) := by rw [e41]; exact (wr_out (by decide)).trans (wu_s _ _ _)
  have h458 : ∀ i, i < 8 → f41 (458 + i) = .inl (1, 3, .inr (.inl (fun _ => 0))) := by rw [e41]; exact fun i hi => wr_in (by omega) (by omega)
  have o41 : ∀ i, (i < 457 ∨ 466 ≤ i) → f41 i = f40 i := fun i h1 => by rw [e41]; exact (wr_out (by omega)).trans (wu_n (by omega))
  show PW _ _ _ _ _ _ (171, [(0, .ref 0)], [.ref 457, .ref 0], (466, wr (wu f40 457 (.inl (3, 8, refs (rows_of 457 8)))) 458 466 (.inl (1, 3, .inr (.inl (fun _ => 0))))))
  rw [← e41]
  refine P_putF (i := 16) d_CM_init_171 ok_CM (by decide) rfl L_CM_92 rfl rfl h0 (fun _ => rfl) (fun _ => rfl) ?_
  obtain ⟨f42, e42⟩ : ∃ f42 : Nat → pE, f42 = wu f41 0 (.inr (8, [.ref 1, .ref 77, .ref 153, .ref 164, .ref 169, .ref 155, .ref 189, .ref 447, .ref 449, .ref 450, .ref 451, .ref 452, .ref 453, .ref 454, .ref 455, .ref 456, .ref 457, .null])) := ⟨_, rfl⟩
  replace p1 : PlaneAt f42 1 2 := p1.kept (by rw [e42]; exact wu_n (by decide)) (fun i h1 h2 => by rw [e42]; exact wu_n (by omega))
  replace p77 : PlaneAt f42 77 78 := p77.kept (by rw [e42]; exact wu_n (by decide)) (fun i h1 h2 => by rw [e42]; exact wu_n (by omega))
  replace h154 : f42 154 = .inl (0, 900, .inl (fun _ => 0)) := by rw [e42]; exact (wu_n (by decide)).trans h154
  replace h153 : f42 153 = .inr (2, [.ref 154, .int 0]) := by rw [e42]; exact (wu_n (by decide)).trans h153
  replace h156 : f42 156 = .inl (1, 9, .inr (.inl (fun _ => 0))) := by rw [e42]; exact (wu_n (by decide)).trans h156
  replace h157 : f42 157 = .inl (1, 9, .inr (.inl (fun _ => 0))) := by rw [e42]; exact (wu_n (by decide)).trans h157
  replace p158 : QuadAt f42 158 159 := p158.kept (by rw [e42]; exact wu_n (by decide)) (fun i h1 h2 => by rw [e42]; exact wu_n (by omega))
  replace h155 : f42 155 = .inr (3, [.ref 156, .ref 157, .ref 158]) := by rw [e42]; exact (wu_n (by decide)).trans h155
  replace h165 : f42 165 = .inl (0, 8, .inl (fun _ => 0)) := by rw [e42]; exact (wu_n (by decide)).trans h165
  replace h166 : f42 166 = .inl (0, 8, .inl (fun _ => 0)) := by rw [e42]; exact (wu_n (by decide)).trans h166
  replace h167 : f42 167 = .inl (1, 3, .inr (.inl (fun _ => 0))) := by rw [e42]; exact (wu_n (by decide)).trans h167
  replace h168 : f42 168 = .inl (1, 9, .inr (.inl (fun _ => 0))) := by rw [e42]; exact (wu_n (by decide)).trans h168
  replace h164 : f42 164 = .inr (4, [.ref 153, .ref 155, .ref 165, .ref 166, .ref 167, .ref 168, .ref 77, .int 0, .int 0, .int 0, .int 0, .int 0, .int 0, .int (-1)]) := by rw [e42]; exact (wu_n (by decide)).trans h164
  replace h170 : f42 170 = .inl (0, 16, .inl (fun _ => 0)) := by rw [e42]; exact (wu_n (by decide)).trans h170
  replace h171 : f42 171 = .inl (0, 16, .inl (fun _ => 0)) := by rw [e42]; exact (wu_n (by decide)).trans h171
  replace h172 : f42 172 = .inl (3, 16, refs (rows_of 172 16)) := by rw [e42]; exact (wu_n (by decide)).trans h172
  replace h173 : ∀ i, i < 16 → f42 (173 + i) = .inl (1, 24, .inr (.inl (fun _ => 0))) := fun i hi => by rw [e42]; exact (wu_n (by omega)).trans (h173 i hi)
  replace h169 : f42 169 = .inr (5, [.ref 170, .ref 171, .ref 172, .int 0, .int 0]) := by rw [e42]; exact (wu_n (by decide)).trans h169
  replace h190 : f42 190 = .inl (3, 256, refs (rows_of 190 256)) := by rw [e42]; exact (wu_n (by decide)).trans h190
  replace h191 : ∀ i, i < 256 → f42 (191 + i) = .inl (1, 9, .inr (.inl (fun _ => 0))) := fun i hi => by rw [e42]; exact (wu_n (by omega)).trans (h191 i hi)
  replace h189 : f42 189 = .inr (6, [.ref 190, .int 0, .int 0]) := by rw [e42]; exact (wu_n (by decide)).trans h189
  replace h448 : f42 448 = .inl (2, 16, .inl (fun _ => 0)) := by rw [e42]; exact (wu_n (by decide)).trans h448
  replace h447 : f42 447 = .inr (7, [.ref 448, .int 0, .int 0, .int 0]) := by rw [e42]; exact (wu_n (by decide)).trans h447
  replace h449 : f42 449 = .inl (1, 9, .inr (.inl (fun _ => 0))) := by rw [e42]; exact (wu_n (by decide)).trans h449
  replace h450 : f42 450 = .inl (1, 9, .inr (.inl (fun _ => 0))) := by rw [e42]; exact (wu_n (by decide)).trans h450
  replace h451 : f42 451 = .inl (1, 9, .inr (.inl (fun _ => 0))) := by rw [e42]; exact (wu_n (by decide)).trans h451
  replace h452 : f42 452 = .inl (1, 3, .inr (.inl (fun _ => 0))) := by rw [e42]; exact (wu_n (by decide)).trans h452
  replace h453 : f42 453 = .inl (1, 3, .inr (.inl (fun _ => 0))) := by rw [e42]; exact (wu_n (by decide)).trans h453
  replace h454 : f42 454 = .inl (1, 3, .inr (.inl (fun _ => 0))) := by rw [e42]; exact (wu_n (by decide)).trans h454
  replace h455 : f42 455 = .inl (1, 3, .inr (.inl (fun _ => 0))) := by rw [e42]; exact (wu_n (by decide)).trans h455
  replace h456 : f42 456 = .inl (1, 3, .inr (.inl (fun _ => 0))) := by rw [e42]; exact (wu_n (by decide)).trans h456
  replace h457 : f42 457 = .inl (3, 8, refs (rows_of 457 8)) := by rw [e42]; exact (wu_n (by decide)).trans h457
  replace h458 : ∀ i, i < 8 → f42 (458 + i) = .inl (1, 3, .inr (.inl (fun _ => 0))) := fun i hi => by rw [e42]; exact (wu_n (by omega)).trans (h458 i hi)
  replace h0 : f42 0 = .inr (8, [.ref 1, .ref 77, .ref 153, .ref 164, .ref 169, .ref 155, .ref 189, .ref 447, .ref 449, .ref 450, .ref 451, .ref 452, .ref 453, .ref 454, .ref 455, .ref 456, .ref 457, .null]) := by rw [e42]; exact wu_s _ _ _
  have o42 : ∀ i, (i < 0 ∨ 1 ≤ i) → f42 i = f41 i := fun i h1 => by rw [e42]; exact wu_n (by omega)
  show PW _ _ _ _ _ _ (174, [(0, .ref 0)], [], (466, wu f41 0 (.inr (8, [.ref 1, .ref 77, .ref 153, .ref 164, .ref 169, .ref 155, .ref 189, .ref 447, .ref 449, .ref 450, .ref 451, .ref 452, .ref 453, .ref 454, .ref 455, .ref 456, .ref 457, .null]))))
  rw [← e42]
  refine P_aload_n d_CM_init_174 rfl ?_
  refine P_iconst (v := 3) d_CM_init_175 (by decide) ?_
  refine P_newarr (t := 0) (N := 3) (a0 := (3, .inl (fun _ => 0))) d_CM_init_176 rfl (by decide) ac_int ⟨by decide, by decide⟩ (le_b rfl) ⟨rfl, fun _ _ => rfl⟩ (le_b rfl) (le_b rfl) (le_b rfl) ?_
  obtain ⟨f43, e43⟩ : ∃ f43 : Nat → pE, f43 = wu f42 466 (.inl (0, 3, .inl (fun _ => 0))) := ⟨_, rfl⟩
  replace p1 : PlaneAt f43 1 2 := p1.kept (by rw [e43]; exact wu_n (by decide)) (fun i h1 h2 => by rw [e43]; exact wu_n (by omega))
  replace p77 : PlaneAt f43 77 78 := p77.kept (by rw [e43]; exact wu_n (by decide)) (fun i h1 h2 => by rw [e43]; exact wu_n (by omega))
  replace h154 : f43 154 = .inl (0, 900, .inl (fun _ => 0)) := by rw [e43]; exact (wu_n (by decide)).trans h154
  replace h153 : f43 153 = .inr (2, [.ref 154, .int 0]) := by rw [e43]; exact (wu_n (by decide)).trans h153
  replace h156 : f43 156 = .inl (1, 9, .inr (.inl (fun _ => 0))) := by rw [e43]; exact (wu_n (by decide)).trans h156
  replace h157 : f43 157 = .inl (1, 9, .inr (.inl (fun _ => 0))) := by rw [e43]; exact (wu_n (by decide)).trans h157
  replace p158 : QuadAt f43 158 159 := p158.kept (by rw [e43]; exact wu_n (by decide)) (fun i h1 h2 => by rw [e43]; exact wu_n (by omega))
  replace h155 : f43 155 = .inr (3, [.ref 156, .ref 157, .ref 158]) := by rw [e43]; exact (wu_n (by decide)).trans h155
  replace h165 : f43 165 = .inl (0, 8, .inl (fun _ => 0)) := by rw [e43]; exact (wu_n (by decide)).trans h165
  replace h166 : f43 166 = .inl (0, 8, .inl (fun _ => 0)) := by rw [e43]; exact (wu_n (by decide)).trans h166
  replace h167 : f43 167 = .inl (1, 3, .inr (.inl (fun _ => 0))) := by rw [e43]; exact (wu_n (by decide)).trans h167
  replace h168 : f43 168 = .inl (1, 9, .inr (.inl (fun _ => 0))) := by rw [e43]; exact (wu_n (by decide)).trans h168
  replace h164 : f43 164 = .inr (4, [.ref 153, .ref 155, .ref 165, .ref 166, .ref 167, .ref 168, .ref 77, .int 0, .int 0, .int 0, .int 0, .int 0, .int 0, .int (-1)]) := by rw [e43]; exact (wu_n (by decide)).trans h164
  replace h170 : f43 170 = .inl (0, 16, .inl (fun _ => 0)) := by rw [e43]; exact (wu_n (by decide)).trans h170
  replace h171 : f43 171 = .inl (0, 16, .inl (fun _ => 0)) := by rw [e43]; exact (wu_n (by decide)).trans h171
  replace h172 : f43 172 = .inl (3, 16, refs (rows_of 172 16)) := by rw [e43]; exact (wu_n (by decide)).trans h172
  replace h173 : ∀ i, i < 16 → f43 (173 + i) = .inl (1, 24, .inr (.inl (fun _ => 0))) := fun i hi => by rw [e43]; exact (wu_n (by omega)).trans (h173 i hi)
  replace h169 : f43 169 = .inr (5, [.ref 170, .ref 171, .ref 172, .int 0, .int 0]) := by rw [e43]; exact (wu_n (by decide)).trans h169
  replace h190 : f43 190 = .inl (3, 256, refs (rows_of 190 256)) := by rw [e43]; exact (wu_n (by decide)).trans h190
  replace h191 : ∀ i, i < 256 → f43 (191 + i) = .inl (1, 9, .inr (.inl (fun _ => 0))) := fun i hi => by rw [e43]; exact (wu_n (by omega)).trans (h191 i hi)
  replace h189 : f43 189 = .inr (6, [.ref 190, .int 0, .int 0]) := by rw [e43]; exact (wu_n (by decide)).trans h189
  replace h448 : f43 448 = .inl (2, 16, .inl (fun _ => 0)) := by rw [e43]; exact (wu_n (by decide)).trans h448
  replace h447 : f43 447 = .inr (7, [.ref 448, .int 0, .int 0, .int 0]) := by rw [e43]; exact (wu_n (by decide)).trans h447
  replace h449 : f43 449 = .inl (1, 9, .inr (.inl (fun _ => 0))) := by rw [e43]; exact (wu_n (by decide)).trans h449
  replace h450 : f43 450 = .inl (1, 9, .inr (.inl (fun _ => 0))) := by rw [e43]; exact (wu_n (by decide)).trans h450
  replace h451 : f43 451 = .inl (1, 9, .inr (.inl (fun _ => 0))) := by rw [e43]; exact (wu_n (by decide)).trans h451
  replace h452 : f43 452 = .inl (1, 3, .inr (.inl (fun _ => 0))) := by rw [e43]; exact (wu_n (by decide)).trans h452
  replace h453 : f43 453 = .inl (1, 3, .inr (.inl (fun _ => 0))) := by rw [e43]; exact (wu_n (by decide)).trans h453
  replace h454 : f43 454 = .inl (1, 3, .inr (.inl (fun _ => 0))) := by rw [e43]; exact (wu_n (by decide)).trans h454
  replace h455 : f43 455 = .inl (1, 3, .inr (.inl (fun _ => 0))) := by rw [e43]; exact (wu_n (by decide)).trans h455
  replace h456 : f43 456 = .inl (1, 3, .inr (.inl (fun _ => 0))) := by rw [e43]; exact (wu_n (by decide)).trans h456
  replace h457 : f43 457 = .inl (3, 8, refs (rows_of 457 8)) := by rw [e43]; exact (wu_n (by decide)).trans h457
  replace h458 : ∀ i, i < 8 → f43 (458 + i) = .inl (1, 3, .inr (.inl (fun _ => 0))) := fun i hi => by rw [e43]; exact (wu_n (by omega)).trans (h458 i hi)
  replace h0 : f43 0 = .inr (8, [.ref 1, .ref 77, .ref 153, .ref 164, .ref 169, .ref 155, .ref 189, .ref 447, .ref 449, .ref 450, .ref 451, .ref 452, .ref 453, .ref 454, .ref 455, .ref 456, .ref 457, .null]) := by rw [e43]; exact (wu_n (by decide)).trans h0
  have h466 : f43 466 = .inl (0, 3, .inl (fun _ => 0)) := by rw [e43]; exact wu_s _ _ _
  have o43 : ∀ i, (i < 466 ∨ 467 ≤ i) → f43 i = f42 i := fun i h1 => by rw [e43]; exact wu_n (by omega)
  show PW _ _ _ _ _ _ (178, [(0, .ref 0)], [.ref 466, .ref 0], (467, wu f42 466 (.inl (0, 3, .inl (fun _ => 0)))))
  rw [← e43]
  refine P_putF (i := 17) d_CM_init_178 ok_CM (by decide) rfl L_CM_95 rfl rfl h0 (fun _ => rfl) (fun _ => rfl) ?_
  obtain ⟨f44, e44⟩ : ∃ f44 : Nat → pE, f44 = wu f43 0 (.inr (8, [.ref 1, .ref 77, .ref 153, .ref 164, .ref 169, .ref 155, .ref 189, .ref 447, .ref 449, .ref 450, .ref 451, .ref 452, .ref 453, .ref 454, .ref 455, .ref 456, .ref 457, .ref 466])) := ⟨_, rfl⟩
  replace p1 : PlaneAt f44 1 2 := p1.kept (by rw [e44]; exact wu_n (by decide)) (fun i h1 h2 => by rw [e44]; exact wu_n (by omega))
  replace p77 : PlaneAt f44 77 78 := p77.kept (by rw [e44]; exact wu_n (by decide)) (fun i h1 h2 => by rw [e44]; exact wu_n (by omega))
  replace h154 : f44 154 = .inl (0, 900, .inl (fun _ => 0)) := by rw [e44]; exact (wu_n (by decide)).trans h154
  replace h153 : f44 153 = .inr (2, [.ref 154, .int 0]) := by rw [e44]; exact (wu_n (by decide)).trans h153
  replace h156 : f44 156 = .inl (1, 9, .inr (.inl (fun _ => 0))) := by rw [e44]; exact (wu_n (by decide)).trans h156
  replace h157 : f44 157 = .inl (1, 9, .inr (.inl (fun _ => 0))) := by rw [e44]; exact (wu_n (by decide)).trans h157
  replace p158 : QuadAt f44 158 159 := p158.kept (by rw [e44]; exact wu_n (by decide)) (fun i h1 h2 => by rw [e44]; exact wu_n (by omega))
  replace h155 : f44 155 = .inr (3, [.ref 156, .ref 157, .ref 158]) := by rw [e44]; exact (wu_n (by decide)).trans h155
  replace h165 : f44 165 = .inl (0, 8, .inl (fun _ => 0)) := by rw [e44]; exact (wu_n (by decide)).trans h165
  replace h166 : f44 166 = .inl (0, 8, .inl (fun _ => 0)) := by rw [e44]; exact (wu_n (by decide)).trans h166
  replace h167 : f44 167 = .inl (1, 3, .inr (.inl (fun _ => 0))) := by rw [e44]; exact (wu_n (by decide)).trans h167
  replace h168 : f44 168 = .inl (1, 9, .inr (.inl (fun _ => 0))) := by rw [e44]; exact (wu_n (by decide)).trans h168
  replace h164 : f44 164 = .inr (4, [.ref 153, .ref 155, .ref 165, .ref 166, .ref 167, .ref 168, .ref 77, .int 0, .int 0, .int 0, .int 0, .int 0, .int 0, .int (-1)]) := by rw [e44]; exact (wu_n (by decide)).trans h164
  replace h170 : f44 170 = .inl (0, 16, .inl (fun _ => 0)) := by rw [e44]; exact (wu_n (by decide)).trans h170
  replace h171 : f44 171 = .inl (0, 16, .inl (fun _ => 0)) := by rw [e44]; exact (wu_n (by decide)).trans h171
  replace h172 : f44 172 = .inl (3, 16, refs (rows_of 172 16)) := by rw [e44]; exact (wu_n (by decide)).trans h172
  replace h173 : ∀ i, i < 16 → f44 (173 + i) = .inl (1, 24, .inr (.inl (fun _ => 0))) := fun i hi => by rw [e44]; exact (wu_n (by omega)).trans (h173 i hi)
  replace h169 : f44 169 = .inr (5, [.ref 170, .ref 171, .ref 172, .int 0, .int 0]) := by rw [e44]; exact (wu_n (by decide)).trans h169
  replace h190 : f44 190 = .inl (3, 256, refs (rows_of 190 256)) := by rw [e44]; exact (wu_n (by decide)).trans h190
  replace h191 : ∀ i, i < 256 → f44 (191 + i) = .inl (1, 9, .inr (.inl (fun _ => 0))) := fun i hi => by rw [e44]; exact (wu_n (by omega)).trans (h191 i hi)
  replace h189 : f44 189 = .inr (6, [.ref 190, .int 0, .int 0]) := by rw [e44]; exact (wu_n (by decide)).trans h189
  replace h448 : f44 448 = .inl (2, 16, .inl (fun _ => 0)) := by rw [e44]; exact (wu_n (by decide)).trans h448
  replace h447 : f44 447 = .inr (7, [.ref 448, .int 0, .int 0, .int 0]) := by rw [e44]; exact (wu_n (by decide)).trans h447
  replace h449 : f44 449 = .inl (1, 9, .inr (.inl (fun _ => 0))) := by rw [e44]; exact (wu_n (by decide)).trans h449
  replace h450 : f44 450 = .inl (1, 9, .inr (.inl (fun _ => 0))) := by rw [e44]; exact (wu_n (by decide)).trans h450
  replace h451 : f44 451 = .inl (1, 9, .inr (.inl (fun _ => 0))) := by rw [e44]; exact (wu_n (by decide)).trans h451
  replace h452 : f44 452 = .inl (1, 3, .inr (.inl (fun _ => 0))) := by rw [e44]; exact (wu_n (by decide)).trans h452
  replace h453 : f44 453 = .inl (1, 3, .inr (.inl (fun _ => 0))) := by rw [e44]; exact (wu_n (by decide)).trans h453
  replace h454 : f44 454 = .inl (1, 3, .inr (.inl (fun _ => 0))) := by rw [e44]; exact (wu_n (by decide)).trans h454
  replace h455 : f44 455 = .inl (1, 3, .inr (.inl (fun _ => 0))) := by rw [e44]; exact (wu_n (by decide)).trans h455
  replace h456 : f44 456 = .inl (1, 3, .inr (.inl (fun _ => 0))) := by rw [e44]; exact (wu_n (by decide)).trans h456
  replace h457 : f44 457 = .inl (3, 8, refs (rows_of 457 8)) := by rw [e44]; exact (wu_n (by decide)).trans h457
  replace h458 : ∀ i, i < 8 → f44 (458 + i) = .inl (1, 3, .inr (.inl (fun _ => 0))) := fun i hi => by rw [e44]; exact (wu_n (by omega)).trans (h458 i hi)
  replace h466 : f44 466 = .inl (0, 3, .inl (fun _ => 0)) := by rw [e44]; exact (wu_n (by decide)).trans h466
  replace h0 : f44 0 = .inr (8, [.ref 1, .ref 77, .ref 153, .ref 164, .ref 169, .ref 155, .ref 189, .ref 447, .ref 449, .ref 450, .ref 451, .ref 452, .ref 453, .ref 454, .ref 455, .ref 456, .ref 457, .ref 466]) := by rw [e44]; exact wu_s _ _ _
  have o44 : ∀ i, (i < 0 ∨ 1 ≤ i) → f44 i = f43 i := fun i h1 => by rw [e44]; exact wu_n (by omega)
  show PW _ _ _ _ _ _ (181, [(0, .ref 0)], [], (467, wu f43 0 (.inr (8, [.ref 1, .ref 77, .ref 153, .ref 164, .ref 169, .ref 155, .ref 189, .ref 447, .ref 449, .ref 450, .ref 451, .ref 452, .ref 453, .ref 454, .ref 455, .ref 456, .ref 457, .ref 466]))))
  rw [← e44]
  exact P_vret d_CM_init_181 rfl (le_b rfl) (le_b rfl) ⟨rfl, f44, rfl, fun i h1 h2 => by rw [o44 i (by omega), o43 i (by omega), o42 i (by omega), o41 i (by omega), o40 i (by omega), o39 i (by omega), o38 i (by omega), o37 i (by omega), o36 i (by omega), o35 i (by omega), o34 i (by omega), o33 i (by omega), o32 i (by omega), o31 i (by omega), o30 i (by omega), o29 i (by omega), o28 i (by omega), o27 i (by omega), o26 i (by omega), o25 i (by omega), o24 i (by omega), o23 i (by omega) (by omega), o22 i (by omega), o21 i (by omega), o20 i (by omega) (by omega), o19 i (by omega), o18 i (by omega), o17 i (by omega) (by omega), o16 i (by omega), o15 i (by omega), o14 i (by omega) (by omega), o13 i (by omega), o12 i (by omega), o11 i (by omega) (by omega), o10 i (by omega), o9 i (by omega), o8 i (by omega) (by omega), o7 i (by omega), o6 i (by omega), o5 i (by omega) (by omega), o4 i (by omega), o3 i (by omega), o2 i (by omega) (by omega), o1 i (by omega)], p1, p77, h154, h153, h156, h157, p158, h155, h165, h166, h167, h168, h164, h170, h171, h172, h173, h169, h190, h191, h189, h448, h447, h449, h450, h451, h452, h453, h454, h455, h456, h457, h458, h466, h0⟩
set_option maxRecDepth 20000 in
theorem c_MD_init {G : pG} (f : Nat → pE) (h467 : f 467 = .inr (9, [.int 0, .null, .int 0, .null, .null, .int 0, .int 0, .null, .null, .null, .int 0, .int 0, .int 0, .null, .null, .int 0, .int 0, .int 0, .int 0, .int 0, .int 0, .int 0, .int 0, .int 0, .int 0, .null, .null, .null, .null, .null, .null, .null, .null, .int 0, .null, .int 0, .null, .int 0])) : PM G M_MD_init 1 18 6721 [.ref 467] (468, f) (fun r w' => r = none ∧ ∃ g : Nat → pE, w' = (486, g) ∧ (∀ i, i ≠ 467 → (i < 468 ∨ 486 ≤ i) → g i = f i) ∧ (g 468 = .inl (0, 900, .inl (fun _ => 0))) ∧ (g 469 = .inl (0, 64, .inl (fun _ => 0))) ∧ (g 470 = .inl (0, 64, .inl (fun _ => 0))) ∧ (g 471 = .inl (1, 170, .inr (.inl (fun _ => 0)))) ∧ (g 472 = .inl (1, 170, .inr (.inl (fun _ => 0)))) ∧ (g 473 = .inl (1, 2720, .inr (.inl (fun _ => 0)))) ∧ (g 474 = .inl (0, 8, .inl (fun _ => 0))) ∧ (g 475 = .inl (0, 8, .inl (fun _ => 0))) ∧ (g 476 = .inl (1, 9, .inr (.inl (fun _ => 0)))) ∧ (g 477 = .inl (1, 9, .inr (.inl (fun _ => 0)))) ∧ (g 478 = .inl (1, 9, .inr (.inl (fun _ => 0)))) ∧ (g 479 = .inl (1, 3, .inr (.inl (fun _ => 0)))) ∧ (g 480 = .inl (1, 3, .inr (.inl (fun _ => 0)))) ∧ (g 481 = .inl (0, 16, .inl (fun _ => 0))) ∧ (g 482 = .inl (1, 9, .inr (.inl (fun _ => 0)))) ∧ (g 483 = .inl (0, 3, .inl (fun _ => 0))) ∧ (g 484 = .inl (1, 2448, .inr (.inl (fun _ => 0)))) ∧ (g 485 = .inl (0, 108, .inl (fun _ => 0))) ∧ (g 467 = .inr (9, [.int 0, .ref 468, .int 0, .ref 469, .ref 470, .int 0, .int 0, .ref 471, .ref 472, .ref 473, .int 0, .int 0, .int 0, .ref 474, .ref 475, .int 0, .int 0, .int 0, .int 0, .int 0, .int 0, .int 0, .int 0, .int 0, .int (-1), .ref 476, .ref 477, .ref 478, .ref 479, .ref 480, .ref 481, .ref 482, .ref 483, .int 0, .ref 484, .int 0, .ref 485, .int 0]))) := by
  refine PM_of pn_MD_init (le_b rfl) ?_
  show PW _ _ _ _ _ _ (0, [(0, .ref 467)], [], (468, f))
  refine P_aload_n d_MD_init_0 rfl ?_
  refine P_objInit d_MD_init_1 L_MD_3 im_objInit cd_objInit ⟨le_b rfl, le_b rfl⟩ (le_b rfl) ?_
  refine P_aload_n d_MD_init_4 rfl ?_
  refine P_sipush (v := 900) d_MD_init_5 (by decide) ?_
  refine P_newarr (t := 0) (N := 900) (a0 := (900, .inl (fun _ => 0))) d_MD_init_8 rfl (by decide) ac_int ⟨by decide, by decide⟩ (le_b rfl) ⟨rfl, fun _ _ => rfl⟩ (le_b rfl) (le_b rfl) (le_b rfl) ?_
  obtain ⟨f1, e1⟩ : ∃ f1 : Nat → pE, f1 = wu f 468 (.inl (0, 900, .inl (fun _ => 0))) := ⟨_, rfl⟩
  replace h467 : f1 467 = .inr (9, [.int 0, .null, .int 0, .null, .null, .int 0, .int 0, .null, .null, .null, .int 0, .int 0, .int 0, .null, .null, .int 0, .int 0, .int 0, .int 0, .int 0, .int 0, .int 0, .int 0, .int 0, .int 0, .null, .null, .null, .null, .null, .null, .null, .null, .int 0, .null, .int 0, .null, .int 0]) := by rw [e1]; exact (wu_n (by decide)).trans h467
  have h468 : f1 468 = .inl (0, 900, .inl (fun _ => 0)) := by rw [e1]; exact wu_s _ _ _
  have o1 : ∀ i, (i < 468 ∨ 469 ≤ i) → f1 i = f i := fun i h1 => by rw [e1]; exact wu_n (by omega)
  show PW _ _ _ _ _ _ (10, [(0, .ref 467)], [.ref 468, .ref 467], (469, wu f 468 (.inl (0, 900, .inl (fun _ => 0)))))
  rw [← e1]
  refine P_putF (i := 1) d_MD_init_10 ok_Model (by decide) rfl L_MD_9 rfl rfl h467 (fun _ => rfl) (fun _ => rfl) ?_
  obtain ⟨f2, e2⟩ : ∃ f2 : Nat → pE, f2 = wu f1 467 (.inr (9, [.int 0, .ref 468, .int 0, .null, .null, .int 0, .int 0, .null, .null, .null, .int 0, .int 0, .int 0, .null, .null, .int 0, .int 0, .int 0, .int 0, .int 0, .int 0, .int 0, .int 0, .int 0, .int 0, .null, .null, .null, .null, .null, .null, .null, .null, .int 0, .null, .int 0, .null, .int 0])) := ⟨_, rfl⟩
  replace h468 : f2 468 = .inl (0, 900, .inl (fun _ => 0)) := by rw [e2]; exact (wu_n (by decide)).trans h468
  replace h467 : f2 467 = .inr (9, [.int 0, .ref 468, .int 0, .null, .null, .int 0, .int 0, .null, .null, .null, .int 0, .int 0, .int 0, .null, .null, .int 0, .int 0, .int 0, .int 0, .int 0, .int 0, .int 0, .int 0, .int 0, .int 0, .null, .null, .null, .null, .null, .null, .null, .null, .int 0, .null, .int 0, .null, .int 0]) := by rw [e2]; exact wu_s _ _ _
  have o2 : ∀ i, (i < 467 ∨ 468 ≤ i) → f2 i = f1 i := fun i h1 => by rw [e2]; exact wu_n (by omega)
  show PW _ _ _ _ _ _ (13, [(0, .ref 467)], [], (469, wu f1 467 (.inr (9, [.int 0, .ref 468, .int 0, .null, .null, .int 0, .int 0, .null, .null, .null, .int 0, .int 0, .int 0, .null, .null, .int 0, .int 0, .int 0, .int 0, .int 0, .int 0, .int 0, .int 0, .int 0, .int 0, .null, .null, .null, .null, .null, .null, .null, .null, .int 0, .null, .int 0, .null, .int 0]))))
  rw [← e2]
  refine P_aload_n d_MD_init_13 rfl ?_
  refine P_bipush (v := 64) d_MD_init_14 (by decide) ?_
  refine P_newarr (t := 0) (N := 64) (a0 := (64, .inl (fun _ => 0))) d_MD_init_16 rfl (by decide) ac_int ⟨by decide, by decide⟩ (le_b rfl) ⟨rfl, fun _ _ => rfl⟩ (le_b rfl) (le_b rfl) (le_b rfl) ?_
  obtain ⟨f3, e3⟩ : ∃ f3 : Nat → pE, f3 = wu f2 469 (.inl (0, 64, .inl (fun _ => 0))) := ⟨_, rfl⟩
  replace h468 : f3 468 = .inl (0, 900, .inl (fun _ => 0)) := by rw [e3]; exact (wu_n (by decide)).trans h468
  replace h467 : f3 467 = .inr (9, [.int 0, .ref 468, .int 0, .null, .null, .int 0, .int 0, .null, .null, .null, .int 0, .int 0, .int 0, .null, .null, .int 0, .int 0, .int 0, .int 0, .int 0, .int 0, .int 0, .int 0, .int 0, .int 0, .null, .null, .null, .null, .null, .null, .null, .null, .int 0, .null, .int 0, .null, .int 0]) := by rw [e3]; exact (wu_n (by decide)).trans h467
  have h469 : f3 469 = .inl (0, 64, .inl (fun _ => 0)) := by rw [e3]; exact wu_s _ _ _
  have o3 : ∀ i, (i < 469 ∨ 470 ≤ i) → f3 i = f2 i := fun i h1 => by rw [e3]; exact wu_n (by omega)
  show PW _ _ _ _ _ _ (18, [(0, .ref 467)], [.ref 469, .ref 467], (470, wu f2 469 (.inl (0, 64, .inl (fun _ => 0)))))
  rw [← e3]
  refine P_putF (i := 3) d_MD_init_18 ok_Model (by decide) rfl L_MD_15 rfl rfl h467 (fun _ => rfl) (fun _ => rfl) ?_
  obtain ⟨f4, e4⟩ : ∃ f4 : Nat → pE, f4 = wu f3 467 (.inr (9, [.int 0, .ref 468, .int 0, .ref 469, .null, .int 0, .int 0, .null, .null, .null, .int 0, .int 0, .int 0, .null, .null, .int 0, .int 0, .int 0, .int 0, .int 0, .int 0, .int 0, .int 0, .int 0, .int 0, .null, .null, .null, .null, .null, .null, .null, .null, .int 0, .null, .int 0, .null, .int 0])) := ⟨_, rfl⟩
  replace h468 : f4 468 = .inl (0, 900, .inl (fun _ => 0)) := by rw [e4]; exact (wu_n (by decide)).trans h468
  replace h469 : f4 469 = .inl (0, 64, .inl (fun _ => 0)) := by rw [e4]; exact (wu_n (by decide)).trans h469
  replace h467 : f4 467 = .inr (9, [.int 0, .ref 468, .int 0, .ref 469, .null, .int 0, .int 0, .null, .null, .null, .int 0, .int 0, .int 0, .null, .null, .int 0, .int 0, .int 0, .int 0, .int 0, .int 0, .int 0, .int 0, .int 0, .int 0, .null, .null, .null, .null, .null, .null, .null, .null, .int 0, .null, .int 0, .null, .int 0]) := by rw [e4]; exact wu_s _ _ _
  have o4 : ∀ i, (i < 467 ∨ 468 ≤ i) → f4 i = f3 i := fun i h1 => by rw [e4]; exact wu_n (by omega)
  show PW _ _ _ _ _ _ (21, [(0, .ref 467)], [], (470, wu f3 467 (.inr (9, [.int 0, .ref 468, .int 0, .ref 469, .null, .int 0, .int 0, .null, .null, .null, .int 0, .int 0, .int 0, .null, .null, .int 0, .int 0, .int 0, .int 0, .int 0, .int 0, .int 0, .int 0, .int 0, .int 0, .null, .null, .null, .null, .null, .null, .null, .null, .int 0, .null, .int 0, .null, .int 0]))))
  rw [← e4]
  refine P_aload_n d_MD_init_21 rfl ?_
  refine P_bipush (v := 64) d_MD_init_22 (by decide) ?_
  refine P_newarr (t := 0) (N := 64) (a0 := (64, .inl (fun _ => 0))) d_MD_init_24 rfl (by decide) ac_int ⟨by decide, by decide⟩ (le_b rfl) ⟨rfl, fun _ _ => rfl⟩ (le_b rfl) (le_b rfl) (le_b rfl) ?_
  obtain ⟨f5, e5⟩ : ∃ f5 : Nat → pE, f5 = wu f4 470 (.inl (0, 64, .inl (fun _ => 0))) := ⟨_, rfl⟩
  replace h468 : f5 468 = .inl (0, 900, .inl (fun _ => 0)) := by rw [e5]; exact (wu_n (by decide)).trans h468
  replace h469 : f5 469 = .inl (0, 64, .inl (fun _ => 0)) := by rw [e5]; exact (wu_n (by decide)).trans h469
  replace h467 : f5 467 = .inr (9, [.int 0, .ref 468, .int 0, .ref 469, .null, .int 0, .int 0, .null, .null, .null, .int 0, .int 0, .int 0, .null, .null, .int 0, .int 0, .int 0, .int 0, .int 0, .int 0, .int 0, .int 0, .int 0, .int 0, .null, .null, .null, .null, .null, .null, .null, .null, .int 0, .null, .int 0, .null, .int 0]) := by rw [e5]; exact (wu_n (by decide)).trans h467
  have h470 : f5 470 = .inl (0, 64, .inl (fun _ => 0)) := by rw [e5]; exact wu_s _ _ _
  have o5 : ∀ i, (i < 470 ∨ 471 ≤ i) → f5 i = f4 i := fun i h1 => by rw [e5]; exact wu_n (by omega)
  show PW _ _ _ _ _ _ (26, [(0, .ref 467)], [.ref 470, .ref 467], (471, wu f4 470 (.inl (0, 64, .inl (fun _ => 0)))))
  rw [← e5]
  refine P_putF (i := 4) d_MD_init_26 ok_Model (by decide) rfl L_MD_18 rfl rfl h467 (fun _ => rfl) (fun _ => rfl) ?_
  obtain ⟨f6, e6⟩ : ∃ f6 : Nat → pE, f6 = wu f5 467 (.inr (9, [.int 0, .ref 468, .int 0, .ref 469, .ref 470, .int 0, .int 0, .null, .null, .null, .int 0, .int 0, .int 0, .null, .null, .int 0, .int 0, .int 0, .int 0, .int 0, .int 0, .int 0, .int 0, .int 0, .int 0, .null, .null, .null, .null, .null, .null, .null, .null, .int 0, .null, .int 0, .null, .int 0])) := ⟨_, rfl⟩
  replace h468 : f6 468 = .inl (0, 900, .inl (fun _ => 0)) := by rw [e6]; exact (wu_n (by decide)).trans h468
  replace h469 : f6 469 = .inl (0, 64, .inl (fun _ => 0)) := by rw [e6]; exact (wu_n (by decide)).trans h469
  replace h470 : f6 470 = .inl (0, 64, .inl (fun _ => 0)) := by rw [e6]; exact (wu_n (by decide)).trans h470
  replace h467 : f6 467 = .inr (9, [.int 0, .ref 468, .int 0, .ref 469, .ref 470, .int 0, .int 0, .null, .null, .null, .int 0, .int 0, .int 0, .null, .null, .int 0, .int 0, .int 0, .int 0, .int 0, .int 0, .int 0, .int 0, .int 0, .int 0, .null, .null, .null, .null, .null, .null, .null, .null, .int 0, .null, .int 0, .null, .int 0]) := by rw [e6]; exact wu_s _ _ _
  have o6 : ∀ i, (i < 467 ∨ 468 ≤ i) → f6 i = f5 i := fun i h1 => by rw [e6]; exact wu_n (by omega)
  show PW _ _ _ _ _ _ (29, [(0, .ref 467)], [], (471, wu f5 467 (.inr (9, [.int 0, .ref 468, .int 0, .ref 469, .ref 470, .int 0, .int 0, .null, .null, .null, .int 0, .int 0, .int 0, .null, .null, .int 0, .int 0, .int 0, .int 0, .int 0, .int 0, .int 0, .int 0, .int 0, .int 0, .null, .null, .null, .null, .null, .null, .null, .null, .int 0, .null, .int 0, .null, .int 0]))))
  rw [← e6]
  refine P_aload_n d_MD_init_29 rfl ?_
  refine P_sipush (v := 170) d_MD_init_30 (by decide) ?_
  refine P_newarr (t := 1) (N := 170) (a0 := (170, .inr (.inl (fun _ => 0)))) d_MD_init_33 rfl (by decide) ac_long ⟨by decide, by decide⟩ (le_b rfl) ⟨rfl, fun _ _ => rfl⟩ (le_b rfl) (le_b rfl) (le_b rfl) ?_
  obtain ⟨f7, e7⟩ : ∃ f7 : Nat → pE, f7 = wu f6 471 (.inl (1, 170, .inr (.inl (fun _ => 0)))) := ⟨_, rfl⟩
  replace h468 : f7 468 = .inl (0, 900, .inl (fun _ => 0)) := by rw [e7]; exact (wu_n (by decide)).trans h468
  replace h469 : f7 469 = .inl (0, 64, .inl (fun _ => 0)) := by rw [e7]; exact (wu_n (by decide)).trans h469
  replace h470 : f7 470 = .inl (0, 64, .inl (fun _ => 0)) := by rw [e7]; exact (wu_n (by decide)).trans h470
  replace h467 : f7 467 = .inr (9, [.int 0, .ref 468, .int 0, .ref 469, .ref 470, .int 0, .int 0, .null, .null, .null, .int 0, .int 0, .int 0, .null, .null, .int 0, .int 0, .int 0, .int 0, .int 0, .int 0, .int 0, .int 0, .int 0, .int 0, .null, .null, .null, .null, .null, .null, .null, .null, .int 0, .null, .int 0, .null, .int 0]) := by rw [e7]; exact (wu_n (by decide)).trans h467
  have h471 : f7 471 = .inl (1, 170, .inr (.inl (fun _ => 0))) := by rw [e7]; exact wu_s _ _ _
  have o7 : ∀ i, (i < 471 ∨ 472 ≤ i) → f7 i = f6 i := fun i h1 => by rw [e7]; exact wu_n (by omega)
  show PW _ _ _ _ _ _ (35, [(0, .ref 467)], [.ref 471, .ref 467], (472, wu f6 471 (.inl (1, 170, .inr (.inl (fun _ => 0))))))
  rw [← e7]
  refine P_putF (i := 7) d_MD_init_35 ok_Model (by decide) rfl L_MD_21 rfl rfl h467 (fun _ => rfl) (fun _ => rfl) ?_
  obtain ⟨f8, e8⟩ : ∃ f8 : Nat → pE, f8 = wu f7 467 (.inr (9, [.int 0, .ref 468, .int 0, .ref 469, .ref 470, .int 0, .int 0, .ref 471, .null, .null, .int 0, .int 0, .int 0, .null, .null, .int 0, .int 0, .int 0, .int 0, .int 0, .int 0, .int 0, .int 0, .int 0, .int 0, .null, .null, .null, .null, .null, .null, .null, .null, .int 0, .null, .int 0, .null, .int 0])) := ⟨_, rfl⟩
  replace h468 : f8 468 = .inl (0, 900, .inl (fun _ => 0)) := by rw [e8]; exact (wu_n (by decide)).trans h468
  replace h469 : f8 469 = .inl (0, 64, .inl (fun _ => 0)) := by rw [e8]; exact (wu_n (by decide)).trans h469
  replace h470 : f8 470 = .inl (0, 64, .inl (fun _ => 0)) := by rw [e8]; exact (wu_n (by decide)).trans h470
  replace h471 : f8 471 = .inl (1, 170, .inr (.inl (fun _ => 0))) := by rw [e8]; exact (wu_n (by decide)).trans h471
  replace h467 : f8 467 = .inr (9, [.int 0, .ref 468, .int 0, .ref 469, .ref 470, .int 0, .int 0, .ref 471, .null, .null, .int 0, .int 0, .int 0, .null, .null, .int 0, .int 0, .int 0, .int 0, .int 0, .int 0, .int 0, .int 0, .int 0, .int 0, .null, .null, .null, .null, .null, .null, .null, .null, .int 0, .null, .int 0, .null, .int 0]) := by rw [e8]; exact wu_s _ _ _
  have o8 : ∀ i, (i < 467 ∨ 468 ≤ i) → f8 i = f7 i := fun i h1 => by rw [e8]; exact wu_n (by omega)
  show PW _ _ _ _ _ _ (38, [(0, .ref 467)], [], (472, wu f7 467 (.inr (9, [.int 0, .ref 468, .int 0, .ref 469, .ref 470, .int 0, .int 0, .ref 471, .null, .null, .int 0, .int 0, .int 0, .null, .null, .int 0, .int 0, .int 0, .int 0, .int 0, .int 0, .int 0, .int 0, .int 0, .int 0, .null, .null, .null, .null, .null, .null, .null, .null, .int 0, .null, .int 0, .null, .int 0]))))
  rw [← e8]
  refine P_aload_n d_MD_init_38 rfl ?_
  refine P_sipush (v := 170) d_MD_init_39 (by decide) ?_
  refine P_newarr (t := 1) (N := 170) (a0 := (170, .inr (.inl (fun _ => 0)))) d_MD_init_42 rfl (by decide) ac_long ⟨by decide, by decide⟩ (le_b rfl) ⟨rfl, fun _ _ => rfl⟩ (le_b rfl) (le_b rfl) (le_b rfl) ?_
  obtain ⟨f9, e9⟩ : ∃ f9 : Nat → pE, f9 = wu f8 472 (.inl (1, 170, .inr (.inl (fun _ => 0)))) := ⟨_, rfl⟩
  replace h468 : f9 468 = .inl (0, 900, .inl (fun _ => 0)) := by rw [e9]; exact (wu_n (by decide)).trans h468
  replace h469 : f9 469 = .inl (0, 64, .inl (fun _ => 0)) := by rw [e9]; exact (wu_n (by decide)).trans h469
  replace h470 : f9 470 = .inl (0, 64, .inl (fun _ => 0)) := by rw [e9]; exact (wu_n (by decide)).trans h470
  replace h471 : f9 471 = .inl (1, 170, .inr (.inl (fun _ => 0))) := by rw [e9]; exact (wu_n (by decide)).trans h471
  replace h467 : f9 467 = .inr (9, [.int 0, .ref 468, .int 0, .ref 469, .ref 470, .int 0, .int 0, .ref 471, .null, .null, .int 0, .int 0, .int 0, .null, .null, .int 0, .int 0, .int 0, .int 0, .int 0, .int 0, .int 0, .int 0, .int 0, .int 0, .null, .null, .null, .null, .null, .null, .null, .null, .int 0, .null, .int 0, .null, .int 0]) := by rw [e9]; exact (wu_n (by decide)).trans h467
  have h472 : f9 472 = .inl (1, 170, .inr (.inl (fun _ => 0))) := by rw [e9]; exact wu_s _ _ _
  have o9 : ∀ i, (i < 472 ∨ 473 ≤ i) → f9 i = f8 i := fun i h1 => by rw [e9]; exact wu_n (by omega)
  show PW _ _ _ _ _ _ (44, [(0, .ref 467)], [.ref 472, .ref 467], (473, wu f8 472 (.inl (1, 170, .inr (.inl (fun _ => 0))))))
  rw [← e9]
  refine P_putF (i := 8) d_MD_init_44 ok_Model (by decide) rfl L_MD_25 rfl rfl h467 (fun _ => rfl) (fun _ => rfl) ?_
  obtain ⟨f10, e10⟩ : ∃ f10 : Nat → pE, f10 = wu f9 467 (.inr (9, [.int 0, .ref 468, .int 0, .ref 469, .ref 470, .int 0, .int 0, .ref 471, .ref 472, .null, .int 0, .int 0, .int 0, .null, .null, .int 0, .int 0, .int 0, .int 0, .int 0, .int 0, .int 0, .int 0, .int 0, .int 0, .null, .null, .null, .null, .null, .null, .null, .null, .int 0, .null, .int 0, .null, .int 0])) := ⟨_, rfl⟩
  replace h468 : f10 468 = .inl (0, 900, .inl (fun _ => 0)) := by rw [e10]; exact (wu_n (by decide)).trans h468
  replace h469 : f10 469 = .inl (0, 64, .inl (fun _ => 0)) := by rw [e10]; exact (wu_n (by decide)).trans h469
  replace h470 : f10 470 = .inl (0, 64, .inl (fun _ => 0)) := by rw [e10]; exact (wu_n (by decide)).trans h470
  replace h471 : f10 471 = .inl (1, 170, .inr (.inl (fun _ => 0))) := by rw [e10]; exact (wu_n (by decide)).trans h471
  replace h472 : f10 472 = .inl (1, 170, .inr (.inl (fun _ => 0))) := by rw [e10]; exact (wu_n (by decide)).trans h472
  replace h467 : f10 467 = .inr (9, [.int 0, .ref 468, .int 0, .ref 469, .ref 470, .int 0, .int 0, .ref 471, .ref 472, .null, .int 0, .int 0, .int 0, .null, .null, .int 0, .int 0, .int 0, .int 0, .int 0, .int 0, .int 0, .int 0, .int 0, .int 0, .null, .null, .null, .null, .null, .null, .null, .null, .int 0, .null, .int 0, .null, .int 0]) := by rw [e10]; exact wu_s _ _ _
  have o10 : ∀ i, (i < 467 ∨ 468 ≤ i) → f10 i = f9 i := fun i h1 => by rw [e10]; exact wu_n (by omega)
  show PW _ _ _ _ _ _ (47, [(0, .ref 467)], [], (473, wu f9 467 (.inr (9, [.int 0, .ref 468, .int 0, .ref 469, .ref 470, .int 0, .int 0, .ref 471, .ref 472, .null, .int 0, .int 0, .int 0, .null, .null, .int 0, .int 0, .int 0, .int 0, .int 0, .int 0, .int 0, .int 0, .int 0, .int 0, .null, .null, .null, .null, .null, .null, .null, .null, .int 0, .null, .int 0, .null, .int 0]))))
  rw [← e10]
  refine P_aload_n d_MD_init_47 rfl ?_
  refine P_sipush (v := 2720) d_MD_init_48 (by decide) ?_
  refine P_newarr (t := 1) (N := 2720) (a0 := (2720, .inr (.inl (fun _ => 0)))) d_MD_init_51 rfl (by decide) ac_long ⟨by decide, by decide⟩ (le_b rfl) ⟨rfl, fun _ _ => rfl⟩ (le_b rfl) (le_b rfl) (le_b rfl) ?_
  obtain ⟨f11, e11⟩ : ∃ f11 : Nat → pE, f11 = wu f10 473 (.inl (1, 2720, .inr (.inl (fun _ => 0)))) := ⟨_, rfl⟩
  replace h468 : f11 468 = .inl (0, 900, .inl (fun _ => 0)) := by rw [e11]; exact (wu_n (by decide)).trans h468
  replace h469 : f11 469 = .inl (0, 64, .inl (fun _ => 0)) := by rw [e11]; exact (wu_n (by decide)).trans h469
  replace h470 : f11 470 = .inl (0, 64, .inl (fun _ => 0)) := by rw [e11]; exact (wu_n (by decide)).trans h470
  replace h471 : f11 471 = .inl (1, 170, .inr (.inl (fun _ => 0))) := by rw [e11]; exact (wu_n (by decide)).trans h471
  replace h472 : f11 472 = .inl (1, 170, .inr (.inl (fun _ => 0))) := by rw [e11]; exact (wu_n (by decide)).trans h472
  replace h467 : f11 467 = .inr (9, [.int 0, .ref 468, .int 0, .ref 469, .ref 470, .int 0, .int 0, .ref 471, .ref 472, .null, .int 0, .int 0, .int 0, .null, .null, .int 0, .int 0, .int 0, .int 0, .int 0, .int 0, .int 0, .int 0, .int 0, .int 0, .null, .null, .null, .null, .null, .null, .null, .null, .int 0, .null, .int 0, .null, .int 0]) := by rw [e11]; exact (wu_n (by decide)).trans h467
  have h473 : f11 473 = .inl (1, 2720, .inr (.inl (fun _ => 0))) := by rw [e11]; exact wu_s _ _ _
  have o11 : ∀ i, (i < 473 ∨ 474 ≤ i) → f11 i = f10 i := fun i h1 => by rw [e11]; exact wu_n (by omega)
  show PW _ _ _ _ _ _ (53, [(0, .ref 467)], [.ref 473, .ref 467], (474, wu f10 473 (.inl (1, 2720, .inr (.inl (fun _ => 0))))))
  rw [← e11]
  refine P_putF (i := 9) d_MD_init_53 ok_Model (by decide) rfl L_MD_28 rfl rfl h467 (fun _ => rfl) (fun _ => rfl) ?_
  obtain ⟨f12, e12⟩ : ∃ f12 : Nat → pE, f12 = wu f11 467 (.inr (9, [.int 0, .ref 468, .int 0, .ref 469, .ref 470, .int 0, .int 0, .ref 471, .ref 472, .ref 473, .int 0, .int 0, .int 0, .null, .null, .int 0, .int 0, .int 0, .int 0, .int 0, .int 0, .int 0, .int 0, .int 0, .int 0, .null, .null, .null, .null, .null, .null, .null, .null, .int 0, .null, .int 0, .null, .int 0])) := ⟨_, rfl⟩
  replace h468 : f12 468 = .inl (0, 900, .inl (fun _ => 0)) := by rw [e12]; exact (wu_n (by decide)).trans h468
  replace h469 : f12 469 = .inl (0, 64, .inl (fun _ => 0)) := by rw [e12]; exact (wu_n (by decide)).trans h469
  replace h470 : f12 470 = .inl (0, 64, .inl (fun _ => 0)) := by rw [e12]; exact (wu_n (by decide)).trans h470
  replace h471 : f12 471 = .inl (1, 170, .inr (.inl (fun _ => 0))) := by rw [e12]; exact (wu_n (by decide)).trans h471
  replace h472 : f12 472 = .inl (1, 170, .inr (.inl (fun _ => 0))) := by rw [e12]; exact (wu_n (by decide)).trans h472
  replace h473 : f12 473 = .inl (1, 2720, .inr (.inl (fun _ => 0))) := by rw [e12]; exact (wu_n (by decide)).trans h473
  replace h467 : f12 467 = .inr (9, [.int 0, .ref 468, .int 0, .ref 469, .ref 470, .int 0, .int 0, .ref 471, .ref 472, .ref 473, .int 0, .int 0, .int 0, .null, .null, .int 0, .int 0, .int 0, .int 0, .int 0, .int 0, .int 0, .int 0, .int 0, .int 0, .null, .null, .null, .null, .null, .null, .null, .null, .int 0, .null, .int 0, .null, .int 0]) := by rw [e12]; exact wu_s _ _ _
  have o12 : ∀ i, (i < 467 ∨ 468 ≤ i) → f12 i = f11 i := fun i h1 => by rw [e12]; exact wu_n (by omega)
  show PW _ _ _ _ _ _ (56, [(0, .ref 467)], [], (474, wu f11 467 (.inr (9, [.int 0, .ref 468, .int 0, .ref 469, .ref 470, .int 0, .int 0, .ref 471, .ref 472, .ref 473, .int 0, .int 0, .int 0, .null, .null, .int 0, .int 0, .int 0, .int 0, .int 0, .int 0, .int 0, .int 0, .int 0, .int 0, .null, .null, .null, .null, .null, .null, .null, .null, .int 0, .null, .int 0, .null, .int 0]))))
  rw [← e12]
  refine P_aload_n d_MD_init_56 rfl ?_
  refine P_bipush (v := 8) d_MD_init_57 (by decide) ?_
  refine P_newarr (t := 0) (N := 8) (a0 := (8, .inl (fun _ => 0))) d_MD_init_59 rfl (by decide) ac_int ⟨by decide, by decide⟩ (le_b rfl) ⟨rfl, fun _ _ => rfl⟩ (le_b rfl) (le_b rfl) (le_b rfl) ?_
  obtain ⟨f13, e13⟩ : ∃ f13 : Nat → pE, f13 = wu f12 474 (.inl (0, 8, .inl (fun _ => 0))) := ⟨_, rfl⟩
  replace h468 : f13 468 = .inl (0, 900, .inl (fun _ => 0)) := by rw [e13]; exact (wu_n (by decide)).trans h468
  replace h469 : f13 469 = .inl (0, 64, .inl (fun _ => 0)) := by rw [e13]; exact (wu_n (by decide)).trans h469
  replace h470 : f13 470 = .inl (0, 64, .inl (fun _ => 0)) := by rw [e13]; exact (wu_n (by decide)).trans h470
  replace h471 : f13 471 = .inl (1, 170, .inr (.inl (fun _ => 0))) := by rw [e13]; exact (wu_n (by decide)).trans h471
  replace h472 : f13 472 = .inl (1, 170, .inr (.inl (fun _ => 0))) := by rw [e13]; exact (wu_n (by decide)).trans h472
  replace h473 : f13 473 = .inl (1, 2720, .inr (.inl (fun _ => 0))) := by rw [e13]; exact (wu_n (by decide)).trans h473
  replace h467 : f13 467 = .inr (9, [.int 0, .ref 468, .int 0, .ref 469, .ref 470, .int 0, .int 0, .ref 471, .ref 472, .ref 473, .int 0, .int 0, .int 0, .null, .null, .int 0, .int 0, .int 0, .int 0, .int 0, .int 0, .int 0, .int 0, .int 0, .int 0, .null, .null, .null, .null, .null, .null, .null, .null, .int 0, .null, .int 0, .null, .int 0]) := by rw [e13]; exact (wu_n (by decide)).trans h467
  have h474 : f13 474 = .inl (0, 8, .inl (fun _ => 0)) := by rw [e13]; exact wu_s _ _ _
  have o13 : ∀ i, (i < 474 ∨ 475 ≤ i) → f13 i = f12 i := fun i h1 => by rw [e13]; exact wu_n (by omega)
  show PW _ _ _ _ _ _ (61, [(0, .ref 467)], [.ref 474, .ref 467], (475, wu f12 474 (.inl (0, 8, .inl (fun _ => 0)))))
  rw [← e13]
  refine P_putF (i := 13) d_MD_init_61 ok_Model (by decide) rfl L_MD_31 rfl rfl h467 (fun _ => rfl) (fun _ => rfl) ?_
  obtain ⟨f14, e14⟩ : ∃ f14 : Nat → pE, f14 = wu f13 467 (.inr (9, [.int 0, .ref 468, .int 0, .ref 469, .ref 470, .int 0, .int 0, .ref 471, .ref 472, .ref 473, .int 0, .int 0, .int 0, .ref 474, .null, .int 0, .int 0, .int 0, .int 0, .int 0, .int 0, .int 0, .int 0, .int 0, .int 0, .null, .null, .null, .null, .null, .null, .null, .null, .int 0, .null, .int 0, .null, .int 0])) := ⟨_, rfl⟩
  replace h468 : f14 468 = .inl (0, 900, .inl (fun _ => 0)) := by rw [e14]; exact (wu_n (by decide)).trans h468
  replace h469 : f14 469 = .inl (0, 64, .inl (fun _ => 0)) := by rw [e14]; exact (wu_n (by decide)).trans h469
  replace h470 : f14 470 = .inl (0, 64, .inl (fun _ => 0)) := by rw [e14]; exact (wu_n (by decide)).trans h470
  replace h471 : f14 471 = .inl (1, 170, .inr (.inl (fun _ => 0))) := by rw [e14]; exact (wu_n (by decide)).trans h471
  replace h472 : f14 472 = .inl (1, 170, .inr (.inl (fun _ => 0))) := by rw [e14]; exact (wu_n (by decide)).trans h472
  replace h473 : f14 473 = .inl (1, 2720, .inr (.inl (fun _ => 0))) := by rw [e14]; exact (wu_n (by decide)).trans h473
  replace h474 : f14 474 = .inl (0, 8, .inl (fun _ => 0)) := by rw [e14]; exact (wu_n (by decide)).trans h474
  replace h467 : f14 467 = .inr (9, [.int 0, .ref 468, .int 0, .ref 469, .ref 470, .int 0, .int 0, .ref 471, .ref 472, .ref 473, .int 0, .int 0, .int 0, .ref 474, .null, .int 0, .int 0, .int 0, .int 0, .int 0, .int 0, .int 0, .int 0, .int 0, .int 0, .null, .null, .null, .null, .null, .null, .null, .null, .int 0, .null, .int 0, .null, .int 0]) := by rw [e14]; exact wu_s _ _ _
  have o14 : ∀ i, (i < 467 ∨ 468 ≤ i) → f14 i = f13 i := fun i h1 => by rw [e14]; exact wu_n (by omega)
  show PW _ _ _ _ _ _ (64, [(0, .ref 467)], [], (475, wu f13 467 (.inr (9, [.int 0, .ref 468, .int 0, .ref 469, .ref 470, .int 0, .int 0, .ref 471, .ref 472, .ref 473, .int 0, .int 0, .int 0, .ref 474, .null, .int 0, .int 0, .int 0, .int 0, .int 0, .int 0, .int 0, .int 0, .int 0, .int 0, .null, .null, .null, .null, .null, .null, .null, .null, .int 0, .null, .int 0, .null, .int 0]))))
  rw [← e14]
  refine P_aload_n d_MD_init_64 rfl ?_
  refine P_bipush (v := 8) d_MD_init_65 (by decide) ?_
  refine P_newarr (t := 0) (N := 8) (a0 := (8, .inl (fun _ => 0))) d_MD_init_67 rfl (by decide) ac_int ⟨by decide, by decide⟩ (le_b rfl) ⟨rfl, fun _ _ => rfl⟩ (le_b rfl) (le_b rfl) (le_b rfl) ?_
  obtain ⟨f15, e15⟩ : ∃ f15 : Nat → pE, f15 = wu f14 475 (.inl (0, 8, .inl (fun _ => 0))) := ⟨_, rfl⟩
  replace h468 : f15 468 = .inl (0, 900, .inl (fun _ => 0)) := by rw [e15]; exact (wu_n (by decide)).trans h468
  replace h469 : f15 469 = .inl (0, 64, .inl (fun _ => 0)) := by rw [e15]; exact (wu_n (by decide)).trans h469
  replace h470 : f15 470 = .inl (0, 64, .inl (fun _ => 0)) := by rw [e15]; exact (wu_n (by decide)).trans h470
  replace h471 : f15 471 = .inl (1, 170, .inr (.inl (fun _ => 0))) := by rw [e15]; exact (wu_n (by decide)).trans h471
  replace h472 : f15 472 = .inl (1, 170, .inr (.inl (fun _ => 0))) := by rw [e15]; exact (wu_n (by decide)).trans h472
  replace h473 : f15 473 = .inl (1, 2720, .inr (.inl (fun _ => 0))) := by rw [e15]; exact (wu_n (by decide)).trans h473
  replace h474 : f15 474 = .inl (0, 8, .inl (fun _ => 0)) := by rw [e15]; exact (wu_n (by decide)).trans h474
  replace h467 : f15 467 = .inr (9, [.int 0, .ref 468, .int 0, .ref 469, .ref 470, .int 0, .int 0, .ref 471, .ref 472, .ref 473, .int 0, .int 0, .int 0, .ref 474, .null, .int 0, .int 0, .int 0, .int 0, .int 0, .int 0, .int 0, .int 0, .int 0, .int 0, .null, .null, .null, .null, .null, .null, .null, .null, .int 0, .null, .int 0, .null, .int 0]) := by rw [e15]; exact (wu_n (by decide)).trans h467
  have h475 : f15 475 = .inl (0, 8, .inl (fun _ => 0)) := by rw [e15]; exact wu_s _ _ _
  have o15 : ∀ i, (i < 475 ∨ 476 ≤ i) → f15 i = f14 i := fun i h1 => by rw [e15]; exact wu_n (by omega)
  show PW _ _ _ _ _ _ (69, [(0, .ref 467)], [.ref 475, .ref 467], (476, wu f14 475 (.inl (0, 8, .inl (fun _ => 0)))))
  rw [← e15]
  refine P_putF (i := 14) d_MD_init_69 ok_Model (by decide) rfl L_MD_34 rfl rfl h467 (fun _ => rfl) (fun _ => rfl) ?_
  obtain ⟨f16, e16⟩ : ∃ f16 : Nat → pE, f16 = wu f15 467 (.inr (9, [.int 0, .ref 468, .int 0, .ref 469, .ref 470, .int 0, .int 0, .ref 471, .ref 472, .ref 473, .int 0, .int 0, .int 0, .ref 474, .ref 475, .int 0, .int 0, .int 0, .int 0, .int 0, .int 0, .int 0, .int 0, .int 0, .int 0, .null, .null, .null, .null, .null, .null, .null, .null, .int 0, .null, .int 0, .null, .int 0])) := ⟨_, rfl⟩
  replace h468 : f16 468 = .inl (0, 900, .inl (fun _ => 0)) := by rw [e16]; exact (wu_n (by decide)).trans h468
  replace h469 : f16 469 = .inl (0, 64, .inl (fun _ => 0)) := by rw [e16]; exact (wu_n (by decide)).trans h469
  replace h470 : f16 470 = .inl (0, 64, .inl (fun _ => 0)) := by rw [e16]; exact (wu_n (by decide)).trans h470
  replace h471 : f16 471 = .inl (1, 170, .inr (.inl (fun _ => 0))) := by rw [e16]; exact (wu_n (by decide)).trans h471
  replace h472 : f16 472 = .inl (1, 170, .inr (.inl (fun _ => 0))) := by rw [e16]; exact (wu_n (by decide)).trans h472
  replace h473 : f16 473 = .inl (1, 2720, .inr (.inl (fun _ => 0))) := by rw [e16]; exact (wu_n (by decide)).trans h473
  replace h474 : f16 474 = .inl (0, 8, .inl (fun _ => 0)) := by rw [e16]; exact (wu_n (by decide)).trans h474
  replace h475 : f16 475 = .inl (0, 8, .inl (fun _ => 0)) := by rw [e16]; exact (wu_n (by decide)).trans h475
  replace h467 : f16 467 = .inr (9, [.int 0, .ref 468, .int 0, .ref 469, .ref 470, .int 0, .int 0, .ref 471, .ref 472, .ref 473, .int 0, .int 0, .int 0, .ref 474, .ref 475, .int 0, .int 0, .int 0, .int 0, .int 0, .int 0, .int 0, .int 0, .int 0, .int 0, .null, .null, .null, .null, .null, .null, .null, .null, .int 0, .null, .int 0, .null, .int 0]) := by rw [e16]; exact wu_s _ _ _
  have o16 : ∀ i, (i < 467 ∨ 468 ≤ i) → f16 i = f15 i := fun i h1 => by rw [e16]; exact wu_n (by omega)
  show PW _ _ _ _ _ _ (72, [(0, .ref 467)], [], (476, wu f15 467 (.inr (9, [.int 0, .ref 468, .int 0, .ref 469, .ref 470, .int 0, .int 0, .ref 471, .ref 472, .ref 473, .int 0, .int 0, .int 0, .ref 474, .ref 475, .int 0, .int 0, .int 0, .int 0, .int 0, .int 0, .int 0, .int 0, .int 0, .int 0, .null, .null, .null, .null, .null, .null, .null, .null, .int 0, .null, .int 0, .null, .int 0]))))
  rw [← e16]
  refine P_aload_n d_MD_init_72 rfl ?_
  refine P_iconst (v := (-1)) d_MD_init_73 (by decide) ?_
  refine P_put (i := 24) d_MD_init_74 ok_Model (by decide) rfl L_MD_37 h467 (fun _ => rfl) (fun _ => rfl) ?_
  obtain ⟨f17, e17⟩ : ∃ f17 : Nat → pE, f17 = wu f16 467 (.inr (9, [.int 0, .ref 468, .int 0, .ref 469, .ref 470, .int 0, .int 0, .ref 471, .ref 472, .ref 473, .int 0, .int 0, .int 0, .ref 474, .ref 475, .int 0, .int 0, .int 0, .int 0, .int 0, .int 0, .int 0, .int 0, .int 0, .int (-1), .null, .null, .null, .null, .null, .null, .null, .null, .int 0, .null, .int 0, .null, .int 0])) := ⟨_, rfl⟩
  replace h468 : f17 468 = .inl (0, 900, .inl (fun _ => 0)) := by rw [e17]; exact (wu_n (by decide)).trans h468
  replace h469 : f17 469 = .inl (0, 64, .inl (fun _ => 0)) := by rw [e17]; exact (wu_n (by decide)).trans h469
  replace h470 : f17 470 = .inl (0, 64, .inl (fun _ => 0)) := by rw [e17]; exact (wu_n (by decide)).trans h470
  replace h471 : f17 471 = .inl (1, 170, .inr (.inl (fun _ => 0))) := by rw [e17]; exact (wu_n (by decide)).trans h471
  replace h472 : f17 472 = .inl (1, 170, .inr (.inl (fun _ => 0))) := by rw [e17]; exact (wu_n (by decide)).trans h472
  replace h473 : f17 473 = .inl (1, 2720, .inr (.inl (fun _ => 0))) := by rw [e17]; exact (wu_n (by decide)).trans h473
  replace h474 : f17 474 = .inl (0, 8, .inl (fun _ => 0)) := by rw [e17]; exact (wu_n (by decide)).trans h474
  replace h475 : f17 475 = .inl (0, 8, .inl (fun _ => 0)) := by rw [e17]; exact (wu_n (by decide)).trans h475
  replace h467 : f17 467 = .inr (9, [.int 0, .ref 468, .int 0, .ref 469, .ref 470, .int 0, .int 0, .ref 471, .ref 472, .ref 473, .int 0, .int 0, .int 0, .ref 474, .ref 475, .int 0, .int 0, .int 0, .int 0, .int 0, .int 0, .int 0, .int 0, .int 0, .int (-1), .null, .null, .null, .null, .null, .null, .null, .null, .int 0, .null, .int 0, .null, .int 0]) := by rw [e17]; exact wu_s _ _ _
  have o17 : ∀ i, (i < 467 ∨ 468 ≤ i) → f17 i = f16 i := fun i h1 => by rw [e17]; exact wu_n (by omega)
  show PW _ _ _ _ _ _ (77, [(0, .ref 467)], [], (476, wu f16 467 (.inr (9, [.int 0, .ref 468, .int 0, .ref 469, .ref 470, .int 0, .int 0, .ref 471, .ref 472, .ref 473, .int 0, .int 0, .int 0, .ref 474, .ref 475, .int 0, .int 0, .int 0, .int 0, .int 0, .int 0, .int 0, .int 0, .int 0, .int (-1), .null, .null, .null, .null, .null, .null, .null, .null, .int 0, .null, .int 0, .null, .int 0]))))
  rw [← e17]
  refine P_aload_n d_MD_init_77 rfl ?_
  refine P_bipush (v := 9) d_MD_init_78 (by decide) ?_
  refine P_newarr (t := 1) (N := 9) (a0 := (9, .inr (.inl (fun _ => 0)))) d_MD_init_80 rfl (by decide) ac_long ⟨by decide, by decide⟩ (le_b rfl) ⟨rfl, fun _ _ => rfl⟩ (le_b rfl) (le_b rfl) (le_b rfl) ?_
  obtain ⟨f18, e18⟩ : ∃ f18 : Nat → pE, f18 = wu f17 476 (.inl (1, 9, .inr (.inl (fun _ => 0)))) := ⟨_, rfl⟩
  replace h468 : f18 468 = .inl (0, 900, .inl (fun _ => 0)) := by rw [e18]; exact (wu_n (by decide)).trans h468
  replace h469 : f18 469 = .inl (0, 64, .inl (fun _ => 0)) := by rw [e18]; exact (wu_n (by decide)).trans h469
  replace h470 : f18 470 = .inl (0, 64, .inl (fun _ => 0)) := by rw [e18]; exact (wu_n (by decide)).trans h470
  replace h471 : f18 471 = .inl (1, 170, .inr (.inl (fun _ => 0))) := by rw [e18]; exact (wu_n (by decide)).trans h471
  replace h472 : f18 472 = .inl (1, 170, .inr (.inl (fun _ => 0))) := by rw [e18]; exact (wu_n (by decide)).trans h472
  replace h473 : f18 473 = .inl (1, 2720, .inr (.inl (fun _ => 0))) := by rw [e18]; exact (wu_n (by decide)).trans h473
  replace h474 : f18 474 = .inl (0, 8, .inl (fun _ => 0)) := by rw [e18]; exact (wu_n (by decide)).trans h474
  replace h475 : f18 475 = .inl (0, 8, .inl (fun _ => 0)) := by rw [e18]; exact (wu_n (by decide)).trans h475
  replace h467 : f18 467 = .inr (9, [.int 0, .ref 468, .int 0, .ref 469, .ref 470, .int 0, .int 0, .ref 471, .ref 472, .ref 473, .int 0, .int 0, .int 0, .ref 474, .ref 475, .int 0, .int 0, .int 0, .int 0, .int 0, .int 0, .int 0, .int 0, .int 0, .int (-1), .null, .null, .null, .null, .null, .null, .null, .null, .int 0, .null, .int 0, .null, .int 0]) := by rw [e18]; exact (wu_n (by decide)).trans h467
  have h476 : f18 476 = .inl (1, 9, .inr (.inl (fun _ => 0))) := by rw [e18]; exact wu_s _ _ _
  have o18 : ∀ i, (i < 476 ∨ 477 ≤ i) → f18 i = f17 i := fun i h1 => by rw [e18]; exact wu_n (by omega)
  show PW _ _ _ _ _ _ (82, [(0, .ref 467)], [.ref 476, .ref 467], (477, wu f17 476 (.inl (1, 9, .inr (.inl (fun _ => 0))))))
  rw [← e18]
  refine P_putF (i := 25) d_MD_init_82 ok_Model (by decide) rfl L_MD_41 rfl rfl h467 (fun _ => rfl) (fun _ => rfl) ?_
  obtain ⟨f19, e19⟩ : ∃ f19 : Nat → pE, f19 = wu f18 467 (.inr (9, [.int 0, .ref 468, .int 0, .ref 469, .ref 470, .int 0, .int 0, .ref 471, .ref 472, .ref 473, .int 0, .int 0, .int 0, .ref 474, .ref 475, .int 0, .int 0, .int 0, .int 0, .int 0, .int 0, .int 0, .int 0, .int 0, .int (-1), .ref 476, .null, .null, .null, .null, .null, .null, .null, .int 0, .null, .int 0, .null, .int 0])) := ⟨_, rfl⟩
  replace h468 : f19 468 = .inl (0, 900, .inl (fun _ => 0)) := by rw [e19]; exact (wu_n (by decide)).trans h468
  replace h469 : f19 469 = .inl (0, 64, .inl (fun _ => 0)) := by rw [e19]; exact (wu_n (by decide)).trans h469
  replace h470 : f19 470 = .inl (0, 64, .inl (fun _ => 0)) := by rw [e19]; exact (wu_n (by decide)).trans h470
  replace h471 : f19 471 = .inl (1, 170, .inr (.inl (fun _ => 0))) := by rw [e19]; exact (wu_n (by decide)).trans h471
  replace h472 : f19 472 = .inl (1, 170, .inr (.inl (fun _ => 0))) := by rw [e19]; exact (wu_n (by decide)).trans h472
  replace h473 : f19 473 = .inl (1, 2720, .inr (.inl (fun _ => 0))) := by rw [e19]; exact (wu_n (by decide)).trans h473
  replace h474 : f19 474 = .inl (0, 8, .inl (fun _ => 0)) := by rw [e19]; exact (wu_n (by decide)).trans h474
  replace h475 : f19 475 = .inl (0, 8, .inl (fun _ => 0)) := by rw [e19]; exact (wu_n (by decide)).trans h475
  replace h476 : f19 476 = .inl (1, 9, .inr (.inl (fun _ => 0))) := by rw [e19]; exact (wu_n (by decide)).trans h476
  replace h467 : f19 467 = .inr (9, [.int 0, .ref 468, .int 0, .ref 469, .ref 470, .int 0, .int 0, .ref 471, .ref 472, .ref 473, .int 0, .int 0, .int 0, .ref 474, .ref 475, .int 0, .int 0, .int 0, .int 0, .int 0, .int 0, .int 0, .int 0, .int 0, .int (-1), .ref 476, .null, .null, .null, .null, .null, .null, .null, .int 0, .null, .int 0, .null, .int 0]) := by rw [e19]; exact wu_s _ _ _
  have o19 : ∀ i, (i < 467 ∨ 468 ≤ i) → f19 i = f18 i := fun i h1 => by rw [e19]; exact wu_n (by omega)
  show PW _ _ _ _ _ _ (85, [(0, .ref 467)], [], (477, wu f18 467 (.inr (9, [.int 0, .ref 468, .int 0, .ref 469, .ref 470, .int 0, .int 0, .ref 471, .ref 472, .ref 473, .int 0, .int 0, .int 0, .ref 474, .ref 475, .int 0, .int 0, .int 0, .int 0, .int 0, .int 0, .int 0, .int 0, .int 0, .int (-1), .ref 476, .null, .null, .null, .null, .null, .null, .null, .int 0, .null, .int 0, .null, .int 0]))))
  rw [← e19]
  refine P_aload_n d_MD_init_85 rfl ?_
  refine P_bipush (v := 9) d_MD_init_86 (by decide) ?_
  refine P_newarr (t := 1) (N := 9) (a0 := (9, .inr (.inl (fun _ => 0)))) d_MD_init_88 rfl (by decide) ac_long ⟨by decide, by decide⟩ (le_b rfl) ⟨rfl, fun _ _ => rfl⟩ (le_b rfl) (le_b rfl) (le_b rfl) ?_
  obtain ⟨f20, e20⟩ : ∃ f20 : Nat → pE, f20 = wu f19 477 (.inl (1, 9, .inr (.inl (fun _ => 0)))) := ⟨_, rfl⟩
  replace h468 : f20 468 = .inl (0, 900, .inl (fun _ => 0)) := by rw [e20]; exact (wu_n (by decide)).trans h468
  replace h469 : f20 469 = .inl (0, 64, .inl (fun _ => 0)) := by rw [e20]; exact (wu_n (by decide)).trans h469
  replace h470 : f20 470 = .inl (0, 64, .inl (fun _ => 0)) := by rw [e20]; exact (wu_n (by decide)).trans h470
  replace h471 : f20 471 = .inl (1, 170, .inr (.inl (fun _ => 0))) := by rw [e20]; exact (wu_n (by decide)).trans h471
  replace h472 : f20 472 = .inl (1, 170, .inr (.inl (fun _ => 0))) := by rw [e20]; exact (wu_n (by decide)).trans h472
  replace h473 : f20 473 = .inl (1, 2720, .inr (.inl (fun _ => 0))) := by rw [e20]; exact (wu_n (by decide)).trans h473
  replace h474 : f20 474 = .inl (0, 8, .inl (fun _ => 0)) := by rw [e20]; exact (wu_n (by decide)).trans h474
  replace h475 : f20 475 = .inl (0, 8, .inl (fun _ => 0)) := by rw [e20]; exact (wu_n (by decide)).trans h475
  replace h476 : f20 476 = .inl (1, 9, .inr (.inl (fun _ => 0))) := by rw [e20]; exact (wu_n (by decide)).trans h476
  replace h467 : f20 467 = .inr (9, [.int 0, .ref 468, .int 0, .ref 469, .ref 470, .int 0, .int 0, .ref 471, .ref 472, .ref 473, .int 0, .int 0, .int 0, .ref 474, .ref 475, .int 0, .int 0, .int 0, .int 0, .int 0, .int 0, .int 0, .int 0, .int 0, .int (-1), .ref 476, .null, .null, .null, .null, .null, .null, .null, .int 0, .null, .int 0, .null, .int 0]) := by rw [e20]; exact (wu_n (by decide)).trans h467
  have h477 : f20 477 = .inl (1, 9, .inr (.inl (fun _ => 0))) := by rw [e20]; exact wu_s _ _ _
  have o20 : ∀ i, (i < 477 ∨ 478 ≤ i) → f20 i = f19 i := fun i h1 => by rw [e20]; exact wu_n (by omega)
  show PW _ _ _ _ _ _ (90, [(0, .ref 467)], [.ref 477, .ref 467], (478, wu f19 477 (.inl (1, 9, .inr (.inl (fun _ => 0))))))
  rw [← e20]
  refine P_putF (i := 26) d_MD_init_90 ok_Model (by decide) rfl L_MD_44 rfl rfl h467 (fun _ => rfl) (fun _ => rfl) ?_
  obtain ⟨f21, e21⟩ : ∃ f21 : Nat → pE, f21 = wu f20 467 (.inr (9, [.int 0, .ref 468, .int 0, .ref 469, .ref 470, .int 0, .int 0, .ref 471, .ref 472, .ref 473, .int 0, .int 0, .int 0, .ref 474, .ref 475, .int 0, .int 0, .int 0, .int 0, .int 0, .int 0, .int 0, .int 0, .int 0, .int (-1), .ref 476, .ref 477, .null, .null, .null, .null, .null, .null, .int 0, .null, .int 0, .null, .int 0])) := ⟨_, rfl⟩
  replace h468 : f21 468 = .inl (0, 900, .inl (fun _ => 0)) := by rw [e21]; exact (wu_n (by decide)).trans h468
  replace h469 : f21 469 = .inl (0, 64, .inl (fun _ => 0)) := by rw [e21]; exact (wu_n (by decide)).trans h469
  replace h470 : f21 470 = .inl (0, 64, .inl (fun _ => 0)) := by rw [e21]; exact (wu_n (by decide)).trans h470
  replace h471 : f21 471 = .inl (1, 170, .inr (.inl (fun _ => 0))) := by rw [e21]; exact (wu_n (by decide)).trans h471
  replace h472 : f21 472 = .inl (1, 170, .inr (.inl (fun _ => 0))) := by rw [e21]; exact (wu_n (by decide)).trans h472
  replace h473 : f21 473 = .inl (1, 2720, .inr (.inl (fun _ => 0))) := by rw [e21]; exact (wu_n (by decide)).trans h473
  replace h474 : f21 474 = .inl (0, 8, .inl (fun _ => 0)) := by rw [e21]; exact (wu_n (by decide)).trans h474
  replace h475 : f21 475 = .inl (0, 8, .inl (fun _ => 0)) := by rw [e21]; exact (wu_n (by decide)).trans h475
  replace h476 : f21 476 = .inl (1, 9, .inr (.inl (fun _ => 0))) := by rw [e21]; exact (wu_n (by decide)).trans h476
  replace h477 : f21 477 = .inl (1, 9, .inr (.inl (fun _ => 0))) := by rw [e21]; exact (wu_n (by decide)).trans h477
  replace h467 : f21 467 = .inr (9, [.int 0, .ref 468, .int 0, .ref 469, .ref 470, .int 0, .int 0, .ref 471, .ref 472, .ref 473, .int 0, .int 0, .int 0, .ref 474, .ref 475, .int 0, .int 0, .int 0, .int 0, .int 0, .int 0, .int 0, .int 0, .int 0, .int (-1), .ref 476, .ref 477, .null, .null, .null, .null, .null, .null, .int 0, .null, .int 0, .null, .int 0]) := by rw [e21]; exact wu_s _ _ _
  have o21 : ∀ i, (i < 467 ∨ 468 ≤ i) → f21 i = f20 i := fun i h1 => by rw [e21]; exact wu_n (by omega)
  show PW _ _ _ _ _ _ (93, [(0, .ref 467)], [], (478, wu f20 467 (.inr (9, [.int 0, .ref 468, .int 0, .ref 469, .ref 470, .int 0, .int 0, .ref 471, .ref 472, .ref 473, .int 0, .int 0, .int 0, .ref 474, .ref 475, .int 0, .int 0, .int 0, .int 0, .int 0, .int 0, .int 0, .int 0, .int 0, .int (-1), .ref 476, .ref 477, .null, .null, .null, .null, .null, .null, .int 0, .null, .int 0, .null, .int 0]))))
  rw [← e21]
  refine P_aload_n d_MD_init_93 rfl ?_
  refine P_bipush (v := 9) d_MD_init_94 (by decide) ?_
  refine P_newarr (t := 1) (N := 9) (a0 := (9, .inr (.inl (fun _ => 0)))) d_MD_init_96 rfl (by decide) ac_long ⟨by decide, by decide⟩ (le_b rfl) ⟨rfl, fun _ _ => rfl⟩ (le_b rfl) (le_b rfl) (le_b rfl) ?_
  obtain ⟨f22, e22⟩ : ∃ f22 : Nat → pE, f22 = wu f21 478 (.inl (1, 9, .inr (.inl (fun _ => 0)))) := ⟨_, rfl⟩
  replace h468 : f22 468 = .inl (0, 900, .inl (fun _ => 0)) := by rw [e22]; exact (wu_n (by decide)).trans h468
  replace h469 : f22 469 = .inl (0, 64, .inl (fun _ => 0)) := by rw [e22]; exact (wu_n (by decide)).trans h469
  replace h470 : f22 470 = .inl (0, 64, .inl (fun _ => 0)) := by rw [e22]; exact (wu_n (by decide)).trans h470
  replace h471 : f22 471 = .inl (1, 170, .inr (.inl (fun _ => 0))) := by rw [e22]; exact (wu_n (by decide)).trans h471
  replace h472 : f22 472 = .inl (1, 170, .inr (.inl (fun _ => 0))) := by rw [e22]; exact (wu_n (by decide)).trans h472
  replace h473 : f22 473 = .inl (1, 2720, .inr (.inl (fun _ => 0))) := by rw [e22]; exact (wu_n (by decide)).trans h473
  replace h474 : f22 474 = .inl (0, 8, .inl (fun _ => 0)) := by rw [e22]; exact (wu_n (by decide)).trans h474
  replace h475 : f22 475 = .inl (0, 8, .inl (fun _ => 0)) := by rw [e22]; exact (wu_n (by decide)).trans h475
  replace h476 : f22 476 = .inl (1, 9, .inr (.inl (fun _ => 0))) := by rw [e22]; exact (wu_n (by decide)).trans h476
  replace h477 : f22 477 = .inl (1, 9, .inr (.inl (fun _ => 0))) := by rw [e22]; exact (wu_n (by decide)).trans h477
  replace h467 : f22 467 = .inr (9, [.int 0, .ref 468, .int 0, .ref 469, .ref 470, .int 0, .int 0, .ref 471, .ref 472, .ref 473, .int 0, .int 0, .int 0, .ref 474, .ref 475, .int 0, .int 0, .int 0, .int 0, .int 0, .int 0, .int 0, .int 0, .int 0, .int (-1), .ref 476, .ref 477, .null, .null, .null, .null, .null, .null, .int 0, .null, .int 0, .null, .int 0]) := by rw [e22]; exact (wu_n (by decide)).trans h467
  have h478 : f22 478 = .inl (1, 9, .inr (.inl (fun _ => 0))) := by rw [e22]; exact wu_s _ _ _
  have o22 : ∀ i, (i < 478 ∨ 479 ≤ i) → f22 i = f21 i := fun i h1 => by rw [e22]; exact wu_n (by omega)
  show PW _ _ _ _ _ _ (98, [(0, .ref 467)], [.ref 478, .ref 467], (479, wu f21 478 (.inl (1, 9, .inr (.inl (fun _ => 0))))))
  rw [← e22]
  refine P_putF (i := 27) d_MD_init_98 ok_Model (by decide) rfl L_MD_47 rfl rfl h467 (fun _ => rfl) (fun _ => rfl) ?_
  obtain ⟨f23, e23⟩ : ∃ f23 : Nat → pE, f23 = wu f22 467 (.inr (9, [.int 0, .ref 468, .int 0, .ref 469, .ref 470, .int 0, .int 0, .ref 471, .ref 472, .ref 473, .int 0, .int 0, .int 0, .ref 474, .ref 475, .int 0, .int 0, .int 0, .int 0, .int 0, .int 0, .int 0, .int 0, .int 0, .int (-1), .ref 476, .ref 477, .ref 478, .null, .null, .null, .null, .null, .int 0, .null, .int 0, .null, .int 0])) := ⟨_, rfl⟩
  replace h468 : f23 468 = .inl (0, 900, .inl (fun _ => 0)) := by rw [e23]; exact (wu_n (by decide)).trans h468
  replace h469 : f23 469 = .inl (0, 64, .inl (fun _ => 0)) := by rw [e23]; exact (wu_n (by decide)).trans h469
  replace h470 : f23 470 = .inl (0, 64, .inl (fun _ => 0)) := by rw [e23]; exact (wu_n (by decide)).trans h470
  replace h471 : f23 471 = .inl (1, 170, .inr (.inl (fun _ => 0))) := by rw [e23]; exact (wu_n (by decide)).trans h471
  replace h472 : f23 472 = .inl (1, 170, .inr (.inl (fun _ => 0))) := by rw [e23]; exact (wu_n (by decide)).trans h472
  replace h473 : f23 473 = .inl (1, 2720, .inr (.inl (fun _ => 0))) := by rw [e23]; exact (wu_n (by decide)).trans h473
  replace h474 : f23 474 = .inl (0, 8, .inl (fun _ => 0)) := by rw [e23]; exact (wu_n (by decide)).trans h474
  replace h475 : f23 475 = .inl (0, 8, .inl (fun _ => 0)) := by rw [e23]; exact (wu_n (by decide)).trans h475
  replace h476 : f23 476 = .inl (1, 9, .inr (.inl (fun _ => 0))) := by rw [e23]; exact (wu_n (by decide)).trans h476
  replace h477 : f23 477 = .inl (1, 9, .inr (.inl (fun _ => 0))) := by rw [e23]; exact (wu_n (by decide)).trans h477
  replace h478 : f23 478 = .inl (1, 9, .inr (.inl (fun _ => 0))) := by rw [e23]; exact (wu_n (by decide)).trans h478
  replace h467 : f23 467 = .inr (9, [.int 0, .ref 468, .int 0, .ref 469, .ref 470, .int 0, .int 0, .ref 471, .ref 472, .ref 473, .int 0, .int 0, .int 0, .ref 474, .ref 475, .int 0, .int 0, .int 0, .int 0, .int 0, .int 0, .int 0, .int 0, .int 0, .int (-1), .ref 476, .ref 477, .ref 478, .null, .null, .null, .null, .null, .int 0, .null, .int 0, .null, .int 0]) := by rw [e23]; exact wu_s _ _ _
  have o23 : ∀ i, (i < 467 ∨ 468 ≤ i) → f23 i = f22 i := fun i h1 => by rw [e23]; exact wu_n (by omega)
  show PW _ _ _ _ _ _ (101, [(0, .ref 467)], [], (479, wu f22 467 (.inr (9, [.int 0, .ref 468, .int 0, .ref 469, .ref 470, .int 0, .int 0, .ref 471, .ref 472, .ref 473, .int 0, .int 0, .int 0, .ref 474, .ref 475, .int 0, .int 0, .int 0, .int 0, .int 0, .int 0, .int 0, .int 0, .int 0, .int (-1), .ref 476, .ref 477, .ref 478, .null, .null, .null, .null, .null, .int 0, .null, .int 0, .null, .int 0]))))
  rw [← e23]
  refine P_aload_n d_MD_init_101 rfl ?_
  refine P_iconst (v := 3) d_MD_init_102 (by decide) ?_
  refine P_newarr (t := 1) (N := 3) (a0 := (3, .inr (.inl (fun _ => 0)))) d_MD_init_103 rfl (by decide) ac_long ⟨by decide, by decide⟩ (le_b rfl) ⟨rfl, fun _ _ => rfl⟩ (le_b rfl) (le_b rfl) (le_b rfl) ?_
  obtain ⟨f24, e24⟩ : ∃ f24 : Nat → pE, f24 = wu f23 479 (.inl (1, 3, .inr (.inl (fun _ => 0)))) := ⟨_, rfl⟩
  replace h468 : f24 468 = .inl (0, 900, .inl (fun _ => 0)) := by rw [e24]; exact (wu_n (by decide)).trans h468
  replace h469 : f24 469 = .inl (0, 64, .inl (fun _ => 0)) := by rw [e24]; exact (wu_n (by decide)).trans h469
  replace h470 : f24 470 = .inl (0, 64, .inl (fun _ => 0)) := by rw [e24]; exact (wu_n (by decide)).trans h470
  replace h471 : f24 471 = .inl (1, 170, .inr (.inl (fun _ => 0))) := by rw [e24]; exact (wu_n (by decide)).trans h471
  replace h472 : f24 472 = .inl (1, 170, .inr (.inl (fun _ => 0))) := by rw [e24]; exact (wu_n (by decide)).trans h472
  replace h473 : f24 473 = .inl (1, 2720, .inr (.inl (fun _ => 0))) := by rw [e24]; exact (wu_n (by decide)).trans h473
  replace h474 : f24 474 = .inl (0, 8, .inl (fun _ => 0)) := by rw [e24]; exact (wu_n (by decide)).trans h474
  replace h475 : f24 475 = .inl (0, 8, .inl (fun _ => 0)) := by rw [e24]; exact (wu_n (by decide)).trans h475
  replace h476 : f24 476 = .inl (1, 9, .inr (.inl (fun _ => 0))) := by rw [e24]; exact (wu_n (by decide)).trans h476
  replace h477 : f24 477 = .inl (1, 9, .inr (.inl (fun _ => 0))) := by rw [e24]; exact (wu_n (by decide)).trans h477
  replace h478 : f24 478 = .inl (1, 9, .inr (.inl (fun _ => 0))) := by rw [e24]; exact (wu_n (by decide)).trans h478
  replace h467 : f24 467 = .inr (9, [.int 0, .ref 468, .int 0, .ref 469, .ref 470, .int 0, .int 0, .ref 471, .ref 472, .ref 473, .int 0, .int 0, .int 0, .ref 474, .ref 475, .int 0, .int 0, .int 0, .int 0, .int 0, .int 0, .int 0, .int 0, .int 0, .int (-1), .ref 476, .ref 477, .ref 478, .null, .null, .null, .null, .null, .int 0, .null, .int 0, .null, .int 0]) := by rw [e24]; exact (wu_n (by decide)).trans h467
  have h479 : f24 479 = .inl (1, 3, .inr (.inl (fun _ => 0))) := by rw [e24]; exact wu_s _ _ _
  have o24 : ∀ i, (i < 479 ∨ 480 ≤ i) → f24 i = f23 i := fun i h1 => by rw [e24]; exact wu_n (by omega)
  show PW _ _ _ _ _ _ (105, [(0, .ref 467)], [.ref 479, .ref 467], (480, wu f23 479 (.inl (1, 3, .inr (.inl (fun _ => 0))))))
  rw [← e24]
  refine P_putF (i := 28) d_MD_init_105 ok_Model (by decide) rfl L_MD_50 rfl rfl h467 (fun _ => rfl) (fun _ => rfl) ?_
  obtain ⟨f25, e25⟩ : ∃ f25 : Nat → pE, f25 = wu f24 467 (.inr (9, [.int 0, .ref 468, .int 0, .ref 469, .ref 470, .int 0, .int 0, .ref 471, .ref 472, .ref 473, .int 0, .int 0, .int 0, .ref 474, .ref 475, .int 0, .int 0, .int 0, .int 0, .int 0, .int 0, .int 0, .int 0, .int 0, .int (-1), .ref 476, .ref 477, .ref 478, .ref 479, .null, .null, .null, .null, .int 0, .null, .int 0, .null, .int 0])) := ⟨_, rfl⟩
  replace h468 : f25 468 = .inl (0, 900, .inl (fun _ => 0)) := by rw [e25]; exact (wu_n (by decide)).trans h468
  replace h469 : f25 469 = .inl (0, 64, .inl (fun _ => 0)) := by rw [e25]; exact (wu_n (by decide)).trans h469
  replace h470 : f25 470 = .inl (0, 64, .inl (fun _ => 0)) := by rw [e25]; exact (wu_n (by decide)).trans h470
  replace h471 : f25 471 = .inl (1, 170, .inr (.inl (fun _ => 0))) := by rw [e25]; exact (wu_n (by decide)).trans h471
  replace h472 : f25 472 = .inl (1, 170, .inr (.inl (fun _ => 0))) := by rw [e25]; exact (wu_n (by decide)).trans h472
  replace h473 : f25 473 = .inl (1, 2720, .inr (.inl (fun _ => 0))) := by rw [e25]; exact (wu_n (by decide)).trans h473
  replace h474 : f25 474 = .inl (0, 8, .inl (fun _ => 0)) := by rw [e25]; exact (wu_n (by decide)).trans h474
  replace h475 : f25 475 = .inl (0, 8, .inl (fun _ => 0)) := by rw [e25]; exact (wu_n (by decide)).trans h475
  replace h476 : f25 476 = .inl (1, 9, .inr (.inl (fun _ => 0))) := by rw [e25]; exact (wu_n (by decide)).trans h476
  replace h477 : f25 477 = .inl (1, 9, .inr (.inl (fun _ => 0))) := by rw [e25]; exact (wu_n (by decide)).trans h477
  replace h478 : f25 478 = .inl (1, 9, .inr (.inl (fun _ => 0))) := by rw [e25]; exact (wu_n (by decide)).trans h478
  replace h479 : f25 479 = .inl (1, 3, .inr (.inl (fun _ => 0))) := by rw [e25]; exact (wu_n (by decide)).trans h479
  replace h467 : f25 467 = .inr (9, [.int 0, .ref 468, .int 0, .ref 469, .ref 470, .int 0, .int 0, .ref 471, .ref 472, .ref 473, .int 0, .int 0, .int 0, .ref 474, .ref 475, .int 0, .int 0, .int 0, .int 0, .int 0, .int 0, .int 0, .int 0, .int 0, .int (-1), .ref 476, .ref 477, .ref 478, .ref 479, .null, .null, .null, .null, .int 0, .null, .int 0, .null, .int 0]) := by rw [e25]; exact wu_s _ _ _
  have o25 : ∀ i, (i < 467 ∨ 468 ≤ i) → f25 i = f24 i := fun i h1 => by rw [e25]; exact wu_n (by omega)
  show PW _ _ _ _ _ _ (108, [(0, .ref 467)], [], (480, wu f24 467 (.inr (9, [.int 0, .ref 468, .int 0, .ref 469, .ref 470, .int 0, .int 0, .ref 471, .ref 472, .ref 473, .int 0, .int 0, .int 0, .ref 474, .ref 475, .int 0, .int 0, .int 0, .int 0, .int 0, .int 0, .int 0, .int 0, .int 0, .int (-1), .ref 476, .ref 477, .ref 478, .ref 479, .null, .null, .null, .null, .int 0, .null, .int 0, .null, .int 0]))))
  rw [← e25]
  refine P_aload_n d_MD_init_108 rfl ?_
  refine P_iconst (v := 3) d_MD_init_109 (by decide) ?_
  refine P_newarr (t := 1) (N := 3) (a0 := (3, .inr (.inl (fun _ => 0)))) d_MD_init_110 rfl (by decide) ac_long ⟨by decide, by decide⟩ (le_b rfl) ⟨rfl, fun _ _ => rfl⟩ (le_b rfl) (le_b rfl) (le_b rfl) ?_
  obtain ⟨f26, e26⟩ : ∃ f26 : Nat → pE, f26 = wu f25 480 (.inl (1, 3, .inr (.inl (fun _ => 0)))) := ⟨_, rfl⟩
  replace h468 : f26 468 = .inl (0, 900, .inl (fun _ => 0)) := by rw [e26]; exact (wu_n (by decide)).trans h468
  replace h469 : f26 469 = .inl (0, 64, .inl (fun _ => 0)) := by rw [e26]; exact (wu_n (by decide)).trans h469
  replace h470 : f26 470 = .inl (0, 64, .inl (fun _ => 0)) := by rw [e26]; exact (wu_n (by decide)).trans h470
  replace h471 : f26 471 = .inl (1, 170, .inr (.inl (fun _ => 0))) := by rw [e26]; exact (wu_n (by decide)).trans h471
  replace h472 : f26 472 = .inl (1, 170, .inr (.inl (fun _ => 0))) := by rw [e26]; exact (wu_n (by decide)).trans h472
  replace h473 : f26 473 = .inl (1, 2720, .inr (.inl (fun _ => 0))) := by rw [e26]; exact (wu_n (by decide)).trans h473
  replace h474 : f26 474 = .inl (0, 8, .inl (fun _ => 0)) := by rw [e26]; exact (wu_n (by decide)).trans h474
  replace h475 : f26 475 = .inl (0, 8, .inl (fun _ => 0)) := by rw [e26]; exact (wu_n (by decide)).trans h475
  replace h476 : f26 476 = .inl (1, 9, .inr (.inl (fun _ => 0))) := by rw [e26]; exact (wu_n (by decide)).trans h476
  replace h477 : f26 477 = .inl (1, 9, .inr (.inl (fun _ => 0))) := by rw [e26]; exact (wu_n (by decide)).trans h477
  replace h478 : f26 478 = .inl (1, 9, .inr (.inl (fun _ => 0))) := by rw [e26]; exact (wu_n (by decide)).trans h478
  replace h479 : f26 479 = .inl (1, 3, .inr (.inl (fun _ => 0))) := by rw [e26]; exact (wu_n (by decide)).trans h479
  replace h467 : f26 467 = .inr (9, [.int 0, .ref 468, .int 0, .ref 469, .ref 470, .int 0, .int 0, .ref 471, .ref 472, .ref 473, .int 0, .int 0, .int 0, .ref 474, .ref 475, .int 0, .int 0, .int 0, .int 0, .int 0, .int 0, .int 0, .int 0, .int 0, .int (-1), .ref 476, .ref 477, .ref 478, .ref 479, .null, .null, .null, .null, .int 0, .null, .int 0, .null, .int 0]) := by rw [e26]; exact (wu_n (by decide)).trans h467
  have h480 : f26 480 = .inl (1, 3, .inr (.inl (fun _ => 0))) := by rw [e26]; exact wu_s _ _ _
  have o26 : ∀ i, (i < 480 ∨ 481 ≤ i) → f26 i = f25 i := fun i h1 => by rw [e26]; exact wu_n (by omega)
  show PW _ _ _ _ _ _ (112, [(0, .ref 467)], [.ref 480, .ref 467], (481, wu f25 480 (.inl (1, 3, .inr (.inl (fun _ => 0))))))
  rw [← e26]
  refine P_putF (i := 29) d_MD_init_112 ok_Model (by decide) rfl L_MD_53 rfl rfl h467 (fun _ => rfl) (fun _ => rfl) ?_
  obtain ⟨f27, e27⟩ : ∃ f27 : Nat → pE, f27 = wu f26 467 (.inr (9, [.int 0, .ref 468, .int 0, .ref 469, .ref 470, .int 0, .int 0, .ref 471, .ref 472, .ref 473, .int 0, .int 0, .int 0, .ref 474, .ref 475, .int 0, .int 0, .int 0, .int 0, .int 0, .int 0, .int 0, .int 0, .int 0, .int (-1), .ref 476, .ref 477, .ref 478, .ref 479, .ref 480, .null, .null, .null, .int 0, .null, .int 0, .null, .int 0])) := ⟨_, rfl⟩
  replace h468 : f27 468 = .inl (0, 900, .inl (fun _ => 0)) := by rw [e27]; exact (wu_n (by decide)).trans h468
  replace h469 : f27 469 = .inl (0, 64, .inl (fun _ => 0)) := by rw [e27]; exact (wu_n (by decide)).trans h469
  replace h470 : f27 470 = .inl (0, 64, .inl (fun _ => 0)) := by rw [e27]; exact (wu_n (by decide)).trans h470
  replace h471 : f27 471 = .inl (1, 170, .inr (.inl (fun _ => 0))) := by rw [e27]; exact (wu_n (by decide)).trans h471
  replace h472 : f27 472 = .inl (1, 170, .inr (.inl (fun _ => 0))) := by rw [e27]; exact (wu_n (by decide)).trans h472
  replace h473 : f27 473 = .inl (1, 2720, .inr (.inl (fun _ => 0))) := by rw [e27]; exact (wu_n (by decide)).trans h473
  replace h474 : f27 474 = .inl (0, 8, .inl (fun _ => 0)) := by rw [e27]; exact (wu_n (by decide)).trans h474
  replace h475 : f27 475 = .inl (0, 8, .inl (fun _ => 0)) := by rw [e27]; exact (wu_n (by decide)).trans h475
  replace h476 : f27 476 = .inl (1, 9, .inr (.inl (fun _ => 0))) := by rw [e27]; exact (wu_n (by decide)).trans h476
  replace h477 : f27 477 = .inl (1, 9, .inr (.inl (fun _ => 0))) := by rw [e27]; exact (wu_n (by decide)).trans h477
  replace h478 : f27 478 = .inl (1, 9, .inr (.inl (fun _ => 0))) := by rw [e27]; exact (wu_n (by decide)).trans h478
  replace h479 : f27 479 = .inl (1, 3, .inr (.inl (fun _ => 0))) := by rw [e27]; exact (wu_n (by decide)).trans h479
  replace h480 : f27 480 = .inl (1, 3, .inr (.inl (fun _ => 0))) := by rw [e27]; exact (wu_n (by decide)).trans h480
  replace h467 : f27 467 = .inr (9, [.int 0, .ref 468, .int 0, .ref 469, .ref 470, .int 0, .int 0, .ref 471, .ref 472, .ref 473, .int 0, .int 0, .int 0, .ref 474, .ref 475, .int 0, .int 0, .int 0, .int 0, .int 0, .int 0, .int 0, .int 0, .int 0, .int (-1), .ref 476, .ref 477, .ref 478, .ref 479, .ref 480, .null, .null, .null, .int 0, .null, .int 0, .null, .int 0]) := by rw [e27]; exact wu_s _ _ _
  have o27 : ∀ i, (i < 467 ∨ 468 ≤ i) → f27 i = f26 i := fun i h1 => by rw [e27]; exact wu_n (by omega)
  show PW _ _ _ _ _ _ (115, [(0, .ref 467)], [], (481, wu f26 467 (.inr (9, [.int 0, .ref 468, .int 0, .ref 469, .ref 470, .int 0, .int 0, .ref 471, .ref 472, .ref 473, .int 0, .int 0, .int 0, .ref 474, .ref 475, .int 0, .int 0, .int 0, .int 0, .int 0, .int 0, .int 0, .int 0, .int 0, .int (-1), .ref 476, .ref 477, .ref 478, .ref 479, .ref 480, .null, .null, .null, .int 0, .null, .int 0, .null, .int 0]))))
  rw [← e27]
  refine P_aload_n d_MD_init_115 rfl ?_
  refine P_bipush (v := 16) d_MD_init_116 (by decide) ?_
  refine P_newarr (t := 0) (N := 16) (a0 := (16, .inl (fun _ => 0))) d_MD_init_118 rfl (by decide) ac_int ⟨by decide, by decide⟩ (le_b rfl) ⟨rfl, fun _ _ => rfl⟩ (le_b rfl) (le_b rfl) (le_b rfl) ?_
  obtain ⟨f28, e28⟩ : ∃ f28 : Nat → pE, f28 = wu f27 481 (.inl (0, 16, .inl (fun _ => 0))) := ⟨_, rfl⟩
  replace h468 : f28 468 = .inl (0, 900, .inl (fun _ => 0)) := by rw [e28]; exact (wu_n (by decide)).trans h468
  replace h469 : f28 469 = .inl (0, 64, .inl (fun _ => 0)) := by rw [e28]; exact (wu_n (by decide)).trans h469
  replace h470 : f28 470 = .inl (0, 64, .inl (fun _ => 0)) := by rw [e28]; exact (wu_n (by decide)).trans h470
  replace h471 : f28 471 = .inl (1, 170, .inr (.inl (fun _ => 0))) := by rw [e28]; exact (wu_n (by decide)).trans h471
  replace h472 : f28 472 = .inl (1, 170, .inr (.inl (fun _ => 0))) := by rw [e28]; exact (wu_n (by decide)).trans h472
  replace h473 : f28 473 = .inl (1, 2720, .inr (.inl (fun _ => 0))) := by rw [e28]; exact (wu_n (by decide)).trans h473
  replace h474 : f28 474 = .inl (0, 8, .inl (fun _ => 0)) := by rw [e28]; exact (wu_n (by decide)).trans h474
  replace h475 : f28 475 = .inl (0, 8, .inl (fun _ => 0)) := by rw [e28]; exact (wu_n (by decide)).trans h475
  replace h476 : f28 476 = .inl (1, 9, .inr (.inl (fun _ => 0))) := by rw [e28]; exact (wu_n (by decide)).trans h476
  replace h477 : f28 477 = .inl (1, 9, .inr (.inl (fun _ => 0))) := by rw [e28]; exact (wu_n (by decide)).trans h477
  replace h478 : f28 478 = .inl (1, 9, .inr (.inl (fun _ => 0))) := by rw [e28]; exact (wu_n (by decide)).trans h478
  replace h479 : f28 479 = .inl (1, 3, .inr (.inl (fun _ => 0))) := by rw [e28]; exact (wu_n (by decide)).trans h479
  replace h480 : f28 480 = .inl (1, 3, .inr (.inl (fun _ => 0))) := by rw [e28]; exact (wu_n (by decide)).trans h480
  replace h467 : f28 467 = .inr (9, [.int 0, .ref 468, .int 0, .ref 469, .ref 470, .int 0, .int 0, .ref 471, .ref 472, .ref 473, .int 0, .int 0, .int 0, .ref 474, .ref 475, .int 0, .int 0, .int 0, .int 0, .int 0, .int 0, .int 0, .int 0, .int 0, .int (-1), .ref 476, .ref 477, .ref 478, .ref 479, .ref 480, .null, .null, .null, .int 0, .null, .int 0, .null, .int 0]) := by rw [e28]; exact (wu_n (by decide)).trans h467
  have h481 : f28 481 = .inl (0, 16, .inl (fun _ => 0)) := by rw [e28]; exact wu_s _ _ _
  have o28 : ∀ i, (i < 481 ∨ 482 ≤ i) → f28 i = f27 i := fun i h1 => by rw [e28]; exact wu_n (by omega)
  show PW _ _ _ _ _ _ (120, [(0, .ref 467)], [.ref 481, .ref 467], (482, wu f27 481 (.inl (0, 16, .inl (fun _ => 0)))))
  rw [← e28]
  refine P_putF (i := 30) d_MD_init_120 ok_Model (by decide) rfl L_MD_56 rfl rfl h467 (fun _ => rfl) (fun _ => rfl) ?_
  obtain ⟨f29, e29⟩ : ∃ f29 : Nat → pE, f29 = wu f28 467 (.inr (9, [.int 0, .ref 468, .int 0, .ref 469, .ref 470, .int 0, .int 0, .ref 471, .ref 472, .ref 473, .int 0, .int 0, .int 0, .ref 474, .ref 475, .int 0, .int 0, .int 0, .int 0, .int 0, .int 0, .int 0, .int 0, .int 0, .int (-1), .ref 476, .ref 477, .ref 478, .ref 479, .ref 480, .ref 481, .null, .null, .int 0, .null, .int 0, .null, .int 0])) := ⟨_, rfl⟩
  replace h468 : f29 468 = .inl (0, 900, .inl (fun _ => 0)) := by rw [e29]; exact (wu_n (by decide)).trans h468
  replace h469 : f29 469 = .inl (0, 64, .inl (fun _ => 0)) := by rw [e29]; exact (wu_n (by decide)).trans h469
  replace h470 : f29 470 = .inl (0, 64, .inl (fun _ => 0)) := by rw [e29]; exact (wu_n (by decide)).trans h470
  replace h471 : f29 471 = .inl (1, 170, .inr (.inl (fun _ => 0))) := by rw [e29]; exact (wu_n (by decide)).trans h471
  replace h472 : f29 472 = .inl (1, 170, .inr (.inl (fun _ => 0))) := by rw [e29]; exact (wu_n (by decide)).trans h472
  replace h473 : f29 473 = .inl (1, 2720, .inr (.inl (fun _ => 0))) := by rw [e29]; exact (wu_n (by decide)).trans h473
  replace h474 : f29 474 = .inl (0, 8, .inl (fun _ => 0)) := by rw [e29]; exact (wu_n (by decide)).trans h474
  replace h475 : f29 475 = .inl (0, 8, .inl (fun _ => 0)) := by rw [e29]; exact (wu_n (by decide)).trans h475
  replace h476 : f29 476 = .inl (1, 9, .inr (.inl (fun _ => 0))) := by rw [e29]; exact (wu_n (by decide)).trans h476
  replace h477 : f29 477 = .inl (1, 9, .inr (.inl (fun _ => 0))) := by rw [e29]; exact (wu_n (by decide)).trans h477
  replace h478 : f29 478 = .inl (1, 9, .inr (.inl (fun _ => 0))) := by rw [e29]; exact (wu_n (by decide)).trans h478
  replace h479 : f29 479 = .inl (1, 3, .inr (.inl (fun _ => 0))) := by rw [e29]; exact (wu_n (by decide)).trans h479
  replace h480 : f29 480 = .inl (1, 3, .inr (.inl (fun _ => 0))) := by rw [e29]; exact (wu_n (by decide)).trans h480
  replace h481 : f29 481 = .inl (0, 16, .inl (fun _ => 0)) := by rw [e29]; exact (wu_n (by decide)).trans h481
  replace h467 : f29 467 = .inr (9, [.int 0, .ref 468, .int 0, .ref 469, .ref 470, .int 0, .int 0, .ref 471, .ref 472, .ref 473, .int 0, .int 0, .int 0, .ref 474, .ref 475, .int 0, .int 0, .int 0, .int 0, .int 0, .int 0, .int 0, .int 0, .int 0, .int (-1), .ref 476, .ref 477, .ref 478, .ref 479, .ref 480, .ref 481, .null, .null, .int 0, .null, .int 0, .null, .int 0]) := by rw [e29]; exact wu_s _ _ _
  have o29 : ∀ i, (i < 467 ∨ 468 ≤ i) → f29 i = f28 i := fun i h1 => by rw [e29]; exact wu_n (by omega)
  show PW _ _ _ _ _ _ (123, [(0, .ref 467)], [], (482, wu f28 467 (.inr (9, [.int 0, .ref 468, .int 0, .ref 469, .ref 470, .int 0, .int 0, .ref 471, .ref 472, .ref 473, .int 0, .int 0, .int 0, .ref 474, .ref 475, .int 0, .int 0, .int 0, .int 0, .int 0, .int 0, .int 0, .int 0, .int 0, .int (-1), .ref 476, .ref 477, .ref 478, .ref 479, .ref 480, .ref 481, .null, .null, .int 0, .null, .int 0, .null, .int 0]))))
  rw [← e29]
  refine P_aload_n d_MD_init_123 rfl ?_
  refine P_bipush (v := 9) d_MD_init_124 (by decide) ?_
  refine P_newarr (t := 1) (N := 9) (a0 := (9, .inr (.inl (fun _ => 0)))) d_MD_init_126 rfl (by decide) ac_long ⟨by decide, by decide⟩ (le_b rfl) ⟨rfl, fun _ _ => rfl⟩ (le_b rfl) (le_b rfl) (le_b rfl) ?_
  obtain ⟨f30, e30⟩ : ∃ f30 : Nat → pE, f30 = wu f29 482 (.inl (1, 9, .inr (.inl (fun _ => 0)))) := ⟨_, rfl⟩
  replace h468 : f30 468 = .inl (0, 900, .inl (fun _ => 0)) := by rw [e30]; exact (wu_n (by decide)).trans h468
  replace h469 : f30 469 = .inl (0, 64, .inl (fun _ => 0)) := by rw [e30]; exact (wu_n (by decide)).trans h469
  replace h470 : f30 470 = .inl (0, 64, .inl (fun _ => 0)) := by rw [e30]; exact (wu_n (by decide)).trans h470
  replace h471 : f30 471 = .inl (1, 170, .inr (.inl (fun _ => 0))) := by rw [e30]; exact (wu_n (by decide)).trans h471
  replace h472 : f30 472 = .inl (1, 170, .inr (.inl (fun _ => 0))) := by rw [e30]; exact (wu_n (by decide)).trans h472
  replace h473 : f30 473 = .inl (1, 2720, .inr (.inl (fun _ => 0))) := by rw [e30]; exact (wu_n (by decide)).trans h473
  replace h474 : f30 474 = .inl (0, 8, .inl (fun _ => 0)) := by rw [e30]; exact (wu_n (by decide)).trans h474
  replace h475 : f30 475 = .inl (0, 8, .inl (fun _ => 0)) := by rw [e30]; exact (wu_n (by decide)).trans h475
  replace h476 : f30 476 = .inl (1, 9, .inr (.inl (fun _ => 0))) := by rw [e30]; exact (wu_n (by decide)).trans h476
  replace h477 : f30 477 = .inl (1, 9, .inr (.inl (fun _ => 0))) := by rw [e30]; exact (wu_n (by decide)).trans h477
  replace h478 : f30 478 = .inl (1, 9, .inr (.inl (fun _ => 0))) := by rw [e30]; exact (wu_n (by decide)).trans h478
  replace h479 : f30 479 = .inl (1, 3, .inr (.inl (fun _ => 0))) := by rw [e30]; exact (wu_n (by decide)).trans h479
  replace h480 : f30 480 = .inl (1, 3, .inr (.inl (fun _ => 0))) := by rw [e30]; exact (wu_n (by decide)).trans h480
  replace h481 : f30 481 = .inl (0, 16, .inl (fun _ => 0)) := by rw [e30]; exact (wu_n (by decide)).trans h481
  replace h467 : f30 467 = .inr (9, [.int 0, .ref 468, .int 0, .ref 469, .ref 470, .int 0, .int 0, .ref 471, .ref 472, .ref 473, .int 0, .int 0, .int 0, .ref 474, .ref 475, .int 0, .int 0, .int 0, .int 0, .int 0, .int 0, .int 0, .int 0, .int 0, .int (-1), .ref 476, .ref 477, .ref 478, .ref 479, .ref 480, .ref 481, .null, .null, .int 0, .null, .int 0, .null, .int 0]) := by rw [e30]; exact (wu_n (by decide)).trans h467
  have h482 : f30 482 = .inl (1, 9, .inr (.inl (fun _ => 0))) := by rw [e30]; exact wu_s _ _ _
  have o30 : ∀ i, (i < 482 ∨ 483 ≤ i) → f30 i = f29 i := fun i h1 => by rw [e30]; exact wu_n (by omega)
  show PW _ _ _ _ _ _ (128, [(0, .ref 467)], [.ref 482, .ref 467], (483, wu f29 482 (.inl (1, 9, .inr (.inl (fun _ => 0))))))
  rw [← e30]
  refine P_putF (i := 31) d_MD_init_128 ok_Model (by decide) rfl L_MD_59 rfl rfl h467 (fun _ => rfl) (fun _ => rfl) ?_
  obtain ⟨f31, e31⟩ : ∃ f31 : Nat → pE, f31 = wu f30 467 (.inr (9, [.int 0, .ref 468, .int 0, .ref 469, .ref 470, .int 0, .int 0, .ref 471, .ref 472, .ref 473, .int 0, .int 0, .int 0, .ref 474, .ref 475, .int 0, .int 0, .int 0, .int 0, .int 0, .int 0, .int 0, .int 0, .int 0, .int (-1), .ref 476, .ref 477, .ref 478, .ref 479, .ref 480, .ref 481, .ref 482, .null, .int 0, .null, .int 0, .null, .int 0])) := ⟨_, rfl⟩
  replace h468 : f31 468 = .inl (0, 900, .inl (fun _ => 0)) := by rw [e31]; exact (wu_n (by decide)).trans h468
  replace h469 : f31 469 = .inl (0, 64, .inl (fun _ => 0)) := by rw [e31]; exact (wu_n (by decide)).trans h469
  replace h470 : f31 470 = .inl (0, 64, .inl (fun _ => 0)) := by rw [e31]; exact (wu_n (by decide)).trans h470
  replace h471 : f31 471 = .inl (1, 170, .inr (.inl (fun _ => 0))) := by rw [e31]; exact (wu_n (by decide)).trans h471
  replace h472 : f31 472 = .inl (1, 170, .inr (.inl (fun _ => 0))) := by rw [e31]; exact (wu_n (by decide)).trans h472
  replace h473 : f31 473 = .inl (1, 2720, .inr (.inl (fun _ => 0))) := by rw [e31]; exact (wu_n (by decide)).trans h473
  replace h474 : f31 474 = .inl (0, 8, .inl (fun _ => 0)) := by rw [e31]; exact (wu_n (by decide)).trans h474
  replace h475 : f31 475 = .inl (0, 8, .inl (fun _ => 0)) := by rw [e31]; exact (wu_n (by decide)).trans h475
  replace h476 : f31 476 = .inl (1, 9, .inr (.inl (fun _ => 0))) := by rw [e31]; exact (wu_n (by decide)).trans h476
  replace h477 : f31 477 = .inl (1, 9, .inr (.inl (fun _ => 0))) := by rw [e31]; exact (wu_n (by decide)).trans h477
  replace h478 : f31 478 = .inl (1, 9, .inr (.inl (fun _ => 0))) := by rw [e31]; exact (wu_n (by decide)).trans h478
  replace h479 : f31 479 = .inl (1, 3, .inr (.inl (fun _ => 0))) := by rw [e31]; exact (wu_n (by decide)).trans h479
  replace h480 : f31 480 = .inl (1, 3, .inr (.inl (fun _ => 0))) := by rw [e31]; exact (wu_n (by decide)).trans h480
  replace h481 : f31 481 = .inl (0, 16, .inl (fun _ => 0)) := by rw [e31]; exact (wu_n (by decide)).trans h481
  replace h482 : f31 482 = .inl (1, 9, .inr (.inl (fun _ => 0))) := by rw [e31]; exact (wu_n (by decide)).trans h482
  replace h467 : f31 467 = .inr (9, [.int 0, .ref 468, .int 0, .ref 469, .ref 470, .int 0, .int 0, .ref 471, .ref 472, .ref 473, .int 0, .int 0, .int 0, .ref 474, .ref 475, .int 0, .int 0, .int 0, .int 0, .int 0, .int 0, .int 0, .int 0, .int 0, .int (-1), .ref 476, .ref 477, .ref 478, .ref 479, .ref 480, .ref 481, .ref 482, .null, .int 0, .null, .int 0, .null, .int 0]) := by rw [e31]; exact wu_s _ _ _
  have o31 : ∀ i, (i < 467 ∨ 468 ≤ i) → f31 i = f30 i := fun i h1 => by rw [e31]; exact wu_n (by omega)
  show PW _ _ _ _ _ _ (131, [(0, .ref 467)], [], (483, wu f30 467 (.inr (9, [.int 0, .ref 468, .int 0, .ref 469, .ref 470, .int 0, .int 0, .ref 471, .ref 472, .ref 473, .int 0, .int 0, .int 0, .ref 474, .ref 475, .int 0, .int 0, .int 0, .int 0, .int 0, .int 0, .int 0, .int 0, .int 0, .int (-1), .ref 476, .ref 477, .ref 478, .ref 479, .ref 480, .ref 481, .ref 482, .null, .int 0, .null, .int 0, .null, .int 0]))))
  rw [← e31]
  refine P_aload_n d_MD_init_131 rfl ?_
  refine P_iconst (v := 3) d_MD_init_132 (by decide) ?_
  refine P_newarr (t := 0) (N := 3) (a0 := (3, .inl (fun _ => 0))) d_MD_init_133 rfl (by decide) ac_int ⟨by decide, by decide⟩ (le_b rfl) ⟨rfl, fun _ _ => rfl⟩ (le_b rfl) (le_b rfl) (le_b rfl) ?_
  obtain ⟨f32, e32⟩ : ∃ f32 : Nat → pE, f32 = wu f31 483 (.inl (0, 3, .inl (fun _ => 0))) := ⟨_, rfl⟩
  replace h468 : f32 468 = .inl (0, 900, .inl (fun _ => 0)) := by rw [e32]; exact (wu_n (by decide)).trans h468
  replace h469 : f32 469 = .inl (0, 64, .inl (fun _ => 0)) := by rw [e32]; exact (wu_n (by decide)).trans h469
  replace h470 : f32 470 = .inl (0, 64, .inl (fun _ => 0)) := by rw [e32]; exact (wu_n (by decide)).trans h470
  replace h471 : f32 471 = .inl (1, 170, .inr (.inl (fun _ => 0))) := by rw [e32]; exact (wu_n (by decide)).trans h471
  replace h472 : f32 472 = .inl (1, 170, .inr (.inl (fun _ => 0))) := by rw [e32]; exact (wu_n (by decide)).trans h472
  replace h473 : f32 473 = .inl (1, 2720, .inr (.inl (fun _ => 0))) := by rw [e32]; exact (wu_n (by decide)).trans h473
  replace h474 : f32 474 = .inl (0, 8, .inl (fun _ => 0)) := by rw [e32]; exact (wu_n (by decide)).trans h474
  replace h475 : f32 475 = .inl (0, 8, .inl (fun _ => 0)) := by rw [e32]; exact (wu_n (by decide)).trans h475
  replace h476 : f32 476 = .inl (1, 9, .inr (.inl (fun _ => 0))) := by rw [e32]; exact (wu_n (by decide)).trans h476
  replace h477 : f32 477 = .inl (1, 9, .inr (.inl (fun _ => 0))) := by rw [e32]; exact (wu_n (by decide)).trans h477
  replace h478 : f32 478 = .inl (1, 9, .inr (.inl (fun _ => 0))) := by rw [e32]; exact (wu_n (by decide)).trans h478
  replace h479 : f32 479 = .inl (1, 3, .inr (.inl (fun _ => 0))) := by rw [e32]; exact (wu_n (by decide)).trans h479
  replace h480 : f32 480 = .inl (1, 3, .inr (.inl (fun _ => 0))) := by rw [e32]; exact (wu_n (by decide)).trans h480
  replace h481 : f32 481 = .inl (0, 16, .inl (fun _ => 0)) := by rw [e32]; exact (wu_n (by decide)).trans h481
  replace h482 : f32 482 = .inl (1, 9, .inr (.inl (fun _ => 0))) := by rw [e32]; exact (wu_n (by decide)).trans h482
  replace h467 : f32 467 = .inr (9, [.int 0, .ref 468, .int 0, .ref 469, .ref 470, .int 0, .int 0, .ref 471, .ref 472, .ref 473, .int 0, .int 0, .int 0, .ref 474, .ref 475, .int 0, .int 0, .int 0, .int 0, .int 0, .int 0, .int 0, .int 0, .int 0, .int (-1), .ref 476, .ref 477, .ref 478, .ref 479, .ref 480, .ref 481, .ref 482, .null, .int 0, .null, .int 0, .null, .int 0]) := by rw [e32]; exact (wu_n (by decide)).trans h467
  have h483 : f32 483 = .inl (0, 3, .inl (fun _ => 0)) := by rw [e32]; exact wu_s _ _ _
  have o32 : ∀ i, (i < 483 ∨ 484 ≤ i) → f32 i = f31 i := fun i h1 => by rw [e32]; exact wu_n (by omega)
  show PW _ _ _ _ _ _ (135, [(0, .ref 467)], [.ref 483, .ref 467], (484, wu f31 483 (.inl (0, 3, .inl (fun _ => 0)))))
  rw [← e32]
  refine P_putF (i := 32) d_MD_init_135 ok_Model (by decide) rfl L_MD_62 rfl rfl h467 (fun _ => rfl) (fun _ => rfl) ?_
  obtain ⟨f33, e33⟩ : ∃ f33 : Nat → pE, f33 = wu f32 467 (.inr (9, [.int 0, .ref 468, .int 0, .ref 469, .ref 470, .int 0, .int 0, .ref 471, .ref 472, .ref 473, .int 0, .int 0, .int 0, .ref 474, .ref 475, .int 0, .int 0, .int 0, .int 0, .int 0, .int 0, .int 0, .int 0, .int 0, .int (-1), .ref 476, .ref 477, .ref 478, .ref 479, .ref 480, .ref 481, .ref 482, .ref 483, .int 0, .null, .int 0, .null, .int 0])) := ⟨_, rfl⟩
  replace h468 : f33 468 = .inl (0, 900, .inl (fun _ => 0)) := by rw [e33]; exact (wu_n (by decide)).trans h468
  replace h469 : f33 469 = .inl (0, 64, .inl (fun _ => 0)) := by rw [e33]; exact (wu_n (by decide)).trans h469
  replace h470 : f33 470 = .inl (0, 64, .inl (fun _ => 0)) := by rw [e33]; exact (wu_n (by decide)).trans h470
  replace h471 : f33 471 = .inl (1, 170, .inr (.inl (fun _ => 0))) := by rw [e33]; exact (wu_n (by decide)).trans h471
  replace h472 : f33 472 = .inl (1, 170, .inr (.inl (fun _ => 0))) := by rw [e33]; exact (wu_n (by decide)).trans h472
  replace h473 : f33 473 = .inl (1, 2720, .inr (.inl (fun _ => 0))) := by rw [e33]; exact (wu_n (by decide)).trans h473
  replace h474 : f33 474 = .inl (0, 8, .inl (fun _ => 0)) := by rw [e33]; exact (wu_n (by decide)).trans h474
  replace h475 : f33 475 = .inl (0, 8, .inl (fun _ => 0)) := by rw [e33]; exact (wu_n (by decide)).trans h475
  replace h476 : f33 476 = .inl (1, 9, .inr (.inl (fun _ => 0))) := by rw [e33]; exact (wu_n (by decide)).trans h476
  replace h477 : f33 477 = .inl (1, 9, .inr (.inl (fun _ => 0))) := by rw [e33]; exact (wu_n (by decide)).trans h477
  replace h478 : f33 478 = .inl (1, 9, .inr (.inl (fun _ => 0))) := by rw [e33]; exact (wu_n (by decide)).trans h478
  replace h479 : f33 479 = .inl (1, 3, .inr (.inl (fun _ => 0))) := by rw [e33]; exact (wu_n (by decide)).trans h479
  replace h480 : f33 480 = .inl (1, 3, .inr (.inl (fun _ => 0))) := by rw [e33]; exact (wu_n (by decide)).trans h480
  replace h481 : f33 481 = .inl (0, 16, .inl (fun _ => 0)) := by rw [e33]; exact (wu_n (by decide)).trans h481
  replace h482 : f33 482 = .inl (1, 9, .inr (.inl (fun _ => 0))) := by rw [e33]; exact (wu_n (by decide)).trans h482
  replace h483 : f33 483 = .inl (0, 3, .inl (fun _ => 0)) := by rw [e33]; exact (wu_n (by decide)).trans h483
  replace h467 : f33 467 = .inr (9, [.int 0, .ref 468, .int 0, .ref 469, .ref 470, .int 0, .int 0, .ref 471, .ref 472, .ref 473, .int 0, .int 0, .int 0, .ref 474, .ref 475, .int 0, .int 0, .int 0, .int 0, .int 0, .int 0, .int 0, .int 0, .int 0, .int (-1), .ref 476, .ref 477, .ref 478, .ref 479, .ref 480, .ref 481, .ref 482, .ref 483, .int 0, .null, .int 0, .null, .int 0]) := by rw [e33]; exact wu_s _ _ _
  have o33 : ∀ i, (i < 467 ∨ 468 ≤ i) → f33 i = f32 i := fun i h1 => by rw [e33]; exact wu_n (by omega)
  show PW _ _ _ _ _ _ (138, [(0, .ref 467)], [], (484, wu f32 467 (.inr (9, [.int 0, .ref 468, .int 0, .ref 469, .ref 470, .int 0, .int 0, .ref 471, .ref 472, .ref 473, .int 0, .int 0, .int 0, .ref 474, .ref 475, .int 0, .int 0, .int 0, .int 0, .int 0, .int 0, .int 0, .int 0, .int 0, .int (-1), .ref 476, .ref 477, .ref 478, .ref 479, .ref 480, .ref 481, .ref 482, .ref 483, .int 0, .null, .int 0, .null, .int 0]))))
  rw [← e33]
  refine P_aload_n d_MD_init_138 rfl ?_
  refine P_sipush (v := 2448) d_MD_init_139 (by decide) ?_
  refine P_newarr (t := 1) (N := 2448) (a0 := (2448, .inr (.inl (fun _ => 0)))) d_MD_init_142 rfl (by decide) ac_long ⟨by decide, by decide⟩ (le_b rfl) ⟨rfl, fun _ _ => rfl⟩ (le_b rfl) (le_b rfl) (le_b rfl) ?_
  obtain ⟨f34, e34⟩ : ∃ f34 : Nat → pE, f34 = wu f33 484 (.inl (1, 2448, .inr (.inl (fun _ => 0)))) := ⟨_, rfl⟩
  replace h468 : f34 468 = .inl (0, 900, .inl (fun _ => 0)) := by rw [e34]; exact (wu_n (by decide)).trans h468
  replace h469 : f34 469 = .inl (0, 64, .inl (fun _ => 0)) := by rw [e34]; exact (wu_n (by decide)).trans h469
  replace h470 : f34 470 = .inl (0, 64, .inl (fun _ => 0)) := by rw [e34]; exact (wu_n (by decide)).trans h470
  replace h471 : f34 471 = .inl (1, 170, .inr (.inl (fun _ => 0))) := by rw [e34]; exact (wu_n (by decide)).trans h471
  replace h472 : f34 472 = .inl (1, 170, .inr (.inl (fun _ => 0))) := by rw [e34]; exact (wu_n (by decide)).trans h472
  replace h473 : f34 473 = .inl (1, 2720, .inr (.inl (fun _ => 0))) := by rw [e34]; exact (wu_n (by decide)).trans h473
  replace h474 : f34 474 = .inl (0, 8, .inl (fun _ => 0)) := by rw [e34]; exact (wu_n (by decide)).trans h474
  replace h475 : f34 475 = .inl (0, 8, .inl (fun _ => 0)) := by rw [e34]; exact (wu_n (by decide)).trans h475
  replace h476 : f34 476 = .inl (1, 9, .inr (.inl (fun _ => 0))) := by rw [e34]; exact (wu_n (by decide)).trans h476
  replace h477 : f34 477 = .inl (1, 9, .inr (.inl (fun _ => 0))) := by rw [e34]; exact (wu_n (by decide)).trans h477
  replace h478 : f34 478 = .inl (1, 9, .inr (.inl (fun _ => 0))) := by rw [e34]; exact (wu_n (by decide)).trans h478
  replace h479 : f34 479 = .inl (1, 3, .inr (.inl (fun _ => 0))) := by rw [e34]; exact (wu_n (by decide)).trans h479
  replace h480 : f34 480 = .inl (1, 3, .inr (.inl (fun _ => 0))) := by rw [e34]; exact (wu_n (by decide)).trans h480
  replace h481 : f34 481 = .inl (0, 16, .inl (fun _ => 0)) := by rw [e34]; exact (wu_n (by decide)).trans h481
  replace h482 : f34 482 = .inl (1, 9, .inr (.inl (fun _ => 0))) := by rw [e34]; exact (wu_n (by decide)).trans h482
  replace h483 : f34 483 = .inl (0, 3, .inl (fun _ => 0)) := by rw [e34]; exact (wu_n (by decide)).trans h483
  replace h467 : f34 467 = .inr (9, [.int 0, .ref 468, .int 0, .ref 469, .ref 470, .int 0, .int 0, .ref 471, .ref 472, .ref 473, .int 0, .int 0, .int 0, .ref 474, .ref 475, .int 0, .int 0, .int 0, .int 0, .int 0, .int 0, .int 0, .int 0, .int 0, .int (-1), .ref 476, .ref 477, .ref 478, .ref 479, .ref 480, .ref 481, .ref 482, .ref 483, .int 0, .null, .int 0, .null, .int 0]) := by rw [e34]; exact (wu_n (by decide)).trans h467
  have h484 : f34 484 = .inl (1, 2448, .inr (.inl (fun _ => 0))) := by rw [e34]; exact wu_s _ _ _
  have o34 : ∀ i, (i < 484 ∨ 485 ≤ i) → f34 i = f33 i := fun i h1 => by rw [e34]; exact wu_n (by omega)
  show PW _ _ _ _ _ _ (144, [(0, .ref 467)], [.ref 484, .ref 467], (485, wu f33 484 (.inl (1, 2448, .inr (.inl (fun _ => 0))))))
  rw [← e34]
  refine P_putF (i := 34) d_MD_init_144 ok_Model (by decide) rfl L_MD_65 rfl rfl h467 (fun _ => rfl) (fun _ => rfl) ?_
  obtain ⟨f35, e35⟩ : ∃ f35 : Nat → pE, f35 = wu f34 467 (.inr (9, [.int 0, .ref 468, .int 0, .ref 469, .ref 470, .int 0, .int 0, .ref 471, .ref 472, .ref 473, .int 0, .int 0, .int 0, .ref 474, .ref 475, .int 0, .int 0, .int 0, .int 0, .int 0, .int 0, .int 0, .int 0, .int 0, .int (-1), .ref 476, .ref 477, .ref 478, .ref 479, .ref 480, .ref 481, .ref 482, .ref 483, .int 0, .ref 484, .int 0, .null, .int 0])) := ⟨_, rfl⟩
  replace h468 : f35 468 = .inl (0, 900, .inl (fun _ => 0)) := by rw [e35]; exact (wu_n (by decide)).trans h468
  replace h469 : f35 469 = .inl (0, 64, .inl (fun _ => 0)) := by rw [e35]; exact (wu_n (by decide)).trans h469
  replace h470 : f35 470 = .inl (0, 64, .inl (fun _ => 0)) := by rw [e35]; exact (wu_n (by decide)).trans h470
  replace h471 : f35 471 = .inl (1, 170, .inr (.inl (fun _ => 0))) := by rw [e35]; exact (wu_n (by decide)).trans h471
  replace h472 : f35 472 = .inl (1, 170, .inr (.inl (fun _ => 0))) := by rw [e35]; exact (wu_n (by decide)).trans h472
  replace h473 : f35 473 = .inl (1, 2720, .inr (.inl (fun _ => 0))) := by rw [e35]; exact (wu_n (by decide)).trans h473
  replace h474 : f35 474 = .inl (0, 8, .inl (fun _ => 0)) := by rw [e35]; exact (wu_n (by decide)).trans h474
  replace h475 : f35 475 = .inl (0, 8, .inl (fun _ => 0)) := by rw [e35]; exact (wu_n (by decide)).trans h475
  replace h476 : f35 476 = .inl (1, 9, .inr (.inl (fun _ => 0))) := by rw [e35]; exact (wu_n (by decide)).trans h476
  replace h477 : f35 477 = .inl (1, 9, .inr (.inl (fun _ => 0))) := by rw [e35]; exact (wu_n (by decide)).trans h477
  replace h478 : f35 478 = .inl (1, 9, .inr (.inl (fun _ => 0))) := by rw [e35]; exact (wu_n (by decide)).trans h478
  replace h479 : f35 479 = .inl (1, 3, .inr (.inl (fun _ => 0))) := by rw [e35]; exact (wu_n (by decide)).trans h479
  replace h480 : f35 480 = .inl (1, 3, .inr (.inl (fun _ => 0))) := by rw [e35]; exact (wu_n (by decide)).trans h480
  replace h481 : f35 481 = .inl (0, 16, .inl (fun _ => 0)) := by rw [e35]; exact (wu_n (by decide)).trans h481
  replace h482 : f35 482 = .inl (1, 9, .inr (.inl (fun _ => 0))) := by rw [e35]; exact (wu_n (by decide)).trans h482
  replace h483 : f35 483 = .inl (0, 3, .inl (fun _ => 0)) := by rw [e35]; exact (wu_n (by decide)).trans h483
  replace h484 : f35 484 = .inl (1, 2448, .inr (.inl (fun _ => 0))) := by rw [e35]; exact (wu_n (by decide)).trans h484
  replace h467 : f35 467 = .inr (9, [.int 0, .ref 468, .int 0, .ref 469, .ref 470, .int 0, .int 0, .ref 471, .ref 472, .ref 473, .int 0, .int 0, .int 0, .ref 474, .ref 475, .int 0, .int 0, .int 0, .int 0, .int 0, .int 0, .int 0, .int 0, .int 0, .int (-1), .ref 476, .ref 477, .ref 478, .ref 479, .ref 480, .ref 481, .ref 482, .ref 483, .int 0, .ref 484, .int 0, .null, .int 0]) := by rw [e35]; exact wu_s _ _ _
  have o35 : ∀ i, (i < 467 ∨ 468 ≤ i) → f35 i = f34 i := fun i h1 => by rw [e35]; exact wu_n (by omega)
  show PW _ _ _ _ _ _ (147, [(0, .ref 467)], [], (485, wu f34 467 (.inr (9, [.int 0, .ref 468, .int 0, .ref 469, .ref 470, .int 0, .int 0, .ref 471, .ref 472, .ref 473, .int 0, .int 0, .int 0, .ref 474, .ref 475, .int 0, .int 0, .int 0, .int 0, .int 0, .int 0, .int 0, .int 0, .int 0, .int (-1), .ref 476, .ref 477, .ref 478, .ref 479, .ref 480, .ref 481, .ref 482, .ref 483, .int 0, .ref 484, .int 0, .null, .int 0]))))
  rw [← e35]
  refine P_aload_n d_MD_init_147 rfl ?_
  refine P_bipush (v := 108) d_MD_init_148 (by decide) ?_
  refine P_newarr (t := 0) (N := 108) (a0 := (108, .inl (fun _ => 0))) d_MD_init_150 rfl (by decide) ac_int ⟨by decide, by decide⟩ (le_b rfl) ⟨rfl, fun _ _ => rfl⟩ (le_b rfl) (le_b rfl) (le_b rfl) ?_
  obtain ⟨f36, e36⟩ : ∃ f36 : Nat → pE, f36 = wu f35 485 (.inl (0, 108, .inl (fun _ => 0))) := ⟨_, rfl⟩
  replace h468 : f36 468 = .inl (0, 900, .inl (fun _ => 0)) := by rw [e36]; exact (wu_n (by decide)).trans h468
  replace h469 : f36 469 = .inl (0, 64, .inl (fun _ => 0)) := by rw [e36]; exact (wu_n (by decide)).trans h469
  replace h470 : f36 470 = .inl (0, 64, .inl (fun _ => 0)) := by rw [e36]; exact (wu_n (by decide)).trans h470
  replace h471 : f36 471 = .inl (1, 170, .inr (.inl (fun _ => 0))) := by rw [e36]; exact (wu_n (by decide)).trans h471
  replace h472 : f36 472 = .inl (1, 170, .inr (.inl (fun _ => 0))) := by rw [e36]; exact (wu_n (by decide)).trans h472
  replace h473 : f36 473 = .inl (1, 2720, .inr (.inl (fun _ => 0))) := by rw [e36]; exact (wu_n (by decide)).trans h473
  replace h474 : f36 474 = .inl (0, 8, .inl (fun _ => 0)) := by rw [e36]; exact (wu_n (by decide)).trans h474
  replace h475 : f36 475 = .inl (0, 8, .inl (fun _ => 0)) := by rw [e36]; exact (wu_n (by decide)).trans h475
  replace h476 : f36 476 = .inl (1, 9, .inr (.inl (fun _ => 0))) := by rw [e36]; exact (wu_n (by decide)).trans h476
  replace h477 : f36 477 = .inl (1, 9, .inr (.inl (fun _ => 0))) := by rw [e36]; exact (wu_n (by decide)).trans h477
  replace h478 : f36 478 = .inl (1, 9, .inr (.inl (fun _ => 0))) := by rw [e36]; exact (wu_n (by decide)).trans h478
  replace h479 : f36 479 = .inl (1, 3, .inr (.inl (fun _ => 0))) := by rw [e36]; exact (wu_n (by decide)).trans h479
  replace h480 : f36 480 = .inl (1, 3, .inr (.inl (fun _ => 0))) := by rw [e36]; exact (wu_n (by decide)).trans h480
  replace h481 : f36 481 = .inl (0, 16, .inl (fun _ => 0)) := by rw [e36]; exact (wu_n (by decide)).trans h481
  replace h482 : f36 482 = .inl (1, 9, .inr (.inl (fun _ => 0))) := by rw [e36]; exact (wu_n (by decide)).trans h482
  replace h483 : f36 483 = .inl (0, 3, .inl (fun _ => 0)) := by rw [e36]; exact (wu_n (by decide)).trans h483
  replace h484 : f36 484 = .inl (1, 2448, .inr (.inl (fun _ => 0))) := by rw [e36]; exact (wu_n (by decide)).trans h484
  replace h467 : f36 467 = .inr (9, [.int 0, .ref 468, .int 0, .ref 469, .ref 470, .int 0, .int 0, .ref 471, .ref 472, .ref 473, .int 0, .int 0, .int 0, .ref 474, .ref 475, .int 0, .int 0, .int 0, .int 0, .int 0, .int 0, .int 0, .int 0, .int 0, .int (-1), .ref 476, .ref 477, .ref 478, .ref 479, .ref 480, .ref 481, .ref 482, .ref 483, .int 0, .ref 484, .int 0, .null, .int 0]) := by rw [e36]; exact (wu_n (by decide)).trans h467
  have h485 : f36 485 = .inl (0, 108, .inl (fun _ => 0)) := by rw [e36]; exact wu_s _ _ _
  have o36 : ∀ i, (i < 485 ∨ 486 ≤ i) → f36 i = f35 i := fun i h1 => by rw [e36]; exact wu_n (by omega)
  show PW _ _ _ _ _ _ (152, [(0, .ref 467)], [.ref 485, .ref 467], (486, wu f35 485 (.inl (0, 108, .inl (fun _ => 0)))))
  rw [← e36]
  refine P_putF (i := 36) d_MD_init_152 ok_Model (by decide) rfl L_MD_68 rfl rfl h467 (fun _ => rfl) (fun _ => rfl) ?_
  obtain ⟨f37, e37⟩ : ∃ f37 : Nat → pE, f37 = wu f36 467 (.inr (9, [.int 0, .ref 468, .int 0, .ref 469, .ref 470, .int 0, .int 0, .ref 471, .ref 472, .ref 473, .int 0, .int 0, .int 0, .ref 474, .ref 475, .int 0, .int 0, .int 0, .int 0, .int 0, .int 0, .int 0, .int 0, .int 0, .int (-1), .ref 476, .ref 477, .ref 478, .ref 479, .ref 480, .ref 481, .ref 482, .ref 483, .int 0, .ref 484, .int 0, .ref 485, .int 0])) := ⟨_, rfl⟩
  replace h468 : f37 468 = .inl (0, 900, .inl (fun _ => 0)) := by rw [e37]; exact (wu_n (by decide)).trans h468
  replace h469 : f37 469 = .inl (0, 64, .inl (fun _ => 0)) := by rw [e37]; exact (wu_n (by decide)).trans h469
  replace h470 : f37 470 = .inl (0, 64, .inl (fun _ => 0)) := by rw [e37]; exact (wu_n (by decide)).trans h470
  replace h471 : f37 471 = .inl (1, 170, .inr (.inl (fun _ => 0))) := by rw [e37]; exact (wu_n (by decide)).trans h471
  replace h472 : f37 472 = .inl (1, 170, .inr (.inl (fun _ => 0))) := by rw [e37]; exact (wu_n (by decide)).trans h472
  replace h473 : f37 473 = .inl (1, 2720, .inr (.inl (fun _ => 0))) := by rw [e37]; exact (wu_n (by decide)).trans h473
  replace h474 : f37 474 = .inl (0, 8, .inl (fun _ => 0)) := by rw [e37]; exact (wu_n (by decide)).trans h474
  replace h475 : f37 475 = .inl (0, 8, .inl (fun _ => 0)) := by rw [e37]; exact (wu_n (by decide)).trans h475
  replace h476 : f37 476 = .inl (1, 9, .inr (.inl (fun _ => 0))) := by rw [e37]; exact (wu_n (by decide)).trans h476
  replace h477 : f37 477 = .inl (1, 9, .inr (.inl (fun _ => 0))) := by rw [e37]; exact (wu_n (by decide)).trans h477
  replace h478 : f37 478 = .inl (1, 9, .inr (.inl (fun _ => 0))) := by rw [e37]; exact (wu_n (by decide)).trans h478
  replace h479 : f37 479 = .inl (1, 3, .inr (.inl (fun _ => 0))) := by rw [e37]; exact (wu_n (by decide)).trans h479
  replace h480 : f37 480 = .inl (1, 3, .inr (.inl (fun _ => 0))) := by rw [e37]; exact (wu_n (by decide)).trans h480
  replace h481 : f37 481 = .inl (0, 16, .inl (fun _ => 0)) := by rw [e37]; exact (wu_n (by decide)).trans h481
  replace h482 : f37 482 = .inl (1, 9, .inr (.inl (fun _ => 0))) := by rw [e37]; exact (wu_n (by decide)).trans h482
  replace h483 : f37 483 = .inl (0, 3, .inl (fun _ => 0)) := by rw [e37]; exact (wu_n (by decide)).trans h483
  replace h484 : f37 484 = .inl (1, 2448, .inr (.inl (fun _ => 0))) := by rw [e37]; exact (wu_n (by decide)).trans h484
  replace h485 : f37 485 = .inl (0, 108, .inl (fun _ => 0)) := by rw [e37]; exact (wu_n (by decide)).trans h485
  replace h467 : f37 467 = .inr (9, [.int 0, .ref 468, .int 0, .ref 469, .ref 470, .int 0, .int 0, .ref 471, .ref 472, .ref 473, .int 0, .int 0, .int 0, .ref 474, .ref 475, .int 0, .int 0, .int 0, .int 0, .int 0, .int 0, .int 0, .int 0, .int 0, .int (-1), .ref 476, .ref 477, .ref 478, .ref 479, .ref 480, .ref 481, .ref 482, .ref 483, .int 0, .ref 484, .int 0, .ref 485, .int 0]) := by rw [e37]; exact wu_s _ _ _
  have o37 : ∀ i, (i < 467 ∨ 468 ≤ i) → f37 i = f36 i := fun i h1 => by rw [e37]; exact wu_n (by omega)
  show PW _ _ _ _ _ _ (155, [(0, .ref 467)], [], (486, wu f36 467 (.inr (9, [.int 0, .ref 468, .int 0, .ref 469, .ref 470, .int 0, .int 0, .ref 471, .ref 472, .ref 473, .int 0, .int 0, .int 0, .ref 474, .ref 475, .int 0, .int 0, .int 0, .int 0, .int 0, .int 0, .int 0, .int 0, .int 0, .int (-1), .ref 476, .ref 477, .ref 478, .ref 479, .ref 480, .ref 481, .ref 482, .ref 483, .int 0, .ref 484, .int 0, .ref 485, .int 0]))))
  rw [← e37]
  refine P_aload_n d_MD_init_155 rfl ?_
  refine P_iconst (v := 0) d_MD_init_156 (by decide) ?_
  refine P_putS (i := 10) d_MD_init_157 ok_Model (by decide) rfl L_MD_71 h467 (fun _ => rfl) (fun _ => rfl) rfl ?_
  exact P_vret d_MD_init_160 rfl (le_b rfl) (le_b rfl) ⟨rfl, f37, rfl, fun i h1 h2 => by rw [o37 i (by omega), o36 i (by omega), o35 i (by omega), o34 i (by omega), o33 i (by omega), o32 i (by omega), o31 i (by omega), o30 i (by omega), o29 i (by omega), o28 i (by omega), o27 i (by omega), o26 i (by omega), o25 i (by omega), o24 i (by omega), o23 i (by omega), o22 i (by omega), o21 i (by omega), o20 i (by omega), o19 i (by omega), o18 i (by omega), o17 i (by omega), o16 i (by omega), o15 i (by omega), o14 i (by omega), o13 i (by omega), o12 i (by omega), o11 i (by omega), o10 i (by omega), o9 i (by omega), o8 i (by omega), o7 i (by omega), o6 i (by omega), o5 i (by omega), o4 i (by omega), o3 i (by omega), o2 i (by omega), o1 i (by omega)], h468, h469, h470, h471, h472, h473, h474, h475, h476, h477, h478, h479, h480, h481, h482, h483, h484, h485, h467⟩
