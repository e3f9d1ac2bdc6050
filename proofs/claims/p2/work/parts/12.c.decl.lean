/-! declarations and decodings of methods (by program) -/
def M_CM_diagonal : pM := (⟨"CornerMaps", "diagonal", "(III)J"⟩, prog_1_method_45_code, 4, some .long)
theorem co_CM_diagonal : CalOK M_CM_diagonal 3 := ⟨g_at 887 (by decide +kernel) rfl, g_at 1 (by decide +kernel) rfl, by decide +kernel, by decide +kernel, by decide +kernel⟩
theorem pn_CM_diagonal : plainName M_CM_diagonal.1.cls = true := by decide +kernel
def M_CM_meetSides : pM := (⟨"CornerMaps", "meetSides", "(II)V"⟩, prog_1_method_99_code, 4, none)
theorem co_CM_meetSides : CalOK M_CM_meetSides 2 := ⟨g_at 891 (by decide +kernel) rfl, g_at 1 (by decide +kernel) rfl, by decide +kernel, by decide +kernel, by decide +kernel⟩
theorem pn_CM_meetSides : plainName M_CM_meetSides.1.cls = true := by decide +kernel
def M_CM_parallel : pM := (⟨"CornerMaps", "parallel", "(II)I"⟩, prog_1_method_46_code, 5, some .int)
theorem co_CM_parallel : CalOK M_CM_parallel 2 := ⟨g_at 897 (by decide +kernel) rfl, g_at 1 (by decide +kernel) rfl, by decide +kernel, by decide +kernel, by decide +kernel⟩
theorem pn_CM_parallel : plainName M_CM_parallel.1.cls = true := by decide +kernel
def M_CM_shapeBy : pM := (⟨"CornerMaps", "shapeBy", "(II)I"⟩, prog_1_method_47_code, 3, some .int)
theorem co_CM_shapeBy : CalOK M_CM_shapeBy 2 := ⟨g_at 901 (by decide +kernel) rfl, g_at 1 (by decide +kernel) rfl, by decide +kernel, by decide +kernel, by decide +kernel⟩
theorem pn_CM_shapeBy : plainName M_CM_shapeBy.1.cls = true := by decide +kernel
def M_CM_keepsCorners : pM := (⟨"CornerMaps", "keepsCorners", "(II)Z"⟩, prog_1_method_100_code, 4, some .boolean)
theorem co_CM_keepsCorners : CalOK M_CM_keepsCorners 2 := ⟨g_at 905 (by decide +kernel) rfl, g_at 1 (by decide +kernel) rfl, by decide +kernel, by decide +kernel, by decide +kernel⟩
theorem pn_CM_keepsCorners : plainName M_CM_keepsCorners.1.cls = true := by decide +kernel
def M_Quad_leftTurnsBy : pM := (⟨"CornerMaps$Quad", "leftTurnsBy", "([J)I"⟩, prog_7_method_5_code, 6, some .int)
theorem co_Quad_leftTurnsBy : CalOK M_Quad_leftTurnsBy 1 := ⟨g_at 909 (by decide +kernel) rfl, g_at 3 (by decide +kernel) rfl, by decide +kernel, by decide +kernel, by decide +kernel⟩
theorem pn_Quad_leftTurnsBy : plainName M_Quad_leftTurnsBy.1.cls = true := by decide +kernel
def M_CM_symmetries : pM := (⟨"CornerMaps", "symmetries", "(II)I"⟩, prog_1_method_48_code, 5, some .int)
theorem co_CM_symmetries : CalOK M_CM_symmetries 2 := ⟨g_at 914 (by decide +kernel) rfl, g_at 1 (by decide +kernel) rfl, by decide +kernel, by decide +kernel, by decide +kernel⟩
theorem pn_CM_symmetries : plainName M_CM_symmetries.1.cls = true := by decide +kernel
def M_CM_isKind : pM := (⟨"CornerMaps", "isKind", "(I)Z"⟩, prog_1_method_77_code, 1, some .boolean)
theorem co_CM_isKind : CalOK M_CM_isKind 1 := ⟨g_at 917 (by decide +kernel) rfl, g_at 1 (by decide +kernel) rfl, by decide +kernel, by decide +kernel, by decide +kernel⟩
theorem pn_CM_isKind : plainName M_CM_isKind.1.cls = true := by decide +kernel
def M_CM_symmetry : pM := (⟨"CornerMaps", "symmetry", "(II)I"⟩, prog_1_method_49_code, 3, some .int)
theorem co_CM_symmetry : CalOK M_CM_symmetry 2 := ⟨g_at 921 (by decide +kernel) rfl, g_at 1 (by decide +kernel) rfl, by decide +kernel, by decide +kernel, by decide +kernel⟩
theorem pn_CM_symmetry : plainName M_CM_symmetry.1.cls = true := by decide +kernel
def M_CM_word : pM := (⟨"CornerMaps", "word", "(II)I"⟩, prog_1_method_50_code, 4, some .int)
theorem co_CM_word : CalOK M_CM_word 2 := ⟨g_at 925 (by decide +kernel) rfl, g_at 1 (by decide +kernel) rfl, by decide +kernel, by decide +kernel, by decide +kernel⟩
theorem pn_CM_word : plainName M_CM_word.1.cls = true := by decide +kernel
def M_CM_findWord : pM := (⟨"CornerMaps", "findWord", "(I)I"⟩, prog_1_method_102_code, 2, some .int)
theorem co_CM_findWord : CalOK M_CM_findWord 1 := ⟨g_at 929 (by decide +kernel) rfl, g_at 1 (by decide +kernel) rfl, by decide +kernel, by decide +kernel, by decide +kernel⟩
theorem pn_CM_findWord : plainName M_CM_findWord.1.cls = true := by decide +kernel
def M_CM_findOne : pM := (⟨"CornerMaps", "findOne", "(I)Z"⟩, prog_1_method_103_code, 3, some .boolean)
theorem co_CM_findOne : CalOK M_CM_findOne 1 := ⟨g_at 933 (by decide +kernel) rfl, g_at 1 (by decide +kernel) rfl, by decide +kernel, by decide +kernel, by decide +kernel⟩
theorem pn_CM_findOne : plainName M_CM_findOne.1.cls = true := by decide +kernel
def M_Pairs_fill : pM := (⟨"CornerMaps$Pairs", "fill", "(LCornerMaps$Plane;)V"⟩, prog_4_method_2_code, 4, none)
theorem co_Pairs_fill : CalOK M_Pairs_fill 1 := ⟨g_at 937 (by decide +kernel) rfl, g_at 8 (by decide +kernel) rfl, by decide +kernel, by decide +kernel, by decide +kernel⟩
theorem pn_Pairs_fill : plainName M_Pairs_fill.1.cls = true := by decide +kernel
def M_CM_findTwo : pM := (⟨"CornerMaps", "findTwo", "(I)Z"⟩, prog_1_method_104_code, 4, some .boolean)
theorem co_CM_findTwo : CalOK M_CM_findTwo 1 := ⟨g_at 942 (by decide +kernel) rfl, g_at 1 (by decide +kernel) rfl, by decide +kernel, by decide +kernel, by decide +kernel⟩
theorem pn_CM_findTwo : plainName M_CM_findTwo.1.cls = true := by decide +kernel
def M_CM_findThree : pM := (⟨"CornerMaps", "findThree", "(I)Z"⟩, prog_1_method_105_code, 5, some .boolean)
theorem co_CM_findThree : CalOK M_CM_findThree 1 := ⟨g_at 950 (by decide +kernel) rfl, g_at 1 (by decide +kernel) rfl, by decide +kernel, by decide +kernel, by decide +kernel⟩
theorem pn_CM_findThree : plainName M_CM_findThree.1.cls = true := by decide +kernel
def M_Pairs_of : pM := (⟨"CornerMaps$Pairs", "of", "(II)[J"⟩, prog_4_method_3_code, 3, some (.array .long))
theorem co_Pairs_of : CalOK M_Pairs_of 2 := ⟨g_at 946 (by decide +kernel) rfl, g_at 8 (by decide +kernel) rfl, by decide +kernel, by decide +kernel, by decide +kernel⟩
theorem pn_Pairs_of : plainName M_Pairs_of.1.cls = true := by decide +kernel
def M_CM_comesTo : pM := (⟨"CornerMaps", "comesTo", "(I[J[J)Z"⟩, prog_1_method_106_code, 4, some .boolean)
theorem co_CM_comesTo : CalOK M_CM_comesTo 3 := ⟨g_at 954 (by decide +kernel) rfl, g_at 1 (by decide +kernel) rfl, by decide +kernel, by decide +kernel, by decide +kernel⟩
theorem pn_CM_comesTo : plainName M_CM_comesTo.1.cls = true := by decide +kernel
def M_Rows_isMultiple : pM := (⟨"CornerMaps$Rows", "isMultiple", "([J[J)Z"⟩, prog_9_method_10_code, 6, some .boolean)
theorem co_Rows_isMultiple : CalOK M_Rows_isMultiple 2 := ⟨g_at 958 (by decide +kernel) rfl, g_at 15 (by decide +kernel) rfl, by decide +kernel, by decide +kernel, by decide +kernel⟩
theorem pn_Rows_isMultiple : plainName M_Rows_isMultiple.1.cls = true := by decide +kernel
def M_CM_generated : pM := (⟨"CornerMaps", "generated", "(I)I"⟩, prog_1_method_51_code, 5, some .int)
theorem co_CM_generated : CalOK M_CM_generated 1 := ⟨g_at 962 (by decide +kernel) rfl, g_at 1 (by decide +kernel) rfl, by decide +kernel, by decide +kernel, by decide +kernel⟩
theorem pn_CM_generated : plainName M_CM_generated.1.cls = true := by decide +kernel
def M_CM_stoodBefore : pM := (⟨"CornerMaps", "stoodBefore", "(I)Z"⟩, prog_1_method_108_code, 3, some .boolean)
theorem co_CM_stoodBefore : CalOK M_CM_stoodBefore 1 := ⟨g_at 966 (by decide +kernel) rfl, g_at 1 (by decide +kernel) rfl, by decide +kernel, by decide +kernel, by decide +kernel⟩
theorem pn_CM_stoodBefore : plainName M_CM_stoodBefore.1.cls = true := by decide +kernel
def M_CM_generatedMap : pM := (⟨"CornerMaps", "generatedMap", "(I)[J"⟩, prog_1_method_107_code, 2, some (.array .long))
theorem co_CM_generatedMap : CalOK M_CM_generatedMap 1 := ⟨g_at 970 (by decide +kernel) rfl, g_at 1 (by decide +kernel) rfl, by decide +kernel, by decide +kernel, by decide +kernel⟩
theorem pn_CM_generatedMap : plainName M_CM_generatedMap.1.cls = true := by decide +kernel
def M_CM_leads : pM := (⟨"CornerMaps", "leads", "(III)I"⟩, prog_1_method_52_code, 5, some .int)
theorem co_CM_leads : CalOK M_CM_leads 3 := ⟨g_at 974 (by decide +kernel) rfl, g_at 1 (by decide +kernel) rfl, by decide +kernel, by decide +kernel, by decide +kernel⟩
theorem pn_CM_leads : plainName M_CM_leads.1.cls = true := by decide +kernel
def M_CM_pull : pM := (⟨"CornerMaps", "pull", "(IIIII)J"⟩, prog_1_method_53_code, 6, some .long)
theorem co_CM_pull : CalOK M_CM_pull 5 := ⟨g_at 978 (by decide +kernel) rfl, g_at 1 (by decide +kernel) rfl, by decide +kernel, by decide +kernel, by decide +kernel⟩
theorem pn_CM_pull : plainName M_CM_pull.1.cls = true := by decide +kernel
def M_CM_keepsLine : pM := (⟨"CornerMaps", "keepsLine", "(IIII)I"⟩, prog_1_method_54_code, 5, some .int)
theorem co_CM_keepsLine : CalOK M_CM_keepsLine 4 := ⟨g_at 982 (by decide +kernel) rfl, g_at 1 (by decide +kernel) rfl, by decide +kernel, by decide +kernel, by decide +kernel⟩
theorem pn_CM_keepsLine : plainName M_CM_keepsLine.1.cls = true := by decide +kernel
def M_CM_side : pM := (⟨"CornerMaps", "side", "(III)J"⟩, prog_1_method_55_code, 5, some .long)
theorem co_CM_side : CalOK M_CM_side 3 := ⟨g_at 986 (by decide +kernel) rfl, g_at 1 (by decide +kernel) rfl, by decide +kernel, by decide +kernel, by decide +kernel⟩
theorem pn_CM_side : plainName M_CM_side.1.cls = true := by decide +kernel
def M_CM_isCorner : pM := (⟨"CornerMaps", "isCorner", "(I)Z"⟩, prog_1_method_76_code, 1, some .boolean)
theorem co_CM_isCorner : CalOK M_CM_isCorner 1 := ⟨g_at 989 (by decide +kernel) rfl, g_at 1 (by decide +kernel) rfl, by decide +kernel, by decide +kernel, by decide +kernel⟩
theorem pn_CM_isCorner : plainName M_CM_isCorner.1.cls = true := by decide +kernel
def M_CM_turnOf : pM := (⟨"CornerMaps", "turnOf", "(III)I"⟩, prog_1_method_56_code, 4, some .int)
theorem co_CM_turnOf : CalOK M_CM_turnOf 3 := ⟨g_at 993 (by decide +kernel) rfl, g_at 1 (by decide +kernel) rfl, by decide +kernel, by decide +kernel, by decide +kernel⟩
theorem pn_CM_turnOf : plainName M_CM_turnOf.1.cls = true := by decide +kernel
def M_CM_isFar : pM := (⟨"CornerMaps", "isFar", "(I)Z"⟩, prog_1_method_84_code, 2, some .boolean)
theorem co_CM_isFar : CalOK M_CM_isFar 1 := ⟨g_at 997 (by decide +kernel) rfl, g_at 1 (by decide +kernel) rfl, by decide +kernel, by decide +kernel, by decide +kernel⟩
theorem pn_CM_isFar : plainName M_CM_isFar.1.cls = true := by decide +kernel
def M_CM_gap : pM := (⟨"CornerMaps", "gap", "(III)J"⟩, prog_1_method_57_code, 12, some .long)
theorem co_CM_gap : CalOK M_CM_gap 3 := ⟨g_at 1002 (by decide +kernel) rfl, g_at 1 (by decide +kernel) rfl, by decide +kernel, by decide +kernel, by decide +kernel⟩
theorem pn_CM_gap : plainName M_CM_gap.1.cls = true := by decide +kernel
def M_CM_middle : pM := (⟨"CornerMaps", "middle", "(III)J"⟩, prog_1_method_58_code, 10, some .long)
theorem co_CM_middle : CalOK M_CM_middle 3 := ⟨g_at 1007 (by decide +kernel) rfl, g_at 1 (by decide +kernel) rfl, by decide +kernel, by decide +kernel, by decide +kernel⟩
theorem pn_CM_middle : plainName M_CM_middle.1.cls = true := by decide +kernel
def M_CM_partner : pM := (⟨"CornerMaps", "partner", "(I)I"⟩, prog_1_method_59_code, 3, some .int)
theorem co_CM_partner : CalOK M_CM_partner 1 := ⟨g_at 1012 (by decide +kernel) rfl, g_at 1 (by decide +kernel) rfl, by decide +kernel, by decide +kernel, by decide +kernel⟩
theorem pn_CM_partner : plainName M_CM_partner.1.cls = true := by decide +kernel
def M_CM_cornerBy : pM := (⟨"CornerMaps", "cornerBy", "(IIII)J"⟩, prog_1_method_60_code, 5, some .long)
theorem co_CM_cornerBy : CalOK M_CM_cornerBy 4 := ⟨g_at 1016 (by decide +kernel) rfl, g_at 1 (by decide +kernel) rfl, by decide +kernel, by decide +kernel, by decide +kernel⟩
theorem pn_CM_cornerBy : plainName M_CM_cornerBy.1.cls = true := by decide +kernel
def M_CM_scale : pM := (⟨"CornerMaps", "scale", "(II)J"⟩, prog_1_method_61_code, 4, some .long)
theorem co_CM_scale : CalOK M_CM_scale 2 := ⟨g_at 1020 (by decide +kernel) rfl, g_at 1 (by decide +kernel) rfl, by decide +kernel, by decide +kernel, by decide +kernel⟩
theorem pn_CM_scale : plainName M_CM_scale.1.cls = true := by decide +kernel
def M_CM_likeness : pM := (⟨"CornerMaps", "likeness", "(III)I"⟩, prog_1_method_62_code, 8, some .int)
theorem co_CM_likeness : CalOK M_CM_likeness 3 := ⟨g_at 1024 (by decide +kernel) rfl, g_at 1 (by decide +kernel) rfl, by decide +kernel, by decide +kernel, by decide +kernel⟩
theorem pn_CM_likeness : plainName M_CM_likeness.1.cls = true := by decide +kernel
def M_CM_hits : pM := (⟨"CornerMaps", "hits", "(III)I"⟩, prog_1_method_63_code, 4, some .int)
theorem co_CM_hits : CalOK M_CM_hits 3 := ⟨g_at 1028 (by decide +kernel) rfl, g_at 1 (by decide +kernel) rfl, by decide +kernel, by decide +kernel, by decide +kernel⟩
theorem pn_CM_hits : plainName M_CM_hits.1.cls = true := by decide +kernel
def M_CM_cornersThatHit : pM := (⟨"CornerMaps", "cornersThatHit", "(III)I"⟩, prog_1_method_101_code, 6, some .int)
theorem co_CM_cornersThatHit : CalOK M_CM_cornersThatHit 3 := ⟨g_at 1032 (by decide +kernel) rfl, g_at 1 (by decide +kernel) rfl, by decide +kernel, by decide +kernel, by decide +kernel⟩
theorem pn_CM_cornersThatHit : plainName M_CM_cornersThatHit.1.cls = true := by decide +kernel
def M_Quad_hasCorner : pM := (⟨"CornerMaps$Quad", "hasCorner", "([J)Z"⟩, prog_7_method_8_code, 3, some .boolean)
theorem co_Quad_hasCorner : CalOK M_Quad_hasCorner 1 := ⟨g_at 1036 (by decide +kernel) rfl, g_at 3 (by decide +kernel) rfl, by decide +kernel, by decide +kernel, by decide +kernel⟩
theorem pn_Quad_hasCorner : plainName M_Quad_hasCorner.1.cls = true := by decide +kernel
def M_CM_goesTo : pM := (⟨"CornerMaps", "goesTo", "(II)I"⟩, prog_1_method_64_code, 5, some .int)
theorem co_CM_goesTo : CalOK M_CM_goesTo 2 := ⟨g_at 1041 (by decide +kernel) rfl, g_at 1 (by decide +kernel) rfl, by decide +kernel, by decide +kernel, by decide +kernel⟩
theorem pn_CM_goesTo : plainName M_CM_goesTo.1.cls = true := by decide +kernel
def M_CM_farthest : pM := (⟨"CornerMaps", "farthest", "(I)J"⟩, prog_1_method_65_code, 5, some .long)
theorem co_CM_farthest : CalOK M_CM_farthest 1 := ⟨g_at 1045 (by decide +kernel) rfl, g_at 1 (by decide +kernel) rfl, by decide +kernel, by decide +kernel, by decide +kernel⟩
theorem pn_CM_farthest : plainName M_CM_farthest.1.cls = true := by decide +kernel
def M_CM_biggest : pM := (⟨"CornerMaps", "biggest", "(I)I"⟩, prog_1_method_66_code, 8, some .int)
theorem co_CM_biggest : CalOK M_CM_biggest 1 := ⟨g_at 1050 (by decide +kernel) rfl, g_at 1 (by decide +kernel) rfl, by decide +kernel, by decide +kernel, by decide +kernel⟩
theorem pn_CM_biggest : plainName M_CM_biggest.1.cls = true := by decide +kernel
def M_CM_kinds : pM := (⟨"CornerMaps", "kinds", "(I)I"⟩, prog_1_method_67_code, 4, some .int)
theorem co_CM_kinds : CalOK M_CM_kinds 1 := ⟨g_at 1054 (by decide +kernel) rfl, g_at 1 (by decide +kernel) rfl, by decide +kernel, by decide +kernel, by decide +kernel⟩
theorem pn_CM_kinds : plainName M_CM_kinds.1.cls = true := by decide +kernel
def M_CM_pairs : pM := (⟨"CornerMaps", "pairs", "(I)I"⟩, prog_1_method_68_code, 5, some .int)
theorem co_CM_pairs : CalOK M_CM_pairs 1 := ⟨g_at 1058 (by decide +kernel) rfl, g_at 1 (by decide +kernel) rfl, by decide +kernel, by decide +kernel, by decide +kernel⟩
theorem pn_CM_pairs : plainName M_CM_pairs.1.cls = true := by decide +kernel
def M_CM_isPairOf : pM := (⟨"CornerMaps", "isPairOf", "(III)Z"⟩, prog_1_method_89_code, 4, some .boolean)
theorem co_CM_isPairOf : CalOK M_CM_isPairOf 3 := ⟨g_at 1062 (by decide +kernel) rfl, g_at 1 (by decide +kernel) rfl, by decide +kernel, by decide +kernel, by decide +kernel⟩
theorem pn_CM_isPairOf : plainName M_CM_isPairOf.1.cls = true := by decide +kernel
def M_CM_spell : pM := (⟨"CornerMaps", "spell", "(II)I"⟩, prog_1_method_69_code, 4, some .int)
theorem co_CM_spell : CalOK M_CM_spell 2 := ⟨g_at 1066 (by decide +kernel) rfl, g_at 1 (by decide +kernel) rfl, by decide +kernel, by decide +kernel, by decide +kernel⟩
theorem pn_CM_spell : plainName M_CM_spell.1.cls = true := by decide +kernel
def M_SB_setLength : pM := (⟨"java/lang/StringBuilder", "setLength", "(I)V"⟩, prog_28_method_89_code, 2, none)
theorem co_SB_setLength : CalOK M_SB_setLength 1 := ⟨g_at 1070 (by decide +kernel) rfl, g_at 10 (by decide +kernel) rfl, by decide +kernel, by decide +kernel, by decide +kernel⟩
theorem pn_SB_setLength : plainName M_SB_setLength.1.cls = true := by decide +kernel
def M_SB_append_CLjavalangStringBuilder : pM := (⟨"java/lang/StringBuilder", "append", "(C)Ljava/lang/StringBuilder;"⟩, prog_28_method_14_code, 2, some (.object "java/lang/StringBuilder"))
theorem co_SB_append_CLjavalangStringBuilder : CalOK M_SB_append_CLjavalangStringBuilder 1 := ⟨g_at 1385 (by decide +kernel) rfl, g_at 10 (by decide +kernel) rfl, by decide +kernel, by decide +kernel, by decide +kernel⟩
theorem pn_SB_append_CLjavalangStringBuilder : plainName M_SB_append_CLjavalangStringBuilder.1.cls = true := by decide +kernel
def M_SB_append_ILjavalangStringBuilder : pM := (⟨"java/lang/StringBuilder", "append", "(I)Ljava/lang/StringBuilder;"⟩, prog_28_method_15_code, 2, some (.object "java/lang/StringBuilder"))
theorem co_SB_append_ILjavalangStringBuilder : CalOK M_SB_append_ILjavalangStringBuilder 1 := ⟨g_at 1201 (by decide +kernel) rfl, g_at 10 (by decide +kernel) rfl, by decide +kernel, by decide +kernel, by decide +kernel⟩
theorem pn_SB_append_ILjavalangStringBuilder : plainName M_SB_append_ILjavalangStringBuilder.1.cls = true := by decide +kernel
def M_SB_length : pM := (⟨"java/lang/StringBuilder", "length", "()I"⟩, prog_28_method_93_code, 1, some .int)
theorem co_SB_length : CalOK M_SB_length 0 := ⟨g_at 1246 (by decide +kernel) rfl, g_at 10 (by decide +kernel) rfl, by decide +kernel, by decide +kernel, by decide +kernel⟩
theorem pn_SB_length : plainName M_SB_length.1.cls = true := by decide +kernel
def M_SB_charAt : pM := (⟨"java/lang/StringBuilder", "charAt", "(I)C"⟩, prog_28_method_88_code, 2, some .char)
theorem co_SB_charAt : CalOK M_SB_charAt 1 := ⟨g_at 1409 (by decide +kernel) rfl, g_at 10 (by decide +kernel) rfl, by decide +kernel, by decide +kernel, by decide +kernel⟩
theorem pn_SB_charAt : plainName M_SB_charAt.1.cls = true := by decide +kernel
def M_CM_kept : pM := (⟨"CornerMaps", "kept", "(I)I"⟩, prog_1_method_70_code, 4, some .int)
theorem co_CM_kept : CalOK M_CM_kept 1 := ⟨g_at 1419 (by decide +kernel) rfl, g_at 1 (by decide +kernel) rfl, by decide +kernel, by decide +kernel, by decide +kernel⟩
theorem pn_CM_kept : plainName M_CM_kept.1.cls = true := by decide +kernel
def M_CM_find : pM := (⟨"CornerMaps", "find", "(II)I"⟩, prog_1_method_71_code, 4, some .int)
theorem co_CM_find : CalOK M_CM_find 2 := ⟨g_at 1423 (by decide +kernel) rfl, g_at 1 (by decide +kernel) rfl, by decide +kernel, by decide +kernel, by decide +kernel⟩
theorem pn_CM_find : plainName M_CM_find.1.cls = true := by decide +kernel
def M_CM_size : pM := (⟨"CornerMaps", "size", "(I)I"⟩, prog_1_method_72_code, 2, some .int)
theorem co_CM_size : CalOK M_CM_size 1 := ⟨g_at 1427 (by decide +kernel) rfl, g_at 1 (by decide +kernel) rfl, by decide +kernel, by decide +kernel, by decide +kernel⟩
theorem pn_CM_size : plainName M_CM_size.1.cls = true := by decide +kernel
def M_CM_count : pM := (⟨"CornerMaps", "count", "(I)I"⟩, prog_1_method_73_code, 2, some .int)
theorem co_CM_count : CalOK M_CM_count 1 := ⟨g_at 1431 (by decide +kernel) rfl, g_at 1 (by decide +kernel) rfl, by decide +kernel, by decide +kernel, by decide +kernel⟩
theorem pn_CM_count : plainName M_CM_count.1.cls = true := by decide +kernel
def M_CM_corner : pM := (⟨"CornerMaps", "corner", "(III)I"⟩, prog_1_method_5_code, 4, some .int)
theorem co_CM_corner : CalOK M_CM_corner 3 := ⟨g_at 1440 (by decide +kernel) rfl, g_at 1 (by decide +kernel) rfl, by decide +kernel, by decide +kernel, by decide +kernel⟩
theorem pn_CM_corner : plainName M_CM_corner.1.cls = true := by decide +kernel
def M_CM_map : pM := (⟨"CornerMaps", "map", "(III)I"⟩, prog_1_method_6_code, 4, some .int)
theorem co_CM_map : CalOK M_CM_map 3 := ⟨g_at 1483 (by decide +kernel) rfl, g_at 1 (by decide +kernel) rfl, by decide +kernel, by decide +kernel, by decide +kernel⟩
theorem pn_CM_map : plainName M_CM_map.1.cls = true := by decide +kernel
def M_CM_point : pM := (⟨"CornerMaps", "point", "(II)I"⟩, prog_1_method_7_code, 3, some .int)
theorem co_CM_point : CalOK M_CM_point 2 := ⟨g_at 1490 (by decide +kernel) rfl, g_at 1 (by decide +kernel) rfl, by decide +kernel, by decide +kernel, by decide +kernel⟩
theorem pn_CM_point : plainName M_CM_point.1.cls = true := by decide +kernel
def M_MD_feed : pM := (⟨"CornerMapsModel", "feed", "(IIIII)I"⟩, prog_12_method_3_code, 8, some .int)
theorem co_MD_feed : CalOK M_MD_feed 5 := ⟨g_at 1615 (by decide +kernel) rfl, g_at 13 (by decide +kernel) rfl, by decide +kernel, by decide +kernel, by decide +kernel⟩
theorem pn_MD_feed : plainName M_MD_feed.1.cls = true := by decide +kernel
def M_MD_text : pM := (⟨"CornerMapsModel", "text", "(I)I"⟩, prog_12_method_21_code, 3, some .int)
theorem co_MD_text : CalOK M_MD_text 1 := ⟨g_at 1619 (by decide +kernel) rfl, g_at 13 (by decide +kernel) rfl, by decide +kernel, by decide +kernel, by decide +kernel⟩
theorem pn_MD_text : plainName M_MD_text.1.cls = true := by decide +kernel
def M_MD_token : pM := (⟨"CornerMapsModel", "token", "()V"⟩, prog_12_method_7_code, 2, none)
theorem co_MD_token : CalOK M_MD_token 0 := ⟨g_at 1623 (by decide +kernel) rfl, g_at 13 (by decide +kernel) rfl, by decide +kernel, by decide +kernel, by decide +kernel⟩
theorem pn_MD_token : plainName M_MD_token.1.cls = true := by decide +kernel
def M_MD_readLine : pM := (⟨"CornerMapsModel", "readLine", "()V"⟩, prog_12_method_20_code, 2, none)
theorem co_MD_readLine : CalOK M_MD_readLine 0 := ⟨g_at 1659 (by decide +kernel) rfl, g_at 13 (by decide +kernel) rfl, by decide +kernel, by decide +kernel, by decide +kernel⟩
theorem pn_MD_readLine : plainName M_MD_readLine.1.cls = true := by decide +kernel
def M_MD_here : pM := (⟨"CornerMapsModel", "here", "()I"⟩, prog_12_method_4_code, 1, some .int)
theorem co_MD_here : CalOK M_MD_here 0 := ⟨g_at 1627 (by decide +kernel) rfl, g_at 13 (by decide +kernel) rfl, by decide +kernel, by decide +kernel, by decide +kernel⟩
theorem pn_MD_here : plainName M_MD_here.1.cls = true := by decide +kernel
def M_MD_isSmall : pM := (⟨"CornerMapsModel", "isSmall", "(I)Z"⟩, prog_12_method_5_code, 1, some .boolean)
theorem co_MD_isSmall : CalOK M_MD_isSmall 1 := ⟨g_at 1630 (by decide +kernel) rfl, g_at 13 (by decide +kernel) rfl, by decide +kernel, by decide +kernel, by decide +kernel⟩
theorem pn_MD_isSmall : plainName M_MD_isSmall.1.cls = true := by decide +kernel
def M_MD_wordHere : pM := (⟨"CornerMapsModel", "wordHere", "()I"⟩, prog_12_method_8_code, 4, some .int)
theorem co_MD_wordHere : CalOK M_MD_wordHere 0 := ⟨g_at 1634 (by decide +kernel) rfl, g_at 13 (by decide +kernel) rfl, by decide +kernel, by decide +kernel, by decide +kernel⟩
theorem pn_MD_wordHere : plainName M_MD_wordHere.1.cls = true := by decide +kernel
def M_MD_isDigit : pM := (⟨"CornerMapsModel", "isDigit", "(I)Z"⟩, prog_12_method_6_code, 1, some .boolean)
theorem co_MD_isDigit : CalOK M_MD_isDigit 1 := ⟨g_at 1654 (by decide +kernel) rfl, g_at 13 (by decide +kernel) rfl, by decide +kernel, by decide +kernel, by decide +kernel⟩
theorem pn_MD_isDigit : plainName M_MD_isDigit.1.cls = true := by decide +kernel
theorem sm_CM_isKind : Cond.static M_CM_isKind.1 ∈ gtbl := g_at 916 (by decide +kernel) rfl
theorem sm_Rows_isMultiple : Cond.static M_Rows_isMultiple.1 ∈ gtbl := g_at 957 (by decide +kernel) rfl
theorem sm_CM_isCorner : Cond.static M_CM_isCorner.1 ∈ gtbl := g_at 988 (by decide +kernel) rfl
theorem sm_MD_isSmall : Cond.static M_MD_isSmall.1 ∈ gtbl := g_at 1629 (by decide +kernel) rfl
theorem sm_MD_isDigit : Cond.static M_MD_isDigit.1 ∈ gtbl := g_at 1653 (by decide +kernel) rfl
theorem im_CM_meetSides : Cond.instanceMethod M_CM_meetSides.1 ∈ gtbl := g_at 890 (by decide +kernel) rfl
theorem se_CM_meetSides : Cond.selects M_CM_meetSides.1.cls M_CM_meetSides.1 M_CM_meetSides.1 ∈ gtbl := g_sel 30 (by decide +kernel) rfl
theorem im_CM_keepsCorners : Cond.instanceMethod M_CM_keepsCorners.1 ∈ gtbl := g_at 904 (by decide +kernel) rfl
theorem se_CM_keepsCorners : Cond.selects M_CM_keepsCorners.1.cls M_CM_keepsCorners.1 M_CM_keepsCorners.1 ∈ gtbl := g_sel 31 (by decide +kernel) rfl
theorem im_Quad_leftTurnsBy : Cond.instanceMethod M_Quad_leftTurnsBy.1 ∈ gtbl := g_at 907 (by decide +kernel) rfl
theorem se_Quad_leftTurnsBy : Cond.selects M_Quad_leftTurnsBy.1.cls M_Quad_leftTurnsBy.1 M_Quad_leftTurnsBy.1 ∈ gtbl := g_at 908 (by decide +kernel) rfl
theorem im_CM_findWord : Cond.instanceMethod M_CM_findWord.1 ∈ gtbl := g_at 928 (by decide +kernel) rfl
theorem se_CM_findWord : Cond.selects M_CM_findWord.1.cls M_CM_findWord.1 M_CM_findWord.1 ∈ gtbl := g_sel 32 (by decide +kernel) rfl
theorem im_CM_findOne : Cond.instanceMethod M_CM_findOne.1 ∈ gtbl := g_at 932 (by decide +kernel) rfl
theorem se_CM_findOne : Cond.selects M_CM_findOne.1.cls M_CM_findOne.1 M_CM_findOne.1 ∈ gtbl := g_sel 33 (by decide +kernel) rfl
theorem im_Pairs_fill : Cond.instanceMethod M_Pairs_fill.1 ∈ gtbl := g_at 935 (by decide +kernel) rfl
theorem se_Pairs_fill : Cond.selects M_Pairs_fill.1.cls M_Pairs_fill.1 M_Pairs_fill.1 ∈ gtbl := g_at 936 (by decide +kernel) rfl
theorem im_CM_findTwo : Cond.instanceMethod M_CM_findTwo.1 ∈ gtbl := g_at 941 (by decide +kernel) rfl
theorem se_CM_findTwo : Cond.selects M_CM_findTwo.1.cls M_CM_findTwo.1 M_CM_findTwo.1 ∈ gtbl := g_sel 34 (by decide +kernel) rfl
theorem im_CM_findThree : Cond.instanceMethod M_CM_findThree.1 ∈ gtbl := g_at 949 (by decide +kernel) rfl
theorem se_CM_findThree : Cond.selects M_CM_findThree.1.cls M_CM_findThree.1 M_CM_findThree.1 ∈ gtbl := g_sel 35 (by decide +kernel) rfl
theorem im_Pairs_of : Cond.instanceMethod M_Pairs_of.1 ∈ gtbl := g_at 944 (by decide +kernel) rfl
theorem se_Pairs_of : Cond.selects M_Pairs_of.1.cls M_Pairs_of.1 M_Pairs_of.1 ∈ gtbl := g_at 945 (by decide +kernel) rfl
theorem im_CM_comesTo : Cond.instanceMethod M_CM_comesTo.1 ∈ gtbl := g_at 953 (by decide +kernel) rfl
theorem se_CM_comesTo : Cond.selects M_CM_comesTo.1.cls M_CM_comesTo.1 M_CM_comesTo.1 ∈ gtbl := g_sel 36 (by decide +kernel) rfl
theorem im_CM_stoodBefore : Cond.instanceMethod M_CM_stoodBefore.1 ∈ gtbl := g_at 965 (by decide +kernel) rfl
theorem se_CM_stoodBefore : Cond.selects M_CM_stoodBefore.1.cls M_CM_stoodBefore.1 M_CM_stoodBefore.1 ∈ gtbl := g_sel 37 (by decide +kernel) rfl
theorem im_CM_generatedMap : Cond.instanceMethod M_CM_generatedMap.1 ∈ gtbl := g_at 969 (by decide +kernel) rfl
theorem se_CM_generatedMap : Cond.selects M_CM_generatedMap.1.cls M_CM_generatedMap.1 M_CM_generatedMap.1 ∈ gtbl := g_sel 38 (by decide +kernel) rfl
theorem im_CM_isFar : Cond.instanceMethod M_CM_isFar.1 ∈ gtbl := g_at 996 (by decide +kernel) rfl
theorem se_CM_isFar : Cond.selects M_CM_isFar.1.cls M_CM_isFar.1 M_CM_isFar.1 ∈ gtbl := g_sel 39 (by decide +kernel) rfl
theorem im_CM_cornersThatHit : Cond.instanceMethod M_CM_cornersThatHit.1 ∈ gtbl := g_at 1031 (by decide +kernel) rfl
theorem se_CM_cornersThatHit : Cond.selects M_CM_cornersThatHit.1.cls M_CM_cornersThatHit.1 M_CM_cornersThatHit.1 ∈ gtbl := g_sel 40 (by decide +kernel) rfl
theorem im_Quad_hasCorner : Cond.instanceMethod M_Quad_hasCorner.1 ∈ gtbl := g_at 1034 (by decide +kernel) rfl
theorem se_Quad_hasCorner : Cond.selects M_Quad_hasCorner.1.cls M_Quad_hasCorner.1 M_Quad_hasCorner.1 ∈ gtbl := g_at 1035 (by decide +kernel) rfl
theorem im_CM_isPairOf : Cond.instanceMethod M_CM_isPairOf.1 ∈ gtbl := g_at 1061 (by decide +kernel) rfl
theorem se_CM_isPairOf : Cond.selects M_CM_isPairOf.1.cls M_CM_isPairOf.1 M_CM_isPairOf.1 ∈ gtbl := g_sel 41 (by decide +kernel) rfl
theorem im_SB_setLength : Cond.instanceMethod M_SB_setLength.1 ∈ gtbl := g_at 1068 (by decide +kernel) rfl
theorem se_SB_setLength : Cond.selects M_SB_setLength.1.cls M_SB_setLength.1 M_SB_setLength.1 ∈ gtbl := g_at 1069 (by decide +kernel) rfl
theorem im_SB_append_CLjavalangStringBuilder : Cond.instanceMethod M_SB_append_CLjavalangStringBuilder.1 ∈ gtbl := g_at 1383 (by decide +kernel) rfl
theorem se_SB_append_CLjavalangStringBuilder : Cond.selects M_SB_append_CLjavalangStringBuilder.1.cls M_SB_append_CLjavalangStringBuilder.1 M_SB_append_CLjavalangStringBuilder.1 ∈ gtbl := g_at 1384 (by decide +kernel) rfl
theorem im_SB_append_ILjavalangStringBuilder : Cond.instanceMethod M_SB_append_ILjavalangStringBuilder.1 ∈ gtbl := g_at 1199 (by decide +kernel) rfl
theorem se_SB_append_ILjavalangStringBuilder : Cond.selects M_SB_append_ILjavalangStringBuilder.1.cls M_SB_append_ILjavalangStringBuilder.1 M_SB_append_ILjavalangStringBuilder.1 ∈ gtbl := g_at 1200 (by decide +kernel) rfl
theorem im_SB_length : Cond.instanceMethod M_SB_length.1 ∈ gtbl := g_at 1245 (by decide +kernel) rfl
theorem se_SB_length : Cond.selects M_SB_length.1.cls M_SB_length.1 M_SB_length.1 ∈ gtbl := g_at 2283 (by decide +kernel) rfl
theorem im_SB_charAt : Cond.instanceMethod M_SB_charAt.1 ∈ gtbl := g_at 1407 (by decide +kernel) rfl
theorem se_SB_charAt : Cond.selects M_SB_charAt.1.cls M_SB_charAt.1 M_SB_charAt.1 ∈ gtbl := g_at 1408 (by decide +kernel) rfl
theorem im_MD_token : Cond.instanceMethod M_MD_token.1 ∈ gtbl := g_at 1622 (by decide +kernel) rfl
theorem se_MD_token : Cond.selects M_MD_token.1.cls M_MD_token.1 M_MD_token.1 ∈ gtbl := g_sel 43 (by decide +kernel) rfl
theorem im_MD_readLine : Cond.instanceMethod M_MD_readLine.1 ∈ gtbl := g_at 1658 (by decide +kernel) rfl
theorem se_MD_readLine : Cond.selects M_MD_readLine.1.cls M_MD_readLine.1 M_MD_readLine.1 ∈ gtbl := g_sel 46 (by decide +kernel) rfl
theorem im_MD_here : Cond.instanceMethod M_MD_here.1 ∈ gtbl := g_at 1626 (by decide +kernel) rfl
theorem se_MD_here : Cond.selects M_MD_here.1.cls M_MD_here.1 M_MD_here.1 ∈ gtbl := g_sel 44 (by decide +kernel) rfl
theorem im_MD_wordHere : Cond.instanceMethod M_MD_wordHere.1 ∈ gtbl := g_at 1633 (by decide +kernel) rfl
theorem se_MD_wordHere : Cond.selects M_MD_wordHere.1.cls M_MD_wordHere.1 M_MD_wordHere.1 ∈ gtbl := g_sel 45 (by decide +kernel) rfl
theorem L_CM_371 : Cond.methodLink "CornerMaps" 371 ⟨"CornerMaps", "meetSides", "(II)V"⟩ ∈ gtbl := g_at 888 (by decide +kernel) rfl
theorem L_CM_452 : Cond.fieldLink "CornerMaps" 452 "CornerMaps" "DIAGONALS" "[I" ∈ gtbl := g_at 892 (by decide +kernel) rfl
theorem L_CM_379 : Cond.methodLink "CornerMaps" 379 ⟨"CornerMaps", "keepsCorners", "(II)Z"⟩ ∈ gtbl := g_at 902 (by decide +kernel) rfl
theorem L_CM_382 : Cond.methodLink "CornerMaps" 382 ⟨"CornerMaps$Quad", "leftTurnsBy", "([J)I"⟩ ∈ gtbl := g_at 906 (by decide +kernel) rfl
theorem L_Quad_30 : Cond.methodLink "CornerMaps$Quad" 30 ⟨"CornerMaps$Maps", "height", "([J[J)J"⟩ ∈ gtbl := g_at 910 (by decide +kernel) rfl
theorem L_CM_385 : Cond.methodLink "CornerMaps" 385 ⟨"CornerMaps", "isKind", "(I)Z"⟩ ∈ gtbl := g_at 915 (by decide +kernel) rfl
theorem L_CM_388 : Cond.methodLink "CornerMaps" 388 ⟨"CornerMaps", "findWord", "(I)I"⟩ ∈ gtbl := g_at 926 (by decide +kernel) rfl
theorem L_CM_458 : Cond.methodLink "CornerMaps" 458 ⟨"CornerMaps", "findOne", "(I)Z"⟩ ∈ gtbl := g_at 930 (by decide +kernel) rfl
theorem L_CM_391 : Cond.methodLink "CornerMaps" 391 ⟨"CornerMaps$Pairs", "fill", "(LCornerMaps$Plane;)V"⟩ ∈ gtbl := g_at 934 (by decide +kernel) rfl
theorem L_CM_461 : Cond.methodLink "CornerMaps" 461 ⟨"CornerMaps", "findTwo", "(I)Z"⟩ ∈ gtbl := g_at 939 (by decide +kernel) rfl
theorem L_CM_464 : Cond.methodLink "CornerMaps" 464 ⟨"CornerMaps", "findThree", "(I)Z"⟩ ∈ gtbl := g_at 947 (by decide +kernel) rfl
theorem L_Pairs_16 : Cond.fieldLinkNest "CornerMaps$Pairs" 16 "CornerMaps$Plane" "mapCount" "I" "CornerMaps" ∈ ntbl := nt_at 79 (by decide +kernel) rfl
theorem L_Pairs_22 : Cond.fieldLink "CornerMaps$Pairs" 22 "CornerMaps$Pairs" "width" "I" ∈ gtbl := g_at 222 (by decide +kernel) rfl
theorem L_Pairs_25 : Cond.fieldLink "CornerMaps$Pairs" 25 "CornerMaps$Pairs" "count" "I" ∈ gtbl := g_at 223 (by decide +kernel) rfl
theorem L_Pairs_28 : Cond.fieldLinkNest "CornerMaps$Pairs" 28 "CornerMaps$Plane" "maps" "[[J" "CornerMaps" ∈ ntbl := nt_at 68 (by decide +kernel) rfl
theorem L_Pairs_31 : Cond.methodLink "CornerMaps$Pairs" 31 ⟨"CornerMaps$Maps", "multiply", "([J[J[J)V"⟩ ∈ gtbl := g_at 938 (by decide +kernel) rfl
theorem L_CM_467 : Cond.methodLink "CornerMaps" 467 ⟨"CornerMaps$Pairs", "of", "(II)[J"⟩ ∈ gtbl := g_at 943 (by decide +kernel) rfl
theorem L_CM_471 : Cond.methodLink "CornerMaps" 471 ⟨"CornerMaps", "comesTo", "(I[J[J)Z"⟩ ∈ gtbl := g_at 951 (by decide +kernel) rfl
theorem L_CM_475 : Cond.methodLink "CornerMaps" 475 ⟨"CornerMaps$Maps", "multiplyRaw", "([J[J[J)V"⟩ ∈ gtbl := g_at 955 (by decide +kernel) rfl
theorem L_CM_478 : Cond.methodLink "CornerMaps" 478 ⟨"CornerMaps$Rows", "isMultiple", "([J[J)Z"⟩ ∈ gtbl := g_at 956 (by decide +kernel) rfl
theorem L_CM_394 : Cond.fieldLinkNest "CornerMaps" 394 "CornerMaps$Pairs" "count" "I" "CornerMaps" ∈ ntbl := nt_at 224 (by decide +kernel) rfl
theorem L_CM_395 : Cond.methodLink "CornerMaps" 395 ⟨"CornerMaps", "stoodBefore", "(I)Z"⟩ ∈ gtbl := g_at 963 (by decide +kernel) rfl
theorem L_CM_484 : Cond.methodLink "CornerMaps" 484 ⟨"CornerMaps", "generatedMap", "(I)[J"⟩ ∈ gtbl := g_at 967 (by decide +kernel) rfl
theorem L_CM_481 : Cond.fieldLinkNest "CornerMaps" 481 "CornerMaps$Pairs" "rows" "[[J" "CornerMaps" ∈ ntbl := nt_at 221 (by decide +kernel) rfl
theorem L_CM_130 : Cond.methodLink "CornerMaps" 130 ⟨"CornerMaps", "isCorner", "(I)Z"⟩ ∈ gtbl := g_at 987 (by decide +kernel) rfl
theorem L_CM_398 : Cond.methodLink "CornerMaps" 398 ⟨"CornerMaps", "isFar", "(I)Z"⟩ ∈ gtbl := g_at 994 (by decide +kernel) rfl
theorem L_CM_404 : Cond.methodLink "CornerMaps" 404 ⟨"CornerMaps$Rows", "sign", "(J)I"⟩ ∈ gtbl := g_at 998 (by decide +kernel) rfl
theorem L_CM_408 : Cond.constantLong "CornerMaps" 408 (-2 : Int64) ∈ gtbl := g_at 1003 (by decide +kernel) rfl
theorem L_CM_410 : Cond.constantLong "CornerMaps" 410 (2 : Int64) ∈ gtbl := g_at 1008 (by decide +kernel) rfl
theorem L_CM_412 : Cond.methodLink "CornerMaps" 412 ⟨"CornerMaps", "cornersThatHit", "(III)I"⟩ ∈ gtbl := g_at 1029 (by decide +kernel) rfl
theorem L_CM_455 : Cond.methodLink "CornerMaps" 455 ⟨"CornerMaps$Quad", "hasCorner", "([J)Z"⟩ ∈ gtbl := g_at 1033 (by decide +kernel) rfl
theorem L_Quad_42 : Cond.methodLink "CornerMaps$Quad" 42 ⟨"CornerMaps$Rows", "alike", "([J[J)Z"⟩ ∈ gtbl := g_at 1037 (by decide +kernel) rfl
theorem L_CM_415 : Cond.fieldLinkNest "CornerMaps" 415 "CornerMaps$Plane" "quadCount" "I" "CornerMaps" ∈ ntbl := nt_at 78 (by decide +kernel) rfl
theorem L_CM_418 : Cond.methodLink "CornerMaps" 418 ⟨"java/lang/Math", "max", "(JJ)J"⟩ ∈ gtbl := g_at 1046 (by decide +kernel) rfl
theorem L_CM_424 : Cond.methodLink "CornerMaps" 424 ⟨"CornerMaps", "isPairOf", "(III)Z"⟩ ∈ gtbl := g_at 1059 (by decide +kernel) rfl
theorem L_CM_427 : Cond.methodLink "CornerMaps" 427 ⟨"java/lang/StringBuilder", "setLength", "(I)V"⟩ ∈ gtbl := g_at 1067 (by decide +kernel) rfl
theorem L_CM_430 : Cond.methodLink "CornerMaps" 430 ⟨"java/lang/StringBuilder", "append", "(C)Ljava/lang/StringBuilder;"⟩ ∈ gtbl := g_at 1382 (by decide +kernel) rfl
theorem L_CM_434 : Cond.methodLink "CornerMaps" 434 ⟨"java/lang/StringBuilder", "append", "(I)Ljava/lang/StringBuilder;"⟩ ∈ gtbl := g_at 1404 (by decide +kernel) rfl
theorem L_CM_437 : Cond.methodLink "CornerMaps" 437 ⟨"java/lang/StringBuilder", "length", "()I"⟩ ∈ gtbl := g_at 1405 (by decide +kernel) rfl
theorem L_CM_439 : Cond.methodLink "CornerMaps" 439 ⟨"java/lang/StringBuilder", "charAt", "(I)C"⟩ ∈ gtbl := g_at 1406 (by decide +kernel) rfl
theorem L_CM_133 : Cond.classLink "CornerMaps" 133 "java/lang/IndexOutOfBoundsException" ∈ gtbl := g_at 1441 (by decide +kernel) rfl
theorem L_CM_135 : Cond.methodLink "CornerMaps" 135 ⟨"java/lang/IndexOutOfBoundsException", "<init>", "()V"⟩ ∈ gtbl := g_at 1450 (by decide +kernel) rfl
theorem L_CM_139 : Cond.classLink "CornerMaps" 139 "java/util/NoSuchElementException" ∈ gtbl := g_at 1462 (by decide +kernel) rfl
theorem L_CM_141 : Cond.methodLink "CornerMaps" 141 ⟨"java/util/NoSuchElementException", "<init>", "()V"⟩ ∈ gtbl := g_at 1471 (by decide +kernel) rfl
theorem L_MD_74 : Cond.fieldLink "CornerMapsModel" 74 "CornerMapsModel" "thrown" "I" ∈ gtbl := g_at 1497 (by decide +kernel) rfl
theorem L_MD_77 : Cond.fieldLink "CornerMapsModel" 77 "CornerMapsModel" "taped" "I" ∈ gtbl := g_at 1499 (by decide +kernel) rfl
theorem L_MD_144 : Cond.fieldLink "CornerMapsModel" 144 "CornerMapsModel" "newQuads" "I" ∈ gtbl := g_at 1503 (by decide +kernel) rfl
theorem L_MD_195 : Cond.fieldLink "CornerMapsModel" 195 "CornerMapsModel" "newLines" "I" ∈ gtbl := g_at 1509 (by decide +kernel) rfl
theorem L_MD_83 : Cond.fieldLink "CornerMapsModel" 83 "CornerMapsModel" "size" "I" ∈ gtbl := g_at 1512 (by decide +kernel) rfl
theorem L_MD_80 : Cond.fieldLink "CornerMapsModel" 80 "CornerMapsModel" "at" "I" ∈ gtbl := g_at 1513 (by decide +kernel) rfl
theorem L_MD_124 : Cond.fieldLink "CornerMapsModel" 124 "CornerMapsModel" "fault" "I" ∈ gtbl := g_at 1518 (by decide +kernel) rfl
theorem L_MD_134 : Cond.methodLink "CornerMapsModel" 134 ⟨"CornerMapsModel", "token", "()V"⟩ ∈ gtbl := g_at 1620 (by decide +kernel) rfl
theorem L_MD_93 : Cond.fieldLink "CornerMapsModel" 93 "CornerMapsModel" "sort" "I" ∈ gtbl := g_at 1515 (by decide +kernel) rfl
theorem L_MD_198 : Cond.methodLink "CornerMapsModel" 198 ⟨"CornerMapsModel", "readLine", "()V"⟩ ∈ gtbl := g_at 1656 (by decide +kernel) rfl
theorem L_MD_201 : Cond.fieldLink "CornerMapsModel" 201 "CornerMapsModel" "lastFault" "I" ∈ gtbl := g_at 1520 (by decide +kernel) rfl
theorem L_MD_127 : Cond.fieldLink "CornerMapsModel" 127 "CornerMapsModel" "faultPlace" "I" ∈ gtbl := g_at 1519 (by decide +kernel) rfl
theorem L_MD_204 : Cond.fieldLink "CornerMapsModel" 204 "CornerMapsModel" "quads" "I" ∈ gtbl := g_at 1502 (by decide +kernel) rfl
theorem L_MD_207 : Cond.fieldLink "CornerMapsModel" 207 "CornerMapsModel" "lines" "I" ∈ gtbl := g_at 1508 (by decide +kernel) rfl
theorem L_MD_86 : Cond.methodLink "CornerMapsModel" 86 ⟨"CornerMapsModel", "here", "()I"⟩ ∈ gtbl := g_at 1624 (by decide +kernel) rfl
theorem L_MD_90 : Cond.fieldLink "CornerMapsModel" 90 "CornerMapsModel" "place" "I" ∈ gtbl := g_at 1514 (by decide +kernel) rfl
theorem L_MD_96 : Cond.methodLink "CornerMapsModel" 96 ⟨"CornerMapsModel", "isSmall", "(I)Z"⟩ ∈ gtbl := g_at 1628 (by decide +kernel) rfl
theorem L_MD_100 : Cond.fieldLink "CornerMapsModel" 100 "CornerMapsModel" "word" "I" ∈ gtbl := g_at 1517 (by decide +kernel) rfl
theorem L_MD_103 : Cond.methodLink "CornerMapsModel" 103 ⟨"CornerMapsModel", "wordHere", "()I"⟩ ∈ gtbl := g_at 1631 (by decide +kernel) rfl
theorem L_MD_106 : Cond.fieldLink "CornerMapsModel" 106 "CornerMapsModel" "value" "I" ∈ gtbl := g_at 1516 (by decide +kernel) rfl
theorem L_MD_109 : Cond.methodLink "CornerMapsModel" 109 ⟨"CornerMapsModel", "isDigit", "(I)Z"⟩ ∈ gtbl := g_at 1652 (by decide +kernel) rfl
theorem L_MD_112 : Cond.constant "CornerMapsModel" 112 (99999 : Int32) ∈ gtbl := g_at 1655 (by decide +kernel) rfl
theorem F_Quad_overlaps_0 : Jvm.Free.DS.Facts prog_7_method_13_code 0 [(.lload_n 0, 1), (.lload_n 2, 1), (.invokestatic 50, 3), (.lload 4, 2), (.lload 6, 2), (.invokestatic 50, 3), (.invokestatic 56, 3), (.lload_n 0, 1), (.lload_n 2, 1), (.invokestatic 56, 3), (.lload 4, 2), (.lload 6, 2), (.invokestatic 56, 3), (.invokestatic 50, 3), (.lcmp, 1), (.ifCond .gt (7), 3), (.iconst 1, 1), (.goto (4), 3), (.iconst 0, 1), (.ireturn, 1)] := Jvm.Free.DS.facts 0 _ (by decide +kernel) (by decide +kernel)
theorem d_Quad_overlaps_0 : decode prog_7_method_13_code 0 = .ok (.lload_n 0, 1) := F_Quad_overlaps_0.1
theorem d_Quad_overlaps_1 : decode prog_7_method_13_code 1 = .ok (.lload_n 2, 1) := F_Quad_overlaps_0.2.1
theorem d_Quad_overlaps_2 : decode prog_7_method_13_code 2 = .ok (.invokestatic 50, 3) := F_Quad_overlaps_0.2.2.1
theorem d_Quad_overlaps_5 : decode prog_7_method_13_code 5 = .ok (.lload 4, 2) := F_Quad_overlaps_0.2.2.2.1
theorem d_Quad_overlaps_7 : decode prog_7_method_13_code 7 = .ok (.lload 6, 2) := F_Quad_overlaps_0.2.2.2.2.1
theorem d_Quad_overlaps_9 : decode prog_7_method_13_code 9 = .ok (.invokestatic 50, 3) := F_Quad_overlaps_0.2.2.2.2.2.1
theorem d_Quad_overlaps_12 : decode prog_7_method_13_code 12 = .ok (.invokestatic 56, 3) := F_Quad_overlaps_0.2.2.2.2.2.2.1
theorem d_Quad_overlaps_15 : decode prog_7_method_13_code 15 = .ok (.lload_n 0, 1) := F_Quad_overlaps_0.2.2.2.2.2.2.2.1
theorem d_Quad_overlaps_16 : decode prog_7_method_13_code 16 = .ok (.lload_n 2, 1) := F_Quad_overlaps_0.2.2.2.2.2.2.2.2.1
theorem d_Quad_overlaps_17 : decode prog_7_method_13_code 17 = .ok (.invokestatic 56, 3) := F_Quad_overlaps_0.2.2.2.2.2.2.2.2.2.1
theorem d_Quad_overlaps_20 : decode prog_7_method_13_code 20 = .ok (.lload 4, 2) := F_Quad_overlaps_0.2.2.2.2.2.2.2.2.2.2.1
theorem d_Quad_overlaps_22 : decode prog_7_method_13_code 22 = .ok (.lload 6, 2) := F_Quad_overlaps_0.2.2.2.2.2.2.2.2.2.2.2.1
theorem d_Quad_overlaps_24 : decode prog_7_method_13_code 24 = .ok (.invokestatic 56, 3) := F_Quad_overlaps_0.2.2.2.2.2.2.2.2.2.2.2.2.1
theorem d_Quad_overlaps_27 : decode prog_7_method_13_code 27 = .ok (.invokestatic 50, 3) := F_Quad_overlaps_0.2.2.2.2.2.2.2.2.2.2.2.2.2.1
theorem d_Quad_overlaps_30 : decode prog_7_method_13_code 30 = .ok (.lcmp, 1) := F_Quad_overlaps_0.2.2.2.2.2.2.2.2.2.2.2.2.2.2.1
theorem d_Quad_overlaps_31 : decode prog_7_method_13_code 31 = .ok (.ifCond .gt (7), 3) := F_Quad_overlaps_0.2.2.2.2.2.2.2.2.2.2.2.2.2.2.2.1
theorem d_Quad_overlaps_34 : decode prog_7_method_13_code 34 = .ok (.iconst 1, 1) := F_Quad_overlaps_0.2.2.2.2.2.2.2.2.2.2.2.2.2.2.2.2.1
theorem d_Quad_overlaps_35 : decode prog_7_method_13_code 35 = .ok (.goto (4), 3) := F_Quad_overlaps_0.2.2.2.2.2.2.2.2.2.2.2.2.2.2.2.2.2.1
theorem d_Quad_overlaps_38 : decode prog_7_method_13_code 38 = .ok (.iconst 0, 1) := F_Quad_overlaps_0.2.2.2.2.2.2.2.2.2.2.2.2.2.2.2.2.2.2.1
theorem d_Quad_overlaps_39 : decode prog_7_method_13_code 39 = .ok (.ireturn, 1) := F_Quad_overlaps_0.2.2.2.2.2.2.2.2.2.2.2.2.2.2.2.2.2.2.2.1
theorem F_CM_diagonal_0 : Jvm.Free.DS.Facts prog_1_method_45_code 0 [(.aload_n 0, 1), (.getfield 12, 3), (.iload_n 1, 1), (.invokevirtual 127, 3), (.ifCond .eq (17), 3), (.iload_n 2, 1), (.invokestatic 154, 3), (.ifCond .eq (10), 3), (.iload_n 3, 1), (.invokestatic 154, 3), (.ifCond .ne (7), 3), (.ldc2_w 270, 3), (.lreturn, 1), (.aload_n 0, 1), (.iload_n 1, 1), (.iload_n 2, 1), (.invokevirtual 371, 3), (.aload_n 0, 1), (.getfield 78, 3), (.iload_n 3, 1), (.laload, 1), (.lreturn, 1)] := Jvm.Free.DS.facts 0 _ (by decide +kernel) (by decide +kernel)
theorem d_CM_diagonal_0 : decode prog_1_method_45_code 0 = .ok (.aload_n 0, 1) := F_CM_diagonal_0.1
theorem d_CM_diagonal_1 : decode prog_1_method_45_code 1 = .ok (.getfield 12, 3) := F_CM_diagonal_0.2.1
theorem d_CM_diagonal_4 : decode prog_1_method_45_code 4 = .ok (.iload_n 1, 1) := F_CM_diagonal_0.2.2.1
theorem d_CM_diagonal_5 : decode prog_1_method_45_code 5 = .ok (.invokevirtual 127, 3) := F_CM_diagonal_0.2.2.2.1
theorem d_CM_diagonal_8 : decode prog_1_method_45_code 8 = .ok (.ifCond .eq (17), 3) := F_CM_diagonal_0.2.2.2.2.1
theorem d_CM_diagonal_11 : decode prog_1_method_45_code 11 = .ok (.iload_n 2, 1) := F_CM_diagonal_0.2.2.2.2.2.1
theorem d_CM_diagonal_12 : decode prog_1_method_45_code 12 = .ok (.invokestatic 154, 3) := F_CM_diagonal_0.2.2.2.2.2.2.1
theorem d_CM_diagonal_15 : decode prog_1_method_45_code 15 = .ok (.ifCond .eq (10), 3) := F_CM_diagonal_0.2.2.2.2.2.2.2.1
theorem d_CM_diagonal_18 : decode prog_1_method_45_code 18 = .ok (.iload_n 3, 1) := F_CM_diagonal_0.2.2.2.2.2.2.2.2.1
theorem d_CM_diagonal_19 : decode prog_1_method_45_code 19 = .ok (.invokestatic 154, 3) := F_CM_diagonal_0.2.2.2.2.2.2.2.2.2.1
theorem d_CM_diagonal_22 : decode prog_1_method_45_code 22 = .ok (.ifCond .ne (7), 3) := F_CM_diagonal_0.2.2.2.2.2.2.2.2.2.2.1
theorem d_CM_diagonal_25 : decode prog_1_method_45_code 25 = .ok (.ldc2_w 270, 3) := F_CM_diagonal_0.2.2.2.2.2.2.2.2.2.2.2.1
theorem d_CM_diagonal_28 : decode prog_1_method_45_code 28 = .ok (.lreturn, 1) := F_CM_diagonal_0.2.2.2.2.2.2.2.2.2.2.2.2.1
theorem d_CM_diagonal_29 : decode prog_1_method_45_code 29 = .ok (.aload_n 0, 1) := F_CM_diagonal_0.2.2.2.2.2.2.2.2.2.2.2.2.2.1
theorem d_CM_diagonal_30 : decode prog_1_method_45_code 30 = .ok (.iload_n 1, 1) := F_CM_diagonal_0.2.2.2.2.2.2.2.2.2.2.2.2.2.2.1
theorem d_CM_diagonal_31 : decode prog_1_method_45_code 31 = .ok (.iload_n 2, 1) := F_CM_diagonal_0.2.2.2.2.2.2.2.2.2.2.2.2.2.2.2.1
theorem d_CM_diagonal_32 : decode prog_1_method_45_code 32 = .ok (.invokevirtual 371, 3) := F_CM_diagonal_0.2.2.2.2.2.2.2.2.2.2.2.2.2.2.2.2.1
theorem d_CM_diagonal_35 : decode prog_1_method_45_code 35 = .ok (.aload_n 0, 1) := F_CM_diagonal_0.2.2.2.2.2.2.2.2.2.2.2.2.2.2.2.2.2.1
theorem d_CM_diagonal_36 : decode prog_1_method_45_code 36 = .ok (.getfield 78, 3) := F_CM_diagonal_0.2.2.2.2.2.2.2.2.2.2.2.2.2.2.2.2.2.2.1
theorem d_CM_diagonal_39 : decode prog_1_method_45_code 39 = .ok (.iload_n 3, 1) := F_CM_diagonal_0.2.2.2.2.2.2.2.2.2.2.2.2.2.2.2.2.2.2.2.1
theorem d_CM_diagonal_40 : decode prog_1_method_45_code 40 = .ok (.laload, 1) := F_CM_diagonal_0.2.2.2.2.2.2.2.2.2.2.2.2.2.2.2.2.2.2.2.2.1
theorem d_CM_diagonal_41 : decode prog_1_method_45_code 41 = .ok (.lreturn, 1) := F_CM_diagonal_0.2.2.2.2.2.2.2.2.2.2.2.2.2.2.2.2.2.2.2.2.2.1
theorem F_CM_meetSides_0 : Jvm.Free.DS.Facts prog_1_method_99_code 0 [(.aload_n 0, 1), (.getfield 12, 3), (.getfield 142, 3), (.iload_n 1, 1), (.aaload, 1), (.getfield 146, 3), (.astore_n 3, 1), (.aload_n 3, 1), (.getstatic 452, 3), (.iconst 4, 1), (.iload_n 2, 1), (.imul, 1), (.iaload, 1), (.aaload, 1), (.aload_n 3, 1), (.getstatic 452, 3), (.iconst 4, 1), (.iload_n 2, 1), (.imul, 1), (.iconst 1, 1), (.iadd, 1), (.iaload, 1), (.aaload, 1), (.aload_n 0, 1), (.getfield 84, 3), (.invokestatic 324, 3), (.pop, 1), (.aload_n 3, 1), (.getstatic 452, 3), (.iconst 4, 1), (.iload_n 2, 1), (.imul, 1)] := Jvm.Free.DS.facts 0 _ (by decide +kernel) (by decide +kernel)
theorem d_CM_meetSides_0 : decode prog_1_method_99_code 0 = .ok (.aload_n 0, 1) := F_CM_meetSides_0.1
theorem d_CM_meetSides_1 : decode prog_1_method_99_code 1 = .ok (.getfield 12, 3) := F_CM_meetSides_0.2.1
theorem d_CM_meetSides_4 : decode prog_1_method_99_code 4 = .ok (.getfield 142, 3) := F_CM_meetSides_0.2.2.1
theorem d_CM_meetSides_7 : decode prog_1_method_99_code 7 = .ok (.iload_n 1, 1) := F_CM_meetSides_0.2.2.2.1
theorem d_CM_meetSides_8 : decode prog_1_method_99_code 8 = .ok (.aaload, 1) := F_CM_meetSides_0.2.2.2.2.1
theorem d_CM_meetSides_9 : decode prog_1_method_99_code 9 = .ok (.getfield 146, 3) := F_CM_meetSides_0.2.2.2.2.2.1
theorem d_CM_meetSides_12 : decode prog_1_method_99_code 12 = .ok (.astore_n 3, 1) := F_CM_meetSides_0.2.2.2.2.2.2.1
theorem d_CM_meetSides_13 : decode prog_1_method_99_code 13 = .ok (.aload_n 3, 1) := F_CM_meetSides_0.2.2.2.2.2.2.2.1
theorem d_CM_meetSides_14 : decode prog_1_method_99_code 14 = .ok (.getstatic 452, 3) := F_CM_meetSides_0.2.2.2.2.2.2.2.2.1
theorem d_CM_meetSides_17 : decode prog_1_method_99_code 17 = .ok (.iconst 4, 1) := F_CM_meetSides_0.2.2.2.2.2.2.2.2.2.1
theorem d_CM_meetSides_18 : decode prog_1_method_99_code 18 = .ok (.iload_n 2, 1) := F_CM_meetSides_0.2.2.2.2.2.2.2.2.2.2.1
theorem d_CM_meetSides_19 : decode prog_1_method_99_code 19 = .ok (.imul, 1) := F_CM_meetSides_0.2.2.2.2.2.2.2.2.2.2.2.1
theorem d_CM_meetSides_20 : decode prog_1_method_99_code 20 = .ok (.iaload, 1) := F_CM_meetSides_0.2.2.2.2.2.2.2.2.2.2.2.2.1
theorem d_CM_meetSides_21 : decode prog_1_method_99_code 21 = .ok (.aaload, 1) := F_CM_meetSides_0.2.2.2.2.2.2.2.2.2.2.2.2.2.1
theorem d_CM_meetSides_22 : decode prog_1_method_99_code 22 = .ok (.aload_n 3, 1) := F_CM_meetSides_0.2.2.2.2.2.2.2.2.2.2.2.2.2.2.1
theorem d_CM_meetSides_23 : decode prog_1_method_99_code 23 = .ok (.getstatic 452, 3) := F_CM_meetSides_0.2.2.2.2.2.2.2.2.2.2.2.2.2.2.2.1
theorem d_CM_meetSides_26 : decode prog_1_method_99_code 26 = .ok (.iconst 4, 1) := F_CM_meetSides_0.2.2.2.2.2.2.2.2.2.2.2.2.2.2.2.2.1
theorem d_CM_meetSides_27 : decode prog_1_method_99_code 27 = .ok (.iload_n 2, 1) := F_CM_meetSides_0.2.2.2.2.2.2.2.2.2.2.2.2.2.2.2.2.2.1
theorem d_CM_meetSides_28 : decode prog_1_method_99_code 28 = .ok (.imul, 1) := F_CM_meetSides_0.2.2.2.2.2.2.2.2.2.2.2.2.2.2.2.2.2.2.1
theorem d_CM_meetSides_29 : decode prog_1_method_99_code 29 = .ok (.iconst 1, 1) := F_CM_meetSides_0.2.2.2.2.2.2.2.2.2.2.2.2.2.2.2.2.2.2.2.1
theorem d_CM_meetSides_30 : decode prog_1_method_99_code 30 = .ok (.iadd, 1) := F_CM_meetSides_0.2.2.2.2.2.2.2.2.2.2.2.2.2.2.2.2.2.2.2.2.1
theorem d_CM_meetSides_31 : decode prog_1_method_99_code 31 = .ok (.iaload, 1) := F_CM_meetSides_0.2.2.2.2.2.2.2.2.2.2.2.2.2.2.2.2.2.2.2.2.2.1
theorem d_CM_meetSides_32 : decode prog_1_method_99_code 32 = .ok (.aaload, 1) := F_CM_meetSides_0.2.2.2.2.2.2.2.2.2.2.2.2.2.2.2.2.2.2.2.2.2.2.1
theorem d_CM_meetSides_33 : decode prog_1_method_99_code 33 = .ok (.aload_n 0, 1) := F_CM_meetSides_0.2.2.2.2.2.2.2.2.2.2.2.2.2.2.2.2.2.2.2.2.2.2.2.1
theorem d_CM_meetSides_34 : decode prog_1_method_99_code 34 = .ok (.getfield 84, 3) := F_CM_meetSides_0.2.2.2.2.2.2.2.2.2.2.2.2.2.2.2.2.2.2.2.2.2.2.2.2.1
theorem d_CM_meetSides_37 : decode prog_1_method_99_code 37 = .ok (.invokestatic 324, 3) := F_CM_meetSides_0.2.2.2.2.2.2.2.2.2.2.2.2.2.2.2.2.2.2.2.2.2.2.2.2.2.1
theorem d_CM_meetSides_40 : decode prog_1_method_99_code 40 = .ok (.pop, 1) := F_CM_meetSides_0.2.2.2.2.2.2.2.2.2.2.2.2.2.2.2.2.2.2.2.2.2.2.2.2.2.2.1
theorem d_CM_meetSides_41 : decode prog_1_method_99_code 41 = .ok (.aload_n 3, 1) := F_CM_meetSides_0.2.2.2.2.2.2.2.2.2.2.2.2.2.2.2.2.2.2.2.2.2.2.2.2.2.2.2.1
theorem d_CM_meetSides_42 : decode prog_1_method_99_code 42 = .ok (.getstatic 452, 3) := F_CM_meetSides_0.2.2.2.2.2.2.2.2.2.2.2.2.2.2.2.2.2.2.2.2.2.2.2.2.2.2.2.2.1
theorem d_CM_meetSides_45 : decode prog_1_method_99_code 45 = .ok (.iconst 4, 1) := F_CM_meetSides_0.2.2.2.2.2.2.2.2.2.2.2.2.2.2.2.2.2.2.2.2.2.2.2.2.2.2.2.2.2.1
theorem d_CM_meetSides_46 : decode prog_1_method_99_code 46 = .ok (.iload_n 2, 1) := F_CM_meetSides_0.2.2.2.2.2.2.2.2.2.2.2.2.2.2.2.2.2.2.2.2.2.2.2.2.2.2.2.2.2.2.1
theorem d_CM_meetSides_47 : decode prog_1_method_99_code 47 = .ok (.imul, 1) := F_CM_meetSides_0.2.2.2.2.2.2.2.2.2.2.2.2.2.2.2.2.2.2.2.2.2.2.2.2.2.2.2.2.2.2.2.1
theorem F_CM_meetSides_48 : Jvm.Free.DS.Facts prog_1_method_99_code 48 [(.iconst 2, 1), (.iadd, 1), (.iaload, 1), (.aaload, 1), (.aload_n 3, 1), (.getstatic 452, 3), (.iconst 4, 1), (.iload_n 2, 1), (.imul, 1), (.iconst 3, 1), (.iadd, 1), (.iaload, 1), (.aaload, 1), (.aload_n 0, 1), (.getfield 87, 3), (.invokestatic 324, 3), (.pop, 1), (.aload_n 0, 1), (.getfield 84, 3), (.aload_n 0, 1), (.getfield 87, 3), (.aload_n 0, 1), (.getfield 78, 3), (.invokestatic 324, 3), (.pop, 1), (.return_, 1)] := Jvm.Free.DS.facts 48 _ (by decide +kernel) (by decide +kernel)
theorem d_CM_meetSides_48 : decode prog_1_method_99_code 48 = .ok (.iconst 2, 1) := F_CM_meetSides_48.1
theorem d_CM_meetSides_49 : decode prog_1_method_99_code 49 = .ok (.iadd, 1) := F_CM_meetSides_48.2.1
theorem d_CM_meetSides_50 : decode prog_1_method_99_code 50 = .ok (.iaload, 1) := F_CM_meetSides_48.2.2.1
theorem d_CM_meetSides_51 : decode prog_1_method_99_code 51 = .ok (.aaload, 1) := F_CM_meetSides_48.2.2.2.1
theorem d_CM_meetSides_52 : decode prog_1_method_99_code 52 = .ok (.aload_n 3, 1) := F_CM_meetSides_48.2.2.2.2.1
theorem d_CM_meetSides_53 : decode prog_1_method_99_code 53 = .ok (.getstatic 452, 3) := F_CM_meetSides_48.2.2.2.2.2.1
theorem d_CM_meetSides_56 : decode prog_1_method_99_code 56 = .ok (.iconst 4, 1) := F_CM_meetSides_48.2.2.2.2.2.2.1
theorem d_CM_meetSides_57 : decode prog_1_method_99_code 57 = .ok (.iload_n 2, 1) := F_CM_meetSides_48.2.2.2.2.2.2.2.1
theorem d_CM_meetSides_58 : decode prog_1_method_99_code 58 = .ok (.imul, 1) := F_CM_meetSides_48.2.2.2.2.2.2.2.2.1
theorem d_CM_meetSides_59 : decode prog_1_method_99_code 59 = .ok (.iconst 3, 1) := F_CM_meetSides_48.2.2.2.2.2.2.2.2.2.1
theorem d_CM_meetSides_60 : decode prog_1_method_99_code 60 = .ok (.iadd, 1) := F_CM_meetSides_48.2.2.2.2.2.2.2.2.2.2.1
theorem d_CM_meetSides_61 : decode prog_1_method_99_code 61 = .ok (.iaload, 1) := F_CM_meetSides_48.2.2.2.2.2.2.2.2.2.2.2.1
theorem d_CM_meetSides_62 : decode prog_1_method_99_code 62 = .ok (.aaload, 1) := F_CM_meetSides_48.2.2.2.2.2.2.2.2.2.2.2.2.1
theorem d_CM_meetSides_63 : decode prog_1_method_99_code 63 = .ok (.aload_n 0, 1) := F_CM_meetSides_48.2.2.2.2.2.2.2.2.2.2.2.2.2.1
theorem d_CM_meetSides_64 : decode prog_1_method_99_code 64 = .ok (.getfield 87, 3) := F_CM_meetSides_48.2.2.2.2.2.2.2.2.2.2.2.2.2.2.1
theorem d_CM_meetSides_67 : decode prog_1_method_99_code 67 = .ok (.invokestatic 324, 3) := F_CM_meetSides_48.2.2.2.2.2.2.2.2.2.2.2.2.2.2.2.1
theorem d_CM_meetSides_70 : decode prog_1_method_99_code 70 = .ok (.pop, 1) := F_CM_meetSides_48.2.2.2.2.2.2.2.2.2.2.2.2.2.2.2.2.1
theorem d_CM_meetSides_71 : decode prog_1_method_99_code 71 = .ok (.aload_n 0, 1) := F_CM_meetSides_48.2.2.2.2.2.2.2.2.2.2.2.2.2.2.2.2.2.1
theorem d_CM_meetSides_72 : decode prog_1_method_99_code 72 = .ok (.getfield 84, 3) := F_CM_meetSides_48.2.2.2.2.2.2.2.2.2.2.2.2.2.2.2.2.2.2.1
theorem d_CM_meetSides_75 : decode prog_1_method_99_code 75 = .ok (.aload_n 0, 1) := F_CM_meetSides_48.2.2.2.2.2.2.2.2.2.2.2.2.2.2.2.2.2.2.2.1
theorem d_CM_meetSides_76 : decode prog_1_method_99_code 76 = .ok (.getfield 87, 3) := F_CM_meetSides_48.2.2.2.2.2.2.2.2.2.2.2.2.2.2.2.2.2.2.2.2.1
theorem d_CM_meetSides_79 : decode prog_1_method_99_code 79 = .ok (.aload_n 0, 1) := F_CM_meetSides_48.2.2.2.2.2.2.2.2.2.2.2.2.2.2.2.2.2.2.2.2.2.1
theorem d_CM_meetSides_80 : decode prog_1_method_99_code 80 = .ok (.getfield 78, 3) := F_CM_meetSides_48.2.2.2.2.2.2.2.2.2.2.2.2.2.2.2.2.2.2.2.2.2.2.1
theorem d_CM_meetSides_83 : decode prog_1_method_99_code 83 = .ok (.invokestatic 324, 3) := F_CM_meetSides_48.2.2.2.2.2.2.2.2.2.2.2.2.2.2.2.2.2.2.2.2.2.2.2.1
theorem d_CM_meetSides_86 : decode prog_1_method_99_code 86 = .ok (.pop, 1) := F_CM_meetSides_48.2.2.2.2.2.2.2.2.2.2.2.2.2.2.2.2.2.2.2.2.2.2.2.2.1
theorem d_CM_meetSides_87 : decode prog_1_method_99_code 87 = .ok (.return_, 1) := F_CM_meetSides_48.2.2.2.2.2.2.2.2.2.2.2.2.2.2.2.2.2.2.2.2.2.2.2.2.2.1
theorem F_CM_parallel_0 : Jvm.Free.DS.Facts prog_1_method_46_code 0 [(.aload_n 0, 1), (.getfield 12, 3), (.iload_n 1, 1), (.invokevirtual 151, 3), (.ifCond .eq (14), 3), (.aload_n 0, 1), (.getfield 12, 3), (.iload_n 2, 1), (.invokevirtual 127, 3), (.ifCond .ne (5), 3), (.iconst (-1), 1), (.ireturn, 1), (.iconst 0, 1), (.istore_n 3, 1), (.iconst 0, 1), (.istore 4, 2), (.iload 4, 2), (.iconst 2, 1), (.if_icmp .ge (44), 3), (.aload_n 0, 1), (.iload_n 2, 1), (.iload 4, 2), (.invokevirtual 371, 3), (.aload_n 0, 1), (.getfield 12, 3), (.getfield 157, 3), (.iload_n 1, 1), (.aaload, 1), (.aload_n 0, 1), (.getfield 78, 3), (.invokestatic 375, 3), (.lconst 0, 1)] := Jvm.Free.DS.facts 0 _ (by decide +kernel) (by decide +kernel)
theorem d_CM_parallel_0 : decode prog_1_method_46_code 0 = .ok (.aload_n 0, 1) := F_CM_parallel_0.1
theorem d_CM_parallel_1 : decode prog_1_method_46_code 1 = .ok (.getfield 12, 3) := F_CM_parallel_0.2.1
theorem d_CM_parallel_4 : decode prog_1_method_46_code 4 = .ok (.iload_n 1, 1) := F_CM_parallel_0.2.2.1
theorem d_CM_parallel_5 : decode prog_1_method_46_code 5 = .ok (.invokevirtual 151, 3) := F_CM_parallel_0.2.2.2.1
theorem d_CM_parallel_8 : decode prog_1_method_46_code 8 = .ok (.ifCond .eq (14), 3) := F_CM_parallel_0.2.2.2.2.1
theorem d_CM_parallel_11 : decode prog_1_method_46_code 11 = .ok (.aload_n 0, 1) := F_CM_parallel_0.2.2.2.2.2.1
theorem d_CM_parallel_12 : decode prog_1_method_46_code 12 = .ok (.getfield 12, 3) := F_CM_parallel_0.2.2.2.2.2.2.1
theorem d_CM_parallel_15 : decode prog_1_method_46_code 15 = .ok (.iload_n 2, 1) := F_CM_parallel_0.2.2.2.2.2.2.2.1
theorem d_CM_parallel_16 : decode prog_1_method_46_code 16 = .ok (.invokevirtual 127, 3) := F_CM_parallel_0.2.2.2.2.2.2.2.2.1
theorem d_CM_parallel_19 : decode prog_1_method_46_code 19 = .ok (.ifCond .ne (5), 3) := F_CM_parallel_0.2.2.2.2.2.2.2.2.2.1
theorem d_CM_parallel_22 : decode prog_1_method_46_code 22 = .ok (.iconst (-1), 1) := F_CM_parallel_0.2.2.2.2.2.2.2.2.2.2.1
theorem d_CM_parallel_23 : decode prog_1_method_46_code 23 = .ok (.ireturn, 1) := F_CM_parallel_0.2.2.2.2.2.2.2.2.2.2.2.1
theorem d_CM_parallel_24 : decode prog_1_method_46_code 24 = .ok (.iconst 0, 1) := F_CM_parallel_0.2.2.2.2.2.2.2.2.2.2.2.2.1
theorem d_CM_parallel_25 : decode prog_1_method_46_code 25 = .ok (.istore_n 3, 1) := F_CM_parallel_0.2.2.2.2.2.2.2.2.2.2.2.2.2.1
theorem d_CM_parallel_26 : decode prog_1_method_46_code 26 = .ok (.iconst 0, 1) := F_CM_parallel_0.2.2.2.2.2.2.2.2.2.2.2.2.2.2.1
theorem d_CM_parallel_27 : decode prog_1_method_46_code 27 = .ok (.istore 4, 2) := F_CM_parallel_0.2.2.2.2.2.2.2.2.2.2.2.2.2.2.2.1
theorem d_CM_parallel_29 : decode prog_1_method_46_code 29 = .ok (.iload 4, 2) := F_CM_parallel_0.2.2.2.2.2.2.2.2.2.2.2.2.2.2.2.2.1
theorem d_CM_parallel_31 : decode prog_1_method_46_code 31 = .ok (.iconst 2, 1) := F_CM_parallel_0.2.2.2.2.2.2.2.2.2.2.2.2.2.2.2.2.2.1
theorem d_CM_parallel_32 : decode prog_1_method_46_code 32 = .ok (.if_icmp .ge (44), 3) := F_CM_parallel_0.2.2.2.2.2.2.2.2.2.2.2.2.2.2.2.2.2.2.1
theorem d_CM_parallel_35 : decode prog_1_method_46_code 35 = .ok (.aload_n 0, 1) := F_CM_parallel_0.2.2.2.2.2.2.2.2.2.2.2.2.2.2.2.2.2.2.2.1
theorem d_CM_parallel_36 : decode prog_1_method_46_code 36 = .ok (.iload_n 2, 1) := F_CM_parallel_0.2.2.2.2.2.2.2.2.2.2.2.2.2.2.2.2.2.2.2.2.1
theorem d_CM_parallel_37 : decode prog_1_method_46_code 37 = .ok (.iload 4, 2) := F_CM_parallel_0.2.2.2.2.2.2.2.2.2.2.2.2.2.2.2.2.2.2.2.2.2.1
theorem d_CM_parallel_39 : decode prog_1_method_46_code 39 = .ok (.invokevirtual 371, 3) := F_CM_parallel_0.2.2.2.2.2.2.2.2.2.2.2.2.2.2.2.2.2.2.2.2.2.2.1
theorem d_CM_parallel_42 : decode prog_1_method_46_code 42 = .ok (.aload_n 0, 1) := F_CM_parallel_0.2.2.2.2.2.2.2.2.2.2.2.2.2.2.2.2.2.2.2.2.2.2.2.1
theorem d_CM_parallel_43 : decode prog_1_method_46_code 43 = .ok (.getfield 12, 3) := F_CM_parallel_0.2.2.2.2.2.2.2.2.2.2.2.2.2.2.2.2.2.2.2.2.2.2.2.2.1
theorem d_CM_parallel_46 : decode prog_1_method_46_code 46 = .ok (.getfield 157, 3) := F_CM_parallel_0.2.2.2.2.2.2.2.2.2.2.2.2.2.2.2.2.2.2.2.2.2.2.2.2.2.1
theorem d_CM_parallel_49 : decode prog_1_method_46_code 49 = .ok (.iload_n 1, 1) := F_CM_parallel_0.2.2.2.2.2.2.2.2.2.2.2.2.2.2.2.2.2.2.2.2.2.2.2.2.2.2.1
theorem d_CM_parallel_50 : decode prog_1_method_46_code 50 = .ok (.aaload, 1) := F_CM_parallel_0.2.2.2.2.2.2.2.2.2.2.2.2.2.2.2.2.2.2.2.2.2.2.2.2.2.2.2.1
theorem d_CM_parallel_51 : decode prog_1_method_46_code 51 = .ok (.aload_n 0, 1) := F_CM_parallel_0.2.2.2.2.2.2.2.2.2.2.2.2.2.2.2.2.2.2.2.2.2.2.2.2.2.2.2.2.1
theorem d_CM_parallel_52 : decode prog_1_method_46_code 52 = .ok (.getfield 78, 3) := F_CM_parallel_0.2.2.2.2.2.2.2.2.2.2.2.2.2.2.2.2.2.2.2.2.2.2.2.2.2.2.2.2.2.1
theorem d_CM_parallel_55 : decode prog_1_method_46_code 55 = .ok (.invokestatic 375, 3) := F_CM_parallel_0.2.2.2.2.2.2.2.2.2.2.2.2.2.2.2.2.2.2.2.2.2.2.2.2.2.2.2.2.2.2.1
theorem d_CM_parallel_58 : decode prog_1_method_46_code 58 = .ok (.lconst 0, 1) := F_CM_parallel_0.2.2.2.2.2.2.2.2.2.2.2.2.2.2.2.2.2.2.2.2.2.2.2.2.2.2.2.2.2.2.2.1
theorem F_CM_parallel_59 : Jvm.Free.DS.Facts prog_1_method_46_code 59 [(.lcmp, 1), (.ifCond .ne (10), 3), (.iload_n 3, 1), (.iconst 1, 1), (.iload 4, 2), (.ishl, 1), (.ior, 1), (.istore_n 3, 1), (.iinc 4 (1), 3), (.goto (-44), 3), (.iload_n 3, 1), (.ireturn, 1)] := Jvm.Free.DS.facts 59 _ (by decide +kernel) (by decide +kernel)
theorem d_CM_parallel_59 : decode prog_1_method_46_code 59 = .ok (.lcmp, 1) := F_CM_parallel_59.1
theorem d_CM_parallel_60 : decode prog_1_method_46_code 60 = .ok (.ifCond .ne (10), 3) := F_CM_parallel_59.2.1
theorem d_CM_parallel_63 : decode prog_1_method_46_code 63 = .ok (.iload_n 3, 1) := F_CM_parallel_59.2.2.1
theorem d_CM_parallel_64 : decode prog_1_method_46_code 64 = .ok (.iconst 1, 1) := F_CM_parallel_59.2.2.2.1
theorem d_CM_parallel_65 : decode prog_1_method_46_code 65 = .ok (.iload 4, 2) := F_CM_parallel_59.2.2.2.2.1
theorem d_CM_parallel_67 : decode prog_1_method_46_code 67 = .ok (.ishl, 1) := F_CM_parallel_59.2.2.2.2.2.1
theorem d_CM_parallel_68 : decode prog_1_method_46_code 68 = .ok (.ior, 1) := F_CM_parallel_59.2.2.2.2.2.2.1
theorem d_CM_parallel_69 : decode prog_1_method_46_code 69 = .ok (.istore_n 3, 1) := F_CM_parallel_59.2.2.2.2.2.2.2.1
theorem d_CM_parallel_70 : decode prog_1_method_46_code 70 = .ok (.iinc 4 (1), 3) := F_CM_parallel_59.2.2.2.2.2.2.2.2.1
theorem d_CM_parallel_73 : decode prog_1_method_46_code 73 = .ok (.goto (-44), 3) := F_CM_parallel_59.2.2.2.2.2.2.2.2.2.1
theorem d_CM_parallel_76 : decode prog_1_method_46_code 76 = .ok (.iload_n 3, 1) := F_CM_parallel_59.2.2.2.2.2.2.2.2.2.2.1
theorem d_CM_parallel_77 : decode prog_1_method_46_code 77 = .ok (.ireturn, 1) := F_CM_parallel_59.2.2.2.2.2.2.2.2.2.2.2.1
theorem F_CM_shapeBy_0 : Jvm.Free.DS.Facts prog_1_method_47_code 0 [(.aload_n 0, 1), (.getfield 12, 3), (.iload_n 1, 1), (.invokevirtual 151, 3), (.ifCond .eq (14), 3), (.aload_n 0, 1), (.getfield 12, 3), (.iload_n 2, 1), (.invokevirtual 127, 3), (.ifCond .ne (5), 3), (.iconst (-1), 1), (.ireturn, 1), (.aload_n 0, 1), (.iload_n 1, 1), (.iload_n 2, 1), (.invokevirtual 379, 3), (.ifCond .ne (6), 3), (.bipush (-2), 2), (.ireturn, 1), (.aload_n 0, 1), (.getfield 12, 3), (.getfield 142, 3), (.iload_n 2, 1), (.aaload, 1), (.aload_n 0, 1), (.getfield 12, 3), (.getfield 157, 3), (.iload_n 1, 1), (.aaload, 1), (.invokevirtual 382, 3), (.invokestatic 170, 3), (.ireturn, 1)] := Jvm.Free.DS.facts 0 _ (by decide +kernel) (by decide +kernel)
theorem d_CM_shapeBy_0 : decode prog_1_method_47_code 0 = .ok (.aload_n 0, 1) := F_CM_shapeBy_0.1
theorem d_CM_shapeBy_1 : decode prog_1_method_47_code 1 = .ok (.getfield 12, 3) := F_CM_shapeBy_0.2.1
theorem d_CM_shapeBy_4 : decode prog_1_method_47_code 4 = .ok (.iload_n 1, 1) := F_CM_shapeBy_0.2.2.1
theorem d_CM_shapeBy_5 : decode prog_1_method_47_code 5 = .ok (.invokevirtual 151, 3) := F_CM_shapeBy_0.2.2.2.1
theorem d_CM_shapeBy_8 : decode prog_1_method_47_code 8 = .ok (.ifCond .eq (14), 3) := F_CM_shapeBy_0.2.2.2.2.1
theorem d_CM_shapeBy_11 : decode prog_1_method_47_code 11 = .ok (.aload_n 0, 1) := F_CM_shapeBy_0.2.2.2.2.2.1
theorem d_CM_shapeBy_12 : decode prog_1_method_47_code 12 = .ok (.getfield 12, 3) := F_CM_shapeBy_0.2.2.2.2.2.2.1
theorem d_CM_shapeBy_15 : decode prog_1_method_47_code 15 = .ok (.iload_n 2, 1) := F_CM_shapeBy_0.2.2.2.2.2.2.2.1
theorem d_CM_shapeBy_16 : decode prog_1_method_47_code 16 = .ok (.invokevirtual 127, 3) := F_CM_shapeBy_0.2.2.2.2.2.2.2.2.1
theorem d_CM_shapeBy_19 : decode prog_1_method_47_code 19 = .ok (.ifCond .ne (5), 3) := F_CM_shapeBy_0.2.2.2.2.2.2.2.2.2.1
theorem d_CM_shapeBy_22 : decode prog_1_method_47_code 22 = .ok (.iconst (-1), 1) := F_CM_shapeBy_0.2.2.2.2.2.2.2.2.2.2.1
theorem d_CM_shapeBy_23 : decode prog_1_method_47_code 23 = .ok (.ireturn, 1) := F_CM_shapeBy_0.2.2.2.2.2.2.2.2.2.2.2.1
theorem d_CM_shapeBy_24 : decode prog_1_method_47_code 24 = .ok (.aload_n 0, 1) := F_CM_shapeBy_0.2.2.2.2.2.2.2.2.2.2.2.2.1
theorem d_CM_shapeBy_25 : decode prog_1_method_47_code 25 = .ok (.iload_n 1, 1) := F_CM_shapeBy_0.2.2.2.2.2.2.2.2.2.2.2.2.2.1
theorem d_CM_shapeBy_26 : decode prog_1_method_47_code 26 = .ok (.iload_n 2, 1) := F_CM_shapeBy_0.2.2.2.2.2.2.2.2.2.2.2.2.2.2.1
theorem d_CM_shapeBy_27 : decode prog_1_method_47_code 27 = .ok (.invokevirtual 379, 3) := F_CM_shapeBy_0.2.2.2.2.2.2.2.2.2.2.2.2.2.2.2.1
theorem d_CM_shapeBy_30 : decode prog_1_method_47_code 30 = .ok (.ifCond .ne (6), 3) := F_CM_shapeBy_0.2.2.2.2.2.2.2.2.2.2.2.2.2.2.2.2.1
theorem d_CM_shapeBy_33 : decode prog_1_method_47_code 33 = .ok (.bipush (-2), 2) := F_CM_shapeBy_0.2.2.2.2.2.2.2.2.2.2.2.2.2.2.2.2.2.1
theorem d_CM_shapeBy_35 : decode prog_1_method_47_code 35 = .ok (.ireturn, 1) := F_CM_shapeBy_0.2.2.2.2.2.2.2.2.2.2.2.2.2.2.2.2.2.2.1
theorem d_CM_shapeBy_36 : decode prog_1_method_47_code 36 = .ok (.aload_n 0, 1) := F_CM_shapeBy_0.2.2.2.2.2.2.2.2.2.2.2.2.2.2.2.2.2.2.2.1
theorem d_CM_shapeBy_37 : decode prog_1_method_47_code 37 = .ok (.getfield 12, 3) := F_CM_shapeBy_0.2.2.2.2.2.2.2.2.2.2.2.2.2.2.2.2.2.2.2.2.1
theorem d_CM_shapeBy_40 : decode prog_1_method_47_code 40 = .ok (.getfield 142, 3) := F_CM_shapeBy_0.2.2.2.2.2.2.2.2.2.2.2.2.2.2.2.2.2.2.2.2.2.1
theorem d_CM_shapeBy_43 : decode prog_1_method_47_code 43 = .ok (.iload_n 2, 1) := F_CM_shapeBy_0.2.2.2.2.2.2.2.2.2.2.2.2.2.2.2.2.2.2.2.2.2.2.1
theorem d_CM_shapeBy_44 : decode prog_1_method_47_code 44 = .ok (.aaload, 1) := F_CM_shapeBy_0.2.2.2.2.2.2.2.2.2.2.2.2.2.2.2.2.2.2.2.2.2.2.2.1
theorem d_CM_shapeBy_45 : decode prog_1_method_47_code 45 = .ok (.aload_n 0, 1) := F_CM_shapeBy_0.2.2.2.2.2.2.2.2.2.2.2.2.2.2.2.2.2.2.2.2.2.2.2.2.1
theorem d_CM_shapeBy_46 : decode prog_1_method_47_code 46 = .ok (.getfield 12, 3) := F_CM_shapeBy_0.2.2.2.2.2.2.2.2.2.2.2.2.2.2.2.2.2.2.2.2.2.2.2.2.2.1
theorem d_CM_shapeBy_49 : decode prog_1_method_47_code 49 = .ok (.getfield 157, 3) := F_CM_shapeBy_0.2.2.2.2.2.2.2.2.2.2.2.2.2.2.2.2.2.2.2.2.2.2.2.2.2.2.1
theorem d_CM_shapeBy_52 : decode prog_1_method_47_code 52 = .ok (.iload_n 1, 1) := F_CM_shapeBy_0.2.2.2.2.2.2.2.2.2.2.2.2.2.2.2.2.2.2.2.2.2.2.2.2.2.2.2.1
theorem d_CM_shapeBy_53 : decode prog_1_method_47_code 53 = .ok (.aaload, 1) := F_CM_shapeBy_0.2.2.2.2.2.2.2.2.2.2.2.2.2.2.2.2.2.2.2.2.2.2.2.2.2.2.2.2.1
theorem d_CM_shapeBy_54 : decode prog_1_method_47_code 54 = .ok (.invokevirtual 382, 3) := F_CM_shapeBy_0.2.2.2.2.2.2.2.2.2.2.2.2.2.2.2.2.2.2.2.2.2.2.2.2.2.2.2.2.2.1
theorem d_CM_shapeBy_57 : decode prog_1_method_47_code 57 = .ok (.invokestatic 170, 3) := F_CM_shapeBy_0.2.2.2.2.2.2.2.2.2.2.2.2.2.2.2.2.2.2.2.2.2.2.2.2.2.2.2.2.2.2.1
theorem d_CM_shapeBy_60 : decode prog_1_method_47_code 60 = .ok (.ireturn, 1) := F_CM_shapeBy_0.2.2.2.2.2.2.2.2.2.2.2.2.2.2.2.2.2.2.2.2.2.2.2.2.2.2.2.2.2.2.2.1
theorem F_CM_keepsCorners_0 : Jvm.Free.DS.Facts prog_1_method_100_code 0 [(.iconst 0, 1), (.istore_n 3, 1), (.iload_n 3, 1), (.iconst 4, 1), (.if_icmp .ge (42), 3), (.aload_n 0, 1), (.getfield 12, 3), (.getfield 157, 3), (.iload_n 1, 1), (.aaload, 1), (.aload_n 0, 1), (.getfield 12, 3), (.getfield 142, 3), (.iload_n 2, 1), (.aaload, 1), (.getfield 146, 3), (.iload_n 3, 1), (.aaload, 1), (.invokestatic 375, 3), (.lconst 0, 1), (.lcmp, 1), (.ifCond .ne (5), 3), (.iconst 0, 1), (.ireturn, 1), (.iinc 3 (1), 3), (.goto (-41), 3), (.iconst 1, 1), (.ireturn, 1)] := Jvm.Free.DS.facts 0 _ (by decide +kernel) (by decide +kernel)
theorem d_CM_keepsCorners_0 : decode prog_1_method_100_code 0 = .ok (.iconst 0, 1) := F_CM_keepsCorners_0.1
theorem d_CM_keepsCorners_1 : decode prog_1_method_100_code 1 = .ok (.istore_n 3, 1) := F_CM_keepsCorners_0.2.1
theorem d_CM_keepsCorners_2 : decode prog_1_method_100_code 2 = .ok (.iload_n 3, 1) := F_CM_keepsCorners_0.2.2.1
theorem d_CM_keepsCorners_3 : decode prog_1_method_100_code 3 = .ok (.iconst 4, 1) := F_CM_keepsCorners_0.2.2.2.1
theorem d_CM_keepsCorners_4 : decode prog_1_method_100_code 4 = .ok (.if_icmp .ge (42), 3) := F_CM_keepsCorners_0.2.2.2.2.1
theorem d_CM_keepsCorners_7 : decode prog_1_method_100_code 7 = .ok (.aload_n 0, 1) := F_CM_keepsCorners_0.2.2.2.2.2.1
theorem d_CM_keepsCorners_8 : decode prog_1_method_100_code 8 = .ok (.getfield 12, 3) := F_CM_keepsCorners_0.2.2.2.2.2.2.1
theorem d_CM_keepsCorners_11 : decode prog_1_method_100_code 11 = .ok (.getfield 157, 3) := F_CM_keepsCorners_0.2.2.2.2.2.2.2.1
theorem d_CM_keepsCorners_14 : decode prog_1_method_100_code 14 = .ok (.iload_n 1, 1) := F_CM_keepsCorners_0.2.2.2.2.2.2.2.2.1
theorem d_CM_keepsCorners_15 : decode prog_1_method_100_code 15 = .ok (.aaload, 1) := F_CM_keepsCorners_0.2.2.2.2.2.2.2.2.2.1
theorem d_CM_keepsCorners_16 : decode prog_1_method_100_code 16 = .ok (.aload_n 0, 1) := F_CM_keepsCorners_0.2.2.2.2.2.2.2.2.2.2.1
theorem d_CM_keepsCorners_17 : decode prog_1_method_100_code 17 = .ok (.getfield 12, 3) := F_CM_keepsCorners_0.2.2.2.2.2.2.2.2.2.2.2.1
theorem d_CM_keepsCorners_20 : decode prog_1_method_100_code 20 = .ok (.getfield 142, 3) := F_CM_keepsCorners_0.2.2.2.2.2.2.2.2.2.2.2.2.1
theorem d_CM_keepsCorners_23 : decode prog_1_method_100_code 23 = .ok (.iload_n 2, 1) := F_CM_keepsCorners_0.2.2.2.2.2.2.2.2.2.2.2.2.2.1
theorem d_CM_keepsCorners_24 : decode prog_1_method_100_code 24 = .ok (.aaload, 1) := F_CM_keepsCorners_0.2.2.2.2.2.2.2.2.2.2.2.2.2.2.1
theorem d_CM_keepsCorners_25 : decode prog_1_method_100_code 25 = .ok (.getfield 146, 3) := F_CM_keepsCorners_0.2.2.2.2.2.2.2.2.2.2.2.2.2.2.2.1
theorem d_CM_keepsCorners_28 : decode prog_1_method_100_code 28 = .ok (.iload_n 3, 1) := F_CM_keepsCorners_0.2.2.2.2.2.2.2.2.2.2.2.2.2.2.2.2.1
theorem d_CM_keepsCorners_29 : decode prog_1_method_100_code 29 = .ok (.aaload, 1) := F_CM_keepsCorners_0.2.2.2.2.2.2.2.2.2.2.2.2.2.2.2.2.2.1
theorem d_CM_keepsCorners_30 : decode prog_1_method_100_code 30 = .ok (.invokestatic 375, 3) := F_CM_keepsCorners_0.2.2.2.2.2.2.2.2.2.2.2.2.2.2.2.2.2.2.1
theorem d_CM_keepsCorners_33 : decode prog_1_method_100_code 33 = .ok (.lconst 0, 1) := F_CM_keepsCorners_0.2.2.2.2.2.2.2.2.2.2.2.2.2.2.2.2.2.2.2.1
theorem d_CM_keepsCorners_34 : decode prog_1_method_100_code 34 = .ok (.lcmp, 1) := F_CM_keepsCorners_0.2.2.2.2.2.2.2.2.2.2.2.2.2.2.2.2.2.2.2.2.1
theorem d_CM_keepsCorners_35 : decode prog_1_method_100_code 35 = .ok (.ifCond .ne (5), 3) := F_CM_keepsCorners_0.2.2.2.2.2.2.2.2.2.2.2.2.2.2.2.2.2.2.2.2.2.1
theorem d_CM_keepsCorners_38 : decode prog_1_method_100_code 38 = .ok (.iconst 0, 1) := F_CM_keepsCorners_0.2.2.2.2.2.2.2.2.2.2.2.2.2.2.2.2.2.2.2.2.2.2.1
theorem d_CM_keepsCorners_39 : decode prog_1_method_100_code 39 = .ok (.ireturn, 1) := F_CM_keepsCorners_0.2.2.2.2.2.2.2.2.2.2.2.2.2.2.2.2.2.2.2.2.2.2.2.1
theorem d_CM_keepsCorners_40 : decode prog_1_method_100_code 40 = .ok (.iinc 3 (1), 3) := F_CM_keepsCorners_0.2.2.2.2.2.2.2.2.2.2.2.2.2.2.2.2.2.2.2.2.2.2.2.2.1
theorem d_CM_keepsCorners_43 : decode prog_1_method_100_code 43 = .ok (.goto (-41), 3) := F_CM_keepsCorners_0.2.2.2.2.2.2.2.2.2.2.2.2.2.2.2.2.2.2.2.2.2.2.2.2.2.1
theorem d_CM_keepsCorners_46 : decode prog_1_method_100_code 46 = .ok (.iconst 1, 1) := F_CM_keepsCorners_0.2.2.2.2.2.2.2.2.2.2.2.2.2.2.2.2.2.2.2.2.2.2.2.2.2.2.1
theorem d_CM_keepsCorners_47 : decode prog_1_method_100_code 47 = .ok (.ireturn, 1) := F_CM_keepsCorners_0.2.2.2.2.2.2.2.2.2.2.2.2.2.2.2.2.2.2.2.2.2.2.2.2.2.2.2.1
theorem F_Quad_leftTurnsBy_0 : Jvm.Free.DS.Facts prog_7_method_5_code 0 [(.iconst 0, 1), (.istore_n 2, 1), (.iconst 0, 1), (.istore_n 3, 1), (.iload_n 3, 1), (.iconst 4, 1), (.if_icmp .ge (70), 3), (.aload_n 0, 1), (.iload_n 3, 1), (.invokevirtual 22, 3), (.invokestatic 26, 3), (.istore 4, 2), (.iload_n 3, 1), (.iconst 3, 1), (.iadd, 1), (.istore 5, 2), (.iload 5, 2), (.iload_n 3, 1), (.iconst 5, 1), (.iadd, 1), (.if_icmp .gt (30), 3), (.iload 4, 2), (.aload_n 1, 1), (.aload_n 0, 1), (.getfield 11, 3), (.iload 5, 2), (.iconst 3, 1), (.iand, 1), (.aaload, 1), (.invokestatic 30, 3), (.invokestatic 26, 3), (.imul, 1)] := Jvm.Free.DS.facts 0 _ (by decide +kernel) (by decide +kernel)
theorem d_Quad_leftTurnsBy_0 : decode prog_7_method_5_code 0 = .ok (.iconst 0, 1) := F_Quad_leftTurnsBy_0.1
theorem d_Quad_leftTurnsBy_1 : decode prog_7_method_5_code 1 = .ok (.istore_n 2, 1) := F_Quad_leftTurnsBy_0.2.1
theorem d_Quad_leftTurnsBy_2 : decode prog_7_method_5_code 2 = .ok (.iconst 0, 1) := F_Quad_leftTurnsBy_0.2.2.1
theorem d_Quad_leftTurnsBy_3 : decode prog_7_method_5_code 3 = .ok (.istore_n 3, 1) := F_Quad_leftTurnsBy_0.2.2.2.1
theorem d_Quad_leftTurnsBy_4 : decode prog_7_method_5_code 4 = .ok (.iload_n 3, 1) := F_Quad_leftTurnsBy_0.2.2.2.2.1
theorem d_Quad_leftTurnsBy_5 : decode prog_7_method_5_code 5 = .ok (.iconst 4, 1) := F_Quad_leftTurnsBy_0.2.2.2.2.2.1
theorem d_Quad_leftTurnsBy_6 : decode prog_7_method_5_code 6 = .ok (.if_icmp .ge (70), 3) := F_Quad_leftTurnsBy_0.2.2.2.2.2.2.1
theorem d_Quad_leftTurnsBy_9 : decode prog_7_method_5_code 9 = .ok (.aload_n 0, 1) := F_Quad_leftTurnsBy_0.2.2.2.2.2.2.2.1
theorem d_Quad_leftTurnsBy_10 : decode prog_7_method_5_code 10 = .ok (.iload_n 3, 1) := F_Quad_leftTurnsBy_0.2.2.2.2.2.2.2.2.1
theorem d_Quad_leftTurnsBy_11 : decode prog_7_method_5_code 11 = .ok (.invokevirtual 22, 3) := F_Quad_leftTurnsBy_0.2.2.2.2.2.2.2.2.2.1
theorem d_Quad_leftTurnsBy_14 : decode prog_7_method_5_code 14 = .ok (.invokestatic 26, 3) := F_Quad_leftTurnsBy_0.2.2.2.2.2.2.2.2.2.2.1
theorem d_Quad_leftTurnsBy_17 : decode prog_7_method_5_code 17 = .ok (.istore 4, 2) := F_Quad_leftTurnsBy_0.2.2.2.2.2.2.2.2.2.2.2.1
theorem d_Quad_leftTurnsBy_19 : decode prog_7_method_5_code 19 = .ok (.iload_n 3, 1) := F_Quad_leftTurnsBy_0.2.2.2.2.2.2.2.2.2.2.2.2.1
theorem d_Quad_leftTurnsBy_20 : decode prog_7_method_5_code 20 = .ok (.iconst 3, 1) := F_Quad_leftTurnsBy_0.2.2.2.2.2.2.2.2.2.2.2.2.2.1
theorem d_Quad_leftTurnsBy_21 : decode prog_7_method_5_code 21 = .ok (.iadd, 1) := F_Quad_leftTurnsBy_0.2.2.2.2.2.2.2.2.2.2.2.2.2.2.1
theorem d_Quad_leftTurnsBy_22 : decode prog_7_method_5_code 22 = .ok (.istore 5, 2) := F_Quad_leftTurnsBy_0.2.2.2.2.2.2.2.2.2.2.2.2.2.2.2.1
theorem d_Quad_leftTurnsBy_24 : decode prog_7_method_5_code 24 = .ok (.iload 5, 2) := F_Quad_leftTurnsBy_0.2.2.2.2.2.2.2.2.2.2.2.2.2.2.2.2.1
theorem d_Quad_leftTurnsBy_26 : decode prog_7_method_5_code 26 = .ok (.iload_n 3, 1) := F_Quad_leftTurnsBy_0.2.2.2.2.2.2.2.2.2.2.2.2.2.2.2.2.2.1
theorem d_Quad_leftTurnsBy_27 : decode prog_7_method_5_code 27 = .ok (.iconst 5, 1) := F_Quad_leftTurnsBy_0.2.2.2.2.2.2.2.2.2.2.2.2.2.2.2.2.2.2.1
theorem d_Quad_leftTurnsBy_28 : decode prog_7_method_5_code 28 = .ok (.iadd, 1) := F_Quad_leftTurnsBy_0.2.2.2.2.2.2.2.2.2.2.2.2.2.2.2.2.2.2.2.1
theorem d_Quad_leftTurnsBy_29 : decode prog_7_method_5_code 29 = .ok (.if_icmp .gt (30), 3) := F_Quad_leftTurnsBy_0.2.2.2.2.2.2.2.2.2.2.2.2.2.2.2.2.2.2.2.2.1
theorem d_Quad_leftTurnsBy_32 : decode prog_7_method_5_code 32 = .ok (.iload 4, 2) := F_Quad_leftTurnsBy_0.2.2.2.2.2.2.2.2.2.2.2.2.2.2.2.2.2.2.2.2.2.1
theorem d_Quad_leftTurnsBy_34 : decode prog_7_method_5_code 34 = .ok (.aload_n 1, 1) := F_Quad_leftTurnsBy_0.2.2.2.2.2.2.2.2.2.2.2.2.2.2.2.2.2.2.2.2.2.2.1
theorem d_Quad_leftTurnsBy_35 : decode prog_7_method_5_code 35 = .ok (.aload_n 0, 1) := F_Quad_leftTurnsBy_0.2.2.2.2.2.2.2.2.2.2.2.2.2.2.2.2.2.2.2.2.2.2.2.1
theorem d_Quad_leftTurnsBy_36 : decode prog_7_method_5_code 36 = .ok (.getfield 11, 3) := F_Quad_leftTurnsBy_0.2.2.2.2.2.2.2.2.2.2.2.2.2.2.2.2.2.2.2.2.2.2.2.2.1
theorem d_Quad_leftTurnsBy_39 : decode prog_7_method_5_code 39 = .ok (.iload 5, 2) := F_Quad_leftTurnsBy_0.2.2.2.2.2.2.2.2.2.2.2.2.2.2.2.2.2.2.2.2.2.2.2.2.2.1
theorem d_Quad_leftTurnsBy_41 : decode prog_7_method_5_code 41 = .ok (.iconst 3, 1) := F_Quad_leftTurnsBy_0.2.2.2.2.2.2.2.2.2.2.2.2.2.2.2.2.2.2.2.2.2.2.2.2.2.2.1
theorem d_Quad_leftTurnsBy_42 : decode prog_7_method_5_code 42 = .ok (.iand, 1) := F_Quad_leftTurnsBy_0.2.2.2.2.2.2.2.2.2.2.2.2.2.2.2.2.2.2.2.2.2.2.2.2.2.2.2.1
theorem d_Quad_leftTurnsBy_43 : decode prog_7_method_5_code 43 = .ok (.aaload, 1) := F_Quad_leftTurnsBy_0.2.2.2.2.2.2.2.2.2.2.2.2.2.2.2.2.2.2.2.2.2.2.2.2.2.2.2.2.1
theorem d_Quad_leftTurnsBy_44 : decode prog_7_method_5_code 44 = .ok (.invokestatic 30, 3) := F_Quad_leftTurnsBy_0.2.2.2.2.2.2.2.2.2.2.2.2.2.2.2.2.2.2.2.2.2.2.2.2.2.2.2.2.2.1
theorem d_Quad_leftTurnsBy_47 : decode prog_7_method_5_code 47 = .ok (.invokestatic 26, 3) := F_Quad_leftTurnsBy_0.2.2.2.2.2.2.2.2.2.2.2.2.2.2.2.2.2.2.2.2.2.2.2.2.2.2.2.2.2.2.1
theorem d_Quad_leftTurnsBy_50 : decode prog_7_method_5_code 50 = .ok (.imul, 1) := F_Quad_leftTurnsBy_0.2.2.2.2.2.2.2.2.2.2.2.2.2.2.2.2.2.2.2.2.2.2.2.2.2.2.2.2.2.2.2.1
theorem F_Quad_leftTurnsBy_51 : Jvm.Free.DS.Facts prog_7_method_5_code 51 [(.istore 4, 2), (.iinc 5 (1), 3), (.goto (-32), 3), (.iload 4, 2), (.ifCond .le (9), 3), (.iload_n 2, 1), (.iconst 1, 1), (.iload_n 3, 1), (.ishl, 1), (.ior, 1), (.istore_n 2, 1), (.iinc 3 (1), 3), (.goto (-69), 3), (.iload_n 2, 1), (.ireturn, 1)] := Jvm.Free.DS.facts 51 _ (by decide +kernel) (by decide +kernel)
theorem d_Quad_leftTurnsBy_51 : decode prog_7_method_5_code 51 = .ok (.istore 4, 2) := F_Quad_leftTurnsBy_51.1
theorem d_Quad_leftTurnsBy_53 : decode prog_7_method_5_code 53 = .ok (.iinc 5 (1), 3) := F_Quad_leftTurnsBy_51.2.1
theorem d_Quad_leftTurnsBy_56 : decode prog_7_method_5_code 56 = .ok (.goto (-32), 3) := F_Quad_leftTurnsBy_51.2.2.1
theorem d_Quad_leftTurnsBy_59 : decode prog_7_method_5_code 59 = .ok (.iload 4, 2) := F_Quad_leftTurnsBy_51.2.2.2.1
theorem d_Quad_leftTurnsBy_61 : decode prog_7_method_5_code 61 = .ok (.ifCond .le (9), 3) := F_Quad_leftTurnsBy_51.2.2.2.2.1
theorem d_Quad_leftTurnsBy_64 : decode prog_7_method_5_code 64 = .ok (.iload_n 2, 1) := F_Quad_leftTurnsBy_51.2.2.2.2.2.1
theorem d_Quad_leftTurnsBy_65 : decode prog_7_method_5_code 65 = .ok (.iconst 1, 1) := F_Quad_leftTurnsBy_51.2.2.2.2.2.2.1
theorem d_Quad_leftTurnsBy_66 : decode prog_7_method_5_code 66 = .ok (.iload_n 3, 1) := F_Quad_leftTurnsBy_51.2.2.2.2.2.2.2.1
theorem d_Quad_leftTurnsBy_67 : decode prog_7_method_5_code 67 = .ok (.ishl, 1) := F_Quad_leftTurnsBy_51.2.2.2.2.2.2.2.2.1
theorem d_Quad_leftTurnsBy_68 : decode prog_7_method_5_code 68 = .ok (.ior, 1) := F_Quad_leftTurnsBy_51.2.2.2.2.2.2.2.2.2.1
theorem d_Quad_leftTurnsBy_69 : decode prog_7_method_5_code 69 = .ok (.istore_n 2, 1) := F_Quad_leftTurnsBy_51.2.2.2.2.2.2.2.2.2.2.1
theorem d_Quad_leftTurnsBy_70 : decode prog_7_method_5_code 70 = .ok (.iinc 3 (1), 3) := F_Quad_leftTurnsBy_51.2.2.2.2.2.2.2.2.2.2.2.1
theorem d_Quad_leftTurnsBy_73 : decode prog_7_method_5_code 73 = .ok (.goto (-69), 3) := F_Quad_leftTurnsBy_51.2.2.2.2.2.2.2.2.2.2.2.2.1
theorem d_Quad_leftTurnsBy_76 : decode prog_7_method_5_code 76 = .ok (.iload_n 2, 1) := F_Quad_leftTurnsBy_51.2.2.2.2.2.2.2.2.2.2.2.2.2.1
theorem d_Quad_leftTurnsBy_77 : decode prog_7_method_5_code 77 = .ok (.ireturn, 1) := F_Quad_leftTurnsBy_51.2.2.2.2.2.2.2.2.2.2.2.2.2.2.1
theorem F_CM_symmetries_0 : Jvm.Free.DS.Facts prog_1_method_48_code 0 [(.aload_n 0, 1), (.getfield 12, 3), (.iload_n 1, 1), (.invokevirtual 127, 3), (.ifCond .eq (10), 3), (.iload_n 2, 1), (.invokestatic 385, 3), (.ifCond .ne (5), 3), (.iconst (-1), 1), (.ireturn, 1), (.iconst 0, 1), (.istore_n 3, 1), (.iconst 0, 1), (.istore 4, 2), (.iload 4, 2), (.bipush (24), 2), (.if_icmp .ge (54), 3), (.aload_n 0, 1), (.getfield 31, 3), (.aload_n 0, 1), (.getfield 12, 3), (.getfield 142, 3), (.iload_n 1, 1), (.aaload, 1), (.aload_n 0, 1), (.getfield 12, 3), (.getfield 142, 3), (.iload_n 1, 1), (.aaload, 1), (.iload 4, 2), (.aload_n 0, 1), (.getfield 65, 3)] := Jvm.Free.DS.facts 0 _ (by decide +kernel) (by decide +kernel)
theorem d_CM_symmetries_0 : decode prog_1_method_48_code 0 = .ok (.aload_n 0, 1) := F_CM_symmetries_0.1
theorem d_CM_symmetries_1 : decode prog_1_method_48_code 1 = .ok (.getfield 12, 3) := F_CM_symmetries_0.2.1
theorem d_CM_symmetries_4 : decode prog_1_method_48_code 4 = .ok (.iload_n 1, 1) := F_CM_symmetries_0.2.2.1
theorem d_CM_symmetries_5 : decode prog_1_method_48_code 5 = .ok (.invokevirtual 127, 3) := F_CM_symmetries_0.2.2.2.1
theorem d_CM_symmetries_8 : decode prog_1_method_48_code 8 = .ok (.ifCond .eq (10), 3) := F_CM_symmetries_0.2.2.2.2.1
theorem d_CM_symmetries_11 : decode prog_1_method_48_code 11 = .ok (.iload_n 2, 1) := F_CM_symmetries_0.2.2.2.2.2.1
theorem d_CM_symmetries_12 : decode prog_1_method_48_code 12 = .ok (.invokestatic 385, 3) := F_CM_symmetries_0.2.2.2.2.2.2.1
theorem d_CM_symmetries_15 : decode prog_1_method_48_code 15 = .ok (.ifCond .ne (5), 3) := F_CM_symmetries_0.2.2.2.2.2.2.2.1
theorem d_CM_symmetries_18 : decode prog_1_method_48_code 18 = .ok (.iconst (-1), 1) := F_CM_symmetries_0.2.2.2.2.2.2.2.2.1
theorem d_CM_symmetries_19 : decode prog_1_method_48_code 19 = .ok (.ireturn, 1) := F_CM_symmetries_0.2.2.2.2.2.2.2.2.2.1
theorem d_CM_symmetries_20 : decode prog_1_method_48_code 20 = .ok (.iconst 0, 1) := F_CM_symmetries_0.2.2.2.2.2.2.2.2.2.2.1
theorem d_CM_symmetries_21 : decode prog_1_method_48_code 21 = .ok (.istore_n 3, 1) := F_CM_symmetries_0.2.2.2.2.2.2.2.2.2.2.2.1
theorem d_CM_symmetries_22 : decode prog_1_method_48_code 22 = .ok (.iconst 0, 1) := F_CM_symmetries_0.2.2.2.2.2.2.2.2.2.2.2.2.1
theorem d_CM_symmetries_23 : decode prog_1_method_48_code 23 = .ok (.istore 4, 2) := F_CM_symmetries_0.2.2.2.2.2.2.2.2.2.2.2.2.2.1
theorem d_CM_symmetries_25 : decode prog_1_method_48_code 25 = .ok (.iload 4, 2) := F_CM_symmetries_0.2.2.2.2.2.2.2.2.2.2.2.2.2.2.1
theorem d_CM_symmetries_27 : decode prog_1_method_48_code 27 = .ok (.bipush (24), 2) := F_CM_symmetries_0.2.2.2.2.2.2.2.2.2.2.2.2.2.2.2.1
theorem d_CM_symmetries_29 : decode prog_1_method_48_code 29 = .ok (.if_icmp .ge (54), 3) := F_CM_symmetries_0.2.2.2.2.2.2.2.2.2.2.2.2.2.2.2.2.1
theorem d_CM_symmetries_32 : decode prog_1_method_48_code 32 = .ok (.aload_n 0, 1) := F_CM_symmetries_0.2.2.2.2.2.2.2.2.2.2.2.2.2.2.2.2.2.1
theorem d_CM_symmetries_33 : decode prog_1_method_48_code 33 = .ok (.getfield 31, 3) := F_CM_symmetries_0.2.2.2.2.2.2.2.2.2.2.2.2.2.2.2.2.2.2.1
theorem d_CM_symmetries_36 : decode prog_1_method_48_code 36 = .ok (.aload_n 0, 1) := F_CM_symmetries_0.2.2.2.2.2.2.2.2.2.2.2.2.2.2.2.2.2.2.2.1
theorem d_CM_symmetries_37 : decode prog_1_method_48_code 37 = .ok (.getfield 12, 3) := F_CM_symmetries_0.2.2.2.2.2.2.2.2.2.2.2.2.2.2.2.2.2.2.2.2.1
theorem d_CM_symmetries_40 : decode prog_1_method_48_code 40 = .ok (.getfield 142, 3) := F_CM_symmetries_0.2.2.2.2.2.2.2.2.2.2.2.2.2.2.2.2.2.2.2.2.2.1
theorem d_CM_symmetries_43 : decode prog_1_method_48_code 43 = .ok (.iload_n 1, 1) := F_CM_symmetries_0.2.2.2.2.2.2.2.2.2.2.2.2.2.2.2.2.2.2.2.2.2.2.1
theorem d_CM_symmetries_44 : decode prog_1_method_48_code 44 = .ok (.aaload, 1) := F_CM_symmetries_0.2.2.2.2.2.2.2.2.2.2.2.2.2.2.2.2.2.2.2.2.2.2.2.1
theorem d_CM_symmetries_45 : decode prog_1_method_48_code 45 = .ok (.aload_n 0, 1) := F_CM_symmetries_0.2.2.2.2.2.2.2.2.2.2.2.2.2.2.2.2.2.2.2.2.2.2.2.2.1
theorem d_CM_symmetries_46 : decode prog_1_method_48_code 46 = .ok (.getfield 12, 3) := F_CM_symmetries_0.2.2.2.2.2.2.2.2.2.2.2.2.2.2.2.2.2.2.2.2.2.2.2.2.2.1
theorem d_CM_symmetries_49 : decode prog_1_method_48_code 49 = .ok (.getfield 142, 3) := F_CM_symmetries_0.2.2.2.2.2.2.2.2.2.2.2.2.2.2.2.2.2.2.2.2.2.2.2.2.2.2.1
theorem d_CM_symmetries_52 : decode prog_1_method_48_code 52 = .ok (.iload_n 1, 1) := F_CM_symmetries_0.2.2.2.2.2.2.2.2.2.2.2.2.2.2.2.2.2.2.2.2.2.2.2.2.2.2.2.1
theorem d_CM_symmetries_53 : decode prog_1_method_48_code 53 = .ok (.aaload, 1) := F_CM_symmetries_0.2.2.2.2.2.2.2.2.2.2.2.2.2.2.2.2.2.2.2.2.2.2.2.2.2.2.2.2.1
theorem d_CM_symmetries_54 : decode prog_1_method_48_code 54 = .ok (.iload 4, 2) := F_CM_symmetries_0.2.2.2.2.2.2.2.2.2.2.2.2.2.2.2.2.2.2.2.2.2.2.2.2.2.2.2.2.2.1
theorem d_CM_symmetries_56 : decode prog_1_method_48_code 56 = .ok (.aload_n 0, 1) := F_CM_symmetries_0.2.2.2.2.2.2.2.2.2.2.2.2.2.2.2.2.2.2.2.2.2.2.2.2.2.2.2.2.2.2.1
theorem d_CM_symmetries_57 : decode prog_1_method_48_code 57 = .ok (.getfield 65, 3) := F_CM_symmetries_0.2.2.2.2.2.2.2.2.2.2.2.2.2.2.2.2.2.2.2.2.2.2.2.2.2.2.2.2.2.2.2.1
theorem F_CM_symmetries_60 : Jvm.Free.DS.Facts prog_1_method_48_code 60 [(.invokevirtual 184, 3), (.aload_n 0, 1), (.getfield 65, 3), (.invokestatic 294, 3), (.iload_n 2, 1), (.if_icmp .gt (6), 3), (.iinc 3 (1), 3), (.iinc 4 (1), 3), (.goto (-55), 3), (.iload_n 3, 1), (.ireturn, 1)] := Jvm.Free.DS.facts 60 _ (by decide +kernel) (by decide +kernel)
theorem d_CM_symmetries_60 : decode prog_1_method_48_code 60 = .ok (.invokevirtual 184, 3) := F_CM_symmetries_60.1
theorem d_CM_symmetries_63 : decode prog_1_method_48_code 63 = .ok (.aload_n 0, 1) := F_CM_symmetries_60.2.1
theorem d_CM_symmetries_64 : decode prog_1_method_48_code 64 = .ok (.getfield 65, 3) := F_CM_symmetries_60.2.2.1
theorem d_CM_symmetries_67 : decode prog_1_method_48_code 67 = .ok (.invokestatic 294, 3) := F_CM_symmetries_60.2.2.2.1
theorem d_CM_symmetries_70 : decode prog_1_method_48_code 70 = .ok (.iload_n 2, 1) := F_CM_symmetries_60.2.2.2.2.1
theorem d_CM_symmetries_71 : decode prog_1_method_48_code 71 = .ok (.if_icmp .gt (6), 3) := F_CM_symmetries_60.2.2.2.2.2.1
theorem d_CM_symmetries_74 : decode prog_1_method_48_code 74 = .ok (.iinc 3 (1), 3) := F_CM_symmetries_60.2.2.2.2.2.2.1
theorem d_CM_symmetries_77 : decode prog_1_method_48_code 77 = .ok (.iinc 4 (1), 3) := F_CM_symmetries_60.2.2.2.2.2.2.2.1
theorem d_CM_symmetries_80 : decode prog_1_method_48_code 80 = .ok (.goto (-55), 3) := F_CM_symmetries_60.2.2.2.2.2.2.2.2.1
theorem d_CM_symmetries_83 : decode prog_1_method_48_code 83 = .ok (.iload_n 3, 1) := F_CM_symmetries_60.2.2.2.2.2.2.2.2.2.1
theorem d_CM_symmetries_84 : decode prog_1_method_48_code 84 = .ok (.ireturn, 1) := F_CM_symmetries_60.2.2.2.2.2.2.2.2.2.2.1
theorem F_CM_isKind_0 : Jvm.Free.DS.Facts prog_1_method_77_code 0 [(.iload_n 0, 1), (.ifCond .lt (12), 3), (.iload_n 0, 1), (.iconst 5, 1), (.if_icmp .gt (7), 3), (.iconst 1, 1), (.goto (4), 3), (.iconst 0, 1), (.ireturn, 1)] := Jvm.Free.DS.facts 0 _ (by decide +kernel) (by decide +kernel)
theorem d_CM_isKind_0 : decode prog_1_method_77_code 0 = .ok (.iload_n 0, 1) := F_CM_isKind_0.1
theorem d_CM_isKind_1 : decode prog_1_method_77_code 1 = .ok (.ifCond .lt (12), 3) := F_CM_isKind_0.2.1
theorem d_CM_isKind_4 : decode prog_1_method_77_code 4 = .ok (.iload_n 0, 1) := F_CM_isKind_0.2.2.1
theorem d_CM_isKind_5 : decode prog_1_method_77_code 5 = .ok (.iconst 5, 1) := F_CM_isKind_0.2.2.2.1
theorem d_CM_isKind_6 : decode prog_1_method_77_code 6 = .ok (.if_icmp .gt (7), 3) := F_CM_isKind_0.2.2.2.2.1
theorem d_CM_isKind_9 : decode prog_1_method_77_code 9 = .ok (.iconst 1, 1) := F_CM_isKind_0.2.2.2.2.2.1
theorem d_CM_isKind_10 : decode prog_1_method_77_code 10 = .ok (.goto (4), 3) := F_CM_isKind_0.2.2.2.2.2.2.1
theorem d_CM_isKind_13 : decode prog_1_method_77_code 13 = .ok (.iconst 0, 1) := F_CM_isKind_0.2.2.2.2.2.2.2.1
theorem d_CM_isKind_14 : decode prog_1_method_77_code 14 = .ok (.ireturn, 1) := F_CM_isKind_0.2.2.2.2.2.2.2.2.1
theorem F_CM_symmetry_0 : Jvm.Free.DS.Facts prog_1_method_49_code 0 [(.aload_n 0, 1), (.getfield 12, 3), (.iload_n 1, 1), (.invokevirtual 127, 3), (.ifCond .eq (13), 3), (.iload_n 2, 1), (.ifCond .lt (9), 3), (.iload_n 2, 1), (.bipush (24), 2), (.if_icmp .lt (5), 3), (.iconst (-1), 1), (.ireturn, 1), (.aload_n 0, 1), (.getfield 31, 3), (.aload_n 0, 1), (.getfield 12, 3), (.getfield 142, 3), (.iload_n 1, 1), (.aaload, 1), (.aload_n 0, 1), (.getfield 12, 3), (.getfield 142, 3), (.iload_n 1, 1), (.aaload, 1), (.iload_n 2, 1), (.aload_n 0, 1), (.getfield 65, 3), (.invokevirtual 184, 3), (.aload_n 0, 1), (.aload_n 0, 1), (.getfield 65, 3), (.invokevirtual 188, 3)] := Jvm.Free.DS.facts 0 _ (by decide +kernel) (by decide +kernel)
theorem d_CM_symmetry_0 : decode prog_1_method_49_code 0 = .ok (.aload_n 0, 1) := F_CM_symmetry_0.1
theorem d_CM_symmetry_1 : decode prog_1_method_49_code 1 = .ok (.getfield 12, 3) := F_CM_symmetry_0.2.1
theorem d_CM_symmetry_4 : decode prog_1_method_49_code 4 = .ok (.iload_n 1, 1) := F_CM_symmetry_0.2.2.1
theorem d_CM_symmetry_5 : decode prog_1_method_49_code 5 = .ok (.invokevirtual 127, 3) := F_CM_symmetry_0.2.2.2.1
theorem d_CM_symmetry_8 : decode prog_1_method_49_code 8 = .ok (.ifCond .eq (13), 3) := F_CM_symmetry_0.2.2.2.2.1
theorem d_CM_symmetry_11 : decode prog_1_method_49_code 11 = .ok (.iload_n 2, 1) := F_CM_symmetry_0.2.2.2.2.2.1
theorem d_CM_symmetry_12 : decode prog_1_method_49_code 12 = .ok (.ifCond .lt (9), 3) := F_CM_symmetry_0.2.2.2.2.2.2.1
theorem d_CM_symmetry_15 : decode prog_1_method_49_code 15 = .ok (.iload_n 2, 1) := F_CM_symmetry_0.2.2.2.2.2.2.2.1
theorem d_CM_symmetry_16 : decode prog_1_method_49_code 16 = .ok (.bipush (24), 2) := F_CM_symmetry_0.2.2.2.2.2.2.2.2.1
theorem d_CM_symmetry_18 : decode prog_1_method_49_code 18 = .ok (.if_icmp .lt (5), 3) := F_CM_symmetry_0.2.2.2.2.2.2.2.2.2.1
theorem d_CM_symmetry_21 : decode prog_1_method_49_code 21 = .ok (.iconst (-1), 1) := F_CM_symmetry_0.2.2.2.2.2.2.2.2.2.2.1
theorem d_CM_symmetry_22 : decode prog_1_method_49_code 22 = .ok (.ireturn, 1) := F_CM_symmetry_0.2.2.2.2.2.2.2.2.2.2.2.1
theorem d_CM_symmetry_23 : decode prog_1_method_49_code 23 = .ok (.aload_n 0, 1) := F_CM_symmetry_0.2.2.2.2.2.2.2.2.2.2.2.2.1
theorem d_CM_symmetry_24 : decode prog_1_method_49_code 24 = .ok (.getfield 31, 3) := F_CM_symmetry_0.2.2.2.2.2.2.2.2.2.2.2.2.2.1
theorem d_CM_symmetry_27 : decode prog_1_method_49_code 27 = .ok (.aload_n 0, 1) := F_CM_symmetry_0.2.2.2.2.2.2.2.2.2.2.2.2.2.2.1
theorem d_CM_symmetry_28 : decode prog_1_method_49_code 28 = .ok (.getfield 12, 3) := F_CM_symmetry_0.2.2.2.2.2.2.2.2.2.2.2.2.2.2.2.1
theorem d_CM_symmetry_31 : decode prog_1_method_49_code 31 = .ok (.getfield 142, 3) := F_CM_symmetry_0.2.2.2.2.2.2.2.2.2.2.2.2.2.2.2.2.1
theorem d_CM_symmetry_34 : decode prog_1_method_49_code 34 = .ok (.iload_n 1, 1) := F_CM_symmetry_0.2.2.2.2.2.2.2.2.2.2.2.2.2.2.2.2.2.1
theorem d_CM_symmetry_35 : decode prog_1_method_49_code 35 = .ok (.aaload, 1) := F_CM_symmetry_0.2.2.2.2.2.2.2.2.2.2.2.2.2.2.2.2.2.2.1
theorem d_CM_symmetry_36 : decode prog_1_method_49_code 36 = .ok (.aload_n 0, 1) := F_CM_symmetry_0.2.2.2.2.2.2.2.2.2.2.2.2.2.2.2.2.2.2.2.1
theorem d_CM_symmetry_37 : decode prog_1_method_49_code 37 = .ok (.getfield 12, 3) := F_CM_symmetry_0.2.2.2.2.2.2.2.2.2.2.2.2.2.2.2.2.2.2.2.2.1
theorem d_CM_symmetry_40 : decode prog_1_method_49_code 40 = .ok (.getfield 142, 3) := F_CM_symmetry_0.2.2.2.2.2.2.2.2.2.2.2.2.2.2.2.2.2.2.2.2.2.1
theorem d_CM_symmetry_43 : decode prog_1_method_49_code 43 = .ok (.iload_n 1, 1) := F_CM_symmetry_0.2.2.2.2.2.2.2.2.2.2.2.2.2.2.2.2.2.2.2.2.2.2.1
theorem d_CM_symmetry_44 : decode prog_1_method_49_code 44 = .ok (.aaload, 1) := F_CM_symmetry_0.2.2.2.2.2.2.2.2.2.2.2.2.2.2.2.2.2.2.2.2.2.2.2.1
theorem d_CM_symmetry_45 : decode prog_1_method_49_code 45 = .ok (.iload_n 2, 1) := F_CM_symmetry_0.2.2.2.2.2.2.2.2.2.2.2.2.2.2.2.2.2.2.2.2.2.2.2.2.1
theorem d_CM_symmetry_46 : decode prog_1_method_49_code 46 = .ok (.aload_n 0, 1) := F_CM_symmetry_0.2.2.2.2.2.2.2.2.2.2.2.2.2.2.2.2.2.2.2.2.2.2.2.2.2.1
theorem d_CM_symmetry_47 : decode prog_1_method_49_code 47 = .ok (.getfield 65, 3) := F_CM_symmetry_0.2.2.2.2.2.2.2.2.2.2.2.2.2.2.2.2.2.2.2.2.2.2.2.2.2.2.1
theorem d_CM_symmetry_50 : decode prog_1_method_49_code 50 = .ok (.invokevirtual 184, 3) := F_CM_symmetry_0.2.2.2.2.2.2.2.2.2.2.2.2.2.2.2.2.2.2.2.2.2.2.2.2.2.2.2.1
theorem d_CM_symmetry_53 : decode prog_1_method_49_code 53 = .ok (.aload_n 0, 1) := F_CM_symmetry_0.2.2.2.2.2.2.2.2.2.2.2.2.2.2.2.2.2.2.2.2.2.2.2.2.2.2.2.2.1
theorem d_CM_symmetry_54 : decode prog_1_method_49_code 54 = .ok (.aload_n 0, 1) := F_CM_symmetry_0.2.2.2.2.2.2.2.2.2.2.2.2.2.2.2.2.2.2.2.2.2.2.2.2.2.2.2.2.2.1
theorem d_CM_symmetry_55 : decode prog_1_method_49_code 55 = .ok (.getfield 65, 3) := F_CM_symmetry_0.2.2.2.2.2.2.2.2.2.2.2.2.2.2.2.2.2.2.2.2.2.2.2.2.2.2.2.2.2.2.1
theorem d_CM_symmetry_58 : decode prog_1_method_49_code 58 = .ok (.invokevirtual 188, 3) := F_CM_symmetry_0.2.2.2.2.2.2.2.2.2.2.2.2.2.2.2.2.2.2.2.2.2.2.2.2.2.2.2.2.2.2.2.1
theorem F_CM_symmetry_61 : Jvm.Free.DS.Facts prog_1_method_49_code 61 [(.ireturn, 1)] := Jvm.Free.DS.facts 61 _ (by decide +kernel) (by decide +kernel)
theorem d_CM_symmetry_61 : decode prog_1_method_49_code 61 = .ok (.ireturn, 1) := F_CM_symmetry_61.1
theorem F_CM_word_0 : Jvm.Free.DS.Facts prog_1_method_50_code 0 [(.aload_n 0, 1), (.getfield 12, 3), (.iload_n 1, 1), (.invokevirtual 151, 3), (.ifCond .eq (8), 3), (.iload_n 2, 1), (.iconst (-1), 1), (.if_icmp .ge (5), 3), (.iconst (-1), 1), (.ireturn, 1), (.aload_n 0, 1), (.iload_n 1, 1), (.invokevirtual 388, 3), (.istore_n 3, 1), (.iload_n 3, 1), (.ifCond .eq (8), 3), (.iload_n 2, 1), (.iload_n 3, 1), (.if_icmp .lt (6), 3), (.bipush (-2), 2), (.ireturn, 1), (.iload_n 2, 1), (.iconst (-1), 1), (.if_icmp .ne (7), 3), (.iload_n 3, 1), (.goto (9), 3), (.aload_n 0, 1), (.getfield 95, 3), (.iload_n 2, 1), (.iaload, 1), (.ireturn, 1)] := Jvm.Free.DS.facts 0 _ (by decide +kernel) (by decide +kernel)
theorem d_CM_word_0 : decode prog_1_method_50_code 0 = .ok (.aload_n 0, 1) := F_CM_word_0.1
theorem d_CM_word_1 : decode prog_1_method_50_code 1 = .ok (.getfield 12, 3) := F_CM_word_0.2.1
theorem d_CM_word_4 : decode prog_1_method_50_code 4 = .ok (.iload_n 1, 1) := F_CM_word_0.2.2.1
theorem d_CM_word_5 : decode prog_1_method_50_code 5 = .ok (.invokevirtual 151, 3) := F_CM_word_0.2.2.2.1
theorem d_CM_word_8 : decode prog_1_method_50_code 8 = .ok (.ifCond .eq (8), 3) := F_CM_word_0.2.2.2.2.1
theorem d_CM_word_11 : decode prog_1_method_50_code 11 = .ok (.iload_n 2, 1) := F_CM_word_0.2.2.2.2.2.1
theorem d_CM_word_12 : decode prog_1_method_50_code 12 = .ok (.iconst (-1), 1) := F_CM_word_0.2.2.2.2.2.2.1
theorem d_CM_word_13 : decode prog_1_method_50_code 13 = .ok (.if_icmp .ge (5), 3) := F_CM_word_0.2.2.2.2.2.2.2.1
theorem d_CM_word_16 : decode prog_1_method_50_code 16 = .ok (.iconst (-1), 1) := F_CM_word_0.2.2.2.2.2.2.2.2.1
theorem d_CM_word_17 : decode prog_1_method_50_code 17 = .ok (.ireturn, 1) := F_CM_word_0.2.2.2.2.2.2.2.2.2.1
theorem d_CM_word_18 : decode prog_1_method_50_code 18 = .ok (.aload_n 0, 1) := F_CM_word_0.2.2.2.2.2.2.2.2.2.2.1
theorem d_CM_word_19 : decode prog_1_method_50_code 19 = .ok (.iload_n 1, 1) := F_CM_word_0.2.2.2.2.2.2.2.2.2.2.2.1
theorem d_CM_word_20 : decode prog_1_method_50_code 20 = .ok (.invokevirtual 388, 3) := F_CM_word_0.2.2.2.2.2.2.2.2.2.2.2.2.1
theorem d_CM_word_23 : decode prog_1_method_50_code 23 = .ok (.istore_n 3, 1) := F_CM_word_0.2.2.2.2.2.2.2.2.2.2.2.2.2.1
theorem d_CM_word_24 : decode prog_1_method_50_code 24 = .ok (.iload_n 3, 1) := F_CM_word_0.2.2.2.2.2.2.2.2.2.2.2.2.2.2.1
theorem d_CM_word_25 : decode prog_1_method_50_code 25 = .ok (.ifCond .eq (8), 3) := F_CM_word_0.2.2.2.2.2.2.2.2.2.2.2.2.2.2.2.1
theorem d_CM_word_28 : decode prog_1_method_50_code 28 = .ok (.iload_n 2, 1) := F_CM_word_0.2.2.2.2.2.2.2.2.2.2.2.2.2.2.2.2.1
theorem d_CM_word_29 : decode prog_1_method_50_code 29 = .ok (.iload_n 3, 1) := F_CM_word_0.2.2.2.2.2.2.2.2.2.2.2.2.2.2.2.2.2.1
theorem d_CM_word_30 : decode prog_1_method_50_code 30 = .ok (.if_icmp .lt (6), 3) := F_CM_word_0.2.2.2.2.2.2.2.2.2.2.2.2.2.2.2.2.2.2.1
theorem d_CM_word_33 : decode prog_1_method_50_code 33 = .ok (.bipush (-2), 2) := F_CM_word_0.2.2.2.2.2.2.2.2.2.2.2.2.2.2.2.2.2.2.2.1
theorem d_CM_word_35 : decode prog_1_method_50_code 35 = .ok (.ireturn, 1) := F_CM_word_0.2.2.2.2.2.2.2.2.2.2.2.2.2.2.2.2.2.2.2.2.1
theorem d_CM_word_36 : decode prog_1_method_50_code 36 = .ok (.iload_n 2, 1) := F_CM_word_0.2.2.2.2.2.2.2.2.2.2.2.2.2.2.2.2.2.2.2.2.2.1
theorem d_CM_word_37 : decode prog_1_method_50_code 37 = .ok (.iconst (-1), 1) := F_CM_word_0.2.2.2.2.2.2.2.2.2.2.2.2.2.2.2.2.2.2.2.2.2.2.1
theorem d_CM_word_38 : decode prog_1_method_50_code 38 = .ok (.if_icmp .ne (7), 3) := F_CM_word_0.2.2.2.2.2.2.2.2.2.2.2.2.2.2.2.2.2.2.2.2.2.2.2.1
theorem d_CM_word_41 : decode prog_1_method_50_code 41 = .ok (.iload_n 3, 1) := F_CM_word_0.2.2.2.2.2.2.2.2.2.2.2.2.2.2.2.2.2.2.2.2.2.2.2.2.1
theorem d_CM_word_42 : decode prog_1_method_50_code 42 = .ok (.goto (9), 3) := F_CM_word_0.2.2.2.2.2.2.2.2.2.2.2.2.2.2.2.2.2.2.2.2.2.2.2.2.2.1
theorem d_CM_word_45 : decode prog_1_method_50_code 45 = .ok (.aload_n 0, 1) := F_CM_word_0.2.2.2.2.2.2.2.2.2.2.2.2.2.2.2.2.2.2.2.2.2.2.2.2.2.2.1
theorem d_CM_word_46 : decode prog_1_method_50_code 46 = .ok (.getfield 95, 3) := F_CM_word_0.2.2.2.2.2.2.2.2.2.2.2.2.2.2.2.2.2.2.2.2.2.2.2.2.2.2.2.1
theorem d_CM_word_49 : decode prog_1_method_50_code 49 = .ok (.iload_n 2, 1) := F_CM_word_0.2.2.2.2.2.2.2.2.2.2.2.2.2.2.2.2.2.2.2.2.2.2.2.2.2.2.2.2.1
theorem d_CM_word_50 : decode prog_1_method_50_code 50 = .ok (.iaload, 1) := F_CM_word_0.2.2.2.2.2.2.2.2.2.2.2.2.2.2.2.2.2.2.2.2.2.2.2.2.2.2.2.2.2.1
theorem d_CM_word_51 : decode prog_1_method_50_code 51 = .ok (.ireturn, 1) := F_CM_word_0.2.2.2.2.2.2.2.2.2.2.2.2.2.2.2.2.2.2.2.2.2.2.2.2.2.2.2.2.2.2.1
theorem F_CM_findWord_0 : Jvm.Free.DS.Facts prog_1_method_102_code 0 [(.aload_n 0, 1), (.iload_n 1, 1), (.invokevirtual 458, 3), (.ifCond .eq (5), 3), (.iconst 1, 1), (.ireturn, 1), (.aload_n 0, 1), (.getfield 54, 3), (.aload_n 0, 1), (.getfield 12, 3), (.invokevirtual 391, 3), (.aload_n 0, 1), (.iload_n 1, 1), (.invokevirtual 461, 3), (.ifCond .eq (5), 3), (.iconst 2, 1), (.ireturn, 1), (.aload_n 0, 1), (.iload_n 1, 1), (.invokevirtual 464, 3), (.ifCond .eq (7), 3), (.iconst 3, 1), (.goto (4), 3), (.iconst 0, 1), (.ireturn, 1)] := Jvm.Free.DS.facts 0 _ (by decide +kernel) (by decide +kernel)
theorem d_CM_findWord_0 : decode prog_1_method_102_code 0 = .ok (.aload_n 0, 1) := F_CM_findWord_0.1
theorem d_CM_findWord_1 : decode prog_1_method_102_code 1 = .ok (.iload_n 1, 1) := F_CM_findWord_0.2.1
theorem d_CM_findWord_2 : decode prog_1_method_102_code 2 = .ok (.invokevirtual 458, 3) := F_CM_findWord_0.2.2.1
theorem d_CM_findWord_5 : decode prog_1_method_102_code 5 = .ok (.ifCond .eq (5), 3) := F_CM_findWord_0.2.2.2.1
theorem d_CM_findWord_8 : decode prog_1_method_102_code 8 = .ok (.iconst 1, 1) := F_CM_findWord_0.2.2.2.2.1
theorem d_CM_findWord_9 : decode prog_1_method_102_code 9 = .ok (.ireturn, 1) := F_CM_findWord_0.2.2.2.2.2.1
theorem d_CM_findWord_10 : decode prog_1_method_102_code 10 = .ok (.aload_n 0, 1) := F_CM_findWord_0.2.2.2.2.2.2.1
theorem d_CM_findWord_11 : decode prog_1_method_102_code 11 = .ok (.getfield 54, 3) := F_CM_findWord_0.2.2.2.2.2.2.2.1
theorem d_CM_findWord_14 : decode prog_1_method_102_code 14 = .ok (.aload_n 0, 1) := F_CM_findWord_0.2.2.2.2.2.2.2.2.1
theorem d_CM_findWord_15 : decode prog_1_method_102_code 15 = .ok (.getfield 12, 3) := F_CM_findWord_0.2.2.2.2.2.2.2.2.2.1
theorem d_CM_findWord_18 : decode prog_1_method_102_code 18 = .ok (.invokevirtual 391, 3) := F_CM_findWord_0.2.2.2.2.2.2.2.2.2.2.1
theorem d_CM_findWord_21 : decode prog_1_method_102_code 21 = .ok (.aload_n 0, 1) := F_CM_findWord_0.2.2.2.2.2.2.2.2.2.2.2.1
theorem d_CM_findWord_22 : decode prog_1_method_102_code 22 = .ok (.iload_n 1, 1) := F_CM_findWord_0.2.2.2.2.2.2.2.2.2.2.2.2.1
theorem d_CM_findWord_23 : decode prog_1_method_102_code 23 = .ok (.invokevirtual 461, 3) := F_CM_findWord_0.2.2.2.2.2.2.2.2.2.2.2.2.2.1
theorem d_CM_findWord_26 : decode prog_1_method_102_code 26 = .ok (.ifCond .eq (5), 3) := F_CM_findWord_0.2.2.2.2.2.2.2.2.2.2.2.2.2.2.1
theorem d_CM_findWord_29 : decode prog_1_method_102_code 29 = .ok (.iconst 2, 1) := F_CM_findWord_0.2.2.2.2.2.2.2.2.2.2.2.2.2.2.2.1
theorem d_CM_findWord_30 : decode prog_1_method_102_code 30 = .ok (.ireturn, 1) := F_CM_findWord_0.2.2.2.2.2.2.2.2.2.2.2.2.2.2.2.2.1
theorem d_CM_findWord_31 : decode prog_1_method_102_code 31 = .ok (.aload_n 0, 1) := F_CM_findWord_0.2.2.2.2.2.2.2.2.2.2.2.2.2.2.2.2.2.1
theorem d_CM_findWord_32 : decode prog_1_method_102_code 32 = .ok (.iload_n 1, 1) := F_CM_findWord_0.2.2.2.2.2.2.2.2.2.2.2.2.2.2.2.2.2.2.1
theorem d_CM_findWord_33 : decode prog_1_method_102_code 33 = .ok (.invokevirtual 464, 3) := F_CM_findWord_0.2.2.2.2.2.2.2.2.2.2.2.2.2.2.2.2.2.2.2.1
theorem d_CM_findWord_36 : decode prog_1_method_102_code 36 = .ok (.ifCond .eq (7), 3) := F_CM_findWord_0.2.2.2.2.2.2.2.2.2.2.2.2.2.2.2.2.2.2.2.2.1
theorem d_CM_findWord_39 : decode prog_1_method_102_code 39 = .ok (.iconst 3, 1) := F_CM_findWord_0.2.2.2.2.2.2.2.2.2.2.2.2.2.2.2.2.2.2.2.2.2.1
theorem d_CM_findWord_40 : decode prog_1_method_102_code 40 = .ok (.goto (4), 3) := F_CM_findWord_0.2.2.2.2.2.2.2.2.2.2.2.2.2.2.2.2.2.2.2.2.2.2.1
theorem d_CM_findWord_43 : decode prog_1_method_102_code 43 = .ok (.iconst 0, 1) := F_CM_findWord_0.2.2.2.2.2.2.2.2.2.2.2.2.2.2.2.2.2.2.2.2.2.2.2.1
theorem d_CM_findWord_44 : decode prog_1_method_102_code 44 = .ok (.ireturn, 1) := F_CM_findWord_0.2.2.2.2.2.2.2.2.2.2.2.2.2.2.2.2.2.2.2.2.2.2.2.2.1
theorem F_CM_findOne_0 : Jvm.Free.DS.Facts prog_1_method_103_code 0 [(.iconst 0, 1), (.istore_n 2, 1), (.iload_n 2, 1), (.aload_n 0, 1), (.getfield 12, 3), (.getfield 225, 3), (.if_icmp .ge (47), 3), (.iload_n 2, 1), (.iload_n 1, 1), (.if_icmp .eq (36), 3), (.aload_n 0, 1), (.getfield 12, 3), (.getfield 157, 3), (.iload_n 2, 1), (.aaload, 1), (.aload_n 0, 1), (.getfield 12, 3), (.getfield 157, 3), (.iload_n 1, 1), (.aaload, 1), (.invokestatic 306, 3), (.ifCond .eq (12), 3), (.aload_n 0, 1), (.getfield 95, 3), (.iconst 0, 1), (.iload_n 2, 1), (.iastore, 1), (.iconst 1, 1), (.ireturn, 1), (.iinc 2 (1), 3), (.goto (-52), 3), (.iconst 0, 1)] := Jvm.Free.DS.facts 0 _ (by decide +kernel) (by decide +kernel)
theorem d_CM_findOne_0 : decode prog_1_method_103_code 0 = .ok (.iconst 0, 1) := F_CM_findOne_0.1
theorem d_CM_findOne_1 : decode prog_1_method_103_code 1 = .ok (.istore_n 2, 1) := F_CM_findOne_0.2.1
theorem d_CM_findOne_2 : decode prog_1_method_103_code 2 = .ok (.iload_n 2, 1) := F_CM_findOne_0.2.2.1
theorem d_CM_findOne_3 : decode prog_1_method_103_code 3 = .ok (.aload_n 0, 1) := F_CM_findOne_0.2.2.2.1
theorem d_CM_findOne_4 : decode prog_1_method_103_code 4 = .ok (.getfield 12, 3) := F_CM_findOne_0.2.2.2.2.1
theorem d_CM_findOne_7 : decode prog_1_method_103_code 7 = .ok (.getfield 225, 3) := F_CM_findOne_0.2.2.2.2.2.1
theorem d_CM_findOne_10 : decode prog_1_method_103_code 10 = .ok (.if_icmp .ge (47), 3) := F_CM_findOne_0.2.2.2.2.2.2.1
theorem d_CM_findOne_13 : decode prog_1_method_103_code 13 = .ok (.iload_n 2, 1) := F_CM_findOne_0.2.2.2.2.2.2.2.1
theorem d_CM_findOne_14 : decode prog_1_method_103_code 14 = .ok (.iload_n 1, 1) := F_CM_findOne_0.2.2.2.2.2.2.2.2.1
theorem d_CM_findOne_15 : decode prog_1_method_103_code 15 = .ok (.if_icmp .eq (36), 3) := F_CM_findOne_0.2.2.2.2.2.2.2.2.2.1
theorem d_CM_findOne_18 : decode prog_1_method_103_code 18 = .ok (.aload_n 0, 1) := F_CM_findOne_0.2.2.2.2.2.2.2.2.2.2.1
theorem d_CM_findOne_19 : decode prog_1_method_103_code 19 = .ok (.getfield 12, 3) := F_CM_findOne_0.2.2.2.2.2.2.2.2.2.2.2.1
theorem d_CM_findOne_22 : decode prog_1_method_103_code 22 = .ok (.getfield 157, 3) := F_CM_findOne_0.2.2.2.2.2.2.2.2.2.2.2.2.1
theorem d_CM_findOne_25 : decode prog_1_method_103_code 25 = .ok (.iload_n 2, 1) := F_CM_findOne_0.2.2.2.2.2.2.2.2.2.2.2.2.2.1
theorem d_CM_findOne_26 : decode prog_1_method_103_code 26 = .ok (.aaload, 1) := F_CM_findOne_0.2.2.2.2.2.2.2.2.2.2.2.2.2.2.1
theorem d_CM_findOne_27 : decode prog_1_method_103_code 27 = .ok (.aload_n 0, 1) := F_CM_findOne_0.2.2.2.2.2.2.2.2.2.2.2.2.2.2.2.1
theorem d_CM_findOne_28 : decode prog_1_method_103_code 28 = .ok (.getfield 12, 3) := F_CM_findOne_0.2.2.2.2.2.2.2.2.2.2.2.2.2.2.2.2.1
theorem d_CM_findOne_31 : decode prog_1_method_103_code 31 = .ok (.getfield 157, 3) := F_CM_findOne_0.2.2.2.2.2.2.2.2.2.2.2.2.2.2.2.2.2.1
theorem d_CM_findOne_34 : decode prog_1_method_103_code 34 = .ok (.iload_n 1, 1) := F_CM_findOne_0.2.2.2.2.2.2.2.2.2.2.2.2.2.2.2.2.2.2.1
theorem d_CM_findOne_35 : decode prog_1_method_103_code 35 = .ok (.aaload, 1) := F_CM_findOne_0.2.2.2.2.2.2.2.2.2.2.2.2.2.2.2.2.2.2.2.1
theorem d_CM_findOne_36 : decode prog_1_method_103_code 36 = .ok (.invokestatic 306, 3) := F_CM_findOne_0.2.2.2.2.2.2.2.2.2.2.2.2.2.2.2.2.2.2.2.2.1
theorem d_CM_findOne_39 : decode prog_1_method_103_code 39 = .ok (.ifCond .eq (12), 3) := F_CM_findOne_0.2.2.2.2.2.2.2.2.2.2.2.2.2.2.2.2.2.2.2.2.2.1
theorem d_CM_findOne_42 : decode prog_1_method_103_code 42 = .ok (.aload_n 0, 1) := F_CM_findOne_0.2.2.2.2.2.2.2.2.2.2.2.2.2.2.2.2.2.2.2.2.2.2.1
theorem d_CM_findOne_43 : decode prog_1_method_103_code 43 = .ok (.getfield 95, 3) := F_CM_findOne_0.2.2.2.2.2.2.2.2.2.2.2.2.2.2.2.2.2.2.2.2.2.2.2.1
theorem d_CM_findOne_46 : decode prog_1_method_103_code 46 = .ok (.iconst 0, 1) := F_CM_findOne_0.2.2.2.2.2.2.2.2.2.2.2.2.2.2.2.2.2.2.2.2.2.2.2.2.1
theorem d_CM_findOne_47 : decode prog_1_method_103_code 47 = .ok (.iload_n 2, 1) := F_CM_findOne_0.2.2.2.2.2.2.2.2.2.2.2.2.2.2.2.2.2.2.2.2.2.2.2.2.2.1
theorem d_CM_findOne_48 : decode prog_1_method_103_code 48 = .ok (.iastore, 1) := F_CM_findOne_0.2.2.2.2.2.2.2.2.2.2.2.2.2.2.2.2.2.2.2.2.2.2.2.2.2.2.1
theorem d_CM_findOne_49 : decode prog_1_method_103_code 49 = .ok (.iconst 1, 1) := F_CM_findOne_0.2.2.2.2.2.2.2.2.2.2.2.2.2.2.2.2.2.2.2.2.2.2.2.2.2.2.2.1
theorem d_CM_findOne_50 : decode prog_1_method_103_code 50 = .ok (.ireturn, 1) := F_CM_findOne_0.2.2.2.2.2.2.2.2.2.2.2.2.2.2.2.2.2.2.2.2.2.2.2.2.2.2.2.2.1
theorem d_CM_findOne_51 : decode prog_1_method_103_code 51 = .ok (.iinc 2 (1), 3) := F_CM_findOne_0.2.2.2.2.2.2.2.2.2.2.2.2.2.2.2.2.2.2.2.2.2.2.2.2.2.2.2.2.2.1
theorem d_CM_findOne_54 : decode prog_1_method_103_code 54 = .ok (.goto (-52), 3) := F_CM_findOne_0.2.2.2.2.2.2.2.2.2.2.2.2.2.2.2.2.2.2.2.2.2.2.2.2.2.2.2.2.2.2.1
theorem d_CM_findOne_57 : decode prog_1_method_103_code 57 = .ok (.iconst 0, 1) := F_CM_findOne_0.2.2.2.2.2.2.2.2.2.2.2.2.2.2.2.2.2.2.2.2.2.2.2.2.2.2.2.2.2.2.2.1
theorem F_CM_findOne_58 : Jvm.Free.DS.Facts prog_1_method_103_code 58 [(.ireturn, 1)] := Jvm.Free.DS.facts 58 _ (by decide +kernel) (by decide +kernel)
theorem d_CM_findOne_58 : decode prog_1_method_103_code 58 = .ok (.ireturn, 1) := F_CM_findOne_58.1
theorem F_Pairs_fill_0 : Jvm.Free.DS.Facts prog_4_method_2_code 0 [(.aload_n 0, 1), (.aload_n 1, 1), (.getfield 16, 3), (.putfield 22, 3), (.aload_n 0, 1), (.aload_n 0, 1), (.getfield 22, 3), (.aload_n 0, 1), (.getfield 22, 3), (.imul, 1), (.putfield 25, 3), (.iconst 0, 1), (.istore_n 2, 1), (.iload_n 2, 1), (.aload_n 0, 1), (.getfield 22, 3), (.if_icmp .ge (53), 3), (.iconst 0, 1), (.istore_n 3, 1), (.iload_n 3, 1), (.aload_n 0, 1), (.getfield 22, 3), (.if_icmp .ge (37), 3), (.aload_n 1, 1), (.getfield 28, 3), (.iload_n 2, 1), (.aaload, 1), (.aload_n 1, 1), (.getfield 28, 3), (.iload_n 3, 1), (.aaload, 1), (.aload_n 0, 1)] := Jvm.Free.DS.facts 0 _ (by decide +kernel) (by decide +kernel)
theorem d_Pairs_fill_0 : decode prog_4_method_2_code 0 = .ok (.aload_n 0, 1) := F_Pairs_fill_0.1
theorem d_Pairs_fill_1 : decode prog_4_method_2_code 1 = .ok (.aload_n 1, 1) := F_Pairs_fill_0.2.1
theorem d_Pairs_fill_2 : decode prog_4_method_2_code 2 = .ok (.getfield 16, 3) := F_Pairs_fill_0.2.2.1
theorem d_Pairs_fill_5 : decode prog_4_method_2_code 5 = .ok (.putfield 22, 3) := F_Pairs_fill_0.2.2.2.1
theorem d_Pairs_fill_8 : decode prog_4_method_2_code 8 = .ok (.aload_n 0, 1) := F_Pairs_fill_0.2.2.2.2.1
theorem d_Pairs_fill_9 : decode prog_4_method_2_code 9 = .ok (.aload_n 0, 1) := F_Pairs_fill_0.2.2.2.2.2.1
theorem d_Pairs_fill_10 : decode prog_4_method_2_code 10 = .ok (.getfield 22, 3) := F_Pairs_fill_0.2.2.2.2.2.2.1
theorem d_Pairs_fill_13 : decode prog_4_method_2_code 13 = .ok (.aload_n 0, 1) := F_Pairs_fill_0.2.2.2.2.2.2.2.1
theorem d_Pairs_fill_14 : decode prog_4_method_2_code 14 = .ok (.getfield 22, 3) := F_Pairs_fill_0.2.2.2.2.2.2.2.2.1
theorem d_Pairs_fill_17 : decode prog_4_method_2_code 17 = .ok (.imul, 1) := F_Pairs_fill_0.2.2.2.2.2.2.2.2.2.1
theorem d_Pairs_fill_18 : decode prog_4_method_2_code 18 = .ok (.putfield 25, 3) := F_Pairs_fill_0.2.2.2.2.2.2.2.2.2.2.1
theorem d_Pairs_fill_21 : decode prog_4_method_2_code 21 = .ok (.iconst 0, 1) := F_Pairs_fill_0.2.2.2.2.2.2.2.2.2.2.2.1
theorem d_Pairs_fill_22 : decode prog_4_method_2_code 22 = .ok (.istore_n 2, 1) := F_Pairs_fill_0.2.2.2.2.2.2.2.2.2.2.2.2.1
theorem d_Pairs_fill_23 : decode prog_4_method_2_code 23 = .ok (.iload_n 2, 1) := F_Pairs_fill_0.2.2.2.2.2.2.2.2.2.2.2.2.2.1
theorem d_Pairs_fill_24 : decode prog_4_method_2_code 24 = .ok (.aload_n 0, 1) := F_Pairs_fill_0.2.2.2.2.2.2.2.2.2.2.2.2.2.2.1
theorem d_Pairs_fill_25 : decode prog_4_method_2_code 25 = .ok (.getfield 22, 3) := F_Pairs_fill_0.2.2.2.2.2.2.2.2.2.2.2.2.2.2.2.1
theorem d_Pairs_fill_28 : decode prog_4_method_2_code 28 = .ok (.if_icmp .ge (53), 3) := F_Pairs_fill_0.2.2.2.2.2.2.2.2.2.2.2.2.2.2.2.2.1
theorem d_Pairs_fill_31 : decode prog_4_method_2_code 31 = .ok (.iconst 0, 1) := F_Pairs_fill_0.2.2.2.2.2.2.2.2.2.2.2.2.2.2.2.2.2.1
theorem d_Pairs_fill_32 : decode prog_4_method_2_code 32 = .ok (.istore_n 3, 1) := F_Pairs_fill_0.2.2.2.2.2.2.2.2.2.2.2.2.2.2.2.2.2.2.1
theorem d_Pairs_fill_33 : decode prog_4_method_2_code 33 = .ok (.iload_n 3, 1) := F_Pairs_fill_0.2.2.2.2.2.2.2.2.2.2.2.2.2.2.2.2.2.2.2.1
theorem d_Pairs_fill_34 : decode prog_4_method_2_code 34 = .ok (.aload_n 0, 1) := F_Pairs_fill_0.2.2.2.2.2.2.2.2.2.2.2.2.2.2.2.2.2.2.2.2.1
theorem d_Pairs_fill_35 : decode prog_4_method_2_code 35 = .ok (.getfield 22, 3) := F_Pairs_fill_0.2.2.2.2.2.2.2.2.2.2.2.2.2.2.2.2.2.2.2.2.2.1
theorem d_Pairs_fill_38 : decode prog_4_method_2_code 38 = .ok (.if_icmp .ge (37), 3) := F_Pairs_fill_0.2.2.2.2.2.2.2.2.2.2.2.2.2.2.2.2.2.2.2.2.2.2.1
theorem d_Pairs_fill_41 : decode prog_4_method_2_code 41 = .ok (.aload_n 1, 1) := F_Pairs_fill_0.2.2.2.2.2.2.2.2.2.2.2.2.2.2.2.2.2.2.2.2.2.2.2.1
theorem d_Pairs_fill_42 : decode prog_4_method_2_code 42 = .ok (.getfield 28, 3) := F_Pairs_fill_0.2.2.2.2.2.2.2.2.2.2.2.2.2.2.2.2.2.2.2.2.2.2.2.2.1
theorem d_Pairs_fill_45 : decode prog_4_method_2_code 45 = .ok (.iload_n 2, 1) := F_Pairs_fill_0.2.2.2.2.2.2.2.2.2.2.2.2.2.2.2.2.2.2.2.2.2.2.2.2.2.1
theorem d_Pairs_fill_46 : decode prog_4_method_2_code 46 = .ok (.aaload, 1) := F_Pairs_fill_0.2.2.2.2.2.2.2.2.2.2.2.2.2.2.2.2.2.2.2.2.2.2.2.2.2.2.1
theorem d_Pairs_fill_47 : decode prog_4_method_2_code 47 = .ok (.aload_n 1, 1) := F_Pairs_fill_0.2.2.2.2.2.2.2.2.2.2.2.2.2.2.2.2.2.2.2.2.2.2.2.2.2.2.2.1
theorem d_Pairs_fill_48 : decode prog_4_method_2_code 48 = .ok (.getfield 28, 3) := F_Pairs_fill_0.2.2.2.2.2.2.2.2.2.2.2.2.2.2.2.2.2.2.2.2.2.2.2.2.2.2.2.2.1
theorem d_Pairs_fill_51 : decode prog_4_method_2_code 51 = .ok (.iload_n 3, 1) := F_Pairs_fill_0.2.2.2.2.2.2.2.2.2.2.2.2.2.2.2.2.2.2.2.2.2.2.2.2.2.2.2.2.2.1
theorem d_Pairs_fill_52 : decode prog_4_method_2_code 52 = .ok (.aaload, 1) := F_Pairs_fill_0.2.2.2.2.2.2.2.2.2.2.2.2.2.2.2.2.2.2.2.2.2.2.2.2.2.2.2.2.2.2.1
theorem d_Pairs_fill_53 : decode prog_4_method_2_code 53 = .ok (.aload_n 0, 1) := F_Pairs_fill_0.2.2.2.2.2.2.2.2.2.2.2.2.2.2.2.2.2.2.2.2.2.2.2.2.2.2.2.2.2.2.2.1
theorem F_Pairs_fill_54 : Jvm.Free.DS.Facts prog_4_method_2_code 54 [(.getfield 11, 3), (.aload_n 0, 1), (.getfield 22, 3), (.iload_n 2, 1), (.imul, 1), (.iload_n 3, 1), (.iadd, 1), (.aaload, 1), (.invokestatic 31, 3), (.iinc 3 (1), 3), (.goto (-39), 3), (.iinc 2 (1), 3), (.goto (-55), 3), (.return_, 1)] := Jvm.Free.DS.facts 54 _ (by decide +kernel) (by decide +kernel)
theorem d_Pairs_fill_54 : decode prog_4_method_2_code 54 = .ok (.getfield 11, 3) := F_Pairs_fill_54.1
theorem d_Pairs_fill_57 : decode prog_4_method_2_code 57 = .ok (.aload_n 0, 1) := F_Pairs_fill_54.2.1
theorem d_Pairs_fill_58 : decode prog_4_method_2_code 58 = .ok (.getfield 22, 3) := F_Pairs_fill_54.2.2.1
theorem d_Pairs_fill_61 : decode prog_4_method_2_code 61 = .ok (.iload_n 2, 1) := F_Pairs_fill_54.2.2.2.1
theorem d_Pairs_fill_62 : decode prog_4_method_2_code 62 = .ok (.imul, 1) := F_Pairs_fill_54.2.2.2.2.1
theorem d_Pairs_fill_63 : decode prog_4_method_2_code 63 = .ok (.iload_n 3, 1) := F_Pairs_fill_54.2.2.2.2.2.1
theorem d_Pairs_fill_64 : decode prog_4_method_2_code 64 = .ok (.iadd, 1) := F_Pairs_fill_54.2.2.2.2.2.2.1
theorem d_Pairs_fill_65 : decode prog_4_method_2_code 65 = .ok (.aaload, 1) := F_Pairs_fill_54.2.2.2.2.2.2.2.1
theorem d_Pairs_fill_66 : decode prog_4_method_2_code 66 = .ok (.invokestatic 31, 3) := F_Pairs_fill_54.2.2.2.2.2.2.2.2.1
theorem d_Pairs_fill_69 : decode prog_4_method_2_code 69 = .ok (.iinc 3 (1), 3) := F_Pairs_fill_54.2.2.2.2.2.2.2.2.2.1
theorem d_Pairs_fill_72 : decode prog_4_method_2_code 72 = .ok (.goto (-39), 3) := F_Pairs_fill_54.2.2.2.2.2.2.2.2.2.2.1
theorem d_Pairs_fill_75 : decode prog_4_method_2_code 75 = .ok (.iinc 2 (1), 3) := F_Pairs_fill_54.2.2.2.2.2.2.2.2.2.2.2.1
theorem d_Pairs_fill_78 : decode prog_4_method_2_code 78 = .ok (.goto (-55), 3) := F_Pairs_fill_54.2.2.2.2.2.2.2.2.2.2.2.2.1
theorem d_Pairs_fill_81 : decode prog_4_method_2_code 81 = .ok (.return_, 1) := F_Pairs_fill_54.2.2.2.2.2.2.2.2.2.2.2.2.2.1
theorem F_CM_findTwo_0 : Jvm.Free.DS.Facts prog_1_method_104_code 0 [(.iconst 0, 1), (.istore_n 2, 1), (.iload_n 2, 1), (.aload_n 0, 1), (.getfield 12, 3), (.getfield 225, 3), (.if_icmp .ge (78), 3), (.iconst 0, 1), (.istore_n 3, 1), (.iload_n 3, 1), (.aload_n 0, 1), (.getfield 12, 3), (.getfield 225, 3), (.if_icmp .ge (59), 3), (.iload_n 2, 1), (.iload_n 1, 1), (.if_icmp .eq (48), 3), (.iload_n 3, 1), (.iload_n 1, 1), (.if_icmp .eq (43), 3), (.aload_n 0, 1), (.getfield 54, 3), (.iload_n 2, 1), (.iload_n 3, 1), (.invokevirtual 467, 3), (.aload_n 0, 1), (.getfield 12, 3), (.getfield 157, 3), (.iload_n 1, 1), (.aaload, 1), (.invokestatic 306, 3), (.ifCond .eq (19), 3)] := Jvm.Free.DS.facts 0 _ (by decide +kernel) (by decide +kernel)
theorem d_CM_findTwo_0 : decode prog_1_method_104_code 0 = .ok (.iconst 0, 1) := F_CM_findTwo_0.1
theorem d_CM_findTwo_1 : decode prog_1_method_104_code 1 = .ok (.istore_n 2, 1) := F_CM_findTwo_0.2.1
theorem d_CM_findTwo_2 : decode prog_1_method_104_code 2 = .ok (.iload_n 2, 1) := F_CM_findTwo_0.2.2.1
theorem d_CM_findTwo_3 : decode prog_1_method_104_code 3 = .ok (.aload_n 0, 1) := F_CM_findTwo_0.2.2.2.1
theorem d_CM_findTwo_4 : decode prog_1_method_104_code 4 = .ok (.getfield 12, 3) := F_CM_findTwo_0.2.2.2.2.1
theorem d_CM_findTwo_7 : decode prog_1_method_104_code 7 = .ok (.getfield 225, 3) := F_CM_findTwo_0.2.2.2.2.2.1
theorem d_CM_findTwo_10 : decode prog_1_method_104_code 10 = .ok (.if_icmp .ge (78), 3) := F_CM_findTwo_0.2.2.2.2.2.2.1
theorem d_CM_findTwo_13 : decode prog_1_method_104_code 13 = .ok (.iconst 0, 1) := F_CM_findTwo_0.2.2.2.2.2.2.2.1
theorem d_CM_findTwo_14 : decode prog_1_method_104_code 14 = .ok (.istore_n 3, 1) := F_CM_findTwo_0.2.2.2.2.2.2.2.2.1
theorem d_CM_findTwo_15 : decode prog_1_method_104_code 15 = .ok (.iload_n 3, 1) := F_CM_findTwo_0.2.2.2.2.2.2.2.2.2.1
theorem d_CM_findTwo_16 : decode prog_1_method_104_code 16 = .ok (.aload_n 0, 1) := F_CM_findTwo_0.2.2.2.2.2.2.2.2.2.2.1
theorem d_CM_findTwo_17 : decode prog_1_method_104_code 17 = .ok (.getfield 12, 3) := F_CM_findTwo_0.2.2.2.2.2.2.2.2.2.2.2.1
theorem d_CM_findTwo_20 : decode prog_1_method_104_code 20 = .ok (.getfield 225, 3) := F_CM_findTwo_0.2.2.2.2.2.2.2.2.2.2.2.2.1
theorem d_CM_findTwo_23 : decode prog_1_method_104_code 23 = .ok (.if_icmp .ge (59), 3) := F_CM_findTwo_0.2.2.2.2.2.2.2.2.2.2.2.2.2.1
theorem d_CM_findTwo_26 : decode prog_1_method_104_code 26 = .ok (.iload_n 2, 1) := F_CM_findTwo_0.2.2.2.2.2.2.2.2.2.2.2.2.2.2.1
theorem d_CM_findTwo_27 : decode prog_1_method_104_code 27 = .ok (.iload_n 1, 1) := F_CM_findTwo_0.2.2.2.2.2.2.2.2.2.2.2.2.2.2.2.1
theorem d_CM_findTwo_28 : decode prog_1_method_104_code 28 = .ok (.if_icmp .eq (48), 3) := F_CM_findTwo_0.2.2.2.2.2.2.2.2.2.2.2.2.2.2.2.2.1
theorem d_CM_findTwo_31 : decode prog_1_method_104_code 31 = .ok (.iload_n 3, 1) := F_CM_findTwo_0.2.2.2.2.2.2.2.2.2.2.2.2.2.2.2.2.2.1
theorem d_CM_findTwo_32 : decode prog_1_method_104_code 32 = .ok (.iload_n 1, 1) := F_CM_findTwo_0.2.2.2.2.2.2.2.2.2.2.2.2.2.2.2.2.2.2.1
theorem d_CM_findTwo_33 : decode prog_1_method_104_code 33 = .ok (.if_icmp .eq (43), 3) := F_CM_findTwo_0.2.2.2.2.2.2.2.2.2.2.2.2.2.2.2.2.2.2.2.1
theorem d_CM_findTwo_36 : decode prog_1_method_104_code 36 = .ok (.aload_n 0, 1) := F_CM_findTwo_0.2.2.2.2.2.2.2.2.2.2.2.2.2.2.2.2.2.2.2.2.1
theorem d_CM_findTwo_37 : decode prog_1_method_104_code 37 = .ok (.getfield 54, 3) := F_CM_findTwo_0.2.2.2.2.2.2.2.2.2.2.2.2.2.2.2.2.2.2.2.2.2.1
theorem d_CM_findTwo_40 : decode prog_1_method_104_code 40 = .ok (.iload_n 2, 1) := F_CM_findTwo_0.2.2.2.2.2.2.2.2.2.2.2.2.2.2.2.2.2.2.2.2.2.2.1
theorem d_CM_findTwo_41 : decode prog_1_method_104_code 41 = .ok (.iload_n 3, 1) := F_CM_findTwo_0.2.2.2.2.2.2.2.2.2.2.2.2.2.2.2.2.2.2.2.2.2.2.2.1
theorem d_CM_findTwo_42 : decode prog_1_method_104_code 42 = .ok (.invokevirtual 467, 3) := F_CM_findTwo_0.2.2.2.2.2.2.2.2.2.2.2.2.2.2.2.2.2.2.2.2.2.2.2.2.1
theorem d_CM_findTwo_45 : decode prog_1_method_104_code 45 = .ok (.aload_n 0, 1) := F_CM_findTwo_0.2.2.2.2.2.2.2.2.2.2.2.2.2.2.2.2.2.2.2.2.2.2.2.2.2.1
theorem d_CM_findTwo_46 : decode prog_1_method_104_code 46 = .ok (.getfield 12, 3) := F_CM_findTwo_0.2.2.2.2.2.2.2.2.2.2.2.2.2.2.2.2.2.2.2.2.2.2.2.2.2.2.1
theorem d_CM_findTwo_49 : decode prog_1_method_104_code 49 = .ok (.getfield 157, 3) := F_CM_findTwo_0.2.2.2.2.2.2.2.2.2.2.2.2.2.2.2.2.2.2.2.2.2.2.2.2.2.2.2.1
theorem d_CM_findTwo_52 : decode prog_1_method_104_code 52 = .ok (.iload_n 1, 1) := F_CM_findTwo_0.2.2.2.2.2.2.2.2.2.2.2.2.2.2.2.2.2.2.2.2.2.2.2.2.2.2.2.2.1
theorem d_CM_findTwo_53 : decode prog_1_method_104_code 53 = .ok (.aaload, 1) := F_CM_findTwo_0.2.2.2.2.2.2.2.2.2.2.2.2.2.2.2.2.2.2.2.2.2.2.2.2.2.2.2.2.2.1
theorem d_CM_findTwo_54 : decode prog_1_method_104_code 54 = .ok (.invokestatic 306, 3) := F_CM_findTwo_0.2.2.2.2.2.2.2.2.2.2.2.2.2.2.2.2.2.2.2.2.2.2.2.2.2.2.2.2.2.2.1
theorem d_CM_findTwo_57 : decode prog_1_method_104_code 57 = .ok (.ifCond .eq (19), 3) := F_CM_findTwo_0.2.2.2.2.2.2.2.2.2.2.2.2.2.2.2.2.2.2.2.2.2.2.2.2.2.2.2.2.2.2.2.1
theorem F_CM_findTwo_60 : Jvm.Free.DS.Facts prog_1_method_104_code 60 [(.aload_n 0, 1), (.getfield 95, 3), (.iconst 0, 1), (.iload_n 2, 1), (.iastore, 1), (.aload_n 0, 1), (.getfield 95, 3), (.iconst 1, 1), (.iload_n 3, 1), (.iastore, 1), (.iconst 1, 1), (.ireturn, 1), (.iinc 3 (1), 3), (.goto (-64), 3), (.iinc 2 (1), 3), (.goto (-83), 3), (.iconst 0, 1), (.ireturn, 1)] := Jvm.Free.DS.facts 60 _ (by decide +kernel) (by decide +kernel)
theorem d_CM_findTwo_60 : decode prog_1_method_104_code 60 = .ok (.aload_n 0, 1) := F_CM_findTwo_60.1
theorem d_CM_findTwo_61 : decode prog_1_method_104_code 61 = .ok (.getfield 95, 3) := F_CM_findTwo_60.2.1
theorem d_CM_findTwo_64 : decode prog_1_method_104_code 64 = .ok (.iconst 0, 1) := F_CM_findTwo_60.2.2.1
theorem d_CM_findTwo_65 : decode prog_1_method_104_code 65 = .ok (.iload_n 2, 1) := F_CM_findTwo_60.2.2.2.1
theorem d_CM_findTwo_66 : decode prog_1_method_104_code 66 = .ok (.iastore, 1) := F_CM_findTwo_60.2.2.2.2.1
theorem d_CM_findTwo_67 : decode prog_1_method_104_code 67 = .ok (.aload_n 0, 1) := F_CM_findTwo_60.2.2.2.2.2.1
theorem d_CM_findTwo_68 : decode prog_1_method_104_code 68 = .ok (.getfield 95, 3) := F_CM_findTwo_60.2.2.2.2.2.2.1
theorem d_CM_findTwo_71 : decode prog_1_method_104_code 71 = .ok (.iconst 1, 1) := F_CM_findTwo_60.2.2.2.2.2.2.2.1
theorem d_CM_findTwo_72 : decode prog_1_method_104_code 72 = .ok (.iload_n 3, 1) := F_CM_findTwo_60.2.2.2.2.2.2.2.2.1
theorem d_CM_findTwo_73 : decode prog_1_method_104_code 73 = .ok (.iastore, 1) := F_CM_findTwo_60.2.2.2.2.2.2.2.2.2.1
theorem d_CM_findTwo_74 : decode prog_1_method_104_code 74 = .ok (.iconst 1, 1) := F_CM_findTwo_60.2.2.2.2.2.2.2.2.2.2.1
theorem d_CM_findTwo_75 : decode prog_1_method_104_code 75 = .ok (.ireturn, 1) := F_CM_findTwo_60.2.2.2.2.2.2.2.2.2.2.2.1
theorem d_CM_findTwo_76 : decode prog_1_method_104_code 76 = .ok (.iinc 3 (1), 3) := F_CM_findTwo_60.2.2.2.2.2.2.2.2.2.2.2.2.1
theorem d_CM_findTwo_79 : decode prog_1_method_104_code 79 = .ok (.goto (-64), 3) := F_CM_findTwo_60.2.2.2.2.2.2.2.2.2.2.2.2.2.1
theorem d_CM_findTwo_82 : decode prog_1_method_104_code 82 = .ok (.iinc 2 (1), 3) := F_CM_findTwo_60.2.2.2.2.2.2.2.2.2.2.2.2.2.2.1
theorem d_CM_findTwo_85 : decode prog_1_method_104_code 85 = .ok (.goto (-83), 3) := F_CM_findTwo_60.2.2.2.2.2.2.2.2.2.2.2.2.2.2.2.1
theorem d_CM_findTwo_88 : decode prog_1_method_104_code 88 = .ok (.iconst 0, 1) := F_CM_findTwo_60.2.2.2.2.2.2.2.2.2.2.2.2.2.2.2.2.1
theorem d_CM_findTwo_89 : decode prog_1_method_104_code 89 = .ok (.ireturn, 1) := F_CM_findTwo_60.2.2.2.2.2.2.2.2.2.2.2.2.2.2.2.2.2.1
theorem F_Pairs_of_0 : Jvm.Free.DS.Facts prog_4_method_3_code 0 [(.aload_n 0, 1), (.getfield 11, 3), (.aload_n 0, 1), (.getfield 22, 3), (.iload_n 1, 1), (.imul, 1), (.iload_n 2, 1), (.iadd, 1), (.aaload, 1), (.areturn, 1)] := Jvm.Free.DS.facts 0 _ (by decide +kernel) (by decide +kernel)
theorem d_Pairs_of_0 : decode prog_4_method_3_code 0 = .ok (.aload_n 0, 1) := F_Pairs_of_0.1
theorem d_Pairs_of_1 : decode prog_4_method_3_code 1 = .ok (.getfield 11, 3) := F_Pairs_of_0.2.1
theorem d_Pairs_of_4 : decode prog_4_method_3_code 4 = .ok (.aload_n 0, 1) := F_Pairs_of_0.2.2.1
theorem d_Pairs_of_5 : decode prog_4_method_3_code 5 = .ok (.getfield 22, 3) := F_Pairs_of_0.2.2.2.1
theorem d_Pairs_of_8 : decode prog_4_method_3_code 8 = .ok (.iload_n 1, 1) := F_Pairs_of_0.2.2.2.2.1
theorem d_Pairs_of_9 : decode prog_4_method_3_code 9 = .ok (.imul, 1) := F_Pairs_of_0.2.2.2.2.2.1
theorem d_Pairs_of_10 : decode prog_4_method_3_code 10 = .ok (.iload_n 2, 1) := F_Pairs_of_0.2.2.2.2.2.2.1
theorem d_Pairs_of_11 : decode prog_4_method_3_code 11 = .ok (.iadd, 1) := F_Pairs_of_0.2.2.2.2.2.2.2.1
theorem d_Pairs_of_12 : decode prog_4_method_3_code 12 = .ok (.aaload, 1) := F_Pairs_of_0.2.2.2.2.2.2.2.2.1
theorem d_Pairs_of_13 : decode prog_4_method_3_code 13 = .ok (.areturn, 1) := F_Pairs_of_0.2.2.2.2.2.2.2.2.2.1
theorem F_CM_findThree_0 : Jvm.Free.DS.Facts prog_1_method_105_code 0 [(.iconst 0, 1), (.istore_n 2, 1), (.iload_n 2, 1), (.aload_n 0, 1), (.getfield 12, 3), (.getfield 225, 3), (.if_icmp .ge (116), 3), (.iconst 0, 1), (.istore_n 3, 1), (.iload_n 3, 1), (.aload_n 0, 1), (.getfield 12, 3), (.getfield 225, 3), (.if_icmp .ge (97), 3), (.iconst 0, 1), (.istore 4, 2), (.iload 4, 2), (.aload_n 0, 1), (.getfield 12, 3), (.getfield 225, 3), (.if_icmp .ge (76), 3), (.iload_n 2, 1), (.iload_n 1, 1), (.if_icmp .eq (65), 3), (.iload_n 3, 1), (.iload_n 1, 1), (.if_icmp .eq (60), 3), (.iload 4, 2), (.iload_n 1, 1), (.if_icmp .eq (54), 3), (.aload_n 0, 1), (.iload_n 2, 1)] := Jvm.Free.DS.facts 0 _ (by decide +kernel) (by decide +kernel)
theorem d_CM_findThree_0 : decode prog_1_method_105_code 0 = .ok (.iconst 0, 1) := F_CM_findThree_0.1
theorem d_CM_findThree_1 : decode prog_1_method_105_code 1 = .ok (.istore_n 2, 1) := F_CM_findThree_0.2.1
theorem d_CM_findThree_2 : decode prog_1_method_105_code 2 = .ok (.iload_n 2, 1) := F_CM_findThree_0.2.2.1
theorem d_CM_findThree_3 : decode prog_1_method_105_code 3 = .ok (.aload_n 0, 1) := F_CM_findThree_0.2.2.2.1
theorem d_CM_findThree_4 : decode prog_1_method_105_code 4 = .ok (.getfield 12, 3) := F_CM_findThree_0.2.2.2.2.1
theorem d_CM_findThree_7 : decode prog_1_method_105_code 7 = .ok (.getfield 225, 3) := F_CM_findThree_0.2.2.2.2.2.1
theorem d_CM_findThree_10 : decode prog_1_method_105_code 10 = .ok (.if_icmp .ge (116), 3) := F_CM_findThree_0.2.2.2.2.2.2.1
theorem d_CM_findThree_13 : decode prog_1_method_105_code 13 = .ok (.iconst 0, 1) := F_CM_findThree_0.2.2.2.2.2.2.2.1
theorem d_CM_findThree_14 : decode prog_1_method_105_code 14 = .ok (.istore_n 3, 1) := F_CM_findThree_0.2.2.2.2.2.2.2.2.1
theorem d_CM_findThree_15 : decode prog_1_method_105_code 15 = .ok (.iload_n 3, 1) := F_CM_findThree_0.2.2.2.2.2.2.2.2.2.1
theorem d_CM_findThree_16 : decode prog_1_method_105_code 16 = .ok (.aload_n 0, 1) := F_CM_findThree_0.2.2.2.2.2.2.2.2.2.2.1
theorem d_CM_findThree_17 : decode prog_1_method_105_code 17 = .ok (.getfield 12, 3) := F_CM_findThree_0.2.2.2.2.2.2.2.2.2.2.2.1
theorem d_CM_findThree_20 : decode prog_1_method_105_code 20 = .ok (.getfield 225, 3) := F_CM_findThree_0.2.2.2.2.2.2.2.2.2.2.2.2.1
theorem d_CM_findThree_23 : decode prog_1_method_105_code 23 = .ok (.if_icmp .ge (97), 3) := F_CM_findThree_0.2.2.2.2.2.2.2.2.2.2.2.2.2.1
theorem d_CM_findThree_26 : decode prog_1_method_105_code 26 = .ok (.iconst 0, 1) := F_CM_findThree_0.2.2.2.2.2.2.2.2.2.2.2.2.2.2.1
theorem d_CM_findThree_27 : decode prog_1_method_105_code 27 = .ok (.istore 4, 2) := F_CM_findThree_0.2.2.2.2.2.2.2.2.2.2.2.2.2.2.2.1
theorem d_CM_findThree_29 : decode prog_1_method_105_code 29 = .ok (.iload 4, 2) := F_CM_findThree_0.2.2.2.2.2.2.2.2.2.2.2.2.2.2.2.2.1
theorem d_CM_findThree_31 : decode prog_1_method_105_code 31 = .ok (.aload_n 0, 1) := F_CM_findThree_0.2.2.2.2.2.2.2.2.2.2.2.2.2.2.2.2.2.1
theorem d_CM_findThree_32 : decode prog_1_method_105_code 32 = .ok (.getfield 12, 3) := F_CM_findThree_0.2.2.2.2.2.2.2.2.2.2.2.2.2.2.2.2.2.2.1
theorem d_CM_findThree_35 : decode prog_1_method_105_code 35 = .ok (.getfield 225, 3) := F_CM_findThree_0.2.2.2.2.2.2.2.2.2.2.2.2.2.2.2.2.2.2.2.1
theorem d_CM_findThree_38 : decode prog_1_method_105_code 38 = .ok (.if_icmp .ge (76), 3) := F_CM_findThree_0.2.2.2.2.2.2.2.2.2.2.2.2.2.2.2.2.2.2.2.2.1
theorem d_CM_findThree_41 : decode prog_1_method_105_code 41 = .ok (.iload_n 2, 1) := F_CM_findThree_0.2.2.2.2.2.2.2.2.2.2.2.2.2.2.2.2.2.2.2.2.2.1
theorem d_CM_findThree_42 : decode prog_1_method_105_code 42 = .ok (.iload_n 1, 1) := F_CM_findThree_0.2.2.2.2.2.2.2.2.2.2.2.2.2.2.2.2.2.2.2.2.2.2.1
theorem d_CM_findThree_43 : decode prog_1_method_105_code 43 = .ok (.if_icmp .eq (65), 3) := F_CM_findThree_0.2.2.2.2.2.2.2.2.2.2.2.2.2.2.2.2.2.2.2.2.2.2.2.1
theorem d_CM_findThree_46 : decode prog_1_method_105_code 46 = .ok (.iload_n 3, 1) := F_CM_findThree_0.2.2.2.2.2.2.2.2.2.2.2.2.2.2.2.2.2.2.2.2.2.2.2.2.1
theorem d_CM_findThree_47 : decode prog_1_method_105_code 47 = .ok (.iload_n 1, 1) := F_CM_findThree_0.2.2.2.2.2.2.2.2.2.2.2.2.2.2.2.2.2.2.2.2.2.2.2.2.2.1
theorem d_CM_findThree_48 : decode prog_1_method_105_code 48 = .ok (.if_icmp .eq (60), 3) := F_CM_findThree_0.2.2.2.2.2.2.2.2.2.2.2.2.2.2.2.2.2.2.2.2.2.2.2.2.2.2.1
theorem d_CM_findThree_51 : decode prog_1_method_105_code 51 = .ok (.iload 4, 2) := F_CM_findThree_0.2.2.2.2.2.2.2.2.2.2.2.2.2.2.2.2.2.2.2.2.2.2.2.2.2.2.2.1
theorem d_CM_findThree_53 : decode prog_1_method_105_code 53 = .ok (.iload_n 1, 1) := F_CM_findThree_0.2.2.2.2.2.2.2.2.2.2.2.2.2.2.2.2.2.2.2.2.2.2.2.2.2.2.2.2.1
theorem d_CM_findThree_54 : decode prog_1_method_105_code 54 = .ok (.if_icmp .eq (54), 3) := F_CM_findThree_0.2.2.2.2.2.2.2.2.2.2.2.2.2.2.2.2.2.2.2.2.2.2.2.2.2.2.2.2.2.1
theorem d_CM_findThree_57 : decode prog_1_method_105_code 57 = .ok (.aload_n 0, 1) := F_CM_findThree_0.2.2.2.2.2.2.2.2.2.2.2.2.2.2.2.2.2.2.2.2.2.2.2.2.2.2.2.2.2.2.1
theorem d_CM_findThree_58 : decode prog_1_method_105_code 58 = .ok (.iload_n 2, 1) := F_CM_findThree_0.2.2.2.2.2.2.2.2.2.2.2.2.2.2.2.2.2.2.2.2.2.2.2.2.2.2.2.2.2.2.2.1
theorem F_CM_findThree_59 : Jvm.Free.DS.Facts prog_1_method_105_code 59 [(.aload_n 0, 1), (.getfield 54, 3), (.iload_n 3, 1), (.iload 4, 2), (.invokevirtual 467, 3), (.aload_n 0, 1), (.getfield 12, 3), (.getfield 157, 3), (.iload_n 1, 1), (.aaload, 1), (.invokevirtual 471, 3), (.ifCond .eq (27), 3), (.aload_n 0, 1), (.getfield 95, 3), (.iconst 0, 1), (.iload_n 2, 1), (.iastore, 1), (.aload_n 0, 1), (.getfield 95, 3), (.iconst 1, 1), (.iload_n 3, 1), (.iastore, 1), (.aload_n 0, 1), (.getfield 95, 3), (.iconst 2, 1), (.iload 4, 2), (.iastore, 1), (.iconst 1, 1), (.ireturn, 1), (.iinc 4 (1), 3), (.goto (-82), 3), (.iinc 3 (1), 3)] := Jvm.Free.DS.facts 59 _ (by decide +kernel) (by decide +kernel)
theorem d_CM_findThree_59 : decode prog_1_method_105_code 59 = .ok (.aload_n 0, 1) := F_CM_findThree_59.1
theorem d_CM_findThree_60 : decode prog_1_method_105_code 60 = .ok (.getfield 54, 3) := F_CM_findThree_59.2.1
theorem d_CM_findThree_63 : decode prog_1_method_105_code 63 = .ok (.iload_n 3, 1) := F_CM_findThree_59.2.2.1
theorem d_CM_findThree_64 : decode prog_1_method_105_code 64 = .ok (.iload 4, 2) := F_CM_findThree_59.2.2.2.1
theorem d_CM_findThree_66 : decode prog_1_method_105_code 66 = .ok (.invokevirtual 467, 3) := F_CM_findThree_59.2.2.2.2.1
theorem d_CM_findThree_69 : decode prog_1_method_105_code 69 = .ok (.aload_n 0, 1) := F_CM_findThree_59.2.2.2.2.2.1
theorem d_CM_findThree_70 : decode prog_1_method_105_code 70 = .ok (.getfield 12, 3) := F_CM_findThree_59.2.2.2.2.2.2.1
theorem d_CM_findThree_73 : decode prog_1_method_105_code 73 = .ok (.getfield 157, 3) := F_CM_findThree_59.2.2.2.2.2.2.2.1
theorem d_CM_findThree_76 : decode prog_1_method_105_code 76 = .ok (.iload_n 1, 1) := F_CM_findThree_59.2.2.2.2.2.2.2.2.1
theorem d_CM_findThree_77 : decode prog_1_method_105_code 77 = .ok (.aaload, 1) := F_CM_findThree_59.2.2.2.2.2.2.2.2.2.1
theorem d_CM_findThree_78 : decode prog_1_method_105_code 78 = .ok (.invokevirtual 471, 3) := F_CM_findThree_59.2.2.2.2.2.2.2.2.2.2.1
theorem d_CM_findThree_81 : decode prog_1_method_105_code 81 = .ok (.ifCond .eq (27), 3) := F_CM_findThree_59.2.2.2.2.2.2.2.2.2.2.2.1
theorem d_CM_findThree_84 : decode prog_1_method_105_code 84 = .ok (.aload_n 0, 1) := F_CM_findThree_59.2.2.2.2.2.2.2.2.2.2.2.2.1
theorem d_CM_findThree_85 : decode prog_1_method_105_code 85 = .ok (.getfield 95, 3) := F_CM_findThree_59.2.2.2.2.2.2.2.2.2.2.2.2.2.1
theorem d_CM_findThree_88 : decode prog_1_method_105_code 88 = .ok (.iconst 0, 1) := F_CM_findThree_59.2.2.2.2.2.2.2.2.2.2.2.2.2.2.1
theorem d_CM_findThree_89 : decode prog_1_method_105_code 89 = .ok (.iload_n 2, 1) := F_CM_findThree_59.2.2.2.2.2.2.2.2.2.2.2.2.2.2.2.1
theorem d_CM_findThree_90 : decode prog_1_method_105_code 90 = .ok (.iastore, 1) := F_CM_findThree_59.2.2.2.2.2.2.2.2.2.2.2.2.2.2.2.2.1
theorem d_CM_findThree_91 : decode prog_1_method_105_code 91 = .ok (.aload_n 0, 1) := F_CM_findThree_59.2.2.2.2.2.2.2.2.2.2.2.2.2.2.2.2.2.1
theorem d_CM_findThree_92 : decode prog_1_method_105_code 92 = .ok (.getfield 95, 3) := F_CM_findThree_59.2.2.2.2.2.2.2.2.2.2.2.2.2.2.2.2.2.2.1
theorem d_CM_findThree_95 : decode prog_1_method_105_code 95 = .ok (.iconst 1, 1) := F_CM_findThree_59.2.2.2.2.2.2.2.2.2.2.2.2.2.2.2.2.2.2.2.1
theorem d_CM_findThree_96 : decode prog_1_method_105_code 96 = .ok (.iload_n 3, 1) := F_CM_findThree_59.2.2.2.2.2.2.2.2.2.2.2.2.2.2.2.2.2.2.2.2.1
theorem d_CM_findThree_97 : decode prog_1_method_105_code 97 = .ok (.iastore, 1) := F_CM_findThree_59.2.2.2.2.2.2.2.2.2.2.2.2.2.2.2.2.2.2.2.2.2.1
theorem d_CM_findThree_98 : decode prog_1_method_105_code 98 = .ok (.aload_n 0, 1) := F_CM_findThree_59.2.2.2.2.2.2.2.2.2.2.2.2.2.2.2.2.2.2.2.2.2.2.1
theorem d_CM_findThree_99 : decode prog_1_method_105_code 99 = .ok (.getfield 95, 3) := F_CM_findThree_59.2.2.2.2.2.2.2.2.2.2.2.2.2.2.2.2.2.2.2.2.2.2.2.1
theorem d_CM_findThree_102 : decode prog_1_method_105_code 102 = .ok (.iconst 2, 1) := F_CM_findThree_59.2.2.2.2.2.2.2.2.2.2.2.2.2.2.2.2.2.2.2.2.2.2.2.2.1
theorem d_CM_findThree_103 : decode prog_1_method_105_code 103 = .ok (.iload 4, 2) := F_CM_findThree_59.2.2.2.2.2.2.2.2.2.2.2.2.2.2.2.2.2.2.2.2.2.2.2.2.2.1
theorem d_CM_findThree_105 : decode prog_1_method_105_code 105 = .ok (.iastore, 1) := F_CM_findThree_59.2.2.2.2.2.2.2.2.2.2.2.2.2.2.2.2.2.2.2.2.2.2.2.2.2.2.1
theorem d_CM_findThree_106 : decode prog_1_method_105_code 106 = .ok (.iconst 1, 1) := F_CM_findThree_59.2.2.2.2.2.2.2.2.2.2.2.2.2.2.2.2.2.2.2.2.2.2.2.2.2.2.2.1
theorem d_CM_findThree_107 : decode prog_1_method_105_code 107 = .ok (.ireturn, 1) := F_CM_findThree_59.2.2.2.2.2.2.2.2.2.2.2.2.2.2.2.2.2.2.2.2.2.2.2.2.2.2.2.2.1
theorem d_CM_findThree_108 : decode prog_1_method_105_code 108 = .ok (.iinc 4 (1), 3) := F_CM_findThree_59.2.2.2.2.2.2.2.2.2.2.2.2.2.2.2.2.2.2.2.2.2.2.2.2.2.2.2.2.2.1
theorem d_CM_findThree_111 : decode prog_1_method_105_code 111 = .ok (.goto (-82), 3) := F_CM_findThree_59.2.2.2.2.2.2.2.2.2.2.2.2.2.2.2.2.2.2.2.2.2.2.2.2.2.2.2.2.2.2.1
theorem d_CM_findThree_114 : decode prog_1_method_105_code 114 = .ok (.iinc 3 (1), 3) := F_CM_findThree_59.2.2.2.2.2.2.2.2.2.2.2.2.2.2.2.2.2.2.2.2.2.2.2.2.2.2.2.2.2.2.2.1
theorem F_CM_findThree_117 : Jvm.Free.DS.Facts prog_1_method_105_code 117 [(.goto (-102), 3), (.iinc 2 (1), 3), (.goto (-121), 3), (.iconst 0, 1), (.ireturn, 1)] := Jvm.Free.DS.facts 117 _ (by decide +kernel) (by decide +kernel)
theorem d_CM_findThree_117 : decode prog_1_method_105_code 117 = .ok (.goto (-102), 3) := F_CM_findThree_117.1
theorem d_CM_findThree_120 : decode prog_1_method_105_code 120 = .ok (.iinc 2 (1), 3) := F_CM_findThree_117.2.1
theorem d_CM_findThree_123 : decode prog_1_method_105_code 123 = .ok (.goto (-121), 3) := F_CM_findThree_117.2.2.1
theorem d_CM_findThree_126 : decode prog_1_method_105_code 126 = .ok (.iconst 0, 1) := F_CM_findThree_117.2.2.2.1
theorem d_CM_findThree_127 : decode prog_1_method_105_code 127 = .ok (.ireturn, 1) := F_CM_findThree_117.2.2.2.2.1
theorem F_CM_comesTo_0 : Jvm.Free.DS.Facts prog_1_method_106_code 0 [(.aload_n 2, 1), (.invokestatic 272, 3), (.ifCond .eq (5), 3), (.iconst 0, 1), (.ireturn, 1), (.aload_n 0, 1), (.getfield 12, 3), (.getfield 157, 3), (.iload_n 1, 1), (.aaload, 1), (.aload_n 2, 1), (.aload_n 0, 1), (.getfield 65, 3), (.invokestatic 475, 3), (.aload_n 0, 1), (.getfield 65, 3), (.aload_n 3, 1), (.invokestatic 478, 3), (.ireturn, 1)] := Jvm.Free.DS.facts 0 _ (by decide +kernel) (by decide +kernel)
theorem d_CM_comesTo_0 : decode prog_1_method_106_code 0 = .ok (.aload_n 2, 1) := F_CM_comesTo_0.1
theorem d_CM_comesTo_1 : decode prog_1_method_106_code 1 = .ok (.invokestatic 272, 3) := F_CM_comesTo_0.2.1
theorem d_CM_comesTo_4 : decode prog_1_method_106_code 4 = .ok (.ifCond .eq (5), 3) := F_CM_comesTo_0.2.2.1
theorem d_CM_comesTo_7 : decode prog_1_method_106_code 7 = .ok (.iconst 0, 1) := F_CM_comesTo_0.2.2.2.1
theorem d_CM_comesTo_8 : decode prog_1_method_106_code 8 = .ok (.ireturn, 1) := F_CM_comesTo_0.2.2.2.2.1
theorem d_CM_comesTo_9 : decode prog_1_method_106_code 9 = .ok (.aload_n 0, 1) := F_CM_comesTo_0.2.2.2.2.2.1
theorem d_CM_comesTo_10 : decode prog_1_method_106_code 10 = .ok (.getfield 12, 3) := F_CM_comesTo_0.2.2.2.2.2.2.1
theorem d_CM_comesTo_13 : decode prog_1_method_106_code 13 = .ok (.getfield 157, 3) := F_CM_comesTo_0.2.2.2.2.2.2.2.1
theorem d_CM_comesTo_16 : decode prog_1_method_106_code 16 = .ok (.iload_n 1, 1) := F_CM_comesTo_0.2.2.2.2.2.2.2.2.1
theorem d_CM_comesTo_17 : decode prog_1_method_106_code 17 = .ok (.aaload, 1) := F_CM_comesTo_0.2.2.2.2.2.2.2.2.2.1
theorem d_CM_comesTo_18 : decode prog_1_method_106_code 18 = .ok (.aload_n 2, 1) := F_CM_comesTo_0.2.2.2.2.2.2.2.2.2.2.1
theorem d_CM_comesTo_19 : decode prog_1_method_106_code 19 = .ok (.aload_n 0, 1) := F_CM_comesTo_0.2.2.2.2.2.2.2.2.2.2.2.1
theorem d_CM_comesTo_20 : decode prog_1_method_106_code 20 = .ok (.getfield 65, 3) := F_CM_comesTo_0.2.2.2.2.2.2.2.2.2.2.2.2.1
theorem d_CM_comesTo_23 : decode prog_1_method_106_code 23 = .ok (.invokestatic 475, 3) := F_CM_comesTo_0.2.2.2.2.2.2.2.2.2.2.2.2.2.1
theorem d_CM_comesTo_26 : decode prog_1_method_106_code 26 = .ok (.aload_n 0, 1) := F_CM_comesTo_0.2.2.2.2.2.2.2.2.2.2.2.2.2.2.1
theorem d_CM_comesTo_27 : decode prog_1_method_106_code 27 = .ok (.getfield 65, 3) := F_CM_comesTo_0.2.2.2.2.2.2.2.2.2.2.2.2.2.2.2.1
theorem d_CM_comesTo_30 : decode prog_1_method_106_code 30 = .ok (.aload_n 3, 1) := F_CM_comesTo_0.2.2.2.2.2.2.2.2.2.2.2.2.2.2.2.2.1
theorem d_CM_comesTo_31 : decode prog_1_method_106_code 31 = .ok (.invokestatic 478, 3) := F_CM_comesTo_0.2.2.2.2.2.2.2.2.2.2.2.2.2.2.2.2.2.1
theorem d_CM_comesTo_34 : decode prog_1_method_106_code 34 = .ok (.ireturn, 1) := F_CM_comesTo_0.2.2.2.2.2.2.2.2.2.2.2.2.2.2.2.2.2.2.1
theorem F_Rows_isMultiple_0 : Jvm.Free.DS.Facts prog_9_method_10_code 0 [(.aload_n 1, 1), (.invokestatic 21, 3), (.istore_n 2, 1), (.aload_n 1, 1), (.iload_n 2, 1), (.laload, 1), (.lconst 0, 1), (.lcmp, 1), (.ifCond .ne (5), 3), (.iconst 0, 1), (.ireturn, 1), (.aload_n 0, 1), (.iload_n 2, 1), (.laload, 1), (.aload_n 1, 1), (.iload_n 2, 1), (.laload, 1), (.ldiv, 1), (.lstore_n 3, 1), (.lload_n 3, 1), (.lconst 0, 1), (.lcmp, 1), (.ifCond .ne (5), 3), (.iconst 0, 1), (.ireturn, 1), (.iconst 0, 1), (.istore 5, 2), (.iload 5, 2), (.aload_n 0, 1), (.arraylength, 1), (.if_icmp .ge (43), 3), (.iload 5, 2)] := Jvm.Free.DS.facts 0 _ (by decide +kernel) (by decide +kernel)
theorem d_Rows_isMultiple_0 : decode prog_9_method_10_code 0 = .ok (.aload_n 1, 1) := F_Rows_isMultiple_0.1
theorem d_Rows_isMultiple_1 : decode prog_9_method_10_code 1 = .ok (.invokestatic 21, 3) := F_Rows_isMultiple_0.2.1
theorem d_Rows_isMultiple_4 : decode prog_9_method_10_code 4 = .ok (.istore_n 2, 1) := F_Rows_isMultiple_0.2.2.1
theorem d_Rows_isMultiple_5 : decode prog_9_method_10_code 5 = .ok (.aload_n 1, 1) := F_Rows_isMultiple_0.2.2.2.1
theorem d_Rows_isMultiple_6 : decode prog_9_method_10_code 6 = .ok (.iload_n 2, 1) := F_Rows_isMultiple_0.2.2.2.2.1
theorem d_Rows_isMultiple_7 : decode prog_9_method_10_code 7 = .ok (.laload, 1) := F_Rows_isMultiple_0.2.2.2.2.2.1
theorem d_Rows_isMultiple_8 : decode prog_9_method_10_code 8 = .ok (.lconst 0, 1) := F_Rows_isMultiple_0.2.2.2.2.2.2.1
theorem d_Rows_isMultiple_9 : decode prog_9_method_10_code 9 = .ok (.lcmp, 1) := F_Rows_isMultiple_0.2.2.2.2.2.2.2.1
theorem d_Rows_isMultiple_10 : decode prog_9_method_10_code 10 = .ok (.ifCond .ne (5), 3) := F_Rows_isMultiple_0.2.2.2.2.2.2.2.2.1
theorem d_Rows_isMultiple_13 : decode prog_9_method_10_code 13 = .ok (.iconst 0, 1) := F_Rows_isMultiple_0.2.2.2.2.2.2.2.2.2.1
theorem d_Rows_isMultiple_14 : decode prog_9_method_10_code 14 = .ok (.ireturn, 1) := F_Rows_isMultiple_0.2.2.2.2.2.2.2.2.2.2.1
theorem d_Rows_isMultiple_15 : decode prog_9_method_10_code 15 = .ok (.aload_n 0, 1) := F_Rows_isMultiple_0.2.2.2.2.2.2.2.2.2.2.2.1
theorem d_Rows_isMultiple_16 : decode prog_9_method_10_code 16 = .ok (.iload_n 2, 1) := F_Rows_isMultiple_0.2.2.2.2.2.2.2.2.2.2.2.2.1
theorem d_Rows_isMultiple_17 : decode prog_9_method_10_code 17 = .ok (.laload, 1) := F_Rows_isMultiple_0.2.2.2.2.2.2.2.2.2.2.2.2.2.1
theorem d_Rows_isMultiple_18 : decode prog_9_method_10_code 18 = .ok (.aload_n 1, 1) := F_Rows_isMultiple_0.2.2.2.2.2.2.2.2.2.2.2.2.2.2.1
theorem d_Rows_isMultiple_19 : decode prog_9_method_10_code 19 = .ok (.iload_n 2, 1) := F_Rows_isMultiple_0.2.2.2.2.2.2.2.2.2.2.2.2.2.2.2.1
theorem d_Rows_isMultiple_20 : decode prog_9_method_10_code 20 = .ok (.laload, 1) := F_Rows_isMultiple_0.2.2.2.2.2.2.2.2.2.2.2.2.2.2.2.2.1
theorem d_Rows_isMultiple_21 : decode prog_9_method_10_code 21 = .ok (.ldiv, 1) := F_Rows_isMultiple_0.2.2.2.2.2.2.2.2.2.2.2.2.2.2.2.2.2.1
theorem d_Rows_isMultiple_22 : decode prog_9_method_10_code 22 = .ok (.lstore_n 3, 1) := F_Rows_isMultiple_0.2.2.2.2.2.2.2.2.2.2.2.2.2.2.2.2.2.2.1
theorem d_Rows_isMultiple_23 : decode prog_9_method_10_code 23 = .ok (.lload_n 3, 1) := F_Rows_isMultiple_0.2.2.2.2.2.2.2.2.2.2.2.2.2.2.2.2.2.2.2.1
theorem d_Rows_isMultiple_24 : decode prog_9_method_10_code 24 = .ok (.lconst 0, 1) := F_Rows_isMultiple_0.2.2.2.2.2.2.2.2.2.2.2.2.2.2.2.2.2.2.2.2.1
theorem d_Rows_isMultiple_25 : decode prog_9_method_10_code 25 = .ok (.lcmp, 1) := F_Rows_isMultiple_0.2.2.2.2.2.2.2.2.2.2.2.2.2.2.2.2.2.2.2.2.2.1
theorem d_Rows_isMultiple_26 : decode prog_9_method_10_code 26 = .ok (.ifCond .ne (5), 3) := F_Rows_isMultiple_0.2.2.2.2.2.2.2.2.2.2.2.2.2.2.2.2.2.2.2.2.2.2.1
theorem d_Rows_isMultiple_29 : decode prog_9_method_10_code 29 = .ok (.iconst 0, 1) := F_Rows_isMultiple_0.2.2.2.2.2.2.2.2.2.2.2.2.2.2.2.2.2.2.2.2.2.2.2.1
theorem d_Rows_isMultiple_30 : decode prog_9_method_10_code 30 = .ok (.ireturn, 1) := F_Rows_isMultiple_0.2.2.2.2.2.2.2.2.2.2.2.2.2.2.2.2.2.2.2.2.2.2.2.2.1
theorem d_Rows_isMultiple_31 : decode prog_9_method_10_code 31 = .ok (.iconst 0, 1) := F_Rows_isMultiple_0.2.2.2.2.2.2.2.2.2.2.2.2.2.2.2.2.2.2.2.2.2.2.2.2.2.1
theorem d_Rows_isMultiple_32 : decode prog_9_method_10_code 32 = .ok (.istore 5, 2) := F_Rows_isMultiple_0.2.2.2.2.2.2.2.2.2.2.2.2.2.2.2.2.2.2.2.2.2.2.2.2.2.2.1
theorem d_Rows_isMultiple_34 : decode prog_9_method_10_code 34 = .ok (.iload 5, 2) := F_Rows_isMultiple_0.2.2.2.2.2.2.2.2.2.2.2.2.2.2.2.2.2.2.2.2.2.2.2.2.2.2.2.1
theorem d_Rows_isMultiple_36 : decode prog_9_method_10_code 36 = .ok (.aload_n 0, 1) := F_Rows_isMultiple_0.2.2.2.2.2.2.2.2.2.2.2.2.2.2.2.2.2.2.2.2.2.2.2.2.2.2.2.2.1
theorem d_Rows_isMultiple_37 : decode prog_9_method_10_code 37 = .ok (.arraylength, 1) := F_Rows_isMultiple_0.2.2.2.2.2.2.2.2.2.2.2.2.2.2.2.2.2.2.2.2.2.2.2.2.2.2.2.2.2.1
theorem d_Rows_isMultiple_38 : decode prog_9_method_10_code 38 = .ok (.if_icmp .ge (43), 3) := F_Rows_isMultiple_0.2.2.2.2.2.2.2.2.2.2.2.2.2.2.2.2.2.2.2.2.2.2.2.2.2.2.2.2.2.2.1
theorem d_Rows_isMultiple_41 : decode prog_9_method_10_code 41 = .ok (.iload 5, 2) := F_Rows_isMultiple_0.2.2.2.2.2.2.2.2.2.2.2.2.2.2.2.2.2.2.2.2.2.2.2.2.2.2.2.2.2.2.2.1
theorem F_Rows_isMultiple_43 : Jvm.Free.DS.Facts prog_9_method_10_code 43 [(.aload_n 1, 1), (.arraylength, 1), (.if_icmp .ge (36), 3), (.aload_n 0, 1), (.iload 5, 2), (.laload, 1), (.lload_n 3, 1), (.lrem, 1), (.lconst 0, 1), (.lcmp, 1), (.ifCond .ne (17), 3), (.aload_n 0, 1), (.iload 5, 2), (.laload, 1), (.lload_n 3, 1), (.ldiv, 1), (.aload_n 1, 1), (.iload 5, 2), (.laload, 1), (.lcmp, 1), (.ifCond .eq (5), 3), (.iconst 0, 1), (.ireturn, 1), (.iinc 5 (1), 3), (.goto (-44), 3), (.iconst 1, 1), (.ireturn, 1)] := Jvm.Free.DS.facts 43 _ (by decide +kernel) (by decide +kernel)
theorem d_Rows_isMultiple_43 : decode prog_9_method_10_code 43 = .ok (.aload_n 1, 1) := F_Rows_isMultiple_43.1
theorem d_Rows_isMultiple_44 : decode prog_9_method_10_code 44 = .ok (.arraylength, 1) := F_Rows_isMultiple_43.2.1
theorem d_Rows_isMultiple_45 : decode prog_9_method_10_code 45 = .ok (.if_icmp .ge (36), 3) := F_Rows_isMultiple_43.2.2.1
theorem d_Rows_isMultiple_48 : decode prog_9_method_10_code 48 = .ok (.aload_n 0, 1) := F_Rows_isMultiple_43.2.2.2.1
theorem d_Rows_isMultiple_49 : decode prog_9_method_10_code 49 = .ok (.iload 5, 2) := F_Rows_isMultiple_43.2.2.2.2.1
theorem d_Rows_isMultiple_51 : decode prog_9_method_10_code 51 = .ok (.laload, 1) := F_Rows_isMultiple_43.2.2.2.2.2.1
theorem d_Rows_isMultiple_52 : decode prog_9_method_10_code 52 = .ok (.lload_n 3, 1) := F_Rows_isMultiple_43.2.2.2.2.2.2.1
theorem d_Rows_isMultiple_53 : decode prog_9_method_10_code 53 = .ok (.lrem, 1) := F_Rows_isMultiple_43.2.2.2.2.2.2.2.1
theorem d_Rows_isMultiple_54 : decode prog_9_method_10_code 54 = .ok (.lconst 0, 1) := F_Rows_isMultiple_43.2.2.2.2.2.2.2.2.1
theorem d_Rows_isMultiple_55 : decode prog_9_method_10_code 55 = .ok (.lcmp, 1) := F_Rows_isMultiple_43.2.2.2.2.2.2.2.2.2.1
theorem d_Rows_isMultiple_56 : decode prog_9_method_10_code 56 = .ok (.ifCond .ne (17), 3) := F_Rows_isMultiple_43.2.2.2.2.2.2.2.2.2.2.1
theorem d_Rows_isMultiple_59 : decode prog_9_method_10_code 59 = .ok (.aload_n 0, 1) := F_Rows_isMultiple_43.2.2.2.2.2.2.2.2.2.2.2.1
theorem d_Rows_isMultiple_60 : decode prog_9_method_10_code 60 = .ok (.iload 5, 2) := F_Rows_isMultiple_43.2.2.2.2.2.2.2.2.2.2.2.2.1
theorem d_Rows_isMultiple_62 : decode prog_9_method_10_code 62 = .ok (.laload, 1) := F_Rows_isMultiple_43.2.2.2.2.2.2.2.2.2.2.2.2.2.1
theorem d_Rows_isMultiple_63 : decode prog_9_method_10_code 63 = .ok (.lload_n 3, 1) := F_Rows_isMultiple_43.2.2.2.2.2.2.2.2.2.2.2.2.2.2.1
theorem d_Rows_isMultiple_64 : decode prog_9_method_10_code 64 = .ok (.ldiv, 1) := F_Rows_isMultiple_43.2.2.2.2.2.2.2.2.2.2.2.2.2.2.2.1
theorem d_Rows_isMultiple_65 : decode prog_9_method_10_code 65 = .ok (.aload_n 1, 1) := F_Rows_isMultiple_43.2.2.2.2.2.2.2.2.2.2.2.2.2.2.2.2.1
theorem d_Rows_isMultiple_66 : decode prog_9_method_10_code 66 = .ok (.iload 5, 2) := F_Rows_isMultiple_43.2.2.2.2.2.2.2.2.2.2.2.2.2.2.2.2.2.1
theorem d_Rows_isMultiple_68 : decode prog_9_method_10_code 68 = .ok (.laload, 1) := F_Rows_isMultiple_43.2.2.2.2.2.2.2.2.2.2.2.2.2.2.2.2.2.2.1
theorem d_Rows_isMultiple_69 : decode prog_9_method_10_code 69 = .ok (.lcmp, 1) := F_Rows_isMultiple_43.2.2.2.2.2.2.2.2.2.2.2.2.2.2.2.2.2.2.2.1
theorem d_Rows_isMultiple_70 : decode prog_9_method_10_code 70 = .ok (.ifCond .eq (5), 3) := F_Rows_isMultiple_43.2.2.2.2.2.2.2.2.2.2.2.2.2.2.2.2.2.2.2.2.1
theorem d_Rows_isMultiple_73 : decode prog_9_method_10_code 73 = .ok (.iconst 0, 1) := F_Rows_isMultiple_43.2.2.2.2.2.2.2.2.2.2.2.2.2.2.2.2.2.2.2.2.2.1
theorem d_Rows_isMultiple_74 : decode prog_9_method_10_code 74 = .ok (.ireturn, 1) := F_Rows_isMultiple_43.2.2.2.2.2.2.2.2.2.2.2.2.2.2.2.2.2.2.2.2.2.2.1
theorem d_Rows_isMultiple_75 : decode prog_9_method_10_code 75 = .ok (.iinc 5 (1), 3) := F_Rows_isMultiple_43.2.2.2.2.2.2.2.2.2.2.2.2.2.2.2.2.2.2.2.2.2.2.2.1
theorem d_Rows_isMultiple_78 : decode prog_9_method_10_code 78 = .ok (.goto (-44), 3) := F_Rows_isMultiple_43.2.2.2.2.2.2.2.2.2.2.2.2.2.2.2.2.2.2.2.2.2.2.2.2.1
theorem d_Rows_isMultiple_81 : decode prog_9_method_10_code 81 = .ok (.iconst 1, 1) := F_Rows_isMultiple_43.2.2.2.2.2.2.2.2.2.2.2.2.2.2.2.2.2.2.2.2.2.2.2.2.2.1
theorem d_Rows_isMultiple_82 : decode prog_9_method_10_code 82 = .ok (.ireturn, 1) := F_Rows_isMultiple_43.2.2.2.2.2.2.2.2.2.2.2.2.2.2.2.2.2.2.2.2.2.2.2.2.2.2.1
theorem F_CM_generated_0 : Jvm.Free.DS.Facts prog_1_method_51_code 0 [(.iload_n 1, 1), (.iconst 1, 1), (.if_icmp .eq (10), 3), (.iload_n 1, 1), (.iconst 2, 1), (.if_icmp .eq (5), 3), (.iconst (-1), 1), (.ireturn, 1), (.iload_n 1, 1), (.iconst 2, 1), (.if_icmp .ne (14), 3), (.aload_n 0, 1), (.getfield 54, 3), (.aload_n 0, 1), (.getfield 12, 3), (.invokevirtual 391, 3), (.aload_n 0, 1), (.getfield 12, 3), (.getfield 225, 3), (.iload_n 1, 1), (.iconst 2, 1), (.if_icmp .ne (13), 3), (.aload_n 0, 1), (.getfield 54, 3), (.getfield 394, 3), (.goto (4), 3), (.iconst 0, 1), (.iadd, 1), (.istore_n 2, 1), (.iconst 0, 1), (.istore_n 3, 1), (.iconst 0, 1)] := Jvm.Free.DS.facts 0 _ (by decide +kernel) (by decide +kernel)
theorem d_CM_generated_0 : decode prog_1_method_51_code 0 = .ok (.iload_n 1, 1) := F_CM_generated_0.1
theorem d_CM_generated_1 : decode prog_1_method_51_code 1 = .ok (.iconst 1, 1) := F_CM_generated_0.2.1
theorem d_CM_generated_2 : decode prog_1_method_51_code 2 = .ok (.if_icmp .eq (10), 3) := F_CM_generated_0.2.2.1
theorem d_CM_generated_5 : decode prog_1_method_51_code 5 = .ok (.iload_n 1, 1) := F_CM_generated_0.2.2.2.1
theorem d_CM_generated_6 : decode prog_1_method_51_code 6 = .ok (.iconst 2, 1) := F_CM_generated_0.2.2.2.2.1
theorem d_CM_generated_7 : decode prog_1_method_51_code 7 = .ok (.if_icmp .eq (5), 3) := F_CM_generated_0.2.2.2.2.2.1
theorem d_CM_generated_10 : decode prog_1_method_51_code 10 = .ok (.iconst (-1), 1) := F_CM_generated_0.2.2.2.2.2.2.1
theorem d_CM_generated_11 : decode prog_1_method_51_code 11 = .ok (.ireturn, 1) := F_CM_generated_0.2.2.2.2.2.2.2.1
theorem d_CM_generated_12 : decode prog_1_method_51_code 12 = .ok (.iload_n 1, 1) := F_CM_generated_0.2.2.2.2.2.2.2.2.1
theorem d_CM_generated_13 : decode prog_1_method_51_code 13 = .ok (.iconst 2, 1) := F_CM_generated_0.2.2.2.2.2.2.2.2.2.1
theorem d_CM_generated_14 : decode prog_1_method_51_code 14 = .ok (.if_icmp .ne (14), 3) := F_CM_generated_0.2.2.2.2.2.2.2.2.2.2.1
theorem d_CM_generated_17 : decode prog_1_method_51_code 17 = .ok (.aload_n 0, 1) := F_CM_generated_0.2.2.2.2.2.2.2.2.2.2.2.1
theorem d_CM_generated_18 : decode prog_1_method_51_code 18 = .ok (.getfield 54, 3) := F_CM_generated_0.2.2.2.2.2.2.2.2.2.2.2.2.1
theorem d_CM_generated_21 : decode prog_1_method_51_code 21 = .ok (.aload_n 0, 1) := F_CM_generated_0.2.2.2.2.2.2.2.2.2.2.2.2.2.1
theorem d_CM_generated_22 : decode prog_1_method_51_code 22 = .ok (.getfield 12, 3) := F_CM_generated_0.2.2.2.2.2.2.2.2.2.2.2.2.2.2.1
theorem d_CM_generated_25 : decode prog_1_method_51_code 25 = .ok (.invokevirtual 391, 3) := F_CM_generated_0.2.2.2.2.2.2.2.2.2.2.2.2.2.2.2.1
theorem d_CM_generated_28 : decode prog_1_method_51_code 28 = .ok (.aload_n 0, 1) := F_CM_generated_0.2.2.2.2.2.2.2.2.2.2.2.2.2.2.2.2.1
theorem d_CM_generated_29 : decode prog_1_method_51_code 29 = .ok (.getfield 12, 3) := F_CM_generated_0.2.2.2.2.2.2.2.2.2.2.2.2.2.2.2.2.2.1
theorem d_CM_generated_32 : decode prog_1_method_51_code 32 = .ok (.getfield 225, 3) := F_CM_generated_0.2.2.2.2.2.2.2.2.2.2.2.2.2.2.2.2.2.2.1
theorem d_CM_generated_35 : decode prog_1_method_51_code 35 = .ok (.iload_n 1, 1) := F_CM_generated_0.2.2.2.2.2.2.2.2.2.2.2.2.2.2.2.2.2.2.2.1
theorem d_CM_generated_36 : decode prog_1_method_51_code 36 = .ok (.iconst 2, 1) := F_CM_generated_0.2.2.2.2.2.2.2.2.2.2.2.2.2.2.2.2.2.2.2.2.1
theorem d_CM_generated_37 : decode prog_1_method_51_code 37 = .ok (.if_icmp .ne (13), 3) := F_CM_generated_0.2.2.2.2.2.2.2.2.2.2.2.2.2.2.2.2.2.2.2.2.2.1
theorem d_CM_generated_40 : decode prog_1_method_51_code 40 = .ok (.aload_n 0, 1) := F_CM_generated_0.2.2.2.2.2.2.2.2.2.2.2.2.2.2.2.2.2.2.2.2.2.2.1
theorem d_CM_generated_41 : decode prog_1_method_51_code 41 = .ok (.getfield 54, 3) := F_CM_generated_0.2.2.2.2.2.2.2.2.2.2.2.2.2.2.2.2.2.2.2.2.2.2.2.1
theorem d_CM_generated_44 : decode prog_1_method_51_code 44 = .ok (.getfield 394, 3) := F_CM_generated_0.2.2.2.2.2.2.2.2.2.2.2.2.2.2.2.2.2.2.2.2.2.2.2.2.1
theorem d_CM_generated_47 : decode prog_1_method_51_code 47 = .ok (.goto (4), 3) := F_CM_generated_0.2.2.2.2.2.2.2.2.2.2.2.2.2.2.2.2.2.2.2.2.2.2.2.2.2.1
theorem d_CM_generated_50 : decode prog_1_method_51_code 50 = .ok (.iconst 0, 1) := F_CM_generated_0.2.2.2.2.2.2.2.2.2.2.2.2.2.2.2.2.2.2.2.2.2.2.2.2.2.2.1
theorem d_CM_generated_51 : decode prog_1_method_51_code 51 = .ok (.iadd, 1) := F_CM_generated_0.2.2.2.2.2.2.2.2.2.2.2.2.2.2.2.2.2.2.2.2.2.2.2.2.2.2.2.1
theorem d_CM_generated_52 : decode prog_1_method_51_code 52 = .ok (.istore_n 2, 1) := F_CM_generated_0.2.2.2.2.2.2.2.2.2.2.2.2.2.2.2.2.2.2.2.2.2.2.2.2.2.2.2.2.1
theorem d_CM_generated_53 : decode prog_1_method_51_code 53 = .ok (.iconst 0, 1) := F_CM_generated_0.2.2.2.2.2.2.2.2.2.2.2.2.2.2.2.2.2.2.2.2.2.2.2.2.2.2.2.2.2.1
theorem d_CM_generated_54 : decode prog_1_method_51_code 54 = .ok (.istore_n 3, 1) := F_CM_generated_0.2.2.2.2.2.2.2.2.2.2.2.2.2.2.2.2.2.2.2.2.2.2.2.2.2.2.2.2.2.2.1
theorem d_CM_generated_55 : decode prog_1_method_51_code 55 = .ok (.iconst 0, 1) := F_CM_generated_0.2.2.2.2.2.2.2.2.2.2.2.2.2.2.2.2.2.2.2.2.2.2.2.2.2.2.2.2.2.2.2.1
theorem F_CM_generated_56 : Jvm.Free.DS.Facts prog_1_method_51_code 56 [(.istore 4, 2), (.iload 4, 2), (.iload_n 2, 1), (.if_icmp .ge (21), 3), (.aload_n 0, 1), (.iload 4, 2), (.invokevirtual 395, 3), (.ifCond .ne (6), 3), (.iinc 3 (1), 3), (.iinc 4 (1), 3), (.goto (-21), 3), (.iload_n 3, 1), (.ireturn, 1)] := Jvm.Free.DS.facts 56 _ (by decide +kernel) (by decide +kernel)
theorem d_CM_generated_56 : decode prog_1_method_51_code 56 = .ok (.istore 4, 2) := F_CM_generated_56.1
theorem d_CM_generated_58 : decode prog_1_method_51_code 58 = .ok (.iload 4, 2) := F_CM_generated_56.2.1
theorem d_CM_generated_60 : decode prog_1_method_51_code 60 = .ok (.iload_n 2, 1) := F_CM_generated_56.2.2.1
theorem d_CM_generated_61 : decode prog_1_method_51_code 61 = .ok (.if_icmp .ge (21), 3) := F_CM_generated_56.2.2.2.1
theorem d_CM_generated_64 : decode prog_1_method_51_code 64 = .ok (.aload_n 0, 1) := F_CM_generated_56.2.2.2.2.1
theorem d_CM_generated_65 : decode prog_1_method_51_code 65 = .ok (.iload 4, 2) := F_CM_generated_56.2.2.2.2.2.1
theorem d_CM_generated_67 : decode prog_1_method_51_code 67 = .ok (.invokevirtual 395, 3) := F_CM_generated_56.2.2.2.2.2.2.1
theorem d_CM_generated_70 : decode prog_1_method_51_code 70 = .ok (.ifCond .ne (6), 3) := F_CM_generated_56.2.2.2.2.2.2.2.1
theorem d_CM_generated_73 : decode prog_1_method_51_code 73 = .ok (.iinc 3 (1), 3) := F_CM_generated_56.2.2.2.2.2.2.2.2.1
theorem d_CM_generated_76 : decode prog_1_method_51_code 76 = .ok (.iinc 4 (1), 3) := F_CM_generated_56.2.2.2.2.2.2.2.2.2.1
theorem d_CM_generated_79 : decode prog_1_method_51_code 79 = .ok (.goto (-21), 3) := F_CM_generated_56.2.2.2.2.2.2.2.2.2.2.1
theorem d_CM_generated_82 : decode prog_1_method_51_code 82 = .ok (.iload_n 3, 1) := F_CM_generated_56.2.2.2.2.2.2.2.2.2.2.2.1
theorem d_CM_generated_83 : decode prog_1_method_51_code 83 = .ok (.ireturn, 1) := F_CM_generated_56.2.2.2.2.2.2.2.2.2.2.2.2.1
theorem F_CM_stoodBefore_0 : Jvm.Free.DS.Facts prog_1_method_108_code 0 [(.iconst 0, 1), (.istore_n 2, 1), (.iload_n 2, 1), (.iload_n 1, 1), (.if_icmp .ge (27), 3), (.aload_n 0, 1), (.iload_n 2, 1), (.invokevirtual 484, 3), (.aload_n 0, 1), (.iload_n 1, 1), (.invokevirtual 484, 3), (.invokestatic 306, 3), (.ifCond .eq (5), 3), (.iconst 1, 1), (.ireturn, 1), (.iinc 2 (1), 3), (.goto (-26), 3), (.iconst 0, 1), (.ireturn, 1)] := Jvm.Free.DS.facts 0 _ (by decide +kernel) (by decide +kernel)
theorem d_CM_stoodBefore_0 : decode prog_1_method_108_code 0 = .ok (.iconst 0, 1) := F_CM_stoodBefore_0.1
theorem d_CM_stoodBefore_1 : decode prog_1_method_108_code 1 = .ok (.istore_n 2, 1) := F_CM_stoodBefore_0.2.1
theorem d_CM_stoodBefore_2 : decode prog_1_method_108_code 2 = .ok (.iload_n 2, 1) := F_CM_stoodBefore_0.2.2.1
theorem d_CM_stoodBefore_3 : decode prog_1_method_108_code 3 = .ok (.iload_n 1, 1) := F_CM_stoodBefore_0.2.2.2.1
theorem d_CM_stoodBefore_4 : decode prog_1_method_108_code 4 = .ok (.if_icmp .ge (27), 3) := F_CM_stoodBefore_0.2.2.2.2.1
theorem d_CM_stoodBefore_7 : decode prog_1_method_108_code 7 = .ok (.aload_n 0, 1) := F_CM_stoodBefore_0.2.2.2.2.2.1
theorem d_CM_stoodBefore_8 : decode prog_1_method_108_code 8 = .ok (.iload_n 2, 1) := F_CM_stoodBefore_0.2.2.2.2.2.2.1
theorem d_CM_stoodBefore_9 : decode prog_1_method_108_code 9 = .ok (.invokevirtual 484, 3) := F_CM_stoodBefore_0.2.2.2.2.2.2.2.1
theorem d_CM_stoodBefore_12 : decode prog_1_method_108_code 12 = .ok (.aload_n 0, 1) := F_CM_stoodBefore_0.2.2.2.2.2.2.2.2.1
theorem d_CM_stoodBefore_13 : decode prog_1_method_108_code 13 = .ok (.iload_n 1, 1) := F_CM_stoodBefore_0.2.2.2.2.2.2.2.2.2.1
theorem d_CM_stoodBefore_14 : decode prog_1_method_108_code 14 = .ok (.invokevirtual 484, 3) := F_CM_stoodBefore_0.2.2.2.2.2.2.2.2.2.2.1
theorem d_CM_stoodBefore_17 : decode prog_1_method_108_code 17 = .ok (.invokestatic 306, 3) := F_CM_stoodBefore_0.2.2.2.2.2.2.2.2.2.2.2.1
theorem d_CM_stoodBefore_20 : decode prog_1_method_108_code 20 = .ok (.ifCond .eq (5), 3) := F_CM_stoodBefore_0.2.2.2.2.2.2.2.2.2.2.2.2.1
theorem d_CM_stoodBefore_23 : decode prog_1_method_108_code 23 = .ok (.iconst 1, 1) := F_CM_stoodBefore_0.2.2.2.2.2.2.2.2.2.2.2.2.2.1
theorem d_CM_stoodBefore_24 : decode prog_1_method_108_code 24 = .ok (.ireturn, 1) := F_CM_stoodBefore_0.2.2.2.2.2.2.2.2.2.2.2.2.2.2.1
theorem d_CM_stoodBefore_25 : decode prog_1_method_108_code 25 = .ok (.iinc 2 (1), 3) := F_CM_stoodBefore_0.2.2.2.2.2.2.2.2.2.2.2.2.2.2.2.1
theorem d_CM_stoodBefore_28 : decode prog_1_method_108_code 28 = .ok (.goto (-26), 3) := F_CM_stoodBefore_0.2.2.2.2.2.2.2.2.2.2.2.2.2.2.2.2.1
theorem d_CM_stoodBefore_31 : decode prog_1_method_108_code 31 = .ok (.iconst 0, 1) := F_CM_stoodBefore_0.2.2.2.2.2.2.2.2.2.2.2.2.2.2.2.2.2.1
theorem d_CM_stoodBefore_32 : decode prog_1_method_108_code 32 = .ok (.ireturn, 1) := F_CM_stoodBefore_0.2.2.2.2.2.2.2.2.2.2.2.2.2.2.2.2.2.2.1
theorem F_CM_generatedMap_0 : Jvm.Free.DS.Facts prog_1_method_107_code 0 [(.iload_n 1, 1), (.aload_n 0, 1), (.getfield 12, 3), (.getfield 225, 3), (.if_icmp .ge (15), 3), (.aload_n 0, 1), (.getfield 12, 3), (.getfield 157, 3), (.iload_n 1, 1), (.aaload, 1), (.goto (20), 3), (.aload_n 0, 1), (.getfield 54, 3), (.getfield 481, 3), (.iload_n 1, 1), (.aload_n 0, 1), (.getfield 12, 3), (.getfield 225, 3), (.isub, 1), (.aaload, 1), (.areturn, 1)] := Jvm.Free.DS.facts 0 _ (by decide +kernel) (by decide +kernel)
theorem d_CM_generatedMap_0 : decode prog_1_method_107_code 0 = .ok (.iload_n 1, 1) := F_CM_generatedMap_0.1
theorem d_CM_generatedMap_1 : decode prog_1_method_107_code 1 = .ok (.aload_n 0, 1) := F_CM_generatedMap_0.2.1
theorem d_CM_generatedMap_2 : decode prog_1_method_107_code 2 = .ok (.getfield 12, 3) := F_CM_generatedMap_0.2.2.1
theorem d_CM_generatedMap_5 : decode prog_1_method_107_code 5 = .ok (.getfield 225, 3) := F_CM_generatedMap_0.2.2.2.1
theorem d_CM_generatedMap_8 : decode prog_1_method_107_code 8 = .ok (.if_icmp .ge (15), 3) := F_CM_generatedMap_0.2.2.2.2.1
theorem d_CM_generatedMap_11 : decode prog_1_method_107_code 11 = .ok (.aload_n 0, 1) := F_CM_generatedMap_0.2.2.2.2.2.1
theorem d_CM_generatedMap_12 : decode prog_1_method_107_code 12 = .ok (.getfield 12, 3) := F_CM_generatedMap_0.2.2.2.2.2.2.1
theorem d_CM_generatedMap_15 : decode prog_1_method_107_code 15 = .ok (.getfield 157, 3) := F_CM_generatedMap_0.2.2.2.2.2.2.2.1
theorem d_CM_generatedMap_18 : decode prog_1_method_107_code 18 = .ok (.iload_n 1, 1) := F_CM_generatedMap_0.2.2.2.2.2.2.2.2.1
theorem d_CM_generatedMap_19 : decode prog_1_method_107_code 19 = .ok (.aaload, 1) := F_CM_generatedMap_0.2.2.2.2.2.2.2.2.2.1
theorem d_CM_generatedMap_20 : decode prog_1_method_107_code 20 = .ok (.goto (20), 3) := F_CM_generatedMap_0.2.2.2.2.2.2.2.2.2.2.1
theorem d_CM_generatedMap_23 : decode prog_1_method_107_code 23 = .ok (.aload_n 0, 1) := F_CM_generatedMap_0.2.2.2.2.2.2.2.2.2.2.2.1
theorem d_CM_generatedMap_24 : decode prog_1_method_107_code 24 = .ok (.getfield 54, 3) := F_CM_generatedMap_0.2.2.2.2.2.2.2.2.2.2.2.2.1
theorem d_CM_generatedMap_27 : decode prog_1_method_107_code 27 = .ok (.getfield 481, 3) := F_CM_generatedMap_0.2.2.2.2.2.2.2.2.2.2.2.2.2.1
theorem d_CM_generatedMap_30 : decode prog_1_method_107_code 30 = .ok (.iload_n 1, 1) := F_CM_generatedMap_0.2.2.2.2.2.2.2.2.2.2.2.2.2.2.1
theorem d_CM_generatedMap_31 : decode prog_1_method_107_code 31 = .ok (.aload_n 0, 1) := F_CM_generatedMap_0.2.2.2.2.2.2.2.2.2.2.2.2.2.2.2.1
theorem d_CM_generatedMap_32 : decode prog_1_method_107_code 32 = .ok (.getfield 12, 3) := F_CM_generatedMap_0.2.2.2.2.2.2.2.2.2.2.2.2.2.2.2.2.1
theorem d_CM_generatedMap_35 : decode prog_1_method_107_code 35 = .ok (.getfield 225, 3) := F_CM_generatedMap_0.2.2.2.2.2.2.2.2.2.2.2.2.2.2.2.2.2.1
theorem d_CM_generatedMap_38 : decode prog_1_method_107_code 38 = .ok (.isub, 1) := F_CM_generatedMap_0.2.2.2.2.2.2.2.2.2.2.2.2.2.2.2.2.2.2.1
theorem d_CM_generatedMap_39 : decode prog_1_method_107_code 39 = .ok (.aaload, 1) := F_CM_generatedMap_0.2.2.2.2.2.2.2.2.2.2.2.2.2.2.2.2.2.2.2.1
theorem d_CM_generatedMap_40 : decode prog_1_method_107_code 40 = .ok (.areturn, 1) := F_CM_generatedMap_0.2.2.2.2.2.2.2.2.2.2.2.2.2.2.2.2.2.2.2.2.1
theorem F_CM_leads_0 : Jvm.Free.DS.Facts prog_1_method_52_code 0 [(.aload_n 0, 1), (.getfield 12, 3), (.iload_n 1, 1), (.invokevirtual 160, 3), (.ifCond .eq (24), 3), (.aload_n 0, 1), (.getfield 12, 3), (.iload_n 2, 1), (.invokevirtual 160, 3), (.ifCond .eq (13), 3), (.iload_n 3, 1), (.iconst 1, 1), (.if_icmp .lt (8), 3), (.iload_n 3, 1), (.iconst 3, 1), (.if_icmp .le (5), 3), (.iconst (-1), 1), (.ireturn, 1), (.iconst 0, 1), (.istore 4, 2), (.iload 4, 2), (.aload_n 0, 1), (.getfield 12, 3), (.getfield 225, 3), (.if_icmp .ge (42), 3), (.aload_n 0, 1), (.iload 4, 2), (.iload_n 1, 1), (.iload_n 3, 1), (.invokevirtual 355, 3), (.ifCond .eq (25), 3), (.aload_n 0, 1)] := Jvm.Free.DS.facts 0 _ (by decide +kernel) (by decide +kernel)
theorem d_CM_leads_0 : decode prog_1_method_52_code 0 = .ok (.aload_n 0, 1) := F_CM_leads_0.1
theorem d_CM_leads_1 : decode prog_1_method_52_code 1 = .ok (.getfield 12, 3) := F_CM_leads_0.2.1
theorem d_CM_leads_4 : decode prog_1_method_52_code 4 = .ok (.iload_n 1, 1) := F_CM_leads_0.2.2.1
theorem d_CM_leads_5 : decode prog_1_method_52_code 5 = .ok (.invokevirtual 160, 3) := F_CM_leads_0.2.2.2.1
theorem d_CM_leads_8 : decode prog_1_method_52_code 8 = .ok (.ifCond .eq (24), 3) := F_CM_leads_0.2.2.2.2.1
theorem d_CM_leads_11 : decode prog_1_method_52_code 11 = .ok (.aload_n 0, 1) := F_CM_leads_0.2.2.2.2.2.1
theorem d_CM_leads_12 : decode prog_1_method_52_code 12 = .ok (.getfield 12, 3) := F_CM_leads_0.2.2.2.2.2.2.1
theorem d_CM_leads_15 : decode prog_1_method_52_code 15 = .ok (.iload_n 2, 1) := F_CM_leads_0.2.2.2.2.2.2.2.1
theorem d_CM_leads_16 : decode prog_1_method_52_code 16 = .ok (.invokevirtual 160, 3) := F_CM_leads_0.2.2.2.2.2.2.2.2.1
theorem d_CM_leads_19 : decode prog_1_method_52_code 19 = .ok (.ifCond .eq (13), 3) := F_CM_leads_0.2.2.2.2.2.2.2.2.2.1
theorem d_CM_leads_22 : decode prog_1_method_52_code 22 = .ok (.iload_n 3, 1) := F_CM_leads_0.2.2.2.2.2.2.2.2.2.2.1
theorem d_CM_leads_23 : decode prog_1_method_52_code 23 = .ok (.iconst 1, 1) := F_CM_leads_0.2.2.2.2.2.2.2.2.2.2.2.1
theorem d_CM_leads_24 : decode prog_1_method_52_code 24 = .ok (.if_icmp .lt (8), 3) := F_CM_leads_0.2.2.2.2.2.2.2.2.2.2.2.2.1
theorem d_CM_leads_27 : decode prog_1_method_52_code 27 = .ok (.iload_n 3, 1) := F_CM_leads_0.2.2.2.2.2.2.2.2.2.2.2.2.2.1
theorem d_CM_leads_28 : decode prog_1_method_52_code 28 = .ok (.iconst 3, 1) := F_CM_leads_0.2.2.2.2.2.2.2.2.2.2.2.2.2.2.1
theorem d_CM_leads_29 : decode prog_1_method_52_code 29 = .ok (.if_icmp .le (5), 3) := F_CM_leads_0.2.2.2.2.2.2.2.2.2.2.2.2.2.2.2.1
theorem d_CM_leads_32 : decode prog_1_method_52_code 32 = .ok (.iconst (-1), 1) := F_CM_leads_0.2.2.2.2.2.2.2.2.2.2.2.2.2.2.2.2.1
theorem d_CM_leads_33 : decode prog_1_method_52_code 33 = .ok (.ireturn, 1) := F_CM_leads_0.2.2.2.2.2.2.2.2.2.2.2.2.2.2.2.2.2.1
theorem d_CM_leads_34 : decode prog_1_method_52_code 34 = .ok (.iconst 0, 1) := F_CM_leads_0.2.2.2.2.2.2.2.2.2.2.2.2.2.2.2.2.2.2.1
theorem d_CM_leads_35 : decode prog_1_method_52_code 35 = .ok (.istore 4, 2) := F_CM_leads_0.2.2.2.2.2.2.2.2.2.2.2.2.2.2.2.2.2.2.2.1
theorem d_CM_leads_37 : decode prog_1_method_52_code 37 = .ok (.iload 4, 2) := F_CM_leads_0.2.2.2.2.2.2.2.2.2.2.2.2.2.2.2.2.2.2.2.2.1
theorem d_CM_leads_39 : decode prog_1_method_52_code 39 = .ok (.aload_n 0, 1) := F_CM_leads_0.2.2.2.2.2.2.2.2.2.2.2.2.2.2.2.2.2.2.2.2.2.1
theorem d_CM_leads_40 : decode prog_1_method_52_code 40 = .ok (.getfield 12, 3) := F_CM_leads_0.2.2.2.2.2.2.2.2.2.2.2.2.2.2.2.2.2.2.2.2.2.2.1
theorem d_CM_leads_43 : decode prog_1_method_52_code 43 = .ok (.getfield 225, 3) := F_CM_leads_0.2.2.2.2.2.2.2.2.2.2.2.2.2.2.2.2.2.2.2.2.2.2.2.1
theorem d_CM_leads_46 : decode prog_1_method_52_code 46 = .ok (.if_icmp .ge (42), 3) := F_CM_leads_0.2.2.2.2.2.2.2.2.2.2.2.2.2.2.2.2.2.2.2.2.2.2.2.2.1
theorem d_CM_leads_49 : decode prog_1_method_52_code 49 = .ok (.aload_n 0, 1) := F_CM_leads_0.2.2.2.2.2.2.2.2.2.2.2.2.2.2.2.2.2.2.2.2.2.2.2.2.2.1
theorem d_CM_leads_50 : decode prog_1_method_52_code 50 = .ok (.iload 4, 2) := F_CM_leads_0.2.2.2.2.2.2.2.2.2.2.2.2.2.2.2.2.2.2.2.2.2.2.2.2.2.2.1
theorem d_CM_leads_52 : decode prog_1_method_52_code 52 = .ok (.iload_n 1, 1) := F_CM_leads_0.2.2.2.2.2.2.2.2.2.2.2.2.2.2.2.2.2.2.2.2.2.2.2.2.2.2.2.1
theorem d_CM_leads_53 : decode prog_1_method_52_code 53 = .ok (.iload_n 3, 1) := F_CM_leads_0.2.2.2.2.2.2.2.2.2.2.2.2.2.2.2.2.2.2.2.2.2.2.2.2.2.2.2.2.1
theorem d_CM_leads_54 : decode prog_1_method_52_code 54 = .ok (.invokevirtual 355, 3) := F_CM_leads_0.2.2.2.2.2.2.2.2.2.2.2.2.2.2.2.2.2.2.2.2.2.2.2.2.2.2.2.2.2.1
theorem d_CM_leads_57 : decode prog_1_method_52_code 57 = .ok (.ifCond .eq (25), 3) := F_CM_leads_0.2.2.2.2.2.2.2.2.2.2.2.2.2.2.2.2.2.2.2.2.2.2.2.2.2.2.2.2.2.2.1
theorem d_CM_leads_60 : decode prog_1_method_52_code 60 = .ok (.aload_n 0, 1) := F_CM_leads_0.2.2.2.2.2.2.2.2.2.2.2.2.2.2.2.2.2.2.2.2.2.2.2.2.2.2.2.2.2.2.2.1
theorem F_CM_leads_61 : Jvm.Free.DS.Facts prog_1_method_52_code 61 [(.getfield 81, 3), (.aload_n 0, 1), (.getfield 12, 3), (.getfield 163, 3), (.iload_n 2, 1), (.aaload, 1), (.invokestatic 306, 3), (.ifCond .eq (6), 3), (.iload 4, 2), (.ireturn, 1), (.iinc 4 (1), 3), (.goto (-48), 3), (.bipush (-2), 2), (.ireturn, 1)] := Jvm.Free.DS.facts 61 _ (by decide +kernel) (by decide +kernel)
theorem d_CM_leads_61 : decode prog_1_method_52_code 61 = .ok (.getfield 81, 3) := F_CM_leads_61.1
theorem d_CM_leads_64 : decode prog_1_method_52_code 64 = .ok (.aload_n 0, 1) := F_CM_leads_61.2.1
theorem d_CM_leads_65 : decode prog_1_method_52_code 65 = .ok (.getfield 12, 3) := F_CM_leads_61.2.2.1
theorem d_CM_leads_68 : decode prog_1_method_52_code 68 = .ok (.getfield 163, 3) := F_CM_leads_61.2.2.2.1
theorem d_CM_leads_71 : decode prog_1_method_52_code 71 = .ok (.iload_n 2, 1) := F_CM_leads_61.2.2.2.2.1
theorem d_CM_leads_72 : decode prog_1_method_52_code 72 = .ok (.aaload, 1) := F_CM_leads_61.2.2.2.2.2.1
theorem d_CM_leads_73 : decode prog_1_method_52_code 73 = .ok (.invokestatic 306, 3) := F_CM_leads_61.2.2.2.2.2.2.1
theorem d_CM_leads_76 : decode prog_1_method_52_code 76 = .ok (.ifCond .eq (6), 3) := F_CM_leads_61.2.2.2.2.2.2.2.1
theorem d_CM_leads_79 : decode prog_1_method_52_code 79 = .ok (.iload 4, 2) := F_CM_leads_61.2.2.2.2.2.2.2.2.1
theorem d_CM_leads_81 : decode prog_1_method_52_code 81 = .ok (.ireturn, 1) := F_CM_leads_61.2.2.2.2.2.2.2.2.2.1
theorem d_CM_leads_82 : decode prog_1_method_52_code 82 = .ok (.iinc 4 (1), 3) := F_CM_leads_61.2.2.2.2.2.2.2.2.2.2.1
theorem d_CM_leads_85 : decode prog_1_method_52_code 85 = .ok (.goto (-48), 3) := F_CM_leads_61.2.2.2.2.2.2.2.2.2.2.2.1
theorem d_CM_leads_88 : decode prog_1_method_52_code 88 = .ok (.bipush (-2), 2) := F_CM_leads_61.2.2.2.2.2.2.2.2.2.2.2.2.1
theorem d_CM_leads_90 : decode prog_1_method_52_code 90 = .ok (.ireturn, 1) := F_CM_leads_61.2.2.2.2.2.2.2.2.2.2.2.2.2.1
theorem F_CM_pull_0 : Jvm.Free.DS.Facts prog_1_method_53_code 0 [(.aload_n 0, 1), (.getfield 12, 3), (.iload_n 1, 1), (.invokevirtual 151, 3), (.ifCond .eq (21), 3), (.iload_n 2, 1), (.iload_n 3, 1), (.iload 4, 2), (.invokestatic 267, 3), (.ifCond .eq (11), 3), (.iload 5, 2), (.invokestatic 154, 3), (.ifCond .ne (7), 3), (.ldc2_w 270, 3), (.lreturn, 1), (.iload_n 2, 1), (.i2l, 1), (.iload_n 3, 1), (.i2l, 1), (.iload 4, 2), (.i2l, 1), (.aload_n 0, 1), (.getfield 75, 3), (.invokestatic 238, 3), (.aload_n 0, 1), (.getfield 12, 3), (.getfield 157, 3), (.iload_n 1, 1), (.aaload, 1), (.aload_n 0, 1), (.getfield 75, 3), (.aload_n 0, 1)] := Jvm.Free.DS.facts 0 _ (by decide +kernel) (by decide +kernel)
theorem d_CM_pull_0 : decode prog_1_method_53_code 0 = .ok (.aload_n 0, 1) := F_CM_pull_0.1
theorem d_CM_pull_1 : decode prog_1_method_53_code 1 = .ok (.getfield 12, 3) := F_CM_pull_0.2.1
theorem d_CM_pull_4 : decode prog_1_method_53_code 4 = .ok (.iload_n 1, 1) := F_CM_pull_0.2.2.1
theorem d_CM_pull_5 : decode prog_1_method_53_code 5 = .ok (.invokevirtual 151, 3) := F_CM_pull_0.2.2.2.1
theorem d_CM_pull_8 : decode prog_1_method_53_code 8 = .ok (.ifCond .eq (21), 3) := F_CM_pull_0.2.2.2.2.1
theorem d_CM_pull_11 : decode prog_1_method_53_code 11 = .ok (.iload_n 2, 1) := F_CM_pull_0.2.2.2.2.2.1
theorem d_CM_pull_12 : decode prog_1_method_53_code 12 = .ok (.iload_n 3, 1) := F_CM_pull_0.2.2.2.2.2.2.1
theorem d_CM_pull_13 : decode prog_1_method_53_code 13 = .ok (.iload 4, 2) := F_CM_pull_0.2.2.2.2.2.2.2.1
theorem d_CM_pull_15 : decode prog_1_method_53_code 15 = .ok (.invokestatic 267, 3) := F_CM_pull_0.2.2.2.2.2.2.2.2.1
theorem d_CM_pull_18 : decode prog_1_method_53_code 18 = .ok (.ifCond .eq (11), 3) := F_CM_pull_0.2.2.2.2.2.2.2.2.2.1
theorem d_CM_pull_21 : decode prog_1_method_53_code 21 = .ok (.iload 5, 2) := F_CM_pull_0.2.2.2.2.2.2.2.2.2.2.1
theorem d_CM_pull_23 : decode prog_1_method_53_code 23 = .ok (.invokestatic 154, 3) := F_CM_pull_0.2.2.2.2.2.2.2.2.2.2.2.1
theorem d_CM_pull_26 : decode prog_1_method_53_code 26 = .ok (.ifCond .ne (7), 3) := F_CM_pull_0.2.2.2.2.2.2.2.2.2.2.2.2.1
theorem d_CM_pull_29 : decode prog_1_method_53_code 29 = .ok (.ldc2_w 270, 3) := F_CM_pull_0.2.2.2.2.2.2.2.2.2.2.2.2.2.1
theorem d_CM_pull_32 : decode prog_1_method_53_code 32 = .ok (.lreturn, 1) := F_CM_pull_0.2.2.2.2.2.2.2.2.2.2.2.2.2.2.1
theorem d_CM_pull_33 : decode prog_1_method_53_code 33 = .ok (.iload_n 2, 1) := F_CM_pull_0.2.2.2.2.2.2.2.2.2.2.2.2.2.2.2.1
theorem d_CM_pull_34 : decode prog_1_method_53_code 34 = .ok (.i2l, 1) := F_CM_pull_0.2.2.2.2.2.2.2.2.2.2.2.2.2.2.2.2.1
theorem d_CM_pull_35 : decode prog_1_method_53_code 35 = .ok (.iload_n 3, 1) := F_CM_pull_0.2.2.2.2.2.2.2.2.2.2.2.2.2.2.2.2.2.1
theorem d_CM_pull_36 : decode prog_1_method_53_code 36 = .ok (.i2l, 1) := F_CM_pull_0.2.2.2.2.2.2.2.2.2.2.2.2.2.2.2.2.2.2.1
theorem d_CM_pull_37 : decode prog_1_method_53_code 37 = .ok (.iload 4, 2) := F_CM_pull_0.2.2.2.2.2.2.2.2.2.2.2.2.2.2.2.2.2.2.2.1
theorem d_CM_pull_39 : decode prog_1_method_53_code 39 = .ok (.i2l, 1) := F_CM_pull_0.2.2.2.2.2.2.2.2.2.2.2.2.2.2.2.2.2.2.2.2.1
theorem d_CM_pull_40 : decode prog_1_method_53_code 40 = .ok (.aload_n 0, 1) := F_CM_pull_0.2.2.2.2.2.2.2.2.2.2.2.2.2.2.2.2.2.2.2.2.2.1
theorem d_CM_pull_41 : decode prog_1_method_53_code 41 = .ok (.getfield 75, 3) := F_CM_pull_0.2.2.2.2.2.2.2.2.2.2.2.2.2.2.2.2.2.2.2.2.2.2.1
theorem d_CM_pull_44 : decode prog_1_method_53_code 44 = .ok (.invokestatic 238, 3) := F_CM_pull_0.2.2.2.2.2.2.2.2.2.2.2.2.2.2.2.2.2.2.2.2.2.2.2.1
theorem d_CM_pull_47 : decode prog_1_method_53_code 47 = .ok (.aload_n 0, 1) := F_CM_pull_0.2.2.2.2.2.2.2.2.2.2.2.2.2.2.2.2.2.2.2.2.2.2.2.2.1
theorem d_CM_pull_48 : decode prog_1_method_53_code 48 = .ok (.getfield 12, 3) := F_CM_pull_0.2.2.2.2.2.2.2.2.2.2.2.2.2.2.2.2.2.2.2.2.2.2.2.2.2.1
theorem d_CM_pull_51 : decode prog_1_method_53_code 51 = .ok (.getfield 157, 3) := F_CM_pull_0.2.2.2.2.2.2.2.2.2.2.2.2.2.2.2.2.2.2.2.2.2.2.2.2.2.2.1
theorem d_CM_pull_54 : decode prog_1_method_53_code 54 = .ok (.iload_n 1, 1) := F_CM_pull_0.2.2.2.2.2.2.2.2.2.2.2.2.2.2.2.2.2.2.2.2.2.2.2.2.2.2.2.1
theorem d_CM_pull_55 : decode prog_1_method_53_code 55 = .ok (.aaload, 1) := F_CM_pull_0.2.2.2.2.2.2.2.2.2.2.2.2.2.2.2.2.2.2.2.2.2.2.2.2.2.2.2.2.1
theorem d_CM_pull_56 : decode prog_1_method_53_code 56 = .ok (.aload_n 0, 1) := F_CM_pull_0.2.2.2.2.2.2.2.2.2.2.2.2.2.2.2.2.2.2.2.2.2.2.2.2.2.2.2.2.2.1
theorem d_CM_pull_57 : decode prog_1_method_53_code 57 = .ok (.getfield 75, 3) := F_CM_pull_0.2.2.2.2.2.2.2.2.2.2.2.2.2.2.2.2.2.2.2.2.2.2.2.2.2.2.2.2.2.2.1
theorem d_CM_pull_60 : decode prog_1_method_53_code 60 = .ok (.aload_n 0, 1) := F_CM_pull_0.2.2.2.2.2.2.2.2.2.2.2.2.2.2.2.2.2.2.2.2.2.2.2.2.2.2.2.2.2.2.2.1
theorem F_CM_pull_61 : Jvm.Free.DS.Facts prog_1_method_53_code 61 [(.getfield 78, 3), (.invokestatic 277, 3), (.aload_n 0, 1), (.getfield 78, 3), (.iload 5, 2), (.laload, 1), (.lreturn, 1)] := Jvm.Free.DS.facts 61 _ (by decide +kernel) (by decide +kernel)
theorem d_CM_pull_61 : decode prog_1_method_53_code 61 = .ok (.getfield 78, 3) := F_CM_pull_61.1
theorem d_CM_pull_64 : decode prog_1_method_53_code 64 = .ok (.invokestatic 277, 3) := F_CM_pull_61.2.1
theorem d_CM_pull_67 : decode prog_1_method_53_code 67 = .ok (.aload_n 0, 1) := F_CM_pull_61.2.2.1
theorem d_CM_pull_68 : decode prog_1_method_53_code 68 = .ok (.getfield 78, 3) := F_CM_pull_61.2.2.2.1
theorem d_CM_pull_71 : decode prog_1_method_53_code 71 = .ok (.iload 5, 2) := F_CM_pull_61.2.2.2.2.1
theorem d_CM_pull_73 : decode prog_1_method_53_code 73 = .ok (.laload, 1) := F_CM_pull_61.2.2.2.2.2.1
theorem d_CM_pull_74 : decode prog_1_method_53_code 74 = .ok (.lreturn, 1) := F_CM_pull_61.2.2.2.2.2.2.1
theorem F_CM_keepsLine_0 : Jvm.Free.DS.Facts prog_1_method_54_code 0 [(.aload_n 0, 1), (.getfield 12, 3), (.iload_n 1, 1), (.invokevirtual 151, 3), (.ifCond .eq (13), 3), (.iload_n 2, 1), (.iload_n 3, 1), (.iload 4, 2), (.invokestatic 267, 3), (.ifCond .ne (5), 3), (.iconst (-1), 1), (.ireturn, 1), (.iload_n 2, 1), (.i2l, 1), (.iload_n 3, 1), (.i2l, 1), (.iload 4, 2), (.i2l, 1), (.aload_n 0, 1), (.getfield 75, 3), (.invokestatic 238, 3), (.aload_n 0, 1), (.getfield 12, 3), (.getfield 157, 3), (.iload_n 1, 1), (.aaload, 1), (.aload_n 0, 1), (.getfield 75, 3), (.aload_n 0, 1), (.getfield 78, 3), (.invokestatic 277, 3), (.aload_n 0, 1)] := Jvm.Free.DS.facts 0 _ (by decide +kernel) (by decide +kernel)
theorem d_CM_keepsLine_0 : decode prog_1_method_54_code 0 = .ok (.aload_n 0, 1) := F_CM_keepsLine_0.1
theorem d_CM_keepsLine_1 : decode prog_1_method_54_code 1 = .ok (.getfield 12, 3) := F_CM_keepsLine_0.2.1
theorem d_CM_keepsLine_4 : decode prog_1_method_54_code 4 = .ok (.iload_n 1, 1) := F_CM_keepsLine_0.2.2.1
theorem d_CM_keepsLine_5 : decode prog_1_method_54_code 5 = .ok (.invokevirtual 151, 3) := F_CM_keepsLine_0.2.2.2.1
theorem d_CM_keepsLine_8 : decode prog_1_method_54_code 8 = .ok (.ifCond .eq (13), 3) := F_CM_keepsLine_0.2.2.2.2.1
theorem d_CM_keepsLine_11 : decode prog_1_method_54_code 11 = .ok (.iload_n 2, 1) := F_CM_keepsLine_0.2.2.2.2.2.1
theorem d_CM_keepsLine_12 : decode prog_1_method_54_code 12 = .ok (.iload_n 3, 1) := F_CM_keepsLine_0.2.2.2.2.2.2.1
theorem d_CM_keepsLine_13 : decode prog_1_method_54_code 13 = .ok (.iload 4, 2) := F_CM_keepsLine_0.2.2.2.2.2.2.2.1
theorem d_CM_keepsLine_15 : decode prog_1_method_54_code 15 = .ok (.invokestatic 267, 3) := F_CM_keepsLine_0.2.2.2.2.2.2.2.2.1
theorem d_CM_keepsLine_18 : decode prog_1_method_54_code 18 = .ok (.ifCond .ne (5), 3) := F_CM_keepsLine_0.2.2.2.2.2.2.2.2.2.1
theorem d_CM_keepsLine_21 : decode prog_1_method_54_code 21 = .ok (.iconst (-1), 1) := F_CM_keepsLine_0.2.2.2.2.2.2.2.2.2.2.1
theorem d_CM_keepsLine_22 : decode prog_1_method_54_code 22 = .ok (.ireturn, 1) := F_CM_keepsLine_0.2.2.2.2.2.2.2.2.2.2.2.1
theorem d_CM_keepsLine_23 : decode prog_1_method_54_code 23 = .ok (.iload_n 2, 1) := F_CM_keepsLine_0.2.2.2.2.2.2.2.2.2.2.2.2.1
theorem d_CM_keepsLine_24 : decode prog_1_method_54_code 24 = .ok (.i2l, 1) := F_CM_keepsLine_0.2.2.2.2.2.2.2.2.2.2.2.2.2.1
theorem d_CM_keepsLine_25 : decode prog_1_method_54_code 25 = .ok (.iload_n 3, 1) := F_CM_keepsLine_0.2.2.2.2.2.2.2.2.2.2.2.2.2.2.1
theorem d_CM_keepsLine_26 : decode prog_1_method_54_code 26 = .ok (.i2l, 1) := F_CM_keepsLine_0.2.2.2.2.2.2.2.2.2.2.2.2.2.2.2.1
theorem d_CM_keepsLine_27 : decode prog_1_method_54_code 27 = .ok (.iload 4, 2) := F_CM_keepsLine_0.2.2.2.2.2.2.2.2.2.2.2.2.2.2.2.2.1
theorem d_CM_keepsLine_29 : decode prog_1_method_54_code 29 = .ok (.i2l, 1) := F_CM_keepsLine_0.2.2.2.2.2.2.2.2.2.2.2.2.2.2.2.2.2.1
theorem d_CM_keepsLine_30 : decode prog_1_method_54_code 30 = .ok (.aload_n 0, 1) := F_CM_keepsLine_0.2.2.2.2.2.2.2.2.2.2.2.2.2.2.2.2.2.2.1
theorem d_CM_keepsLine_31 : decode prog_1_method_54_code 31 = .ok (.getfield 75, 3) := F_CM_keepsLine_0.2.2.2.2.2.2.2.2.2.2.2.2.2.2.2.2.2.2.2.1
theorem d_CM_keepsLine_34 : decode prog_1_method_54_code 34 = .ok (.invokestatic 238, 3) := F_CM_keepsLine_0.2.2.2.2.2.2.2.2.2.2.2.2.2.2.2.2.2.2.2.2.1
theorem d_CM_keepsLine_37 : decode prog_1_method_54_code 37 = .ok (.aload_n 0, 1) := F_CM_keepsLine_0.2.2.2.2.2.2.2.2.2.2.2.2.2.2.2.2.2.2.2.2.2.1
theorem d_CM_keepsLine_38 : decode prog_1_method_54_code 38 = .ok (.getfield 12, 3) := F_CM_keepsLine_0.2.2.2.2.2.2.2.2.2.2.2.2.2.2.2.2.2.2.2.2.2.2.1
theorem d_CM_keepsLine_41 : decode prog_1_method_54_code 41 = .ok (.getfield 157, 3) := F_CM_keepsLine_0.2.2.2.2.2.2.2.2.2.2.2.2.2.2.2.2.2.2.2.2.2.2.2.1
theorem d_CM_keepsLine_44 : decode prog_1_method_54_code 44 = .ok (.iload_n 1, 1) := F_CM_keepsLine_0.2.2.2.2.2.2.2.2.2.2.2.2.2.2.2.2.2.2.2.2.2.2.2.2.1
theorem d_CM_keepsLine_45 : decode prog_1_method_54_code 45 = .ok (.aaload, 1) := F_CM_keepsLine_0.2.2.2.2.2.2.2.2.2.2.2.2.2.2.2.2.2.2.2.2.2.2.2.2.2.1
theorem d_CM_keepsLine_46 : decode prog_1_method_54_code 46 = .ok (.aload_n 0, 1) := F_CM_keepsLine_0.2.2.2.2.2.2.2.2.2.2.2.2.2.2.2.2.2.2.2.2.2.2.2.2.2.2.1
theorem d_CM_keepsLine_47 : decode prog_1_method_54_code 47 = .ok (.getfield 75, 3) := F_CM_keepsLine_0.2.2.2.2.2.2.2.2.2.2.2.2.2.2.2.2.2.2.2.2.2.2.2.2.2.2.2.1
theorem d_CM_keepsLine_50 : decode prog_1_method_54_code 50 = .ok (.aload_n 0, 1) := F_CM_keepsLine_0.2.2.2.2.2.2.2.2.2.2.2.2.2.2.2.2.2.2.2.2.2.2.2.2.2.2.2.2.1
theorem d_CM_keepsLine_51 : decode prog_1_method_54_code 51 = .ok (.getfield 78, 3) := F_CM_keepsLine_0.2.2.2.2.2.2.2.2.2.2.2.2.2.2.2.2.2.2.2.2.2.2.2.2.2.2.2.2.2.1
theorem d_CM_keepsLine_54 : decode prog_1_method_54_code 54 = .ok (.invokestatic 277, 3) := F_CM_keepsLine_0.2.2.2.2.2.2.2.2.2.2.2.2.2.2.2.2.2.2.2.2.2.2.2.2.2.2.2.2.2.2.1
theorem d_CM_keepsLine_57 : decode prog_1_method_54_code 57 = .ok (.aload_n 0, 1) := F_CM_keepsLine_0.2.2.2.2.2.2.2.2.2.2.2.2.2.2.2.2.2.2.2.2.2.2.2.2.2.2.2.2.2.2.2.1
theorem F_CM_keepsLine_58 : Jvm.Free.DS.Facts prog_1_method_54_code 58 [(.getfield 75, 3), (.invokestatic 352, 3), (.aload_n 0, 1), (.getfield 75, 3), (.aload_n 0, 1), (.getfield 78, 3), (.invokestatic 306, 3), (.invokestatic 290, 3), (.ireturn, 1)] := Jvm.Free.DS.facts 58 _ (by decide +kernel) (by decide +kernel)
theorem d_CM_keepsLine_58 : decode prog_1_method_54_code 58 = .ok (.getfield 75, 3) := F_CM_keepsLine_58.1
theorem d_CM_keepsLine_61 : decode prog_1_method_54_code 61 = .ok (.invokestatic 352, 3) := F_CM_keepsLine_58.2.1
theorem d_CM_keepsLine_64 : decode prog_1_method_54_code 64 = .ok (.aload_n 0, 1) := F_CM_keepsLine_58.2.2.1
theorem d_CM_keepsLine_65 : decode prog_1_method_54_code 65 = .ok (.getfield 75, 3) := F_CM_keepsLine_58.2.2.2.1
theorem d_CM_keepsLine_68 : decode prog_1_method_54_code 68 = .ok (.aload_n 0, 1) := F_CM_keepsLine_58.2.2.2.2.1
theorem d_CM_keepsLine_69 : decode prog_1_method_54_code 69 = .ok (.getfield 78, 3) := F_CM_keepsLine_58.2.2.2.2.2.1
theorem d_CM_keepsLine_72 : decode prog_1_method_54_code 72 = .ok (.invokestatic 306, 3) := F_CM_keepsLine_58.2.2.2.2.2.2.1
theorem d_CM_keepsLine_75 : decode prog_1_method_54_code 75 = .ok (.invokestatic 290, 3) := F_CM_keepsLine_58.2.2.2.2.2.2.2.1
theorem d_CM_keepsLine_78 : decode prog_1_method_54_code 78 = .ok (.ireturn, 1) := F_CM_keepsLine_58.2.2.2.2.2.2.2.2.1
theorem F_CM_side_0 : Jvm.Free.DS.Facts prog_1_method_55_code 0 [(.aload_n 0, 1), (.getfield 12, 3), (.iload_n 1, 1), (.invokevirtual 127, 3), (.ifCond .eq (17), 3), (.iload_n 2, 1), (.invokestatic 130, 3), (.ifCond .eq (10), 3), (.iload_n 3, 1), (.invokestatic 154, 3), (.ifCond .ne (7), 3), (.ldc2_w 270, 3), (.lreturn, 1), (.aload_n 0, 1), (.getfield 12, 3), (.getfield 142, 3), (.iload_n 1, 1), (.aaload, 1), (.getfield 146, 3), (.astore 4, 2), (.aload 4, 2), (.iload_n 2, 1), (.aaload, 1), (.aload 4, 2), (.iload_n 2, 1), (.iconst 1, 1), (.iadd, 1), (.iconst 3, 1), (.iand, 1), (.aaload, 1), (.aload_n 0, 1), (.getfield 78, 3)] := Jvm.Free.DS.facts 0 _ (by decide +kernel) (by decide +kernel)
theorem d_CM_side_0 : decode prog_1_method_55_code 0 = .ok (.aload_n 0, 1) := F_CM_side_0.1
theorem d_CM_side_1 : decode prog_1_method_55_code 1 = .ok (.getfield 12, 3) := F_CM_side_0.2.1
theorem d_CM_side_4 : decode prog_1_method_55_code 4 = .ok (.iload_n 1, 1) := F_CM_side_0.2.2.1
theorem d_CM_side_5 : decode prog_1_method_55_code 5 = .ok (.invokevirtual 127, 3) := F_CM_side_0.2.2.2.1
theorem d_CM_side_8 : decode prog_1_method_55_code 8 = .ok (.ifCond .eq (17), 3) := F_CM_side_0.2.2.2.2.1
theorem d_CM_side_11 : decode prog_1_method_55_code 11 = .ok (.iload_n 2, 1) := F_CM_side_0.2.2.2.2.2.1
theorem d_CM_side_12 : decode prog_1_method_55_code 12 = .ok (.invokestatic 130, 3) := F_CM_side_0.2.2.2.2.2.2.1
theorem d_CM_side_15 : decode prog_1_method_55_code 15 = .ok (.ifCond .eq (10), 3) := F_CM_side_0.2.2.2.2.2.2.2.1
theorem d_CM_side_18 : decode prog_1_method_55_code 18 = .ok (.iload_n 3, 1) := F_CM_side_0.2.2.2.2.2.2.2.2.1
theorem d_CM_side_19 : decode prog_1_method_55_code 19 = .ok (.invokestatic 154, 3) := F_CM_side_0.2.2.2.2.2.2.2.2.2.1
theorem d_CM_side_22 : decode prog_1_method_55_code 22 = .ok (.ifCond .ne (7), 3) := F_CM_side_0.2.2.2.2.2.2.2.2.2.2.1
theorem d_CM_side_25 : decode prog_1_method_55_code 25 = .ok (.ldc2_w 270, 3) := F_CM_side_0.2.2.2.2.2.2.2.2.2.2.2.1
theorem d_CM_side_28 : decode prog_1_method_55_code 28 = .ok (.lreturn, 1) := F_CM_side_0.2.2.2.2.2.2.2.2.2.2.2.2.1
theorem d_CM_side_29 : decode prog_1_method_55_code 29 = .ok (.aload_n 0, 1) := F_CM_side_0.2.2.2.2.2.2.2.2.2.2.2.2.2.1
theorem d_CM_side_30 : decode prog_1_method_55_code 30 = .ok (.getfield 12, 3) := F_CM_side_0.2.2.2.2.2.2.2.2.2.2.2.2.2.2.1
theorem d_CM_side_33 : decode prog_1_method_55_code 33 = .ok (.getfield 142, 3) := F_CM_side_0.2.2.2.2.2.2.2.2.2.2.2.2.2.2.2.1
theorem d_CM_side_36 : decode prog_1_method_55_code 36 = .ok (.iload_n 1, 1) := F_CM_side_0.2.2.2.2.2.2.2.2.2.2.2.2.2.2.2.2.1
theorem d_CM_side_37 : decode prog_1_method_55_code 37 = .ok (.aaload, 1) := F_CM_side_0.2.2.2.2.2.2.2.2.2.2.2.2.2.2.2.2.2.1
theorem d_CM_side_38 : decode prog_1_method_55_code 38 = .ok (.getfield 146, 3) := F_CM_side_0.2.2.2.2.2.2.2.2.2.2.2.2.2.2.2.2.2.2.1
theorem d_CM_side_41 : decode prog_1_method_55_code 41 = .ok (.astore 4, 2) := F_CM_side_0.2.2.2.2.2.2.2.2.2.2.2.2.2.2.2.2.2.2.2.1
theorem d_CM_side_43 : decode prog_1_method_55_code 43 = .ok (.aload 4, 2) := F_CM_side_0.2.2.2.2.2.2.2.2.2.2.2.2.2.2.2.2.2.2.2.2.1
theorem d_CM_side_45 : decode prog_1_method_55_code 45 = .ok (.iload_n 2, 1) := F_CM_side_0.2.2.2.2.2.2.2.2.2.2.2.2.2.2.2.2.2.2.2.2.2.1
theorem d_CM_side_46 : decode prog_1_method_55_code 46 = .ok (.aaload, 1) := F_CM_side_0.2.2.2.2.2.2.2.2.2.2.2.2.2.2.2.2.2.2.2.2.2.2.1
theorem d_CM_side_47 : decode prog_1_method_55_code 47 = .ok (.aload 4, 2) := F_CM_side_0.2.2.2.2.2.2.2.2.2.2.2.2.2.2.2.2.2.2.2.2.2.2.2.1
theorem d_CM_side_49 : decode prog_1_method_55_code 49 = .ok (.iload_n 2, 1) := F_CM_side_0.2.2.2.2.2.2.2.2.2.2.2.2.2.2.2.2.2.2.2.2.2.2.2.2.1
theorem d_CM_side_50 : decode prog_1_method_55_code 50 = .ok (.iconst 1, 1) := F_CM_side_0.2.2.2.2.2.2.2.2.2.2.2.2.2.2.2.2.2.2.2.2.2.2.2.2.2.1
theorem d_CM_side_51 : decode prog_1_method_55_code 51 = .ok (.iadd, 1) := F_CM_side_0.2.2.2.2.2.2.2.2.2.2.2.2.2.2.2.2.2.2.2.2.2.2.2.2.2.2.1
theorem d_CM_side_52 : decode prog_1_method_55_code 52 = .ok (.iconst 3, 1) := F_CM_side_0.2.2.2.2.2.2.2.2.2.2.2.2.2.2.2.2.2.2.2.2.2.2.2.2.2.2.2.1
theorem d_CM_side_53 : decode prog_1_method_55_code 53 = .ok (.iand, 1) := F_CM_side_0.2.2.2.2.2.2.2.2.2.2.2.2.2.2.2.2.2.2.2.2.2.2.2.2.2.2.2.2.1
theorem d_CM_side_54 : decode prog_1_method_55_code 54 = .ok (.aaload, 1) := F_CM_side_0.2.2.2.2.2.2.2.2.2.2.2.2.2.2.2.2.2.2.2.2.2.2.2.2.2.2.2.2.2.1
theorem d_CM_side_55 : decode prog_1_method_55_code 55 = .ok (.aload_n 0, 1) := F_CM_side_0.2.2.2.2.2.2.2.2.2.2.2.2.2.2.2.2.2.2.2.2.2.2.2.2.2.2.2.2.2.2.1
theorem d_CM_side_56 : decode prog_1_method_55_code 56 = .ok (.getfield 78, 3) := F_CM_side_0.2.2.2.2.2.2.2.2.2.2.2.2.2.2.2.2.2.2.2.2.2.2.2.2.2.2.2.2.2.2.2.1
theorem F_CM_side_59 : Jvm.Free.DS.Facts prog_1_method_55_code 59 [(.invokestatic 324, 3), (.pop, 1), (.aload_n 0, 1), (.getfield 78, 3), (.iload_n 3, 1), (.laload, 1), (.lreturn, 1)] := Jvm.Free.DS.facts 59 _ (by decide +kernel) (by decide +kernel)
theorem d_CM_side_59 : decode prog_1_method_55_code 59 = .ok (.invokestatic 324, 3) := F_CM_side_59.1
theorem d_CM_side_62 : decode prog_1_method_55_code 62 = .ok (.pop, 1) := F_CM_side_59.2.1
theorem d_CM_side_63 : decode prog_1_method_55_code 63 = .ok (.aload_n 0, 1) := F_CM_side_59.2.2.1
theorem d_CM_side_64 : decode prog_1_method_55_code 64 = .ok (.getfield 78, 3) := F_CM_side_59.2.2.2.1
theorem d_CM_side_67 : decode prog_1_method_55_code 67 = .ok (.iload_n 3, 1) := F_CM_side_59.2.2.2.2.1
theorem d_CM_side_68 : decode prog_1_method_55_code 68 = .ok (.laload, 1) := F_CM_side_59.2.2.2.2.2.1
theorem d_CM_side_69 : decode prog_1_method_55_code 69 = .ok (.lreturn, 1) := F_CM_side_59.2.2.2.2.2.2.1
theorem F_CM_isCorner_0 : Jvm.Free.DS.Facts prog_1_method_76_code 0 [(.iload_n 0, 1), (.ifCond .lt (12), 3), (.iload_n 0, 1), (.iconst 4, 1), (.if_icmp .ge (7), 3), (.iconst 1, 1), (.goto (4), 3), (.iconst 0, 1), (.ireturn, 1)] := Jvm.Free.DS.facts 0 _ (by decide +kernel) (by decide +kernel)
theorem d_CM_isCorner_0 : decode prog_1_method_76_code 0 = .ok (.iload_n 0, 1) := F_CM_isCorner_0.1
theorem d_CM_isCorner_1 : decode prog_1_method_76_code 1 = .ok (.ifCond .lt (12), 3) := F_CM_isCorner_0.2.1
theorem d_CM_isCorner_4 : decode prog_1_method_76_code 4 = .ok (.iload_n 0, 1) := F_CM_isCorner_0.2.2.1
theorem d_CM_isCorner_5 : decode prog_1_method_76_code 5 = .ok (.iconst 4, 1) := F_CM_isCorner_0.2.2.2.1
theorem d_CM_isCorner_6 : decode prog_1_method_76_code 6 = .ok (.if_icmp .ge (7), 3) := F_CM_isCorner_0.2.2.2.2.1
theorem d_CM_isCorner_9 : decode prog_1_method_76_code 9 = .ok (.iconst 1, 1) := F_CM_isCorner_0.2.2.2.2.2.1
theorem d_CM_isCorner_10 : decode prog_1_method_76_code 10 = .ok (.goto (4), 3) := F_CM_isCorner_0.2.2.2.2.2.2.1
theorem d_CM_isCorner_13 : decode prog_1_method_76_code 13 = .ok (.iconst 0, 1) := F_CM_isCorner_0.2.2.2.2.2.2.2.1
theorem d_CM_isCorner_14 : decode prog_1_method_76_code 14 = .ok (.ireturn, 1) := F_CM_isCorner_0.2.2.2.2.2.2.2.2.1
theorem F_CM_turnOf_0 : Jvm.Free.DS.Facts prog_1_method_56_code 0 [(.aload_n 0, 1), (.iload_n 1, 1), (.invokevirtual 398, 3), (.ifCond .ne (19), 3), (.aload_n 0, 1), (.iload_n 2, 1), (.invokevirtual 398, 3), (.ifCond .ne (11), 3), (.aload_n 0, 1), (.iload_n 3, 1), (.invokevirtual 398, 3), (.ifCond .eq (6), 3), (.bipush (-2), 2), (.ireturn, 1), (.aload_n 0, 1), (.iload_n 1, 1), (.iload_n 2, 1), (.iload_n 3, 1), (.iload_n 3, 1), (.invokevirtual 330, 3), (.ifCond .ne (6), 3), (.bipush (-3), 2), (.ireturn, 1), (.aload_n 0, 1), (.getfield 12, 3), (.getfield 163, 3), (.iload_n 1, 1), (.aaload, 1), (.aload_n 0, 1), (.getfield 12, 3), (.getfield 163, 3), (.iload_n 2, 1)] := Jvm.Free.DS.facts 0 _ (by decide +kernel) (by decide +kernel)
theorem d_CM_turnOf_0 : decode prog_1_method_56_code 0 = .ok (.aload_n 0, 1) := F_CM_turnOf_0.1
theorem d_CM_turnOf_1 : decode prog_1_method_56_code 1 = .ok (.iload_n 1, 1) := F_CM_turnOf_0.2.1
theorem d_CM_turnOf_2 : decode prog_1_method_56_code 2 = .ok (.invokevirtual 398, 3) := F_CM_turnOf_0.2.2.1
theorem d_CM_turnOf_5 : decode prog_1_method_56_code 5 = .ok (.ifCond .ne (19), 3) := F_CM_turnOf_0.2.2.2.1
theorem d_CM_turnOf_8 : decode prog_1_method_56_code 8 = .ok (.aload_n 0, 1) := F_CM_turnOf_0.2.2.2.2.1
theorem d_CM_turnOf_9 : decode prog_1_method_56_code 9 = .ok (.iload_n 2, 1) := F_CM_turnOf_0.2.2.2.2.2.1
theorem d_CM_turnOf_10 : decode prog_1_method_56_code 10 = .ok (.invokevirtual 398, 3) := F_CM_turnOf_0.2.2.2.2.2.2.1
theorem d_CM_turnOf_13 : decode prog_1_method_56_code 13 = .ok (.ifCond .ne (11), 3) := F_CM_turnOf_0.2.2.2.2.2.2.2.1
theorem d_CM_turnOf_16 : decode prog_1_method_56_code 16 = .ok (.aload_n 0, 1) := F_CM_turnOf_0.2.2.2.2.2.2.2.2.1
theorem d_CM_turnOf_17 : decode prog_1_method_56_code 17 = .ok (.iload_n 3, 1) := F_CM_turnOf_0.2.2.2.2.2.2.2.2.2.1
theorem d_CM_turnOf_18 : decode prog_1_method_56_code 18 = .ok (.invokevirtual 398, 3) := F_CM_turnOf_0.2.2.2.2.2.2.2.2.2.2.1
theorem d_CM_turnOf_21 : decode prog_1_method_56_code 21 = .ok (.ifCond .eq (6), 3) := F_CM_turnOf_0.2.2.2.2.2.2.2.2.2.2.2.1
theorem d_CM_turnOf_24 : decode prog_1_method_56_code 24 = .ok (.bipush (-2), 2) := F_CM_turnOf_0.2.2.2.2.2.2.2.2.2.2.2.2.1
theorem d_CM_turnOf_26 : decode prog_1_method_56_code 26 = .ok (.ireturn, 1) := F_CM_turnOf_0.2.2.2.2.2.2.2.2.2.2.2.2.2.1
theorem d_CM_turnOf_27 : decode prog_1_method_56_code 27 = .ok (.aload_n 0, 1) := F_CM_turnOf_0.2.2.2.2.2.2.2.2.2.2.2.2.2.2.1
theorem d_CM_turnOf_28 : decode prog_1_method_56_code 28 = .ok (.iload_n 1, 1) := F_CM_turnOf_0.2.2.2.2.2.2.2.2.2.2.2.2.2.2.2.1
theorem d_CM_turnOf_29 : decode prog_1_method_56_code 29 = .ok (.iload_n 2, 1) := F_CM_turnOf_0.2.2.2.2.2.2.2.2.2.2.2.2.2.2.2.2.1
theorem d_CM_turnOf_30 : decode prog_1_method_56_code 30 = .ok (.iload_n 3, 1) := F_CM_turnOf_0.2.2.2.2.2.2.2.2.2.2.2.2.2.2.2.2.2.1
theorem d_CM_turnOf_31 : decode prog_1_method_56_code 31 = .ok (.iload_n 3, 1) := F_CM_turnOf_0.2.2.2.2.2.2.2.2.2.2.2.2.2.2.2.2.2.2.1
theorem d_CM_turnOf_32 : decode prog_1_method_56_code 32 = .ok (.invokevirtual 330, 3) := F_CM_turnOf_0.2.2.2.2.2.2.2.2.2.2.2.2.2.2.2.2.2.2.2.1
theorem d_CM_turnOf_35 : decode prog_1_method_56_code 35 = .ok (.ifCond .ne (6), 3) := F_CM_turnOf_0.2.2.2.2.2.2.2.2.2.2.2.2.2.2.2.2.2.2.2.2.1
theorem d_CM_turnOf_38 : decode prog_1_method_56_code 38 = .ok (.bipush (-3), 2) := F_CM_turnOf_0.2.2.2.2.2.2.2.2.2.2.2.2.2.2.2.2.2.2.2.2.2.1
theorem d_CM_turnOf_40 : decode prog_1_method_56_code 40 = .ok (.ireturn, 1) := F_CM_turnOf_0.2.2.2.2.2.2.2.2.2.2.2.2.2.2.2.2.2.2.2.2.2.2.1
theorem d_CM_turnOf_41 : decode prog_1_method_56_code 41 = .ok (.aload_n 0, 1) := F_CM_turnOf_0.2.2.2.2.2.2.2.2.2.2.2.2.2.2.2.2.2.2.2.2.2.2.2.1
theorem d_CM_turnOf_42 : decode prog_1_method_56_code 42 = .ok (.getfield 12, 3) := F_CM_turnOf_0.2.2.2.2.2.2.2.2.2.2.2.2.2.2.2.2.2.2.2.2.2.2.2.2.1
theorem d_CM_turnOf_45 : decode prog_1_method_56_code 45 = .ok (.getfield 163, 3) := F_CM_turnOf_0.2.2.2.2.2.2.2.2.2.2.2.2.2.2.2.2.2.2.2.2.2.2.2.2.2.1
theorem d_CM_turnOf_48 : decode prog_1_method_56_code 48 = .ok (.iload_n 1, 1) := F_CM_turnOf_0.2.2.2.2.2.2.2.2.2.2.2.2.2.2.2.2.2.2.2.2.2.2.2.2.2.2.1
theorem d_CM_turnOf_49 : decode prog_1_method_56_code 49 = .ok (.aaload, 1) := F_CM_turnOf_0.2.2.2.2.2.2.2.2.2.2.2.2.2.2.2.2.2.2.2.2.2.2.2.2.2.2.2.1
theorem d_CM_turnOf_50 : decode prog_1_method_56_code 50 = .ok (.aload_n 0, 1) := F_CM_turnOf_0.2.2.2.2.2.2.2.2.2.2.2.2.2.2.2.2.2.2.2.2.2.2.2.2.2.2.2.2.1
theorem d_CM_turnOf_51 : decode prog_1_method_56_code 51 = .ok (.getfield 12, 3) := F_CM_turnOf_0.2.2.2.2.2.2.2.2.2.2.2.2.2.2.2.2.2.2.2.2.2.2.2.2.2.2.2.2.2.1
theorem d_CM_turnOf_54 : decode prog_1_method_56_code 54 = .ok (.getfield 163, 3) := F_CM_turnOf_0.2.2.2.2.2.2.2.2.2.2.2.2.2.2.2.2.2.2.2.2.2.2.2.2.2.2.2.2.2.2.1
theorem d_CM_turnOf_57 : decode prog_1_method_56_code 57 = .ok (.iload_n 2, 1) := F_CM_turnOf_0.2.2.2.2.2.2.2.2.2.2.2.2.2.2.2.2.2.2.2.2.2.2.2.2.2.2.2.2.2.2.2.1
theorem F_CM_turnOf_58 : Jvm.Free.DS.Facts prog_1_method_56_code 58 [(.aaload, 1), (.aload_n 0, 1), (.getfield 12, 3), (.getfield 163, 3), (.iload_n 3, 1), (.aaload, 1), (.invokestatic 401, 3), (.invokestatic 404, 3), (.ireturn, 1)] := Jvm.Free.DS.facts 58 _ (by decide +kernel) (by decide +kernel)
theorem d_CM_turnOf_58 : decode prog_1_method_56_code 58 = .ok (.aaload, 1) := F_CM_turnOf_58.1
theorem d_CM_turnOf_59 : decode prog_1_method_56_code 59 = .ok (.aload_n 0, 1) := F_CM_turnOf_58.2.1
theorem d_CM_turnOf_60 : decode prog_1_method_56_code 60 = .ok (.getfield 12, 3) := F_CM_turnOf_58.2.2.1
theorem d_CM_turnOf_63 : decode prog_1_method_56_code 63 = .ok (.getfield 163, 3) := F_CM_turnOf_58.2.2.2.1
theorem d_CM_turnOf_66 : decode prog_1_method_56_code 66 = .ok (.iload_n 3, 1) := F_CM_turnOf_58.2.2.2.2.1
theorem d_CM_turnOf_67 : decode prog_1_method_56_code 67 = .ok (.aaload, 1) := F_CM_turnOf_58.2.2.2.2.2.1
theorem d_CM_turnOf_68 : decode prog_1_method_56_code 68 = .ok (.invokestatic 401, 3) := F_CM_turnOf_58.2.2.2.2.2.2.1
theorem d_CM_turnOf_71 : decode prog_1_method_56_code 71 = .ok (.invokestatic 404, 3) := F_CM_turnOf_58.2.2.2.2.2.2.2.1
theorem d_CM_turnOf_74 : decode prog_1_method_56_code 74 = .ok (.ireturn, 1) := F_CM_turnOf_58.2.2.2.2.2.2.2.2.1
theorem F_CM_isFar_0 : Jvm.Free.DS.Facts prog_1_method_84_code 0 [(.aload_n 0, 1), (.getfield 12, 3), (.iload_n 1, 1), (.invokevirtual 160, 3), (.ifCond .eq (22), 3), (.aload_n 0, 1), (.getfield 12, 3), (.getfield 163, 3), (.iload_n 1, 1), (.aaload, 1), (.invokestatic 283, 3), (.ifCond .ne (7), 3), (.iconst 1, 1), (.goto (4), 3), (.iconst 0, 1), (.ireturn, 1)] := Jvm.Free.DS.facts 0 _ (by decide +kernel) (by decide +kernel)
theorem d_CM_isFar_0 : decode prog_1_method_84_code 0 = .ok (.aload_n 0, 1) := F_CM_isFar_0.1
theorem d_CM_isFar_1 : decode prog_1_method_84_code 1 = .ok (.getfield 12, 3) := F_CM_isFar_0.2.1
theorem d_CM_isFar_4 : decode prog_1_method_84_code 4 = .ok (.iload_n 1, 1) := F_CM_isFar_0.2.2.1
theorem d_CM_isFar_5 : decode prog_1_method_84_code 5 = .ok (.invokevirtual 160, 3) := F_CM_isFar_0.2.2.2.1
theorem d_CM_isFar_8 : decode prog_1_method_84_code 8 = .ok (.ifCond .eq (22), 3) := F_CM_isFar_0.2.2.2.2.1
theorem d_CM_isFar_11 : decode prog_1_method_84_code 11 = .ok (.aload_n 0, 1) := F_CM_isFar_0.2.2.2.2.2.1
theorem d_CM_isFar_12 : decode prog_1_method_84_code 12 = .ok (.getfield 12, 3) := F_CM_isFar_0.2.2.2.2.2.2.1
theorem d_CM_isFar_15 : decode prog_1_method_84_code 15 = .ok (.getfield 163, 3) := F_CM_isFar_0.2.2.2.2.2.2.2.1
theorem d_CM_isFar_18 : decode prog_1_method_84_code 18 = .ok (.iload_n 1, 1) := F_CM_isFar_0.2.2.2.2.2.2.2.2.1
theorem d_CM_isFar_19 : decode prog_1_method_84_code 19 = .ok (.aaload, 1) := F_CM_isFar_0.2.2.2.2.2.2.2.2.2.1
theorem d_CM_isFar_20 : decode prog_1_method_84_code 20 = .ok (.invokestatic 283, 3) := F_CM_isFar_0.2.2.2.2.2.2.2.2.2.2.1
theorem d_CM_isFar_23 : decode prog_1_method_84_code 23 = .ok (.ifCond .ne (7), 3) := F_CM_isFar_0.2.2.2.2.2.2.2.2.2.2.2.1
theorem d_CM_isFar_26 : decode prog_1_method_84_code 26 = .ok (.iconst 1, 1) := F_CM_isFar_0.2.2.2.2.2.2.2.2.2.2.2.2.1
theorem d_CM_isFar_27 : decode prog_1_method_84_code 27 = .ok (.goto (4), 3) := F_CM_isFar_0.2.2.2.2.2.2.2.2.2.2.2.2.2.1
theorem d_CM_isFar_30 : decode prog_1_method_84_code 30 = .ok (.iconst 0, 1) := F_CM_isFar_0.2.2.2.2.2.2.2.2.2.2.2.2.2.2.1
theorem d_CM_isFar_31 : decode prog_1_method_84_code 31 = .ok (.ireturn, 1) := F_CM_isFar_0.2.2.2.2.2.2.2.2.2.2.2.2.2.2.2.1
theorem F_CM_gap_0 : Jvm.Free.DS.Facts prog_1_method_57_code 0 [(.aload_n 0, 1), (.getfield 12, 3), (.iload_n 1, 1), (.invokevirtual 160, 3), (.ifCond .eq (21), 3), (.aload_n 0, 1), (.getfield 12, 3), (.iload_n 2, 1), (.invokevirtual 160, 3), (.ifCond .eq (10), 3), (.iload_n 3, 1), (.invokestatic 136, 3), (.ifCond .ne (7), 3), (.ldc2_w 270, 3), (.lreturn, 1), (.aload_n 0, 1), (.iload_n 1, 1), (.invokevirtual 398, 3), (.ifCond .ne (11), 3), (.aload_n 0, 1), (.iload_n 2, 1), (.invokevirtual 398, 3), (.ifCond .eq (7), 3), (.ldc2_w 408, 3), (.lreturn, 1), (.aload_n 0, 1), (.getfield 12, 3), (.getfield 163, 3), (.iload_n 1, 1), (.aaload, 1), (.astore 4, 2), (.aload_n 0, 1)] := Jvm.Free.DS.facts 0 _ (by decide +kernel) (by decide +kernel)
theorem d_CM_gap_0 : decode prog_1_method_57_code 0 = .ok (.aload_n 0, 1) := F_CM_gap_0.1
theorem d_CM_gap_1 : decode prog_1_method_57_code 1 = .ok (.getfield 12, 3) := F_CM_gap_0.2.1
theorem d_CM_gap_4 : decode prog_1_method_57_code 4 = .ok (.iload_n 1, 1) := F_CM_gap_0.2.2.1
theorem d_CM_gap_5 : decode prog_1_method_57_code 5 = .ok (.invokevirtual 160, 3) := F_CM_gap_0.2.2.2.1
theorem d_CM_gap_8 : decode prog_1_method_57_code 8 = .ok (.ifCond .eq (21), 3) := F_CM_gap_0.2.2.2.2.1
theorem d_CM_gap_11 : decode prog_1_method_57_code 11 = .ok (.aload_n 0, 1) := F_CM_gap_0.2.2.2.2.2.1
theorem d_CM_gap_12 : decode prog_1_method_57_code 12 = .ok (.getfield 12, 3) := F_CM_gap_0.2.2.2.2.2.2.1
theorem d_CM_gap_15 : decode prog_1_method_57_code 15 = .ok (.iload_n 2, 1) := F_CM_gap_0.2.2.2.2.2.2.2.1
theorem d_CM_gap_16 : decode prog_1_method_57_code 16 = .ok (.invokevirtual 160, 3) := F_CM_gap_0.2.2.2.2.2.2.2.2.1
theorem d_CM_gap_19 : decode prog_1_method_57_code 19 = .ok (.ifCond .eq (10), 3) := F_CM_gap_0.2.2.2.2.2.2.2.2.2.1
theorem d_CM_gap_22 : decode prog_1_method_57_code 22 = .ok (.iload_n 3, 1) := F_CM_gap_0.2.2.2.2.2.2.2.2.2.2.1
theorem d_CM_gap_23 : decode prog_1_method_57_code 23 = .ok (.invokestatic 136, 3) := F_CM_gap_0.2.2.2.2.2.2.2.2.2.2.2.1
theorem d_CM_gap_26 : decode prog_1_method_57_code 26 = .ok (.ifCond .ne (7), 3) := F_CM_gap_0.2.2.2.2.2.2.2.2.2.2.2.2.1
theorem d_CM_gap_29 : decode prog_1_method_57_code 29 = .ok (.ldc2_w 270, 3) := F_CM_gap_0.2.2.2.2.2.2.2.2.2.2.2.2.2.1
theorem d_CM_gap_32 : decode prog_1_method_57_code 32 = .ok (.lreturn, 1) := F_CM_gap_0.2.2.2.2.2.2.2.2.2.2.2.2.2.2.1
theorem d_CM_gap_33 : decode prog_1_method_57_code 33 = .ok (.aload_n 0, 1) := F_CM_gap_0.2.2.2.2.2.2.2.2.2.2.2.2.2.2.2.1
theorem d_CM_gap_34 : decode prog_1_method_57_code 34 = .ok (.iload_n 1, 1) := F_CM_gap_0.2.2.2.2.2.2.2.2.2.2.2.2.2.2.2.2.1
theorem d_CM_gap_35 : decode prog_1_method_57_code 35 = .ok (.invokevirtual 398, 3) := F_CM_gap_0.2.2.2.2.2.2.2.2.2.2.2.2.2.2.2.2.2.1
theorem d_CM_gap_38 : decode prog_1_method_57_code 38 = .ok (.ifCond .ne (11), 3) := F_CM_gap_0.2.2.2.2.2.2.2.2.2.2.2.2.2.2.2.2.2.2.1
theorem d_CM_gap_41 : decode prog_1_method_57_code 41 = .ok (.aload_n 0, 1) := F_CM_gap_0.2.2.2.2.2.2.2.2.2.2.2.2.2.2.2.2.2.2.2.1
theorem d_CM_gap_42 : decode prog_1_method_57_code 42 = .ok (.iload_n 2, 1) := F_CM_gap_0.2.2.2.2.2.2.2.2.2.2.2.2.2.2.2.2.2.2.2.2.1
theorem d_CM_gap_43 : decode prog_1_method_57_code 43 = .ok (.invokevirtual 398, 3) := F_CM_gap_0.2.2.2.2.2.2.2.2.2.2.2.2.2.2.2.2.2.2.2.2.2.1
theorem d_CM_gap_46 : decode prog_1_method_57_code 46 = .ok (.ifCond .eq (7), 3) := F_CM_gap_0.2.2.2.2.2.2.2.2.2.2.2.2.2.2.2.2.2.2.2.2.2.2.1
theorem d_CM_gap_49 : decode prog_1_method_57_code 49 = .ok (.ldc2_w 408, 3) := F_CM_gap_0.2.2.2.2.2.2.2.2.2.2.2.2.2.2.2.2.2.2.2.2.2.2.2.1
theorem d_CM_gap_52 : decode prog_1_method_57_code 52 = .ok (.lreturn, 1) := F_CM_gap_0.2.2.2.2.2.2.2.2.2.2.2.2.2.2.2.2.2.2.2.2.2.2.2.2.1
theorem d_CM_gap_53 : decode prog_1_method_57_code 53 = .ok (.aload_n 0, 1) := F_CM_gap_0.2.2.2.2.2.2.2.2.2.2.2.2.2.2.2.2.2.2.2.2.2.2.2.2.2.1
theorem d_CM_gap_54 : decode prog_1_method_57_code 54 = .ok (.getfield 12, 3) := F_CM_gap_0.2.2.2.2.2.2.2.2.2.2.2.2.2.2.2.2.2.2.2.2.2.2.2.2.2.2.1
theorem d_CM_gap_57 : decode prog_1_method_57_code 57 = .ok (.getfield 163, 3) := F_CM_gap_0.2.2.2.2.2.2.2.2.2.2.2.2.2.2.2.2.2.2.2.2.2.2.2.2.2.2.2.1
theorem d_CM_gap_60 : decode prog_1_method_57_code 60 = .ok (.iload_n 1, 1) := F_CM_gap_0.2.2.2.2.2.2.2.2.2.2.2.2.2.2.2.2.2.2.2.2.2.2.2.2.2.2.2.2.1
theorem d_CM_gap_61 : decode prog_1_method_57_code 61 = .ok (.aaload, 1) := F_CM_gap_0.2.2.2.2.2.2.2.2.2.2.2.2.2.2.2.2.2.2.2.2.2.2.2.2.2.2.2.2.2.1
theorem d_CM_gap_62 : decode prog_1_method_57_code 62 = .ok (.astore 4, 2) := F_CM_gap_0.2.2.2.2.2.2.2.2.2.2.2.2.2.2.2.2.2.2.2.2.2.2.2.2.2.2.2.2.2.2.1
theorem d_CM_gap_64 : decode prog_1_method_57_code 64 = .ok (.aload_n 0, 1) := F_CM_gap_0.2.2.2.2.2.2.2.2.2.2.2.2.2.2.2.2.2.2.2.2.2.2.2.2.2.2.2.2.2.2.2.1
theorem F_CM_gap_65 : Jvm.Free.DS.Facts prog_1_method_57_code 65 [(.getfield 12, 3), (.getfield 163, 3), (.iload_n 2, 1), (.aaload, 1), (.astore 5, 2), (.aload 4, 2), (.iconst 0, 1), (.laload, 1), (.aload 5, 2), (.iconst 2, 1), (.laload, 1), (.lmul, 1), (.aload 5, 2), (.iconst 0, 1), (.laload, 1), (.aload 4, 2), (.iconst 2, 1), (.laload, 1), (.lmul, 1), (.lsub, 1), (.lstore 6, 2), (.aload 4, 2), (.iconst 1, 1), (.laload, 1), (.aload 5, 2), (.iconst 2, 1), (.laload, 1), (.lmul, 1), (.aload 5, 2), (.iconst 1, 1), (.laload, 1), (.aload 4, 2)] := Jvm.Free.DS.facts 65 _ (by decide +kernel) (by decide +kernel)
theorem d_CM_gap_65 : decode prog_1_method_57_code 65 = .ok (.getfield 12, 3) := F_CM_gap_65.1
theorem d_CM_gap_68 : decode prog_1_method_57_code 68 = .ok (.getfield 163, 3) := F_CM_gap_65.2.1
theorem d_CM_gap_71 : decode prog_1_method_57_code 71 = .ok (.iload_n 2, 1) := F_CM_gap_65.2.2.1
theorem d_CM_gap_72 : decode prog_1_method_57_code 72 = .ok (.aaload, 1) := F_CM_gap_65.2.2.2.1
theorem d_CM_gap_73 : decode prog_1_method_57_code 73 = .ok (.astore 5, 2) := F_CM_gap_65.2.2.2.2.1
theorem d_CM_gap_75 : decode prog_1_method_57_code 75 = .ok (.aload 4, 2) := F_CM_gap_65.2.2.2.2.2.1
theorem d_CM_gap_77 : decode prog_1_method_57_code 77 = .ok (.iconst 0, 1) := F_CM_gap_65.2.2.2.2.2.2.1
theorem d_CM_gap_78 : decode prog_1_method_57_code 78 = .ok (.laload, 1) := F_CM_gap_65.2.2.2.2.2.2.2.1
theorem d_CM_gap_79 : decode prog_1_method_57_code 79 = .ok (.aload 5, 2) := F_CM_gap_65.2.2.2.2.2.2.2.2.1
theorem d_CM_gap_81 : decode prog_1_method_57_code 81 = .ok (.iconst 2, 1) := F_CM_gap_65.2.2.2.2.2.2.2.2.2.1
theorem d_CM_gap_82 : decode prog_1_method_57_code 82 = .ok (.laload, 1) := F_CM_gap_65.2.2.2.2.2.2.2.2.2.2.1
theorem d_CM_gap_83 : decode prog_1_method_57_code 83 = .ok (.lmul, 1) := F_CM_gap_65.2.2.2.2.2.2.2.2.2.2.2.1
theorem d_CM_gap_84 : decode prog_1_method_57_code 84 = .ok (.aload 5, 2) := F_CM_gap_65.2.2.2.2.2.2.2.2.2.2.2.2.1
theorem d_CM_gap_86 : decode prog_1_method_57_code 86 = .ok (.iconst 0, 1) := F_CM_gap_65.2.2.2.2.2.2.2.2.2.2.2.2.2.1
theorem d_CM_gap_87 : decode prog_1_method_57_code 87 = .ok (.laload, 1) := F_CM_gap_65.2.2.2.2.2.2.2.2.2.2.2.2.2.2.1
theorem d_CM_gap_88 : decode prog_1_method_57_code 88 = .ok (.aload 4, 2) := F_CM_gap_65.2.2.2.2.2.2.2.2.2.2.2.2.2.2.2.1
theorem d_CM_gap_90 : decode prog_1_method_57_code 90 = .ok (.iconst 2, 1) := F_CM_gap_65.2.2.2.2.2.2.2.2.2.2.2.2.2.2.2.2.1
theorem d_CM_gap_91 : decode prog_1_method_57_code 91 = .ok (.laload, 1) := F_CM_gap_65.2.2.2.2.2.2.2.2.2.2.2.2.2.2.2.2.2.1
theorem d_CM_gap_92 : decode prog_1_method_57_code 92 = .ok (.lmul, 1) := F_CM_gap_65.2.2.2.2.2.2.2.2.2.2.2.2.2.2.2.2.2.2.1
theorem d_CM_gap_93 : decode prog_1_method_57_code 93 = .ok (.lsub, 1) := F_CM_gap_65.2.2.2.2.2.2.2.2.2.2.2.2.2.2.2.2.2.2.2.1
theorem d_CM_gap_94 : decode prog_1_method_57_code 94 = .ok (.lstore 6, 2) := F_CM_gap_65.2.2.2.2.2.2.2.2.2.2.2.2.2.2.2.2.2.2.2.2.1
theorem d_CM_gap_96 : decode prog_1_method_57_code 96 = .ok (.aload 4, 2) := F_CM_gap_65.2.2.2.2.2.2.2.2.2.2.2.2.2.2.2.2.2.2.2.2.2.1
theorem d_CM_gap_98 : decode prog_1_method_57_code 98 = .ok (.iconst 1, 1) := F_CM_gap_65.2.2.2.2.2.2.2.2.2.2.2.2.2.2.2.2.2.2.2.2.2.2.1
theorem d_CM_gap_99 : decode prog_1_method_57_code 99 = .ok (.laload, 1) := F_CM_gap_65.2.2.2.2.2.2.2.2.2.2.2.2.2.2.2.2.2.2.2.2.2.2.2.1
theorem d_CM_gap_100 : decode prog_1_method_57_code 100 = .ok (.aload 5, 2) := F_CM_gap_65.2.2.2.2.2.2.2.2.2.2.2.2.2.2.2.2.2.2.2.2.2.2.2.2.1
theorem d_CM_gap_102 : decode prog_1_method_57_code 102 = .ok (.iconst 2, 1) := F_CM_gap_65.2.2.2.2.2.2.2.2.2.2.2.2.2.2.2.2.2.2.2.2.2.2.2.2.2.1
theorem d_CM_gap_103 : decode prog_1_method_57_code 103 = .ok (.laload, 1) := F_CM_gap_65.2.2.2.2.2.2.2.2.2.2.2.2.2.2.2.2.2.2.2.2.2.2.2.2.2.2.1
theorem d_CM_gap_104 : decode prog_1_method_57_code 104 = .ok (.lmul, 1) := F_CM_gap_65.2.2.2.2.2.2.2.2.2.2.2.2.2.2.2.2.2.2.2.2.2.2.2.2.2.2.2.1
theorem d_CM_gap_105 : decode prog_1_method_57_code 105 = .ok (.aload 5, 2) := F_CM_gap_65.2.2.2.2.2.2.2.2.2.2.2.2.2.2.2.2.2.2.2.2.2.2.2.2.2.2.2.2.1
theorem d_CM_gap_107 : decode prog_1_method_57_code 107 = .ok (.iconst 1, 1) := F_CM_gap_65.2.2.2.2.2.2.2.2.2.2.2.2.2.2.2.2.2.2.2.2.2.2.2.2.2.2.2.2.2.1
theorem d_CM_gap_108 : decode prog_1_method_57_code 108 = .ok (.laload, 1) := F_CM_gap_65.2.2.2.2.2.2.2.2.2.2.2.2.2.2.2.2.2.2.2.2.2.2.2.2.2.2.2.2.2.2.1
theorem d_CM_gap_109 : decode prog_1_method_57_code 109 = .ok (.aload 4, 2) := F_CM_gap_65.2.2.2.2.2.2.2.2.2.2.2.2.2.2.2.2.2.2.2.2.2.2.2.2.2.2.2.2.2.2.2.1
theorem F_CM_gap_111 : Jvm.Free.DS.Facts prog_1_method_57_code 111 [(.iconst 2, 1), (.laload, 1), (.lmul, 1), (.lsub, 1), (.lstore 8, 2), (.aload 4, 2), (.iconst 2, 1), (.laload, 1), (.aload 5, 2), (.iconst 2, 1), (.laload, 1), (.lmul, 1), (.lstore 10, 2), (.lload 6, 2), (.lload 6, 2), (.lmul, 1), (.lload 8, 2), (.lload 8, 2), (.lmul, 1), (.ladd, 1), (.lload 10, 2), (.lload 10, 2), (.lmul, 1), (.iload_n 3, 1), (.invokestatic 345, 3), (.lreturn, 1)] := Jvm.Free.DS.facts 111 _ (by decide +kernel) (by decide +kernel)
theorem d_CM_gap_111 : decode prog_1_method_57_code 111 = .ok (.iconst 2, 1) := F_CM_gap_111.1
theorem d_CM_gap_112 : decode prog_1_method_57_code 112 = .ok (.laload, 1) := F_CM_gap_111.2.1
theorem d_CM_gap_113 : decode prog_1_method_57_code 113 = .ok (.lmul, 1) := F_CM_gap_111.2.2.1
theorem d_CM_gap_114 : decode prog_1_method_57_code 114 = .ok (.lsub, 1) := F_CM_gap_111.2.2.2.1
theorem d_CM_gap_115 : decode prog_1_method_57_code 115 = .ok (.lstore 8, 2) := F_CM_gap_111.2.2.2.2.1
theorem d_CM_gap_117 : decode prog_1_method_57_code 117 = .ok (.aload 4, 2) := F_CM_gap_111.2.2.2.2.2.1
theorem d_CM_gap_119 : decode prog_1_method_57_code 119 = .ok (.iconst 2, 1) := F_CM_gap_111.2.2.2.2.2.2.1
theorem d_CM_gap_120 : decode prog_1_method_57_code 120 = .ok (.laload, 1) := F_CM_gap_111.2.2.2.2.2.2.2.1
theorem d_CM_gap_121 : decode prog_1_method_57_code 121 = .ok (.aload 5, 2) := F_CM_gap_111.2.2.2.2.2.2.2.2.1
theorem d_CM_gap_123 : decode prog_1_method_57_code 123 = .ok (.iconst 2, 1) := F_CM_gap_111.2.2.2.2.2.2.2.2.2.1
theorem d_CM_gap_124 : decode prog_1_method_57_code 124 = .ok (.laload, 1) := F_CM_gap_111.2.2.2.2.2.2.2.2.2.2.1
theorem d_CM_gap_125 : decode prog_1_method_57_code 125 = .ok (.lmul, 1) := F_CM_gap_111.2.2.2.2.2.2.2.2.2.2.2.1
theorem d_CM_gap_126 : decode prog_1_method_57_code 126 = .ok (.lstore 10, 2) := F_CM_gap_111.2.2.2.2.2.2.2.2.2.2.2.2.1
theorem d_CM_gap_128 : decode prog_1_method_57_code 128 = .ok (.lload 6, 2) := F_CM_gap_111.2.2.2.2.2.2.2.2.2.2.2.2.2.1
theorem d_CM_gap_130 : decode prog_1_method_57_code 130 = .ok (.lload 6, 2) := F_CM_gap_111.2.2.2.2.2.2.2.2.2.2.2.2.2.2.1
theorem d_CM_gap_132 : decode prog_1_method_57_code 132 = .ok (.lmul, 1) := F_CM_gap_111.2.2.2.2.2.2.2.2.2.2.2.2.2.2.2.1
theorem d_CM_gap_133 : decode prog_1_method_57_code 133 = .ok (.lload 8, 2) := F_CM_gap_111.2.2.2.2.2.2.2.2.2.2.2.2.2.2.2.2.1
theorem d_CM_gap_135 : decode prog_1_method_57_code 135 = .ok (.lload 8, 2) := F_CM_gap_111.2.2.2.2.2.2.2.2.2.2.2.2.2.2.2.2.2.1
theorem d_CM_gap_137 : decode prog_1_method_57_code 137 = .ok (.lmul, 1) := F_CM_gap_111.2.2.2.2.2.2.2.2.2.2.2.2.2.2.2.2.2.2.1
theorem d_CM_gap_138 : decode prog_1_method_57_code 138 = .ok (.ladd, 1) := F_CM_gap_111.2.2.2.2.2.2.2.2.2.2.2.2.2.2.2.2.2.2.2.1
theorem d_CM_gap_139 : decode prog_1_method_57_code 139 = .ok (.lload 10, 2) := F_CM_gap_111.2.2.2.2.2.2.2.2.2.2.2.2.2.2.2.2.2.2.2.2.1
theorem d_CM_gap_141 : decode prog_1_method_57_code 141 = .ok (.lload 10, 2) := F_CM_gap_111.2.2.2.2.2.2.2.2.2.2.2.2.2.2.2.2.2.2.2.2.2.1
theorem d_CM_gap_143 : decode prog_1_method_57_code 143 = .ok (.lmul, 1) := F_CM_gap_111.2.2.2.2.2.2.2.2.2.2.2.2.2.2.2.2.2.2.2.2.2.2.1
theorem d_CM_gap_144 : decode prog_1_method_57_code 144 = .ok (.iload_n 3, 1) := F_CM_gap_111.2.2.2.2.2.2.2.2.2.2.2.2.2.2.2.2.2.2.2.2.2.2.2.1
theorem d_CM_gap_145 : decode prog_1_method_57_code 145 = .ok (.invokestatic 345, 3) := F_CM_gap_111.2.2.2.2.2.2.2.2.2.2.2.2.2.2.2.2.2.2.2.2.2.2.2.2.1
theorem d_CM_gap_148 : decode prog_1_method_57_code 148 = .ok (.lreturn, 1) := F_CM_gap_111.2.2.2.2.2.2.2.2.2.2.2.2.2.2.2.2.2.2.2.2.2.2.2.2.2.1
theorem F_CM_middle_0 : Jvm.Free.DS.Facts prog_1_method_58_code 0 [(.aload_n 0, 1), (.getfield 12, 3), (.iload_n 1, 1), (.invokevirtual 160, 3), (.ifCond .eq (21), 3), (.aload_n 0, 1), (.getfield 12, 3), (.iload_n 2, 1), (.invokevirtual 160, 3), (.ifCond .eq (10), 3), (.iload_n 3, 1), (.invokestatic 154, 3), (.ifCond .ne (7), 3), (.ldc2_w 270, 3), (.lreturn, 1), (.aload_n 0, 1), (.iload_n 1, 1), (.invokevirtual 398, 3), (.ifCond .ne (11), 3), (.aload_n 0, 1), (.iload_n 2, 1), (.invokevirtual 398, 3), (.ifCond .eq (7), 3), (.ldc2_w 275, 3), (.lreturn, 1), (.aload_n 0, 1), (.getfield 12, 3), (.getfield 163, 3), (.iload_n 1, 1), (.aaload, 1), (.astore 4, 2), (.aload_n 0, 1)] := Jvm.Free.DS.facts 0 _ (by decide +kernel) (by decide +kernel)
theorem d_CM_middle_0 : decode prog_1_method_58_code 0 = .ok (.aload_n 0, 1) := F_CM_middle_0.1
theorem d_CM_middle_1 : decode prog_1_method_58_code 1 = .ok (.getfield 12, 3) := F_CM_middle_0.2.1
theorem d_CM_middle_4 : decode prog_1_method_58_code 4 = .ok (.iload_n 1, 1) := F_CM_middle_0.2.2.1
theorem d_CM_middle_5 : decode prog_1_method_58_code 5 = .ok (.invokevirtual 160, 3) := F_CM_middle_0.2.2.2.1
theorem d_CM_middle_8 : decode prog_1_method_58_code 8 = .ok (.ifCond .eq (21), 3) := F_CM_middle_0.2.2.2.2.1
theorem d_CM_middle_11 : decode prog_1_method_58_code 11 = .ok (.aload_n 0, 1) := F_CM_middle_0.2.2.2.2.2.1
theorem d_CM_middle_12 : decode prog_1_method_58_code 12 = .ok (.getfield 12, 3) := F_CM_middle_0.2.2.2.2.2.2.1
theorem d_CM_middle_15 : decode prog_1_method_58_code 15 = .ok (.iload_n 2, 1) := F_CM_middle_0.2.2.2.2.2.2.2.1
theorem d_CM_middle_16 : decode prog_1_method_58_code 16 = .ok (.invokevirtual 160, 3) := F_CM_middle_0.2.2.2.2.2.2.2.2.1
theorem d_CM_middle_19 : decode prog_1_method_58_code 19 = .ok (.ifCond .eq (10), 3) := F_CM_middle_0.2.2.2.2.2.2.2.2.2.1
theorem d_CM_middle_22 : decode prog_1_method_58_code 22 = .ok (.iload_n 3, 1) := F_CM_middle_0.2.2.2.2.2.2.2.2.2.2.1
theorem d_CM_middle_23 : decode prog_1_method_58_code 23 = .ok (.invokestatic 154, 3) := F_CM_middle_0.2.2.2.2.2.2.2.2.2.2.2.1
theorem d_CM_middle_26 : decode prog_1_method_58_code 26 = .ok (.ifCond .ne (7), 3) := F_CM_middle_0.2.2.2.2.2.2.2.2.2.2.2.2.1
theorem d_CM_middle_29 : decode prog_1_method_58_code 29 = .ok (.ldc2_w 270, 3) := F_CM_middle_0.2.2.2.2.2.2.2.2.2.2.2.2.2.1
theorem d_CM_middle_32 : decode prog_1_method_58_code 32 = .ok (.lreturn, 1) := F_CM_middle_0.2.2.2.2.2.2.2.2.2.2.2.2.2.2.1
theorem d_CM_middle_33 : decode prog_1_method_58_code 33 = .ok (.aload_n 0, 1) := F_CM_middle_0.2.2.2.2.2.2.2.2.2.2.2.2.2.2.2.1
theorem d_CM_middle_34 : decode prog_1_method_58_code 34 = .ok (.iload_n 1, 1) := F_CM_middle_0.2.2.2.2.2.2.2.2.2.2.2.2.2.2.2.2.1
theorem d_CM_middle_35 : decode prog_1_method_58_code 35 = .ok (.invokevirtual 398, 3) := F_CM_middle_0.2.2.2.2.2.2.2.2.2.2.2.2.2.2.2.2.2.1
theorem d_CM_middle_38 : decode prog_1_method_58_code 38 = .ok (.ifCond .ne (11), 3) := F_CM_middle_0.2.2.2.2.2.2.2.2.2.2.2.2.2.2.2.2.2.2.1
theorem d_CM_middle_41 : decode prog_1_method_58_code 41 = .ok (.aload_n 0, 1) := F_CM_middle_0.2.2.2.2.2.2.2.2.2.2.2.2.2.2.2.2.2.2.2.1
theorem d_CM_middle_42 : decode prog_1_method_58_code 42 = .ok (.iload_n 2, 1) := F_CM_middle_0.2.2.2.2.2.2.2.2.2.2.2.2.2.2.2.2.2.2.2.2.1
theorem d_CM_middle_43 : decode prog_1_method_58_code 43 = .ok (.invokevirtual 398, 3) := F_CM_middle_0.2.2.2.2.2.2.2.2.2.2.2.2.2.2.2.2.2.2.2.2.2.1
theorem d_CM_middle_46 : decode prog_1_method_58_code 46 = .ok (.ifCond .eq (7), 3) := F_CM_middle_0.2.2.2.2.2.2.2.2.2.2.2.2.2.2.2.2.2.2.2.2.2.2.1
theorem d_CM_middle_49 : decode prog_1_method_58_code 49 = .ok (.ldc2_w 275, 3) := F_CM_middle_0.2.2.2.2.2.2.2.2.2.2.2.2.2.2.2.2.2.2.2.2.2.2.2.1
theorem d_CM_middle_52 : decode prog_1_method_58_code 52 = .ok (.lreturn, 1) := F_CM_middle_0.2.2.2.2.2.2.2.2.2.2.2.2.2.2.2.2.2.2.2.2.2.2.2.2.1
theorem d_CM_middle_53 : decode prog_1_method_58_code 53 = .ok (.aload_n 0, 1) := F_CM_middle_0.2.2.2.2.2.2.2.2.2.2.2.2.2.2.2.2.2.2.2.2.2.2.2.2.2.1
theorem d_CM_middle_54 : decode prog_1_method_58_code 54 = .ok (.getfield 12, 3) := F_CM_middle_0.2.2.2.2.2.2.2.2.2.2.2.2.2.2.2.2.2.2.2.2.2.2.2.2.2.2.1
theorem d_CM_middle_57 : decode prog_1_method_58_code 57 = .ok (.getfield 163, 3) := F_CM_middle_0.2.2.2.2.2.2.2.2.2.2.2.2.2.2.2.2.2.2.2.2.2.2.2.2.2.2.2.1
theorem d_CM_middle_60 : decode prog_1_method_58_code 60 = .ok (.iload_n 1, 1) := F_CM_middle_0.2.2.2.2.2.2.2.2.2.2.2.2.2.2.2.2.2.2.2.2.2.2.2.2.2.2.2.2.1
theorem d_CM_middle_61 : decode prog_1_method_58_code 61 = .ok (.aaload, 1) := F_CM_middle_0.2.2.2.2.2.2.2.2.2.2.2.2.2.2.2.2.2.2.2.2.2.2.2.2.2.2.2.2.2.1
theorem d_CM_middle_62 : decode prog_1_method_58_code 62 = .ok (.astore 4, 2) := F_CM_middle_0.2.2.2.2.2.2.2.2.2.2.2.2.2.2.2.2.2.2.2.2.2.2.2.2.2.2.2.2.2.2.1
theorem d_CM_middle_64 : decode prog_1_method_58_code 64 = .ok (.aload_n 0, 1) := F_CM_middle_0.2.2.2.2.2.2.2.2.2.2.2.2.2.2.2.2.2.2.2.2.2.2.2.2.2.2.2.2.2.2.2.1
theorem F_CM_middle_65 : Jvm.Free.DS.Facts prog_1_method_58_code 65 [(.getfield 12, 3), (.getfield 163, 3), (.iload_n 2, 1), (.aaload, 1), (.astore 5, 2), (.aload 4, 2), (.iconst 0, 1), (.laload, 1), (.aload 5, 2), (.iconst 2, 1), (.laload, 1), (.lmul, 1), (.aload 5, 2), (.iconst 0, 1), (.laload, 1), (.aload 4, 2), (.iconst 2, 1), (.laload, 1), (.lmul, 1), (.ladd, 1), (.lstore 6, 2), (.aload 4, 2), (.iconst 1, 1), (.laload, 1), (.aload 5, 2), (.iconst 2, 1), (.laload, 1), (.lmul, 1), (.aload 5, 2), (.iconst 1, 1), (.laload, 1), (.aload 4, 2)] := Jvm.Free.DS.facts 65 _ (by decide +kernel) (by decide +kernel)
theorem d_CM_middle_65 : decode prog_1_method_58_code 65 = .ok (.getfield 12, 3) := F_CM_middle_65.1
theorem d_CM_middle_68 : decode prog_1_method_58_code 68 = .ok (.getfield 163, 3) := F_CM_middle_65.2.1
theorem d_CM_middle_71 : decode prog_1_method_58_code 71 = .ok (.iload_n 2, 1) := F_CM_middle_65.2.2.1
theorem d_CM_middle_72 : decode prog_1_method_58_code 72 = .ok (.aaload, 1) := F_CM_middle_65.2.2.2.1
theorem d_CM_middle_73 : decode prog_1_method_58_code 73 = .ok (.astore 5, 2) := F_CM_middle_65.2.2.2.2.1
theorem d_CM_middle_75 : decode prog_1_method_58_code 75 = .ok (.aload 4, 2) := F_CM_middle_65.2.2.2.2.2.1
theorem d_CM_middle_77 : decode prog_1_method_58_code 77 = .ok (.iconst 0, 1) := F_CM_middle_65.2.2.2.2.2.2.1
theorem d_CM_middle_78 : decode prog_1_method_58_code 78 = .ok (.laload, 1) := F_CM_middle_65.2.2.2.2.2.2.2.1
theorem d_CM_middle_79 : decode prog_1_method_58_code 79 = .ok (.aload 5, 2) := F_CM_middle_65.2.2.2.2.2.2.2.2.1
theorem d_CM_middle_81 : decode prog_1_method_58_code 81 = .ok (.iconst 2, 1) := F_CM_middle_65.2.2.2.2.2.2.2.2.2.1
theorem d_CM_middle_82 : decode prog_1_method_58_code 82 = .ok (.laload, 1) := F_CM_middle_65.2.2.2.2.2.2.2.2.2.2.1
theorem d_CM_middle_83 : decode prog_1_method_58_code 83 = .ok (.lmul, 1) := F_CM_middle_65.2.2.2.2.2.2.2.2.2.2.2.1
theorem d_CM_middle_84 : decode prog_1_method_58_code 84 = .ok (.aload 5, 2) := F_CM_middle_65.2.2.2.2.2.2.2.2.2.2.2.2.1
theorem d_CM_middle_86 : decode prog_1_method_58_code 86 = .ok (.iconst 0, 1) := F_CM_middle_65.2.2.2.2.2.2.2.2.2.2.2.2.2.1
theorem d_CM_middle_87 : decode prog_1_method_58_code 87 = .ok (.laload, 1) := F_CM_middle_65.2.2.2.2.2.2.2.2.2.2.2.2.2.2.1
theorem d_CM_middle_88 : decode prog_1_method_58_code 88 = .ok (.aload 4, 2) := F_CM_middle_65.2.2.2.2.2.2.2.2.2.2.2.2.2.2.2.1
theorem d_CM_middle_90 : decode prog_1_method_58_code 90 = .ok (.iconst 2, 1) := F_CM_middle_65.2.2.2.2.2.2.2.2.2.2.2.2.2.2.2.2.1
theorem d_CM_middle_91 : decode prog_1_method_58_code 91 = .ok (.laload, 1) := F_CM_middle_65.2.2.2.2.2.2.2.2.2.2.2.2.2.2.2.2.2.1
theorem d_CM_middle_92 : decode prog_1_method_58_code 92 = .ok (.lmul, 1) := F_CM_middle_65.2.2.2.2.2.2.2.2.2.2.2.2.2.2.2.2.2.2.1
theorem d_CM_middle_93 : decode prog_1_method_58_code 93 = .ok (.ladd, 1) := F_CM_middle_65.2.2.2.2.2.2.2.2.2.2.2.2.2.2.2.2.2.2.2.1
theorem d_CM_middle_94 : decode prog_1_method_58_code 94 = .ok (.lstore 6, 2) := F_CM_middle_65.2.2.2.2.2.2.2.2.2.2.2.2.2.2.2.2.2.2.2.2.1
theorem d_CM_middle_96 : decode prog_1_method_58_code 96 = .ok (.aload 4, 2) := F_CM_middle_65.2.2.2.2.2.2.2.2.2.2.2.2.2.2.2.2.2.2.2.2.2.1
theorem d_CM_middle_98 : decode prog_1_method_58_code 98 = .ok (.iconst 1, 1) := F_CM_middle_65.2.2.2.2.2.2.2.2.2.2.2.2.2.2.2.2.2.2.2.2.2.2.1
theorem d_CM_middle_99 : decode prog_1_method_58_code 99 = .ok (.laload, 1) := F_CM_middle_65.2.2.2.2.2.2.2.2.2.2.2.2.2.2.2.2.2.2.2.2.2.2.2.1
theorem d_CM_middle_100 : decode prog_1_method_58_code 100 = .ok (.aload 5, 2) := F_CM_middle_65.2.2.2.2.2.2.2.2.2.2.2.2.2.2.2.2.2.2.2.2.2.2.2.2.1
theorem d_CM_middle_102 : decode prog_1_method_58_code 102 = .ok (.iconst 2, 1) := F_CM_middle_65.2.2.2.2.2.2.2.2.2.2.2.2.2.2.2.2.2.2.2.2.2.2.2.2.2.1
theorem d_CM_middle_103 : decode prog_1_method_58_code 103 = .ok (.laload, 1) := F_CM_middle_65.2.2.2.2.2.2.2.2.2.2.2.2.2.2.2.2.2.2.2.2.2.2.2.2.2.2.1
theorem d_CM_middle_104 : decode prog_1_method_58_code 104 = .ok (.lmul, 1) := F_CM_middle_65.2.2.2.2.2.2.2.2.2.2.2.2.2.2.2.2.2.2.2.2.2.2.2.2.2.2.2.1
theorem d_CM_middle_105 : decode prog_1_method_58_code 105 = .ok (.aload 5, 2) := F_CM_middle_65.2.2.2.2.2.2.2.2.2.2.2.2.2.2.2.2.2.2.2.2.2.2.2.2.2.2.2.2.1
theorem d_CM_middle_107 : decode prog_1_method_58_code 107 = .ok (.iconst 1, 1) := F_CM_middle_65.2.2.2.2.2.2.2.2.2.2.2.2.2.2.2.2.2.2.2.2.2.2.2.2.2.2.2.2.2.1
theorem d_CM_middle_108 : decode prog_1_method_58_code 108 = .ok (.laload, 1) := F_CM_middle_65.2.2.2.2.2.2.2.2.2.2.2.2.2.2.2.2.2.2.2.2.2.2.2.2.2.2.2.2.2.2.1
theorem d_CM_middle_109 : decode prog_1_method_58_code 109 = .ok (.aload 4, 2) := F_CM_middle_65.2.2.2.2.2.2.2.2.2.2.2.2.2.2.2.2.2.2.2.2.2.2.2.2.2.2.2.2.2.2.2.1
theorem F_CM_middle_111 : Jvm.Free.DS.Facts prog_1_method_58_code 111 [(.iconst 2, 1), (.laload, 1), (.lmul, 1), (.ladd, 1), (.lstore 8, 2), (.lload 6, 2), (.lload 8, 2), (.ldc2_w 410, 3), (.aload 4, 2), (.iconst 2, 1), (.laload, 1), (.lmul, 1), (.aload 5, 2), (.iconst 2, 1), (.laload, 1), (.lmul, 1), (.aload_n 0, 1), (.getfield 78, 3), (.invokestatic 238, 3), (.aload_n 0, 1), (.getfield 78, 3), (.invokestatic 352, 3), (.aload_n 0, 1), (.getfield 78, 3), (.iload_n 3, 1), (.laload, 1), (.lreturn, 1)] := Jvm.Free.DS.facts 111 _ (by decide +kernel) (by decide +kernel)
theorem d_CM_middle_111 : decode prog_1_method_58_code 111 = .ok (.iconst 2, 1) := F_CM_middle_111.1
theorem d_CM_middle_112 : decode prog_1_method_58_code 112 = .ok (.laload, 1) := F_CM_middle_111.2.1
theorem d_CM_middle_113 : decode prog_1_method_58_code 113 = .ok (.lmul, 1) := F_CM_middle_111.2.2.1
theorem d_CM_middle_114 : decode prog_1_method_58_code 114 = .ok (.ladd, 1) := F_CM_middle_111.2.2.2.1
theorem d_CM_middle_115 : decode prog_1_method_58_code 115 = .ok (.lstore 8, 2) := F_CM_middle_111.2.2.2.2.1
theorem d_CM_middle_117 : decode prog_1_method_58_code 117 = .ok (.lload 6, 2) := F_CM_middle_111.2.2.2.2.2.1
theorem d_CM_middle_119 : decode prog_1_method_58_code 119 = .ok (.lload 8, 2) := F_CM_middle_111.2.2.2.2.2.2.1
theorem d_CM_middle_121 : decode prog_1_method_58_code 121 = .ok (.ldc2_w 410, 3) := F_CM_middle_111.2.2.2.2.2.2.2.1
theorem d_CM_middle_124 : decode prog_1_method_58_code 124 = .ok (.aload 4, 2) := F_CM_middle_111.2.2.2.2.2.2.2.2.1
theorem d_CM_middle_126 : decode prog_1_method_58_code 126 = .ok (.iconst 2, 1) := F_CM_middle_111.2.2.2.2.2.2.2.2.2.1
theorem d_CM_middle_127 : decode prog_1_method_58_code 127 = .ok (.laload, 1) := F_CM_middle_111.2.2.2.2.2.2.2.2.2.2.1
theorem d_CM_middle_128 : decode prog_1_method_58_code 128 = .ok (.lmul, 1) := F_CM_middle_111.2.2.2.2.2.2.2.2.2.2.2.1
theorem d_CM_middle_129 : decode prog_1_method_58_code 129 = .ok (.aload 5, 2) := F_CM_middle_111.2.2.2.2.2.2.2.2.2.2.2.2.1
theorem d_CM_middle_131 : decode prog_1_method_58_code 131 = .ok (.iconst 2, 1) := F_CM_middle_111.2.2.2.2.2.2.2.2.2.2.2.2.2.1
theorem d_CM_middle_132 : decode prog_1_method_58_code 132 = .ok (.laload, 1) := F_CM_middle_111.2.2.2.2.2.2.2.2.2.2.2.2.2.2.1
theorem d_CM_middle_133 : decode prog_1_method_58_code 133 = .ok (.lmul, 1) := F_CM_middle_111.2.2.2.2.2.2.2.2.2.2.2.2.2.2.2.1
theorem d_CM_middle_134 : decode prog_1_method_58_code 134 = .ok (.aload_n 0, 1) := F_CM_middle_111.2.2.2.2.2.2.2.2.2.2.2.2.2.2.2.2.1
theorem d_CM_middle_135 : decode prog_1_method_58_code 135 = .ok (.getfield 78, 3) := F_CM_middle_111.2.2.2.2.2.2.2.2.2.2.2.2.2.2.2.2.2.1
theorem d_CM_middle_138 : decode prog_1_method_58_code 138 = .ok (.invokestatic 238, 3) := F_CM_middle_111.2.2.2.2.2.2.2.2.2.2.2.2.2.2.2.2.2.2.1
theorem d_CM_middle_141 : decode prog_1_method_58_code 141 = .ok (.aload_n 0, 1) := F_CM_middle_111.2.2.2.2.2.2.2.2.2.2.2.2.2.2.2.2.2.2.2.1
theorem d_CM_middle_142 : decode prog_1_method_58_code 142 = .ok (.getfield 78, 3) := F_CM_middle_111.2.2.2.2.2.2.2.2.2.2.2.2.2.2.2.2.2.2.2.2.1
theorem d_CM_middle_145 : decode prog_1_method_58_code 145 = .ok (.invokestatic 352, 3) := F_CM_middle_111.2.2.2.2.2.2.2.2.2.2.2.2.2.2.2.2.2.2.2.2.2.1
theorem d_CM_middle_148 : decode prog_1_method_58_code 148 = .ok (.aload_n 0, 1) := F_CM_middle_111.2.2.2.2.2.2.2.2.2.2.2.2.2.2.2.2.2.2.2.2.2.2.1
theorem d_CM_middle_149 : decode prog_1_method_58_code 149 = .ok (.getfield 78, 3) := F_CM_middle_111.2.2.2.2.2.2.2.2.2.2.2.2.2.2.2.2.2.2.2.2.2.2.2.1
theorem d_CM_middle_152 : decode prog_1_method_58_code 152 = .ok (.iload_n 3, 1) := F_CM_middle_111.2.2.2.2.2.2.2.2.2.2.2.2.2.2.2.2.2.2.2.2.2.2.2.2.1
theorem d_CM_middle_153 : decode prog_1_method_58_code 153 = .ok (.laload, 1) := F_CM_middle_111.2.2.2.2.2.2.2.2.2.2.2.2.2.2.2.2.2.2.2.2.2.2.2.2.2.1
theorem d_CM_middle_154 : decode prog_1_method_58_code 154 = .ok (.lreturn, 1) := F_CM_middle_111.2.2.2.2.2.2.2.2.2.2.2.2.2.2.2.2.2.2.2.2.2.2.2.2.2.2.1
theorem F_CM_partner_0 : Jvm.Free.DS.Facts prog_1_method_59_code 0 [(.aload_n 0, 1), (.getfield 12, 3), (.iload_n 1, 1), (.invokevirtual 151, 3), (.ifCond .ne (5), 3), (.iconst (-1), 1), (.ireturn, 1), (.iconst 0, 1), (.istore_n 2, 1), (.iload_n 2, 1), (.aload_n 0, 1), (.getfield 12, 3), (.getfield 225, 3), (.if_icmp .ge (20), 3), (.aload_n 0, 1), (.iload_n 1, 1), (.iload_n 2, 1), (.invokevirtual 314, 3), (.ifCond .eq (5), 3), (.iload_n 2, 1), (.ireturn, 1), (.iinc 2 (1), 3), (.goto (-25), 3), (.bipush (-2), 2), (.ireturn, 1)] := Jvm.Free.DS.facts 0 _ (by decide +kernel) (by decide +kernel)
theorem d_CM_partner_0 : decode prog_1_method_59_code 0 = .ok (.aload_n 0, 1) := F_CM_partner_0.1
theorem d_CM_partner_1 : decode prog_1_method_59_code 1 = .ok (.getfield 12, 3) := F_CM_partner_0.2.1
theorem d_CM_partner_4 : decode prog_1_method_59_code 4 = .ok (.iload_n 1, 1) := F_CM_partner_0.2.2.1
theorem d_CM_partner_5 : decode prog_1_method_59_code 5 = .ok (.invokevirtual 151, 3) := F_CM_partner_0.2.2.2.1
theorem d_CM_partner_8 : decode prog_1_method_59_code 8 = .ok (.ifCond .ne (5), 3) := F_CM_partner_0.2.2.2.2.1
theorem d_CM_partner_11 : decode prog_1_method_59_code 11 = .ok (.iconst (-1), 1) := F_CM_partner_0.2.2.2.2.2.1
theorem d_CM_partner_12 : decode prog_1_method_59_code 12 = .ok (.ireturn, 1) := F_CM_partner_0.2.2.2.2.2.2.1
theorem d_CM_partner_13 : decode prog_1_method_59_code 13 = .ok (.iconst 0, 1) := F_CM_partner_0.2.2.2.2.2.2.2.1
theorem d_CM_partner_14 : decode prog_1_method_59_code 14 = .ok (.istore_n 2, 1) := F_CM_partner_0.2.2.2.2.2.2.2.2.1
theorem d_CM_partner_15 : decode prog_1_method_59_code 15 = .ok (.iload_n 2, 1) := F_CM_partner_0.2.2.2.2.2.2.2.2.2.1
theorem d_CM_partner_16 : decode prog_1_method_59_code 16 = .ok (.aload_n 0, 1) := F_CM_partner_0.2.2.2.2.2.2.2.2.2.2.1
theorem d_CM_partner_17 : decode prog_1_method_59_code 17 = .ok (.getfield 12, 3) := F_CM_partner_0.2.2.2.2.2.2.2.2.2.2.2.1
theorem d_CM_partner_20 : decode prog_1_method_59_code 20 = .ok (.getfield 225, 3) := F_CM_partner_0.2.2.2.2.2.2.2.2.2.2.2.2.1
theorem d_CM_partner_23 : decode prog_1_method_59_code 23 = .ok (.if_icmp .ge (20), 3) := F_CM_partner_0.2.2.2.2.2.2.2.2.2.2.2.2.2.1
theorem d_CM_partner_26 : decode prog_1_method_59_code 26 = .ok (.aload_n 0, 1) := F_CM_partner_0.2.2.2.2.2.2.2.2.2.2.2.2.2.2.1
theorem d_CM_partner_27 : decode prog_1_method_59_code 27 = .ok (.iload_n 1, 1) := F_CM_partner_0.2.2.2.2.2.2.2.2.2.2.2.2.2.2.2.1
theorem d_CM_partner_28 : decode prog_1_method_59_code 28 = .ok (.iload_n 2, 1) := F_CM_partner_0.2.2.2.2.2.2.2.2.2.2.2.2.2.2.2.2.1
theorem d_CM_partner_29 : decode prog_1_method_59_code 29 = .ok (.invokevirtual 314, 3) := F_CM_partner_0.2.2.2.2.2.2.2.2.2.2.2.2.2.2.2.2.2.1
theorem d_CM_partner_32 : decode prog_1_method_59_code 32 = .ok (.ifCond .eq (5), 3) := F_CM_partner_0.2.2.2.2.2.2.2.2.2.2.2.2.2.2.2.2.2.2.1
theorem d_CM_partner_35 : decode prog_1_method_59_code 35 = .ok (.iload_n 2, 1) := F_CM_partner_0.2.2.2.2.2.2.2.2.2.2.2.2.2.2.2.2.2.2.2.1
theorem d_CM_partner_36 : decode prog_1_method_59_code 36 = .ok (.ireturn, 1) := F_CM_partner_0.2.2.2.2.2.2.2.2.2.2.2.2.2.2.2.2.2.2.2.2.1
theorem d_CM_partner_37 : decode prog_1_method_59_code 37 = .ok (.iinc 2 (1), 3) := F_CM_partner_0.2.2.2.2.2.2.2.2.2.2.2.2.2.2.2.2.2.2.2.2.2.1
theorem d_CM_partner_40 : decode prog_1_method_59_code 40 = .ok (.goto (-25), 3) := F_CM_partner_0.2.2.2.2.2.2.2.2.2.2.2.2.2.2.2.2.2.2.2.2.2.2.1
theorem d_CM_partner_43 : decode prog_1_method_59_code 43 = .ok (.bipush (-2), 2) := F_CM_partner_0.2.2.2.2.2.2.2.2.2.2.2.2.2.2.2.2.2.2.2.2.2.2.2.1
theorem d_CM_partner_45 : decode prog_1_method_59_code 45 = .ok (.ireturn, 1) := F_CM_partner_0.2.2.2.2.2.2.2.2.2.2.2.2.2.2.2.2.2.2.2.2.2.2.2.2.1
theorem F_CM_cornerBy_0 : Jvm.Free.DS.Facts prog_1_method_60_code 0 [(.aload_n 0, 1), (.getfield 12, 3), (.iload_n 1, 1), (.invokevirtual 151, 3), (.ifCond .eq (29), 3), (.aload_n 0, 1), (.getfield 12, 3), (.iload_n 2, 1), (.invokevirtual 127, 3), (.ifCond .eq (18), 3), (.iload_n 3, 1), (.invokestatic 130, 3), (.ifCond .eq (11), 3), (.iload 4, 2), (.invokestatic 154, 3), (.ifCond .ne (7), 3), (.ldc2_w 270, 3), (.lreturn, 1), (.aload_n 0, 1), (.getfield 12, 3), (.getfield 157, 3), (.iload_n 1, 1), (.aaload, 1), (.aload_n 0, 1), (.getfield 12, 3), (.getfield 142, 3), (.iload_n 2, 1), (.aaload, 1), (.getfield 146, 3), (.iload_n 3, 1), (.aaload, 1), (.aload_n 0, 1)] := Jvm.Free.DS.facts 0 _ (by decide +kernel) (by decide +kernel)
theorem d_CM_cornerBy_0 : decode prog_1_method_60_code 0 = .ok (.aload_n 0, 1) := F_CM_cornerBy_0.1
theorem d_CM_cornerBy_1 : decode prog_1_method_60_code 1 = .ok (.getfield 12, 3) := F_CM_cornerBy_0.2.1
theorem d_CM_cornerBy_4 : decode prog_1_method_60_code 4 = .ok (.iload_n 1, 1) := F_CM_cornerBy_0.2.2.1
theorem d_CM_cornerBy_5 : decode prog_1_method_60_code 5 = .ok (.invokevirtual 151, 3) := F_CM_cornerBy_0.2.2.2.1
theorem d_CM_cornerBy_8 : decode prog_1_method_60_code 8 = .ok (.ifCond .eq (29), 3) := F_CM_cornerBy_0.2.2.2.2.1
theorem d_CM_cornerBy_11 : decode prog_1_method_60_code 11 = .ok (.aload_n 0, 1) := F_CM_cornerBy_0.2.2.2.2.2.1
theorem d_CM_cornerBy_12 : decode prog_1_method_60_code 12 = .ok (.getfield 12, 3) := F_CM_cornerBy_0.2.2.2.2.2.2.1
theorem d_CM_cornerBy_15 : decode prog_1_method_60_code 15 = .ok (.iload_n 2, 1) := F_CM_cornerBy_0.2.2.2.2.2.2.2.1
theorem d_CM_cornerBy_16 : decode prog_1_method_60_code 16 = .ok (.invokevirtual 127, 3) := F_CM_cornerBy_0.2.2.2.2.2.2.2.2.1
theorem d_CM_cornerBy_19 : decode prog_1_method_60_code 19 = .ok (.ifCond .eq (18), 3) := F_CM_cornerBy_0.2.2.2.2.2.2.2.2.2.1
theorem d_CM_cornerBy_22 : decode prog_1_method_60_code 22 = .ok (.iload_n 3, 1) := F_CM_cornerBy_0.2.2.2.2.2.2.2.2.2.2.1
theorem d_CM_cornerBy_23 : decode prog_1_method_60_code 23 = .ok (.invokestatic 130, 3) := F_CM_cornerBy_0.2.2.2.2.2.2.2.2.2.2.2.1
theorem d_CM_cornerBy_26 : decode prog_1_method_60_code 26 = .ok (.ifCond .eq (11), 3) := F_CM_cornerBy_0.2.2.2.2.2.2.2.2.2.2.2.2.1
theorem d_CM_cornerBy_29 : decode prog_1_method_60_code 29 = .ok (.iload 4, 2) := F_CM_cornerBy_0.2.2.2.2.2.2.2.2.2.2.2.2.2.1
theorem d_CM_cornerBy_31 : decode prog_1_method_60_code 31 = .ok (.invokestatic 154, 3) := F_CM_cornerBy_0.2.2.2.2.2.2.2.2.2.2.2.2.2.2.1
theorem d_CM_cornerBy_34 : decode prog_1_method_60_code 34 = .ok (.ifCond .ne (7), 3) := F_CM_cornerBy_0.2.2.2.2.2.2.2.2.2.2.2.2.2.2.2.1
theorem d_CM_cornerBy_37 : decode prog_1_method_60_code 37 = .ok (.ldc2_w 270, 3) := F_CM_cornerBy_0.2.2.2.2.2.2.2.2.2.2.2.2.2.2.2.2.1
theorem d_CM_cornerBy_40 : decode prog_1_method_60_code 40 = .ok (.lreturn, 1) := F_CM_cornerBy_0.2.2.2.2.2.2.2.2.2.2.2.2.2.2.2.2.2.1
theorem d_CM_cornerBy_41 : decode prog_1_method_60_code 41 = .ok (.aload_n 0, 1) := F_CM_cornerBy_0.2.2.2.2.2.2.2.2.2.2.2.2.2.2.2.2.2.2.1
theorem d_CM_cornerBy_42 : decode prog_1_method_60_code 42 = .ok (.getfield 12, 3) := F_CM_cornerBy_0.2.2.2.2.2.2.2.2.2.2.2.2.2.2.2.2.2.2.2.1
theorem d_CM_cornerBy_45 : decode prog_1_method_60_code 45 = .ok (.getfield 157, 3) := F_CM_cornerBy_0.2.2.2.2.2.2.2.2.2.2.2.2.2.2.2.2.2.2.2.2.1
theorem d_CM_cornerBy_48 : decode prog_1_method_60_code 48 = .ok (.iload_n 1, 1) := F_CM_cornerBy_0.2.2.2.2.2.2.2.2.2.2.2.2.2.2.2.2.2.2.2.2.2.1
theorem d_CM_cornerBy_49 : decode prog_1_method_60_code 49 = .ok (.aaload, 1) := F_CM_cornerBy_0.2.2.2.2.2.2.2.2.2.2.2.2.2.2.2.2.2.2.2.2.2.2.1
theorem d_CM_cornerBy_50 : decode prog_1_method_60_code 50 = .ok (.aload_n 0, 1) := F_CM_cornerBy_0.2.2.2.2.2.2.2.2.2.2.2.2.2.2.2.2.2.2.2.2.2.2.2.1
theorem d_CM_cornerBy_51 : decode prog_1_method_60_code 51 = .ok (.getfield 12, 3) := F_CM_cornerBy_0.2.2.2.2.2.2.2.2.2.2.2.2.2.2.2.2.2.2.2.2.2.2.2.2.1
theorem d_CM_cornerBy_54 : decode prog_1_method_60_code 54 = .ok (.getfield 142, 3) := F_CM_cornerBy_0.2.2.2.2.2.2.2.2.2.2.2.2.2.2.2.2.2.2.2.2.2.2.2.2.2.1
theorem d_CM_cornerBy_57 : decode prog_1_method_60_code 57 = .ok (.iload_n 2, 1) := F_CM_cornerBy_0.2.2.2.2.2.2.2.2.2.2.2.2.2.2.2.2.2.2.2.2.2.2.2.2.2.2.1
theorem d_CM_cornerBy_58 : decode prog_1_method_60_code 58 = .ok (.aaload, 1) := F_CM_cornerBy_0.2.2.2.2.2.2.2.2.2.2.2.2.2.2.2.2.2.2.2.2.2.2.2.2.2.2.2.1
theorem d_CM_cornerBy_59 : decode prog_1_method_60_code 59 = .ok (.getfield 146, 3) := F_CM_cornerBy_0.2.2.2.2.2.2.2.2.2.2.2.2.2.2.2.2.2.2.2.2.2.2.2.2.2.2.2.2.1
theorem d_CM_cornerBy_62 : decode prog_1_method_60_code 62 = .ok (.iload_n 3, 1) := F_CM_cornerBy_0.2.2.2.2.2.2.2.2.2.2.2.2.2.2.2.2.2.2.2.2.2.2.2.2.2.2.2.2.2.1
theorem d_CM_cornerBy_63 : decode prog_1_method_60_code 63 = .ok (.aaload, 1) := F_CM_cornerBy_0.2.2.2.2.2.2.2.2.2.2.2.2.2.2.2.2.2.2.2.2.2.2.2.2.2.2.2.2.2.2.1
theorem d_CM_cornerBy_64 : decode prog_1_method_60_code 64 = .ok (.aload_n 0, 1) := F_CM_cornerBy_0.2.2.2.2.2.2.2.2.2.2.2.2.2.2.2.2.2.2.2.2.2.2.2.2.2.2.2.2.2.2.2.1
theorem F_CM_cornerBy_65 : Jvm.Free.DS.Facts prog_1_method_60_code 65 [(.getfield 78, 3), (.invokestatic 248, 3), (.aload_n 0, 1), (.getfield 78, 3), (.iload 4, 2), (.laload, 1), (.lreturn, 1)] := Jvm.Free.DS.facts 65 _ (by decide +kernel) (by decide +kernel)
theorem d_CM_cornerBy_65 : decode prog_1_method_60_code 65 = .ok (.getfield 78, 3) := F_CM_cornerBy_65.1
theorem d_CM_cornerBy_68 : decode prog_1_method_60_code 68 = .ok (.invokestatic 248, 3) := F_CM_cornerBy_65.2.1
theorem d_CM_cornerBy_71 : decode prog_1_method_60_code 71 = .ok (.aload_n 0, 1) := F_CM_cornerBy_65.2.2.1
theorem d_CM_cornerBy_72 : decode prog_1_method_60_code 72 = .ok (.getfield 78, 3) := F_CM_cornerBy_65.2.2.2.1
theorem d_CM_cornerBy_75 : decode prog_1_method_60_code 75 = .ok (.iload 4, 2) := F_CM_cornerBy_65.2.2.2.2.1
theorem d_CM_cornerBy_77 : decode prog_1_method_60_code 77 = .ok (.laload, 1) := F_CM_cornerBy_65.2.2.2.2.2.1
theorem d_CM_cornerBy_78 : decode prog_1_method_60_code 78 = .ok (.lreturn, 1) := F_CM_cornerBy_65.2.2.2.2.2.2.1
theorem F_CM_scale_0 : Jvm.Free.DS.Facts prog_1_method_61_code 0 [(.aload_n 0, 1), (.getfield 12, 3), (.iload_n 1, 1), (.invokevirtual 151, 3), (.ifCond .eq (10), 3), (.iload_n 2, 1), (.invokestatic 136, 3), (.ifCond .ne (7), 3), (.ldc2_w 270, 3), (.lreturn, 1), (.aload_n 0, 1), (.getfield 12, 3), (.getfield 157, 3), (.iload_n 1, 1), (.aaload, 1), (.astore_n 3, 1), (.aload_n 3, 1), (.invokestatic 294, 3), (.iconst 3, 1), (.if_icmp .le (7), 3), (.ldc2_w 408, 3), (.lreturn, 1), (.aload_n 3, 1), (.iconst 0, 1), (.laload, 1), (.aload_n 3, 1), (.iconst 0, 1), (.laload, 1), (.lmul, 1), (.aload_n 3, 1), (.iconst 3, 1), (.laload, 1)] := Jvm.Free.DS.facts 0 _ (by decide +kernel) (by decide +kernel)
theorem d_CM_scale_0 : decode prog_1_method_61_code 0 = .ok (.aload_n 0, 1) := F_CM_scale_0.1
theorem d_CM_scale_1 : decode prog_1_method_61_code 1 = .ok (.getfield 12, 3) := F_CM_scale_0.2.1
theorem d_CM_scale_4 : decode prog_1_method_61_code 4 = .ok (.iload_n 1, 1) := F_CM_scale_0.2.2.1
theorem d_CM_scale_5 : decode prog_1_method_61_code 5 = .ok (.invokevirtual 151, 3) := F_CM_scale_0.2.2.2.1
theorem d_CM_scale_8 : decode prog_1_method_61_code 8 = .ok (.ifCond .eq (10), 3) := F_CM_scale_0.2.2.2.2.1
theorem d_CM_scale_11 : decode prog_1_method_61_code 11 = .ok (.iload_n 2, 1) := F_CM_scale_0.2.2.2.2.2.1
theorem d_CM_scale_12 : decode prog_1_method_61_code 12 = .ok (.invokestatic 136, 3) := F_CM_scale_0.2.2.2.2.2.2.1
theorem d_CM_scale_15 : decode prog_1_method_61_code 15 = .ok (.ifCond .ne (7), 3) := F_CM_scale_0.2.2.2.2.2.2.2.1
theorem d_CM_scale_18 : decode prog_1_method_61_code 18 = .ok (.ldc2_w 270, 3) := F_CM_scale_0.2.2.2.2.2.2.2.2.1
theorem d_CM_scale_21 : decode prog_1_method_61_code 21 = .ok (.lreturn, 1) := F_CM_scale_0.2.2.2.2.2.2.2.2.2.1
theorem d_CM_scale_22 : decode prog_1_method_61_code 22 = .ok (.aload_n 0, 1) := F_CM_scale_0.2.2.2.2.2.2.2.2.2.2.1
theorem d_CM_scale_23 : decode prog_1_method_61_code 23 = .ok (.getfield 12, 3) := F_CM_scale_0.2.2.2.2.2.2.2.2.2.2.2.1
theorem d_CM_scale_26 : decode prog_1_method_61_code 26 = .ok (.getfield 157, 3) := F_CM_scale_0.2.2.2.2.2.2.2.2.2.2.2.2.1
theorem d_CM_scale_29 : decode prog_1_method_61_code 29 = .ok (.iload_n 1, 1) := F_CM_scale_0.2.2.2.2.2.2.2.2.2.2.2.2.2.1
theorem d_CM_scale_30 : decode prog_1_method_61_code 30 = .ok (.aaload, 1) := F_CM_scale_0.2.2.2.2.2.2.2.2.2.2.2.2.2.2.1
theorem d_CM_scale_31 : decode prog_1_method_61_code 31 = .ok (.astore_n 3, 1) := F_CM_scale_0.2.2.2.2.2.2.2.2.2.2.2.2.2.2.2.1
theorem d_CM_scale_32 : decode prog_1_method_61_code 32 = .ok (.aload_n 3, 1) := F_CM_scale_0.2.2.2.2.2.2.2.2.2.2.2.2.2.2.2.2.1
theorem d_CM_scale_33 : decode prog_1_method_61_code 33 = .ok (.invokestatic 294, 3) := F_CM_scale_0.2.2.2.2.2.2.2.2.2.2.2.2.2.2.2.2.2.1
theorem d_CM_scale_36 : decode prog_1_method_61_code 36 = .ok (.iconst 3, 1) := F_CM_scale_0.2.2.2.2.2.2.2.2.2.2.2.2.2.2.2.2.2.2.1
theorem d_CM_scale_37 : decode prog_1_method_61_code 37 = .ok (.if_icmp .le (7), 3) := F_CM_scale_0.2.2.2.2.2.2.2.2.2.2.2.2.2.2.2.2.2.2.2.1
theorem d_CM_scale_40 : decode prog_1_method_61_code 40 = .ok (.ldc2_w 408, 3) := F_CM_scale_0.2.2.2.2.2.2.2.2.2.2.2.2.2.2.2.2.2.2.2.2.1
theorem d_CM_scale_43 : decode prog_1_method_61_code 43 = .ok (.lreturn, 1) := F_CM_scale_0.2.2.2.2.2.2.2.2.2.2.2.2.2.2.2.2.2.2.2.2.2.1
theorem d_CM_scale_44 : decode prog_1_method_61_code 44 = .ok (.aload_n 3, 1) := F_CM_scale_0.2.2.2.2.2.2.2.2.2.2.2.2.2.2.2.2.2.2.2.2.2.2.1
theorem d_CM_scale_45 : decode prog_1_method_61_code 45 = .ok (.iconst 0, 1) := F_CM_scale_0.2.2.2.2.2.2.2.2.2.2.2.2.2.2.2.2.2.2.2.2.2.2.2.1
theorem d_CM_scale_46 : decode prog_1_method_61_code 46 = .ok (.laload, 1) := F_CM_scale_0.2.2.2.2.2.2.2.2.2.2.2.2.2.2.2.2.2.2.2.2.2.2.2.2.1
theorem d_CM_scale_47 : decode prog_1_method_61_code 47 = .ok (.aload_n 3, 1) := F_CM_scale_0.2.2.2.2.2.2.2.2.2.2.2.2.2.2.2.2.2.2.2.2.2.2.2.2.2.1
theorem d_CM_scale_48 : decode prog_1_method_61_code 48 = .ok (.iconst 0, 1) := F_CM_scale_0.2.2.2.2.2.2.2.2.2.2.2.2.2.2.2.2.2.2.2.2.2.2.2.2.2.2.1
theorem d_CM_scale_49 : decode prog_1_method_61_code 49 = .ok (.laload, 1) := F_CM_scale_0.2.2.2.2.2.2.2.2.2.2.2.2.2.2.2.2.2.2.2.2.2.2.2.2.2.2.2.1
theorem d_CM_scale_50 : decode prog_1_method_61_code 50 = .ok (.lmul, 1) := F_CM_scale_0.2.2.2.2.2.2.2.2.2.2.2.2.2.2.2.2.2.2.2.2.2.2.2.2.2.2.2.2.1
theorem d_CM_scale_51 : decode prog_1_method_61_code 51 = .ok (.aload_n 3, 1) := F_CM_scale_0.2.2.2.2.2.2.2.2.2.2.2.2.2.2.2.2.2.2.2.2.2.2.2.2.2.2.2.2.2.1
theorem d_CM_scale_52 : decode prog_1_method_61_code 52 = .ok (.iconst 3, 1) := F_CM_scale_0.2.2.2.2.2.2.2.2.2.2.2.2.2.2.2.2.2.2.2.2.2.2.2.2.2.2.2.2.2.2.1
theorem d_CM_scale_53 : decode prog_1_method_61_code 53 = .ok (.laload, 1) := F_CM_scale_0.2.2.2.2.2.2.2.2.2.2.2.2.2.2.2.2.2.2.2.2.2.2.2.2.2.2.2.2.2.2.2.1
theorem F_CM_scale_54 : Jvm.Free.DS.Facts prog_1_method_61_code 54 [(.aload_n 3, 1), (.iconst 3, 1), (.laload, 1), (.lmul, 1), (.ladd, 1), (.aload_n 3, 1), (.bipush (8), 2), (.laload, 1), (.aload_n 3, 1), (.bipush (8), 2), (.laload, 1), (.lmul, 1), (.iload_n 2, 1), (.invokestatic 345, 3), (.lreturn, 1)] := Jvm.Free.DS.facts 54 _ (by decide +kernel) (by decide +kernel)
theorem d_CM_scale_54 : decode prog_1_method_61_code 54 = .ok (.aload_n 3, 1) := F_CM_scale_54.1
theorem d_CM_scale_55 : decode prog_1_method_61_code 55 = .ok (.iconst 3, 1) := F_CM_scale_54.2.1
theorem d_CM_scale_56 : decode prog_1_method_61_code 56 = .ok (.laload, 1) := F_CM_scale_54.2.2.1
theorem d_CM_scale_57 : decode prog_1_method_61_code 57 = .ok (.lmul, 1) := F_CM_scale_54.2.2.2.1
theorem d_CM_scale_58 : decode prog_1_method_61_code 58 = .ok (.ladd, 1) := F_CM_scale_54.2.2.2.2.1
theorem d_CM_scale_59 : decode prog_1_method_61_code 59 = .ok (.aload_n 3, 1) := F_CM_scale_54.2.2.2.2.2.1
theorem d_CM_scale_60 : decode prog_1_method_61_code 60 = .ok (.bipush (8), 2) := F_CM_scale_54.2.2.2.2.2.2.1
theorem d_CM_scale_62 : decode prog_1_method_61_code 62 = .ok (.laload, 1) := F_CM_scale_54.2.2.2.2.2.2.2.1
theorem d_CM_scale_63 : decode prog_1_method_61_code 63 = .ok (.aload_n 3, 1) := F_CM_scale_54.2.2.2.2.2.2.2.2.1
theorem d_CM_scale_64 : decode prog_1_method_61_code 64 = .ok (.bipush (8), 2) := F_CM_scale_54.2.2.2.2.2.2.2.2.2.1
theorem d_CM_scale_66 : decode prog_1_method_61_code 66 = .ok (.laload, 1) := F_CM_scale_54.2.2.2.2.2.2.2.2.2.2.1
theorem d_CM_scale_67 : decode prog_1_method_61_code 67 = .ok (.lmul, 1) := F_CM_scale_54.2.2.2.2.2.2.2.2.2.2.2.1
theorem d_CM_scale_68 : decode prog_1_method_61_code 68 = .ok (.iload_n 2, 1) := F_CM_scale_54.2.2.2.2.2.2.2.2.2.2.2.2.1
theorem d_CM_scale_69 : decode prog_1_method_61_code 69 = .ok (.invokestatic 345, 3) := F_CM_scale_54.2.2.2.2.2.2.2.2.2.2.2.2.2.1
theorem d_CM_scale_72 : decode prog_1_method_61_code 72 = .ok (.lreturn, 1) := F_CM_scale_54.2.2.2.2.2.2.2.2.2.2.2.2.2.2.1
theorem F_CM_likeness_0 : Jvm.Free.DS.Facts prog_1_method_62_code 0 [(.aload_n 0, 1), (.getfield 12, 3), (.iload_n 1, 1), (.invokevirtual 127, 3), (.ifCond .eq (21), 3), (.aload_n 0, 1), (.getfield 12, 3), (.iload_n 2, 1), (.invokevirtual 127, 3), (.ifCond .eq (10), 3), (.iload_n 3, 1), (.invokestatic 136, 3), (.ifCond .ne (5), 3), (.iconst (-1), 1), (.ireturn, 1), (.bipush (6), 2), (.istore 4, 2), (.iconst 0, 1), (.istore 5, 2), (.iconst 0, 1), (.istore 6, 2), (.iload 6, 2), (.bipush (24), 2), (.if_icmp .ge (64), 3), (.aload_n 0, 1), (.getfield 31, 3), (.aload_n 0, 1), (.getfield 12, 3), (.getfield 142, 3), (.iload_n 1, 1), (.aaload, 1), (.aload_n 0, 1)] := Jvm.Free.DS.facts 0 _ (by decide +kernel) (by decide +kernel)
theorem d_CM_likeness_0 : decode prog_1_method_62_code 0 = .ok (.aload_n 0, 1) := F_CM_likeness_0.1
theorem d_CM_likeness_1 : decode prog_1_method_62_code 1 = .ok (.getfield 12, 3) := F_CM_likeness_0.2.1
theorem d_CM_likeness_4 : decode prog_1_method_62_code 4 = .ok (.iload_n 1, 1) := F_CM_likeness_0.2.2.1
theorem d_CM_likeness_5 : decode prog_1_method_62_code 5 = .ok (.invokevirtual 127, 3) := F_CM_likeness_0.2.2.2.1
theorem d_CM_likeness_8 : decode prog_1_method_62_code 8 = .ok (.ifCond .eq (21), 3) := F_CM_likeness_0.2.2.2.2.1
theorem d_CM_likeness_11 : decode prog_1_method_62_code 11 = .ok (.aload_n 0, 1) := F_CM_likeness_0.2.2.2.2.2.1
theorem d_CM_likeness_12 : decode prog_1_method_62_code 12 = .ok (.getfield 12, 3) := F_CM_likeness_0.2.2.2.2.2.2.1
theorem d_CM_likeness_15 : decode prog_1_method_62_code 15 = .ok (.iload_n 2, 1) := F_CM_likeness_0.2.2.2.2.2.2.2.1
theorem d_CM_likeness_16 : decode prog_1_method_62_code 16 = .ok (.invokevirtual 127, 3) := F_CM_likeness_0.2.2.2.2.2.2.2.2.1
theorem d_CM_likeness_19 : decode prog_1_method_62_code 19 = .ok (.ifCond .eq (10), 3) := F_CM_likeness_0.2.2.2.2.2.2.2.2.2.1
theorem d_CM_likeness_22 : decode prog_1_method_62_code 22 = .ok (.iload_n 3, 1) := F_CM_likeness_0.2.2.2.2.2.2.2.2.2.2.1
theorem d_CM_likeness_23 : decode prog_1_method_62_code 23 = .ok (.invokestatic 136, 3) := F_CM_likeness_0.2.2.2.2.2.2.2.2.2.2.2.1
theorem d_CM_likeness_26 : decode prog_1_method_62_code 26 = .ok (.ifCond .ne (5), 3) := F_CM_likeness_0.2.2.2.2.2.2.2.2.2.2.2.2.1
theorem d_CM_likeness_29 : decode prog_1_method_62_code 29 = .ok (.iconst (-1), 1) := F_CM_likeness_0.2.2.2.2.2.2.2.2.2.2.2.2.2.1
theorem d_CM_likeness_30 : decode prog_1_method_62_code 30 = .ok (.ireturn, 1) := F_CM_likeness_0.2.2.2.2.2.2.2.2.2.2.2.2.2.2.1
theorem d_CM_likeness_31 : decode prog_1_method_62_code 31 = .ok (.bipush (6), 2) := F_CM_likeness_0.2.2.2.2.2.2.2.2.2.2.2.2.2.2.2.1
theorem d_CM_likeness_33 : decode prog_1_method_62_code 33 = .ok (.istore 4, 2) := F_CM_likeness_0.2.2.2.2.2.2.2.2.2.2.2.2.2.2.2.2.1
theorem d_CM_likeness_35 : decode prog_1_method_62_code 35 = .ok (.iconst 0, 1) := F_CM_likeness_0.2.2.2.2.2.2.2.2.2.2.2.2.2.2.2.2.2.1
theorem d_CM_likeness_36 : decode prog_1_method_62_code 36 = .ok (.istore 5, 2) := F_CM_likeness_0.2.2.2.2.2.2.2.2.2.2.2.2.2.2.2.2.2.2.1
theorem d_CM_likeness_38 : decode prog_1_method_62_code 38 = .ok (.iconst 0, 1) := F_CM_likeness_0.2.2.2.2.2.2.2.2.2.2.2.2.2.2.2.2.2.2.2.1
theorem d_CM_likeness_39 : decode prog_1_method_62_code 39 = .ok (.istore 6, 2) := F_CM_likeness_0.2.2.2.2.2.2.2.2.2.2.2.2.2.2.2.2.2.2.2.2.1
theorem d_CM_likeness_41 : decode prog_1_method_62_code 41 = .ok (.iload 6, 2) := F_CM_likeness_0.2.2.2.2.2.2.2.2.2.2.2.2.2.2.2.2.2.2.2.2.2.1
theorem d_CM_likeness_43 : decode prog_1_method_62_code 43 = .ok (.bipush (24), 2) := F_CM_likeness_0.2.2.2.2.2.2.2.2.2.2.2.2.2.2.2.2.2.2.2.2.2.2.1
theorem d_CM_likeness_45 : decode prog_1_method_62_code 45 = .ok (.if_icmp .ge (64), 3) := F_CM_likeness_0.2.2.2.2.2.2.2.2.2.2.2.2.2.2.2.2.2.2.2.2.2.2.2.1
theorem d_CM_likeness_48 : decode prog_1_method_62_code 48 = .ok (.aload_n 0, 1) := F_CM_likeness_0.2.2.2.2.2.2.2.2.2.2.2.2.2.2.2.2.2.2.2.2.2.2.2.2.1
theorem d_CM_likeness_49 : decode prog_1_method_62_code 49 = .ok (.getfield 31, 3) := F_CM_likeness_0.2.2.2.2.2.2.2.2.2.2.2.2.2.2.2.2.2.2.2.2.2.2.2.2.2.1
theorem d_CM_likeness_52 : decode prog_1_method_62_code 52 = .ok (.aload_n 0, 1) := F_CM_likeness_0.2.2.2.2.2.2.2.2.2.2.2.2.2.2.2.2.2.2.2.2.2.2.2.2.2.2.1
theorem d_CM_likeness_53 : decode prog_1_method_62_code 53 = .ok (.getfield 12, 3) := F_CM_likeness_0.2.2.2.2.2.2.2.2.2.2.2.2.2.2.2.2.2.2.2.2.2.2.2.2.2.2.2.1
theorem d_CM_likeness_56 : decode prog_1_method_62_code 56 = .ok (.getfield 142, 3) := F_CM_likeness_0.2.2.2.2.2.2.2.2.2.2.2.2.2.2.2.2.2.2.2.2.2.2.2.2.2.2.2.2.1
theorem d_CM_likeness_59 : decode prog_1_method_62_code 59 = .ok (.iload_n 1, 1) := F_CM_likeness_0.2.2.2.2.2.2.2.2.2.2.2.2.2.2.2.2.2.2.2.2.2.2.2.2.2.2.2.2.2.1
theorem d_CM_likeness_60 : decode prog_1_method_62_code 60 = .ok (.aaload, 1) := F_CM_likeness_0.2.2.2.2.2.2.2.2.2.2.2.2.2.2.2.2.2.2.2.2.2.2.2.2.2.2.2.2.2.2.1
theorem d_CM_likeness_61 : decode prog_1_method_62_code 61 = .ok (.aload_n 0, 1) := F_CM_likeness_0.2.2.2.2.2.2.2.2.2.2.2.2.2.2.2.2.2.2.2.2.2.2.2.2.2.2.2.2.2.2.2.1
theorem F_CM_likeness_62 : Jvm.Free.DS.Facts prog_1_method_62_code 62 [(.getfield 12, 3), (.getfield 142, 3), (.iload_n 2, 1), (.aaload, 1), (.iload 6, 2), (.aload_n 0, 1), (.getfield 65, 3), (.invokevirtual 184, 3), (.aload_n 0, 1), (.getfield 65, 3), (.invokestatic 294, 3), (.istore 7, 2), (.iload 7, 2), (.iload 4, 2), (.if_icmp .ge (11), 3), (.iload 7, 2), (.istore 4, 2), (.iload 6, 2), (.istore 5, 2), (.iinc 6 (1), 3), (.goto (-65), 3), (.iload_n 3, 1), (.ifCond .ne (8), 3), (.iload 4, 2), (.goto (5), 3), (.iload 5, 2), (.ireturn, 1)] := Jvm.Free.DS.facts 62 _ (by decide +kernel) (by decide +kernel)
theorem d_CM_likeness_62 : decode prog_1_method_62_code 62 = .ok (.getfield 12, 3) := F_CM_likeness_62.1
theorem d_CM_likeness_65 : decode prog_1_method_62_code 65 = .ok (.getfield 142, 3) := F_CM_likeness_62.2.1
theorem d_CM_likeness_68 : decode prog_1_method_62_code 68 = .ok (.iload_n 2, 1) := F_CM_likeness_62.2.2.1
theorem d_CM_likeness_69 : decode prog_1_method_62_code 69 = .ok (.aaload, 1) := F_CM_likeness_62.2.2.2.1
theorem d_CM_likeness_70 : decode prog_1_method_62_code 70 = .ok (.iload 6, 2) := F_CM_likeness_62.2.2.2.2.1
theorem d_CM_likeness_72 : decode prog_1_method_62_code 72 = .ok (.aload_n 0, 1) := F_CM_likeness_62.2.2.2.2.2.1
theorem d_CM_likeness_73 : decode prog_1_method_62_code 73 = .ok (.getfield 65, 3) := F_CM_likeness_62.2.2.2.2.2.2.1
theorem d_CM_likeness_76 : decode prog_1_method_62_code 76 = .ok (.invokevirtual 184, 3) := F_CM_likeness_62.2.2.2.2.2.2.2.1
theorem d_CM_likeness_79 : decode prog_1_method_62_code 79 = .ok (.aload_n 0, 1) := F_CM_likeness_62.2.2.2.2.2.2.2.2.1
theorem d_CM_likeness_80 : decode prog_1_method_62_code 80 = .ok (.getfield 65, 3) := F_CM_likeness_62.2.2.2.2.2.2.2.2.2.1
theorem d_CM_likeness_83 : decode prog_1_method_62_code 83 = .ok (.invokestatic 294, 3) := F_CM_likeness_62.2.2.2.2.2.2.2.2.2.2.1
theorem d_CM_likeness_86 : decode prog_1_method_62_code 86 = .ok (.istore 7, 2) := F_CM_likeness_62.2.2.2.2.2.2.2.2.2.2.2.1
theorem d_CM_likeness_88 : decode prog_1_method_62_code 88 = .ok (.iload 7, 2) := F_CM_likeness_62.2.2.2.2.2.2.2.2.2.2.2.2.1
theorem d_CM_likeness_90 : decode prog_1_method_62_code 90 = .ok (.iload 4, 2) := F_CM_likeness_62.2.2.2.2.2.2.2.2.2.2.2.2.2.1
theorem d_CM_likeness_92 : decode prog_1_method_62_code 92 = .ok (.if_icmp .ge (11), 3) := F_CM_likeness_62.2.2.2.2.2.2.2.2.2.2.2.2.2.2.1
theorem d_CM_likeness_95 : decode prog_1_method_62_code 95 = .ok (.iload 7, 2) := F_CM_likeness_62.2.2.2.2.2.2.2.2.2.2.2.2.2.2.2.1
theorem d_CM_likeness_97 : decode prog_1_method_62_code 97 = .ok (.istore 4, 2) := F_CM_likeness_62.2.2.2.2.2.2.2.2.2.2.2.2.2.2.2.2.1
theorem d_CM_likeness_99 : decode prog_1_method_62_code 99 = .ok (.iload 6, 2) := F_CM_likeness_62.2.2.2.2.2.2.2.2.2.2.2.2.2.2.2.2.2.1
theorem d_CM_likeness_101 : decode prog_1_method_62_code 101 = .ok (.istore 5, 2) := F_CM_likeness_62.2.2.2.2.2.2.2.2.2.2.2.2.2.2.2.2.2.2.1
theorem d_CM_likeness_103 : decode prog_1_method_62_code 103 = .ok (.iinc 6 (1), 3) := F_CM_likeness_62.2.2.2.2.2.2.2.2.2.2.2.2.2.2.2.2.2.2.2.1
theorem d_CM_likeness_106 : decode prog_1_method_62_code 106 = .ok (.goto (-65), 3) := F_CM_likeness_62.2.2.2.2.2.2.2.2.2.2.2.2.2.2.2.2.2.2.2.2.1
theorem d_CM_likeness_109 : decode prog_1_method_62_code 109 = .ok (.iload_n 3, 1) := F_CM_likeness_62.2.2.2.2.2.2.2.2.2.2.2.2.2.2.2.2.2.2.2.2.2.1
theorem d_CM_likeness_110 : decode prog_1_method_62_code 110 = .ok (.ifCond .ne (8), 3) := F_CM_likeness_62.2.2.2.2.2.2.2.2.2.2.2.2.2.2.2.2.2.2.2.2.2.2.1
theorem d_CM_likeness_113 : decode prog_1_method_62_code 113 = .ok (.iload 4, 2) := F_CM_likeness_62.2.2.2.2.2.2.2.2.2.2.2.2.2.2.2.2.2.2.2.2.2.2.2.1
theorem d_CM_likeness_115 : decode prog_1_method_62_code 115 = .ok (.goto (5), 3) := F_CM_likeness_62.2.2.2.2.2.2.2.2.2.2.2.2.2.2.2.2.2.2.2.2.2.2.2.2.1
theorem d_CM_likeness_118 : decode prog_1_method_62_code 118 = .ok (.iload 5, 2) := F_CM_likeness_62.2.2.2.2.2.2.2.2.2.2.2.2.2.2.2.2.2.2.2.2.2.2.2.2.2.1
theorem d_CM_likeness_120 : decode prog_1_method_62_code 120 = .ok (.ireturn, 1) := F_CM_likeness_62.2.2.2.2.2.2.2.2.2.2.2.2.2.2.2.2.2.2.2.2.2.2.2.2.2.2.1
theorem F_CM_hits_0 : Jvm.Free.DS.Facts prog_1_method_63_code 0 [(.aload_n 0, 1), (.getfield 12, 3), (.iload_n 1, 1), (.invokevirtual 151, 3), (.ifCond .eq (25), 3), (.aload_n 0, 1), (.getfield 12, 3), (.iload_n 2, 1), (.invokevirtual 127, 3), (.ifCond .eq (14), 3), (.aload_n 0, 1), (.getfield 12, 3), (.iload_n 3, 1), (.invokevirtual 127, 3), (.ifCond .ne (5), 3), (.iconst (-1), 1), (.ireturn, 1), (.aload_n 0, 1), (.iload_n 1, 1), (.iload_n 2, 1), (.iload_n 3, 1), (.invokevirtual 412, 3), (.ireturn, 1)] := Jvm.Free.DS.facts 0 _ (by decide +kernel) (by decide +kernel)
theorem d_CM_hits_0 : decode prog_1_method_63_code 0 = .ok (.aload_n 0, 1) := F_CM_hits_0.1
theorem d_CM_hits_1 : decode prog_1_method_63_code 1 = .ok (.getfield 12, 3) := F_CM_hits_0.2.1
theorem d_CM_hits_4 : decode prog_1_method_63_code 4 = .ok (.iload_n 1, 1) := F_CM_hits_0.2.2.1
theorem d_CM_hits_5 : decode prog_1_method_63_code 5 = .ok (.invokevirtual 151, 3) := F_CM_hits_0.2.2.2.1
theorem d_CM_hits_8 : decode prog_1_method_63_code 8 = .ok (.ifCond .eq (25), 3) := F_CM_hits_0.2.2.2.2.1
theorem d_CM_hits_11 : decode prog_1_method_63_code 11 = .ok (.aload_n 0, 1) := F_CM_hits_0.2.2.2.2.2.1
theorem d_CM_hits_12 : decode prog_1_method_63_code 12 = .ok (.getfield 12, 3) := F_CM_hits_0.2.2.2.2.2.2.1
theorem d_CM_hits_15 : decode prog_1_method_63_code 15 = .ok (.iload_n 2, 1) := F_CM_hits_0.2.2.2.2.2.2.2.1
theorem d_CM_hits_16 : decode prog_1_method_63_code 16 = .ok (.invokevirtual 127, 3) := F_CM_hits_0.2.2.2.2.2.2.2.2.1
theorem d_CM_hits_19 : decode prog_1_method_63_code 19 = .ok (.ifCond .eq (14), 3) := F_CM_hits_0.2.2.2.2.2.2.2.2.2.1
theorem d_CM_hits_22 : decode prog_1_method_63_code 22 = .ok (.aload_n 0, 1) := F_CM_hits_0.2.2.2.2.2.2.2.2.2.2.1
theorem d_CM_hits_23 : decode prog_1_method_63_code 23 = .ok (.getfield 12, 3) := F_CM_hits_0.2.2.2.2.2.2.2.2.2.2.2.1
theorem d_CM_hits_26 : decode prog_1_method_63_code 26 = .ok (.iload_n 3, 1) := F_CM_hits_0.2.2.2.2.2.2.2.2.2.2.2.2.1
theorem d_CM_hits_27 : decode prog_1_method_63_code 27 = .ok (.invokevirtual 127, 3) := F_CM_hits_0.2.2.2.2.2.2.2.2.2.2.2.2.2.1
theorem d_CM_hits_30 : decode prog_1_method_63_code 30 = .ok (.ifCond .ne (5), 3) := F_CM_hits_0.2.2.2.2.2.2.2.2.2.2.2.2.2.2.1
theorem d_CM_hits_33 : decode prog_1_method_63_code 33 = .ok (.iconst (-1), 1) := F_CM_hits_0.2.2.2.2.2.2.2.2.2.2.2.2.2.2.2.1
theorem d_CM_hits_34 : decode prog_1_method_63_code 34 = .ok (.ireturn, 1) := F_CM_hits_0.2.2.2.2.2.2.2.2.2.2.2.2.2.2.2.2.1
theorem d_CM_hits_35 : decode prog_1_method_63_code 35 = .ok (.aload_n 0, 1) := F_CM_hits_0.2.2.2.2.2.2.2.2.2.2.2.2.2.2.2.2.2.1
theorem d_CM_hits_36 : decode prog_1_method_63_code 36 = .ok (.iload_n 1, 1) := F_CM_hits_0.2.2.2.2.2.2.2.2.2.2.2.2.2.2.2.2.2.2.1
theorem d_CM_hits_37 : decode prog_1_method_63_code 37 = .ok (.iload_n 2, 1) := F_CM_hits_0.2.2.2.2.2.2.2.2.2.2.2.2.2.2.2.2.2.2.2.1
theorem d_CM_hits_38 : decode prog_1_method_63_code 38 = .ok (.iload_n 3, 1) := F_CM_hits_0.2.2.2.2.2.2.2.2.2.2.2.2.2.2.2.2.2.2.2.2.1
theorem d_CM_hits_39 : decode prog_1_method_63_code 39 = .ok (.invokevirtual 412, 3) := F_CM_hits_0.2.2.2.2.2.2.2.2.2.2.2.2.2.2.2.2.2.2.2.2.2.1
theorem d_CM_hits_42 : decode prog_1_method_63_code 42 = .ok (.ireturn, 1) := F_CM_hits_0.2.2.2.2.2.2.2.2.2.2.2.2.2.2.2.2.2.2.2.2.2.2.1
theorem F_CM_cornersThatHit_0 : Jvm.Free.DS.Facts prog_1_method_101_code 0 [(.iconst 0, 1), (.istore 4, 2), (.iconst 0, 1), (.istore 5, 2), (.iload 5, 2), (.iconst 4, 1), (.if_icmp .ge (62), 3), (.aload_n 0, 1), (.getfield 12, 3), (.getfield 157, 3), (.iload_n 1, 1), (.aaload, 1), (.aload_n 0, 1), (.getfield 12, 3), (.getfield 142, 3), (.iload_n 2, 1), (.aaload, 1), (.getfield 146, 3), (.iload 5, 2), (.aaload, 1), (.aload_n 0, 1), (.getfield 78, 3), (.invokestatic 248, 3), (.aload_n 0, 1), (.getfield 12, 3), (.getfield 142, 3), (.iload_n 3, 1), (.aaload, 1), (.aload_n 0, 1), (.getfield 78, 3), (.invokevirtual 455, 3), (.ifCond .eq (6), 3)] := Jvm.Free.DS.facts 0 _ (by decide +kernel) (by decide +kernel)
theorem d_CM_cornersThatHit_0 : decode prog_1_method_101_code 0 = .ok (.iconst 0, 1) := F_CM_cornersThatHit_0.1
theorem d_CM_cornersThatHit_1 : decode prog_1_method_101_code 1 = .ok (.istore 4, 2) := F_CM_cornersThatHit_0.2.1
theorem d_CM_cornersThatHit_3 : decode prog_1_method_101_code 3 = .ok (.iconst 0, 1) := F_CM_cornersThatHit_0.2.2.1
theorem d_CM_cornersThatHit_4 : decode prog_1_method_101_code 4 = .ok (.istore 5, 2) := F_CM_cornersThatHit_0.2.2.2.1
theorem d_CM_cornersThatHit_6 : decode prog_1_method_101_code 6 = .ok (.iload 5, 2) := F_CM_cornersThatHit_0.2.2.2.2.1
theorem d_CM_cornersThatHit_8 : decode prog_1_method_101_code 8 = .ok (.iconst 4, 1) := F_CM_cornersThatHit_0.2.2.2.2.2.1
theorem d_CM_cornersThatHit_9 : decode prog_1_method_101_code 9 = .ok (.if_icmp .ge (62), 3) := F_CM_cornersThatHit_0.2.2.2.2.2.2.1
theorem d_CM_cornersThatHit_12 : decode prog_1_method_101_code 12 = .ok (.aload_n 0, 1) := F_CM_cornersThatHit_0.2.2.2.2.2.2.2.1
theorem d_CM_cornersThatHit_13 : decode prog_1_method_101_code 13 = .ok (.getfield 12, 3) := F_CM_cornersThatHit_0.2.2.2.2.2.2.2.2.1
theorem d_CM_cornersThatHit_16 : decode prog_1_method_101_code 16 = .ok (.getfield 157, 3) := F_CM_cornersThatHit_0.2.2.2.2.2.2.2.2.2.1
theorem d_CM_cornersThatHit_19 : decode prog_1_method_101_code 19 = .ok (.iload_n 1, 1) := F_CM_cornersThatHit_0.2.2.2.2.2.2.2.2.2.2.1
theorem d_CM_cornersThatHit_20 : decode prog_1_method_101_code 20 = .ok (.aaload, 1) := F_CM_cornersThatHit_0.2.2.2.2.2.2.2.2.2.2.2.1
theorem d_CM_cornersThatHit_21 : decode prog_1_method_101_code 21 = .ok (.aload_n 0, 1) := F_CM_cornersThatHit_0.2.2.2.2.2.2.2.2.2.2.2.2.1
theorem d_CM_cornersThatHit_22 : decode prog_1_method_101_code 22 = .ok (.getfield 12, 3) := F_CM_cornersThatHit_0.2.2.2.2.2.2.2.2.2.2.2.2.2.1
theorem d_CM_cornersThatHit_25 : decode prog_1_method_101_code 25 = .ok (.getfield 142, 3) := F_CM_cornersThatHit_0.2.2.2.2.2.2.2.2.2.2.2.2.2.2.1
theorem d_CM_cornersThatHit_28 : decode prog_1_method_101_code 28 = .ok (.iload_n 2, 1) := F_CM_cornersThatHit_0.2.2.2.2.2.2.2.2.2.2.2.2.2.2.2.1
theorem d_CM_cornersThatHit_29 : decode prog_1_method_101_code 29 = .ok (.aaload, 1) := F_CM_cornersThatHit_0.2.2.2.2.2.2.2.2.2.2.2.2.2.2.2.2.1
theorem d_CM_cornersThatHit_30 : decode prog_1_method_101_code 30 = .ok (.getfield 146, 3) := F_CM_cornersThatHit_0.2.2.2.2.2.2.2.2.2.2.2.2.2.2.2.2.2.1
theorem d_CM_cornersThatHit_33 : decode prog_1_method_101_code 33 = .ok (.iload 5, 2) := F_CM_cornersThatHit_0.2.2.2.2.2.2.2.2.2.2.2.2.2.2.2.2.2.2.1
theorem d_CM_cornersThatHit_35 : decode prog_1_method_101_code 35 = .ok (.aaload, 1) := F_CM_cornersThatHit_0.2.2.2.2.2.2.2.2.2.2.2.2.2.2.2.2.2.2.2.1
theorem d_CM_cornersThatHit_36 : decode prog_1_method_101_code 36 = .ok (.aload_n 0, 1) := F_CM_cornersThatHit_0.2.2.2.2.2.2.2.2.2.2.2.2.2.2.2.2.2.2.2.2.1
theorem d_CM_cornersThatHit_37 : decode prog_1_method_101_code 37 = .ok (.getfield 78, 3) := F_CM_cornersThatHit_0.2.2.2.2.2.2.2.2.2.2.2.2.2.2.2.2.2.2.2.2.2.1
theorem d_CM_cornersThatHit_40 : decode prog_1_method_101_code 40 = .ok (.invokestatic 248, 3) := F_CM_cornersThatHit_0.2.2.2.2.2.2.2.2.2.2.2.2.2.2.2.2.2.2.2.2.2.2.1
theorem d_CM_cornersThatHit_43 : decode prog_1_method_101_code 43 = .ok (.aload_n 0, 1) := F_CM_cornersThatHit_0.2.2.2.2.2.2.2.2.2.2.2.2.2.2.2.2.2.2.2.2.2.2.2.1
theorem d_CM_cornersThatHit_44 : decode prog_1_method_101_code 44 = .ok (.getfield 12, 3) := F_CM_cornersThatHit_0.2.2.2.2.2.2.2.2.2.2.2.2.2.2.2.2.2.2.2.2.2.2.2.2.1
theorem d_CM_cornersThatHit_47 : decode prog_1_method_101_code 47 = .ok (.getfield 142, 3) := F_CM_cornersThatHit_0.2.2.2.2.2.2.2.2.2.2.2.2.2.2.2.2.2.2.2.2.2.2.2.2.2.1
theorem d_CM_cornersThatHit_50 : decode prog_1_method_101_code 50 = .ok (.iload_n 3, 1) := F_CM_cornersThatHit_0.2.2.2.2.2.2.2.2.2.2.2.2.2.2.2.2.2.2.2.2.2.2.2.2.2.2.1
theorem d_CM_cornersThatHit_51 : decode prog_1_method_101_code 51 = .ok (.aaload, 1) := F_CM_cornersThatHit_0.2.2.2.2.2.2.2.2.2.2.2.2.2.2.2.2.2.2.2.2.2.2.2.2.2.2.2.1
theorem d_CM_cornersThatHit_52 : decode prog_1_method_101_code 52 = .ok (.aload_n 0, 1) := F_CM_cornersThatHit_0.2.2.2.2.2.2.2.2.2.2.2.2.2.2.2.2.2.2.2.2.2.2.2.2.2.2.2.2.1
theorem d_CM_cornersThatHit_53 : decode prog_1_method_101_code 53 = .ok (.getfield 78, 3) := F_CM_cornersThatHit_0.2.2.2.2.2.2.2.2.2.2.2.2.2.2.2.2.2.2.2.2.2.2.2.2.2.2.2.2.2.1
theorem d_CM_cornersThatHit_56 : decode prog_1_method_101_code 56 = .ok (.invokevirtual 455, 3) := F_CM_cornersThatHit_0.2.2.2.2.2.2.2.2.2.2.2.2.2.2.2.2.2.2.2.2.2.2.2.2.2.2.2.2.2.2.1
theorem d_CM_cornersThatHit_59 : decode prog_1_method_101_code 59 = .ok (.ifCond .eq (6), 3) := F_CM_cornersThatHit_0.2.2.2.2.2.2.2.2.2.2.2.2.2.2.2.2.2.2.2.2.2.2.2.2.2.2.2.2.2.2.2.1
theorem F_CM_cornersThatHit_62 : Jvm.Free.DS.Facts prog_1_method_101_code 62 [(.iinc 4 (1), 3), (.iinc 5 (1), 3), (.goto (-62), 3), (.iload 4, 2), (.ireturn, 1)] := Jvm.Free.DS.facts 62 _ (by decide +kernel) (by decide +kernel)
theorem d_CM_cornersThatHit_62 : decode prog_1_method_101_code 62 = .ok (.iinc 4 (1), 3) := F_CM_cornersThatHit_62.1
theorem d_CM_cornersThatHit_65 : decode prog_1_method_101_code 65 = .ok (.iinc 5 (1), 3) := F_CM_cornersThatHit_62.2.1
theorem d_CM_cornersThatHit_68 : decode prog_1_method_101_code 68 = .ok (.goto (-62), 3) := F_CM_cornersThatHit_62.2.2.1
theorem d_CM_cornersThatHit_71 : decode prog_1_method_101_code 71 = .ok (.iload 4, 2) := F_CM_cornersThatHit_62.2.2.2.1
theorem d_CM_cornersThatHit_73 : decode prog_1_method_101_code 73 = .ok (.ireturn, 1) := F_CM_cornersThatHit_62.2.2.2.2.1
theorem F_Quad_hasCorner_0 : Jvm.Free.DS.Facts prog_7_method_8_code 0 [(.iconst 0, 1), (.istore_n 2, 1), (.iload_n 2, 1), (.iconst 4, 1), (.if_icmp .ge (24), 3), (.aload_n 0, 1), (.getfield 11, 3), (.iload_n 2, 1), (.aaload, 1), (.aload_n 1, 1), (.invokestatic 42, 3), (.ifCond .eq (5), 3), (.iconst 1, 1), (.ireturn, 1), (.iinc 2 (1), 3), (.goto (-23), 3), (.iconst 0, 1), (.ireturn, 1)] := Jvm.Free.DS.facts 0 _ (by decide +kernel) (by decide +kernel)
theorem d_Quad_hasCorner_0 : decode prog_7_method_8_code 0 = .ok (.iconst 0, 1) := F_Quad_hasCorner_0.1
theorem d_Quad_hasCorner_1 : decode prog_7_method_8_code 1 = .ok (.istore_n 2, 1) := F_Quad_hasCorner_0.2.1
theorem d_Quad_hasCorner_2 : decode prog_7_method_8_code 2 = .ok (.iload_n 2, 1) := F_Quad_hasCorner_0.2.2.1
theorem d_Quad_hasCorner_3 : decode prog_7_method_8_code 3 = .ok (.iconst 4, 1) := F_Quad_hasCorner_0.2.2.2.1
theorem d_Quad_hasCorner_4 : decode prog_7_method_8_code 4 = .ok (.if_icmp .ge (24), 3) := F_Quad_hasCorner_0.2.2.2.2.1
theorem d_Quad_hasCorner_7 : decode prog_7_method_8_code 7 = .ok (.aload_n 0, 1) := F_Quad_hasCorner_0.2.2.2.2.2.1
theorem d_Quad_hasCorner_8 : decode prog_7_method_8_code 8 = .ok (.getfield 11, 3) := F_Quad_hasCorner_0.2.2.2.2.2.2.1
theorem d_Quad_hasCorner_11 : decode prog_7_method_8_code 11 = .ok (.iload_n 2, 1) := F_Quad_hasCorner_0.2.2.2.2.2.2.2.1
theorem d_Quad_hasCorner_12 : decode prog_7_method_8_code 12 = .ok (.aaload, 1) := F_Quad_hasCorner_0.2.2.2.2.2.2.2.2.1
theorem d_Quad_hasCorner_13 : decode prog_7_method_8_code 13 = .ok (.aload_n 1, 1) := F_Quad_hasCorner_0.2.2.2.2.2.2.2.2.2.1
theorem d_Quad_hasCorner_14 : decode prog_7_method_8_code 14 = .ok (.invokestatic 42, 3) := F_Quad_hasCorner_0.2.2.2.2.2.2.2.2.2.2.1
theorem d_Quad_hasCorner_17 : decode prog_7_method_8_code 17 = .ok (.ifCond .eq (5), 3) := F_Quad_hasCorner_0.2.2.2.2.2.2.2.2.2.2.2.1
theorem d_Quad_hasCorner_20 : decode prog_7_method_8_code 20 = .ok (.iconst 1, 1) := F_Quad_hasCorner_0.2.2.2.2.2.2.2.2.2.2.2.2.1
theorem d_Quad_hasCorner_21 : decode prog_7_method_8_code 21 = .ok (.ireturn, 1) := F_Quad_hasCorner_0.2.2.2.2.2.2.2.2.2.2.2.2.2.1
theorem d_Quad_hasCorner_22 : decode prog_7_method_8_code 22 = .ok (.iinc 2 (1), 3) := F_Quad_hasCorner_0.2.2.2.2.2.2.2.2.2.2.2.2.2.2.1
theorem d_Quad_hasCorner_25 : decode prog_7_method_8_code 25 = .ok (.goto (-23), 3) := F_Quad_hasCorner_0.2.2.2.2.2.2.2.2.2.2.2.2.2.2.2.1
theorem d_Quad_hasCorner_28 : decode prog_7_method_8_code 28 = .ok (.iconst 0, 1) := F_Quad_hasCorner_0.2.2.2.2.2.2.2.2.2.2.2.2.2.2.2.2.1
theorem d_Quad_hasCorner_29 : decode prog_7_method_8_code 29 = .ok (.ireturn, 1) := F_Quad_hasCorner_0.2.2.2.2.2.2.2.2.2.2.2.2.2.2.2.2.2.1
theorem F_CM_goesTo_0 : Jvm.Free.DS.Facts prog_1_method_64_code 0 [(.aload_n 0, 1), (.getfield 12, 3), (.iload_n 1, 1), (.invokevirtual 151, 3), (.ifCond .eq (14), 3), (.aload_n 0, 1), (.getfield 12, 3), (.iload_n 2, 1), (.invokevirtual 127, 3), (.ifCond .ne (5), 3), (.iconst (-1), 1), (.ireturn, 1), (.iconst 0, 1), (.istore_n 3, 1), (.iconst 0, 1), (.istore 4, 2), (.iload 4, 2), (.aload_n 0, 1), (.getfield 12, 3), (.getfield 415, 3), (.if_icmp .ge (24), 3), (.aload_n 0, 1), (.iload_n 1, 1), (.iload_n 2, 1), (.iload 4, 2), (.invokevirtual 412, 3), (.iconst 4, 1), (.if_icmp .ne (6), 3), (.iinc 3 (1), 3), (.iinc 4 (1), 3), (.goto (-30), 3), (.iload_n 3, 1)] := Jvm.Free.DS.facts 0 _ (by decide +kernel) (by decide +kernel)
theorem d_CM_goesTo_0 : decode prog_1_method_64_code 0 = .ok (.aload_n 0, 1) := F_CM_goesTo_0.1
theorem d_CM_goesTo_1 : decode prog_1_method_64_code 1 = .ok (.getfield 12, 3) := F_CM_goesTo_0.2.1
theorem d_CM_goesTo_4 : decode prog_1_method_64_code 4 = .ok (.iload_n 1, 1) := F_CM_goesTo_0.2.2.1
theorem d_CM_goesTo_5 : decode prog_1_method_64_code 5 = .ok (.invokevirtual 151, 3) := F_CM_goesTo_0.2.2.2.1
theorem d_CM_goesTo_8 : decode prog_1_method_64_code 8 = .ok (.ifCond .eq (14), 3) := F_CM_goesTo_0.2.2.2.2.1
theorem d_CM_goesTo_11 : decode prog_1_method_64_code 11 = .ok (.aload_n 0, 1) := F_CM_goesTo_0.2.2.2.2.2.1
theorem d_CM_goesTo_12 : decode prog_1_method_64_code 12 = .ok (.getfield 12, 3) := F_CM_goesTo_0.2.2.2.2.2.2.1
theorem d_CM_goesTo_15 : decode prog_1_method_64_code 15 = .ok (.iload_n 2, 1) := F_CM_goesTo_0.2.2.2.2.2.2.2.1
theorem d_CM_goesTo_16 : decode prog_1_method_64_code 16 = .ok (.invokevirtual 127, 3) := F_CM_goesTo_0.2.2.2.2.2.2.2.2.1
theorem d_CM_goesTo_19 : decode prog_1_method_64_code 19 = .ok (.ifCond .ne (5), 3) := F_CM_goesTo_0.2.2.2.2.2.2.2.2.2.1
theorem d_CM_goesTo_22 : decode prog_1_method_64_code 22 = .ok (.iconst (-1), 1) := F_CM_goesTo_0.2.2.2.2.2.2.2.2.2.2.1
theorem d_CM_goesTo_23 : decode prog_1_method_64_code 23 = .ok (.ireturn, 1) := F_CM_goesTo_0.2.2.2.2.2.2.2.2.2.2.2.1
theorem d_CM_goesTo_24 : decode prog_1_method_64_code 24 = .ok (.iconst 0, 1) := F_CM_goesTo_0.2.2.2.2.2.2.2.2.2.2.2.2.1
theorem d_CM_goesTo_25 : decode prog_1_method_64_code 25 = .ok (.istore_n 3, 1) := F_CM_goesTo_0.2.2.2.2.2.2.2.2.2.2.2.2.2.1
theorem d_CM_goesTo_26 : decode prog_1_method_64_code 26 = .ok (.iconst 0, 1) := F_CM_goesTo_0.2.2.2.2.2.2.2.2.2.2.2.2.2.2.1
theorem d_CM_goesTo_27 : decode prog_1_method_64_code 27 = .ok (.istore 4, 2) := F_CM_goesTo_0.2.2.2.2.2.2.2.2.2.2.2.2.2.2.2.1
theorem d_CM_goesTo_29 : decode prog_1_method_64_code 29 = .ok (.iload 4, 2) := F_CM_goesTo_0.2.2.2.2.2.2.2.2.2.2.2.2.2.2.2.2.1
theorem d_CM_goesTo_31 : decode prog_1_method_64_code 31 = .ok (.aload_n 0, 1) := F_CM_goesTo_0.2.2.2.2.2.2.2.2.2.2.2.2.2.2.2.2.2.1
theorem d_CM_goesTo_32 : decode prog_1_method_64_code 32 = .ok (.getfield 12, 3) := F_CM_goesTo_0.2.2.2.2.2.2.2.2.2.2.2.2.2.2.2.2.2.2.1
theorem d_CM_goesTo_35 : decode prog_1_method_64_code 35 = .ok (.getfield 415, 3) := F_CM_goesTo_0.2.2.2.2.2.2.2.2.2.2.2.2.2.2.2.2.2.2.2.1
theorem d_CM_goesTo_38 : decode prog_1_method_64_code 38 = .ok (.if_icmp .ge (24), 3) := F_CM_goesTo_0.2.2.2.2.2.2.2.2.2.2.2.2.2.2.2.2.2.2.2.2.1
theorem d_CM_goesTo_41 : decode prog_1_method_64_code 41 = .ok (.aload_n 0, 1) := F_CM_goesTo_0.2.2.2.2.2.2.2.2.2.2.2.2.2.2.2.2.2.2.2.2.2.1
theorem d_CM_goesTo_42 : decode prog_1_method_64_code 42 = .ok (.iload_n 1, 1) := F_CM_goesTo_0.2.2.2.2.2.2.2.2.2.2.2.2.2.2.2.2.2.2.2.2.2.2.1
theorem d_CM_goesTo_43 : decode prog_1_method_64_code 43 = .ok (.iload_n 2, 1) := F_CM_goesTo_0.2.2.2.2.2.2.2.2.2.2.2.2.2.2.2.2.2.2.2.2.2.2.2.1
theorem d_CM_goesTo_44 : decode prog_1_method_64_code 44 = .ok (.iload 4, 2) := F_CM_goesTo_0.2.2.2.2.2.2.2.2.2.2.2.2.2.2.2.2.2.2.2.2.2.2.2.2.1
theorem d_CM_goesTo_46 : decode prog_1_method_64_code 46 = .ok (.invokevirtual 412, 3) := F_CM_goesTo_0.2.2.2.2.2.2.2.2.2.2.2.2.2.2.2.2.2.2.2.2.2.2.2.2.2.1
theorem d_CM_goesTo_49 : decode prog_1_method_64_code 49 = .ok (.iconst 4, 1) := F_CM_goesTo_0.2.2.2.2.2.2.2.2.2.2.2.2.2.2.2.2.2.2.2.2.2.2.2.2.2.2.1
theorem d_CM_goesTo_50 : decode prog_1_method_64_code 50 = .ok (.if_icmp .ne (6), 3) := F_CM_goesTo_0.2.2.2.2.2.2.2.2.2.2.2.2.2.2.2.2.2.2.2.2.2.2.2.2.2.2.2.1
theorem d_CM_goesTo_53 : decode prog_1_method_64_code 53 = .ok (.iinc 3 (1), 3) := F_CM_goesTo_0.2.2.2.2.2.2.2.2.2.2.2.2.2.2.2.2.2.2.2.2.2.2.2.2.2.2.2.2.1
theorem d_CM_goesTo_56 : decode prog_1_method_64_code 56 = .ok (.iinc 4 (1), 3) := F_CM_goesTo_0.2.2.2.2.2.2.2.2.2.2.2.2.2.2.2.2.2.2.2.2.2.2.2.2.2.2.2.2.2.1
theorem d_CM_goesTo_59 : decode prog_1_method_64_code 59 = .ok (.goto (-30), 3) := F_CM_goesTo_0.2.2.2.2.2.2.2.2.2.2.2.2.2.2.2.2.2.2.2.2.2.2.2.2.2.2.2.2.2.2.1
theorem d_CM_goesTo_62 : decode prog_1_method_64_code 62 = .ok (.iload_n 3, 1) := F_CM_goesTo_0.2.2.2.2.2.2.2.2.2.2.2.2.2.2.2.2.2.2.2.2.2.2.2.2.2.2.2.2.2.2.2.1
theorem F_CM_goesTo_63 : Jvm.Free.DS.Facts prog_1_method_64_code 63 [(.ireturn, 1)] := Jvm.Free.DS.facts 63 _ (by decide +kernel) (by decide +kernel)
theorem d_CM_goesTo_63 : decode prog_1_method_64_code 63 = .ok (.ireturn, 1) := F_CM_goesTo_63.1
theorem F_CM_farthest_0 : Jvm.Free.DS.Facts prog_1_method_65_code 0 [(.aload_n 0, 1), (.getfield 12, 3), (.iload_n 1, 1), (.invokevirtual 151, 3), (.ifCond .ne (7), 3), (.ldc2_w 270, 3), (.lreturn, 1), (.lconst 0, 1), (.lstore_n 2, 1), (.iconst 0, 1), (.istore 4, 2), (.iload 4, 2), (.aload_n 0, 1), (.getfield 12, 3), (.getfield 232, 3), (.if_icmp .ge (47), 3), (.aload_n 0, 1), (.getfield 12, 3), (.getfield 157, 3), (.iload_n 1, 1), (.aaload, 1), (.aload_n 0, 1), (.getfield 12, 3), (.getfield 163, 3), (.iload 4, 2), (.aaload, 1), (.aload_n 0, 1), (.getfield 78, 3), (.invokestatic 248, 3), (.lload_n 2, 1), (.aload_n 0, 1), (.getfield 78, 3)] := Jvm.Free.DS.facts 0 _ (by decide +kernel) (by decide +kernel)
theorem d_CM_farthest_0 : decode prog_1_method_65_code 0 = .ok (.aload_n 0, 1) := F_CM_farthest_0.1
theorem d_CM_farthest_1 : decode prog_1_method_65_code 1 = .ok (.getfield 12, 3) := F_CM_farthest_0.2.1
theorem d_CM_farthest_4 : decode prog_1_method_65_code 4 = .ok (.iload_n 1, 1) := F_CM_farthest_0.2.2.1
theorem d_CM_farthest_5 : decode prog_1_method_65_code 5 = .ok (.invokevirtual 151, 3) := F_CM_farthest_0.2.2.2.1
theorem d_CM_farthest_8 : decode prog_1_method_65_code 8 = .ok (.ifCond .ne (7), 3) := F_CM_farthest_0.2.2.2.2.1
theorem d_CM_farthest_11 : decode prog_1_method_65_code 11 = .ok (.ldc2_w 270, 3) := F_CM_farthest_0.2.2.2.2.2.1
theorem d_CM_farthest_14 : decode prog_1_method_65_code 14 = .ok (.lreturn, 1) := F_CM_farthest_0.2.2.2.2.2.2.1
theorem d_CM_farthest_15 : decode prog_1_method_65_code 15 = .ok (.lconst 0, 1) := F_CM_farthest_0.2.2.2.2.2.2.2.1
theorem d_CM_farthest_16 : decode prog_1_method_65_code 16 = .ok (.lstore_n 2, 1) := F_CM_farthest_0.2.2.2.2.2.2.2.2.1
theorem d_CM_farthest_17 : decode prog_1_method_65_code 17 = .ok (.iconst 0, 1) := F_CM_farthest_0.2.2.2.2.2.2.2.2.2.1
theorem d_CM_farthest_18 : decode prog_1_method_65_code 18 = .ok (.istore 4, 2) := F_CM_farthest_0.2.2.2.2.2.2.2.2.2.2.1
theorem d_CM_farthest_20 : decode prog_1_method_65_code 20 = .ok (.iload 4, 2) := F_CM_farthest_0.2.2.2.2.2.2.2.2.2.2.2.1
theorem d_CM_farthest_22 : decode prog_1_method_65_code 22 = .ok (.aload_n 0, 1) := F_CM_farthest_0.2.2.2.2.2.2.2.2.2.2.2.2.1
theorem d_CM_farthest_23 : decode prog_1_method_65_code 23 = .ok (.getfield 12, 3) := F_CM_farthest_0.2.2.2.2.2.2.2.2.2.2.2.2.2.1
theorem d_CM_farthest_26 : decode prog_1_method_65_code 26 = .ok (.getfield 232, 3) := F_CM_farthest_0.2.2.2.2.2.2.2.2.2.2.2.2.2.2.1
theorem d_CM_farthest_29 : decode prog_1_method_65_code 29 = .ok (.if_icmp .ge (47), 3) := F_CM_farthest_0.2.2.2.2.2.2.2.2.2.2.2.2.2.2.2.1
theorem d_CM_farthest_32 : decode prog_1_method_65_code 32 = .ok (.aload_n 0, 1) := F_CM_farthest_0.2.2.2.2.2.2.2.2.2.2.2.2.2.2.2.2.1
theorem d_CM_farthest_33 : decode prog_1_method_65_code 33 = .ok (.getfield 12, 3) := F_CM_farthest_0.2.2.2.2.2.2.2.2.2.2.2.2.2.2.2.2.2.1
theorem d_CM_farthest_36 : decode prog_1_method_65_code 36 = .ok (.getfield 157, 3) := F_CM_farthest_0.2.2.2.2.2.2.2.2.2.2.2.2.2.2.2.2.2.2.1
theorem d_CM_farthest_39 : decode prog_1_method_65_code 39 = .ok (.iload_n 1, 1) := F_CM_farthest_0.2.2.2.2.2.2.2.2.2.2.2.2.2.2.2.2.2.2.2.1
theorem d_CM_farthest_40 : decode prog_1_method_65_code 40 = .ok (.aaload, 1) := F_CM_farthest_0.2.2.2.2.2.2.2.2.2.2.2.2.2.2.2.2.2.2.2.2.1
theorem d_CM_farthest_41 : decode prog_1_method_65_code 41 = .ok (.aload_n 0, 1) := F_CM_farthest_0.2.2.2.2.2.2.2.2.2.2.2.2.2.2.2.2.2.2.2.2.2.1
theorem d_CM_farthest_42 : decode prog_1_method_65_code 42 = .ok (.getfield 12, 3) := F_CM_farthest_0.2.2.2.2.2.2.2.2.2.2.2.2.2.2.2.2.2.2.2.2.2.2.1
theorem d_CM_farthest_45 : decode prog_1_method_65_code 45 = .ok (.getfield 163, 3) := F_CM_farthest_0.2.2.2.2.2.2.2.2.2.2.2.2.2.2.2.2.2.2.2.2.2.2.2.1
theorem d_CM_farthest_48 : decode prog_1_method_65_code 48 = .ok (.iload 4, 2) := F_CM_farthest_0.2.2.2.2.2.2.2.2.2.2.2.2.2.2.2.2.2.2.2.2.2.2.2.2.1
theorem d_CM_farthest_50 : decode prog_1_method_65_code 50 = .ok (.aaload, 1) := F_CM_farthest_0.2.2.2.2.2.2.2.2.2.2.2.2.2.2.2.2.2.2.2.2.2.2.2.2.2.1
theorem d_CM_farthest_51 : decode prog_1_method_65_code 51 = .ok (.aload_n 0, 1) := F_CM_farthest_0.2.2.2.2.2.2.2.2.2.2.2.2.2.2.2.2.2.2.2.2.2.2.2.2.2.2.1
theorem d_CM_farthest_52 : decode prog_1_method_65_code 52 = .ok (.getfield 78, 3) := F_CM_farthest_0.2.2.2.2.2.2.2.2.2.2.2.2.2.2.2.2.2.2.2.2.2.2.2.2.2.2.2.1
theorem d_CM_farthest_55 : decode prog_1_method_65_code 55 = .ok (.invokestatic 248, 3) := F_CM_farthest_0.2.2.2.2.2.2.2.2.2.2.2.2.2.2.2.2.2.2.2.2.2.2.2.2.2.2.2.2.1
theorem d_CM_farthest_58 : decode prog_1_method_65_code 58 = .ok (.lload_n 2, 1) := F_CM_farthest_0.2.2.2.2.2.2.2.2.2.2.2.2.2.2.2.2.2.2.2.2.2.2.2.2.2.2.2.2.2.1
theorem d_CM_farthest_59 : decode prog_1_method_65_code 59 = .ok (.aload_n 0, 1) := F_CM_farthest_0.2.2.2.2.2.2.2.2.2.2.2.2.2.2.2.2.2.2.2.2.2.2.2.2.2.2.2.2.2.2.1
theorem d_CM_farthest_60 : decode prog_1_method_65_code 60 = .ok (.getfield 78, 3) := F_CM_farthest_0.2.2.2.2.2.2.2.2.2.2.2.2.2.2.2.2.2.2.2.2.2.2.2.2.2.2.2.2.2.2.2.1
theorem F_CM_farthest_63 : Jvm.Free.DS.Facts prog_1_method_65_code 63 [(.invokestatic 297, 3), (.invokestatic 418, 3), (.lstore_n 2, 1), (.iinc 4 (1), 3), (.goto (-53), 3), (.lload_n 2, 1), (.lreturn, 1)] := Jvm.Free.DS.facts 63 _ (by decide +kernel) (by decide +kernel)
theorem d_CM_farthest_63 : decode prog_1_method_65_code 63 = .ok (.invokestatic 297, 3) := F_CM_farthest_63.1
theorem d_CM_farthest_66 : decode prog_1_method_65_code 66 = .ok (.invokestatic 418, 3) := F_CM_farthest_63.2.1
theorem d_CM_farthest_69 : decode prog_1_method_65_code 69 = .ok (.lstore_n 2, 1) := F_CM_farthest_63.2.2.1
theorem d_CM_farthest_70 : decode prog_1_method_65_code 70 = .ok (.iinc 4 (1), 3) := F_CM_farthest_63.2.2.2.1
theorem d_CM_farthest_73 : decode prog_1_method_65_code 73 = .ok (.goto (-53), 3) := F_CM_farthest_63.2.2.2.2.1
theorem d_CM_farthest_76 : decode prog_1_method_65_code 76 = .ok (.lload_n 2, 1) := F_CM_farthest_63.2.2.2.2.2.1
theorem d_CM_farthest_77 : decode prog_1_method_65_code 77 = .ok (.lreturn, 1) := F_CM_farthest_63.2.2.2.2.2.2.1
theorem F_CM_biggest_0 : Jvm.Free.DS.Facts prog_1_method_66_code 0 [(.iload_n 1, 1), (.invokestatic 136, 3), (.ifCond .ne (5), 3), (.iconst (-1), 1), (.ireturn, 1), (.bipush (-2), 2), (.istore_n 2, 1), (.lconst 0, 1), (.lstore_n 3, 1), (.iconst 0, 1), (.istore 5, 2), (.iload 5, 2), (.aload_n 0, 1), (.getfield 12, 3), (.getfield 225, 3), (.if_icmp .ge (56), 3), (.aload_n 0, 1), (.getfield 12, 3), (.getfield 157, 3), (.iload 5, 2), (.aaload, 1), (.invokestatic 297, 3), (.lstore 6, 2), (.iload 5, 2), (.ifCond .eq (24), 3), (.iload_n 1, 1), (.ifCond .ne (13), 3), (.lload 6, 2), (.lload_n 3, 1), (.lcmp, 1), (.ifCond .le (19), 3), (.goto (10), 3)] := Jvm.Free.DS.facts 0 _ (by decide +kernel) (by decide +kernel)
theorem d_CM_biggest_0 : decode prog_1_method_66_code 0 = .ok (.iload_n 1, 1) := F_CM_biggest_0.1
theorem d_CM_biggest_1 : decode prog_1_method_66_code 1 = .ok (.invokestatic 136, 3) := F_CM_biggest_0.2.1
theorem d_CM_biggest_4 : decode prog_1_method_66_code 4 = .ok (.ifCond .ne (5), 3) := F_CM_biggest_0.2.2.1
theorem d_CM_biggest_7 : decode prog_1_method_66_code 7 = .ok (.iconst (-1), 1) := F_CM_biggest_0.2.2.2.1
theorem d_CM_biggest_8 : decode prog_1_method_66_code 8 = .ok (.ireturn, 1) := F_CM_biggest_0.2.2.2.2.1
theorem d_CM_biggest_9 : decode prog_1_method_66_code 9 = .ok (.bipush (-2), 2) := F_CM_biggest_0.2.2.2.2.2.1
theorem d_CM_biggest_11 : decode prog_1_method_66_code 11 = .ok (.istore_n 2, 1) := F_CM_biggest_0.2.2.2.2.2.2.1
theorem d_CM_biggest_12 : decode prog_1_method_66_code 12 = .ok (.lconst 0, 1) := F_CM_biggest_0.2.2.2.2.2.2.2.1
theorem d_CM_biggest_13 : decode prog_1_method_66_code 13 = .ok (.lstore_n 3, 1) := F_CM_biggest_0.2.2.2.2.2.2.2.2.1
theorem d_CM_biggest_14 : decode prog_1_method_66_code 14 = .ok (.iconst 0, 1) := F_CM_biggest_0.2.2.2.2.2.2.2.2.2.1
theorem d_CM_biggest_15 : decode prog_1_method_66_code 15 = .ok (.istore 5, 2) := F_CM_biggest_0.2.2.2.2.2.2.2.2.2.2.1
theorem d_CM_biggest_17 : decode prog_1_method_66_code 17 = .ok (.iload 5, 2) := F_CM_biggest_0.2.2.2.2.2.2.2.2.2.2.2.1
theorem d_CM_biggest_19 : decode prog_1_method_66_code 19 = .ok (.aload_n 0, 1) := F_CM_biggest_0.2.2.2.2.2.2.2.2.2.2.2.2.1
theorem d_CM_biggest_20 : decode prog_1_method_66_code 20 = .ok (.getfield 12, 3) := F_CM_biggest_0.2.2.2.2.2.2.2.2.2.2.2.2.2.1
theorem d_CM_biggest_23 : decode prog_1_method_66_code 23 = .ok (.getfield 225, 3) := F_CM_biggest_0.2.2.2.2.2.2.2.2.2.2.2.2.2.2.1
theorem d_CM_biggest_26 : decode prog_1_method_66_code 26 = .ok (.if_icmp .ge (56), 3) := F_CM_biggest_0.2.2.2.2.2.2.2.2.2.2.2.2.2.2.2.1
theorem d_CM_biggest_29 : decode prog_1_method_66_code 29 = .ok (.aload_n 0, 1) := F_CM_biggest_0.2.2.2.2.2.2.2.2.2.2.2.2.2.2.2.2.1
theorem d_CM_biggest_30 : decode prog_1_method_66_code 30 = .ok (.getfield 12, 3) := F_CM_biggest_0.2.2.2.2.2.2.2.2.2.2.2.2.2.2.2.2.2.1
theorem d_CM_biggest_33 : decode prog_1_method_66_code 33 = .ok (.getfield 157, 3) := F_CM_biggest_0.2.2.2.2.2.2.2.2.2.2.2.2.2.2.2.2.2.2.1
theorem d_CM_biggest_36 : decode prog_1_method_66_code 36 = .ok (.iload 5, 2) := F_CM_biggest_0.2.2.2.2.2.2.2.2.2.2.2.2.2.2.2.2.2.2.2.1
theorem d_CM_biggest_38 : decode prog_1_method_66_code 38 = .ok (.aaload, 1) := F_CM_biggest_0.2.2.2.2.2.2.2.2.2.2.2.2.2.2.2.2.2.2.2.2.1
theorem d_CM_biggest_39 : decode prog_1_method_66_code 39 = .ok (.invokestatic 297, 3) := F_CM_biggest_0.2.2.2.2.2.2.2.2.2.2.2.2.2.2.2.2.2.2.2.2.2.1
theorem d_CM_biggest_42 : decode prog_1_method_66_code 42 = .ok (.lstore 6, 2) := F_CM_biggest_0.2.2.2.2.2.2.2.2.2.2.2.2.2.2.2.2.2.2.2.2.2.2.1
theorem d_CM_biggest_44 : decode prog_1_method_66_code 44 = .ok (.iload 5, 2) := F_CM_biggest_0.2.2.2.2.2.2.2.2.2.2.2.2.2.2.2.2.2.2.2.2.2.2.2.1
theorem d_CM_biggest_46 : decode prog_1_method_66_code 46 = .ok (.ifCond .eq (24), 3) := F_CM_biggest_0.2.2.2.2.2.2.2.2.2.2.2.2.2.2.2.2.2.2.2.2.2.2.2.2.1
theorem d_CM_biggest_49 : decode prog_1_method_66_code 49 = .ok (.iload_n 1, 1) := F_CM_biggest_0.2.2.2.2.2.2.2.2.2.2.2.2.2.2.2.2.2.2.2.2.2.2.2.2.2.1
theorem d_CM_biggest_50 : decode prog_1_method_66_code 50 = .ok (.ifCond .ne (13), 3) := F_CM_biggest_0.2.2.2.2.2.2.2.2.2.2.2.2.2.2.2.2.2.2.2.2.2.2.2.2.2.2.1
theorem d_CM_biggest_53 : decode prog_1_method_66_code 53 = .ok (.lload 6, 2) := F_CM_biggest_0.2.2.2.2.2.2.2.2.2.2.2.2.2.2.2.2.2.2.2.2.2.2.2.2.2.2.2.1
theorem d_CM_biggest_55 : decode prog_1_method_66_code 55 = .ok (.lload_n 3, 1) := F_CM_biggest_0.2.2.2.2.2.2.2.2.2.2.2.2.2.2.2.2.2.2.2.2.2.2.2.2.2.2.2.2.1
theorem d_CM_biggest_56 : decode prog_1_method_66_code 56 = .ok (.lcmp, 1) := F_CM_biggest_0.2.2.2.2.2.2.2.2.2.2.2.2.2.2.2.2.2.2.2.2.2.2.2.2.2.2.2.2.2.1
theorem d_CM_biggest_57 : decode prog_1_method_66_code 57 = .ok (.ifCond .le (19), 3) := F_CM_biggest_0.2.2.2.2.2.2.2.2.2.2.2.2.2.2.2.2.2.2.2.2.2.2.2.2.2.2.2.2.2.2.1
theorem d_CM_biggest_60 : decode prog_1_method_66_code 60 = .ok (.goto (10), 3) := F_CM_biggest_0.2.2.2.2.2.2.2.2.2.2.2.2.2.2.2.2.2.2.2.2.2.2.2.2.2.2.2.2.2.2.2.1
theorem F_CM_biggest_63 : Jvm.Free.DS.Facts prog_1_method_66_code 63 [(.lload 6, 2), (.lload_n 3, 1), (.lcmp, 1), (.ifCond .ge (9), 3), (.iload 5, 2), (.istore_n 2, 1), (.lload 6, 2), (.lstore_n 3, 1), (.iinc 5 (1), 3), (.goto (-62), 3), (.iload_n 2, 1), (.ireturn, 1)] := Jvm.Free.DS.facts 63 _ (by decide +kernel) (by decide +kernel)
theorem d_CM_biggest_63 : decode prog_1_method_66_code 63 = .ok (.lload 6, 2) := F_CM_biggest_63.1
theorem d_CM_biggest_65 : decode prog_1_method_66_code 65 = .ok (.lload_n 3, 1) := F_CM_biggest_63.2.1
theorem d_CM_biggest_66 : decode prog_1_method_66_code 66 = .ok (.lcmp, 1) := F_CM_biggest_63.2.2.1
theorem d_CM_biggest_67 : decode prog_1_method_66_code 67 = .ok (.ifCond .ge (9), 3) := F_CM_biggest_63.2.2.2.1
theorem d_CM_biggest_70 : decode prog_1_method_66_code 70 = .ok (.iload 5, 2) := F_CM_biggest_63.2.2.2.2.1
theorem d_CM_biggest_72 : decode prog_1_method_66_code 72 = .ok (.istore_n 2, 1) := F_CM_biggest_63.2.2.2.2.2.1
theorem d_CM_biggest_73 : decode prog_1_method_66_code 73 = .ok (.lload 6, 2) := F_CM_biggest_63.2.2.2.2.2.2.1
theorem d_CM_biggest_75 : decode prog_1_method_66_code 75 = .ok (.lstore_n 3, 1) := F_CM_biggest_63.2.2.2.2.2.2.2.1
theorem d_CM_biggest_76 : decode prog_1_method_66_code 76 = .ok (.iinc 5 (1), 3) := F_CM_biggest_63.2.2.2.2.2.2.2.2.1
theorem d_CM_biggest_79 : decode prog_1_method_66_code 79 = .ok (.goto (-62), 3) := F_CM_biggest_63.2.2.2.2.2.2.2.2.2.1
theorem d_CM_biggest_82 : decode prog_1_method_66_code 82 = .ok (.iload_n 2, 1) := F_CM_biggest_63.2.2.2.2.2.2.2.2.2.2.1
theorem d_CM_biggest_83 : decode prog_1_method_66_code 83 = .ok (.ireturn, 1) := F_CM_biggest_63.2.2.2.2.2.2.2.2.2.2.2.1
theorem F_CM_kinds_0 : Jvm.Free.DS.Facts prog_1_method_67_code 0 [(.iload_n 1, 1), (.invokestatic 385, 3), (.ifCond .ne (5), 3), (.iconst (-1), 1), (.ireturn, 1), (.iconst 0, 1), (.istore_n 2, 1), (.iconst 0, 1), (.istore_n 3, 1), (.iload_n 3, 1), (.aload_n 0, 1), (.getfield 12, 3), (.getfield 225, 3), (.if_icmp .ge (28), 3), (.aload_n 0, 1), (.getfield 12, 3), (.getfield 157, 3), (.iload_n 3, 1), (.aaload, 1), (.invokestatic 294, 3), (.iload_n 1, 1), (.if_icmp .ne (6), 3), (.iinc 2 (1), 3), (.iinc 3 (1), 3), (.goto (-33), 3), (.iload_n 2, 1), (.ireturn, 1)] := Jvm.Free.DS.facts 0 _ (by decide +kernel) (by decide +kernel)
theorem d_CM_kinds_0 : decode prog_1_method_67_code 0 = .ok (.iload_n 1, 1) := F_CM_kinds_0.1
theorem d_CM_kinds_1 : decode prog_1_method_67_code 1 = .ok (.invokestatic 385, 3) := F_CM_kinds_0.2.1
theorem d_CM_kinds_4 : decode prog_1_method_67_code 4 = .ok (.ifCond .ne (5), 3) := F_CM_kinds_0.2.2.1
theorem d_CM_kinds_7 : decode prog_1_method_67_code 7 = .ok (.iconst (-1), 1) := F_CM_kinds_0.2.2.2.1
theorem d_CM_kinds_8 : decode prog_1_method_67_code 8 = .ok (.ireturn, 1) := F_CM_kinds_0.2.2.2.2.1
theorem d_CM_kinds_9 : decode prog_1_method_67_code 9 = .ok (.iconst 0, 1) := F_CM_kinds_0.2.2.2.2.2.1
theorem d_CM_kinds_10 : decode prog_1_method_67_code 10 = .ok (.istore_n 2, 1) := F_CM_kinds_0.2.2.2.2.2.2.1
theorem d_CM_kinds_11 : decode prog_1_method_67_code 11 = .ok (.iconst 0, 1) := F_CM_kinds_0.2.2.2.2.2.2.2.1
theorem d_CM_kinds_12 : decode prog_1_method_67_code 12 = .ok (.istore_n 3, 1) := F_CM_kinds_0.2.2.2.2.2.2.2.2.1
theorem d_CM_kinds_13 : decode prog_1_method_67_code 13 = .ok (.iload_n 3, 1) := F_CM_kinds_0.2.2.2.2.2.2.2.2.2.1
theorem d_CM_kinds_14 : decode prog_1_method_67_code 14 = .ok (.aload_n 0, 1) := F_CM_kinds_0.2.2.2.2.2.2.2.2.2.2.1
theorem d_CM_kinds_15 : decode prog_1_method_67_code 15 = .ok (.getfield 12, 3) := F_CM_kinds_0.2.2.2.2.2.2.2.2.2.2.2.1
theorem d_CM_kinds_18 : decode prog_1_method_67_code 18 = .ok (.getfield 225, 3) := F_CM_kinds_0.2.2.2.2.2.2.2.2.2.2.2.2.1
theorem d_CM_kinds_21 : decode prog_1_method_67_code 21 = .ok (.if_icmp .ge (28), 3) := F_CM_kinds_0.2.2.2.2.2.2.2.2.2.2.2.2.2.1
theorem d_CM_kinds_24 : decode prog_1_method_67_code 24 = .ok (.aload_n 0, 1) := F_CM_kinds_0.2.2.2.2.2.2.2.2.2.2.2.2.2.2.1
theorem d_CM_kinds_25 : decode prog_1_method_67_code 25 = .ok (.getfield 12, 3) := F_CM_kinds_0.2.2.2.2.2.2.2.2.2.2.2.2.2.2.2.1
theorem d_CM_kinds_28 : decode prog_1_method_67_code 28 = .ok (.getfield 157, 3) := F_CM_kinds_0.2.2.2.2.2.2.2.2.2.2.2.2.2.2.2.2.1
theorem d_CM_kinds_31 : decode prog_1_method_67_code 31 = .ok (.iload_n 3, 1) := F_CM_kinds_0.2.2.2.2.2.2.2.2.2.2.2.2.2.2.2.2.2.1
theorem d_CM_kinds_32 : decode prog_1_method_67_code 32 = .ok (.aaload, 1) := F_CM_kinds_0.2.2.2.2.2.2.2.2.2.2.2.2.2.2.2.2.2.2.1
theorem d_CM_kinds_33 : decode prog_1_method_67_code 33 = .ok (.invokestatic 294, 3) := F_CM_kinds_0.2.2.2.2.2.2.2.2.2.2.2.2.2.2.2.2.2.2.2.1
theorem d_CM_kinds_36 : decode prog_1_method_67_code 36 = .ok (.iload_n 1, 1) := F_CM_kinds_0.2.2.2.2.2.2.2.2.2.2.2.2.2.2.2.2.2.2.2.2.1
theorem d_CM_kinds_37 : decode prog_1_method_67_code 37 = .ok (.if_icmp .ne (6), 3) := F_CM_kinds_0.2.2.2.2.2.2.2.2.2.2.2.2.2.2.2.2.2.2.2.2.2.1
theorem d_CM_kinds_40 : decode prog_1_method_67_code 40 = .ok (.iinc 2 (1), 3) := F_CM_kinds_0.2.2.2.2.2.2.2.2.2.2.2.2.2.2.2.2.2.2.2.2.2.2.1
theorem d_CM_kinds_43 : decode prog_1_method_67_code 43 = .ok (.iinc 3 (1), 3) := F_CM_kinds_0.2.2.2.2.2.2.2.2.2.2.2.2.2.2.2.2.2.2.2.2.2.2.2.1
theorem d_CM_kinds_46 : decode prog_1_method_67_code 46 = .ok (.goto (-33), 3) := F_CM_kinds_0.2.2.2.2.2.2.2.2.2.2.2.2.2.2.2.2.2.2.2.2.2.2.2.2.1
theorem d_CM_kinds_49 : decode prog_1_method_67_code 49 = .ok (.iload_n 2, 1) := F_CM_kinds_0.2.2.2.2.2.2.2.2.2.2.2.2.2.2.2.2.2.2.2.2.2.2.2.2.2.1
theorem d_CM_kinds_50 : decode prog_1_method_67_code 50 = .ok (.ireturn, 1) := F_CM_kinds_0.2.2.2.2.2.2.2.2.2.2.2.2.2.2.2.2.2.2.2.2.2.2.2.2.2.2.1
theorem F_CM_pairs_0 : Jvm.Free.DS.Facts prog_1_method_68_code 0 [(.iload_n 1, 1), (.invokestatic 154, 3), (.ifCond .ne (5), 3), (.iconst (-1), 1), (.ireturn, 1), (.iconst 0, 1), (.istore_n 2, 1), (.iconst 0, 1), (.istore_n 3, 1), (.iload_n 3, 1), (.aload_n 0, 1), (.getfield 12, 3), (.getfield 225, 3), (.if_icmp .ge (46), 3), (.iload_n 3, 1), (.iconst 1, 1), (.iadd, 1), (.istore 4, 2), (.iload 4, 2), (.aload_n 0, 1), (.getfield 12, 3), (.getfield 225, 3), (.if_icmp .ge (23), 3), (.aload_n 0, 1), (.iload_n 3, 1), (.iload 4, 2), (.iload_n 1, 1), (.invokevirtual 424, 3), (.ifCond .eq (6), 3), (.iinc 2 (1), 3), (.iinc 4 (1), 3), (.goto (-29), 3)] := Jvm.Free.DS.facts 0 _ (by decide +kernel) (by decide +kernel)
theorem d_CM_pairs_0 : decode prog_1_method_68_code 0 = .ok (.iload_n 1, 1) := F_CM_pairs_0.1
theorem d_CM_pairs_1 : decode prog_1_method_68_code 1 = .ok (.invokestatic 154, 3) := F_CM_pairs_0.2.1
theorem d_CM_pairs_4 : decode prog_1_method_68_code 4 = .ok (.ifCond .ne (5), 3) := F_CM_pairs_0.2.2.1
theorem d_CM_pairs_7 : decode prog_1_method_68_code 7 = .ok (.iconst (-1), 1) := F_CM_pairs_0.2.2.2.1
theorem d_CM_pairs_8 : decode prog_1_method_68_code 8 = .ok (.ireturn, 1) := F_CM_pairs_0.2.2.2.2.1
theorem d_CM_pairs_9 : decode prog_1_method_68_code 9 = .ok (.iconst 0, 1) := F_CM_pairs_0.2.2.2.2.2.1
theorem d_CM_pairs_10 : decode prog_1_method_68_code 10 = .ok (.istore_n 2, 1) := F_CM_pairs_0.2.2.2.2.2.2.1
theorem d_CM_pairs_11 : decode prog_1_method_68_code 11 = .ok (.iconst 0, 1) := F_CM_pairs_0.2.2.2.2.2.2.2.1
theorem d_CM_pairs_12 : decode prog_1_method_68_code 12 = .ok (.istore_n 3, 1) := F_CM_pairs_0.2.2.2.2.2.2.2.2.1
theorem d_CM_pairs_13 : decode prog_1_method_68_code 13 = .ok (.iload_n 3, 1) := F_CM_pairs_0.2.2.2.2.2.2.2.2.2.1
theorem d_CM_pairs_14 : decode prog_1_method_68_code 14 = .ok (.aload_n 0, 1) := F_CM_pairs_0.2.2.2.2.2.2.2.2.2.2.1
theorem d_CM_pairs_15 : decode prog_1_method_68_code 15 = .ok (.getfield 12, 3) := F_CM_pairs_0.2.2.2.2.2.2.2.2.2.2.2.1
theorem d_CM_pairs_18 : decode prog_1_method_68_code 18 = .ok (.getfield 225, 3) := F_CM_pairs_0.2.2.2.2.2.2.2.2.2.2.2.2.1
theorem d_CM_pairs_21 : decode prog_1_method_68_code 21 = .ok (.if_icmp .ge (46), 3) := F_CM_pairs_0.2.2.2.2.2.2.2.2.2.2.2.2.2.1
theorem d_CM_pairs_24 : decode prog_1_method_68_code 24 = .ok (.iload_n 3, 1) := F_CM_pairs_0.2.2.2.2.2.2.2.2.2.2.2.2.2.2.1
theorem d_CM_pairs_25 : decode prog_1_method_68_code 25 = .ok (.iconst 1, 1) := F_CM_pairs_0.2.2.2.2.2.2.2.2.2.2.2.2.2.2.2.1
theorem d_CM_pairs_26 : decode prog_1_method_68_code 26 = .ok (.iadd, 1) := F_CM_pairs_0.2.2.2.2.2.2.2.2.2.2.2.2.2.2.2.2.1
theorem d_CM_pairs_27 : decode prog_1_method_68_code 27 = .ok (.istore 4, 2) := F_CM_pairs_0.2.2.2.2.2.2.2.2.2.2.2.2.2.2.2.2.2.1
theorem d_CM_pairs_29 : decode prog_1_method_68_code 29 = .ok (.iload 4, 2) := F_CM_pairs_0.2.2.2.2.2.2.2.2.2.2.2.2.2.2.2.2.2.2.1
theorem d_CM_pairs_31 : decode prog_1_method_68_code 31 = .ok (.aload_n 0, 1) := F_CM_pairs_0.2.2.2.2.2.2.2.2.2.2.2.2.2.2.2.2.2.2.2.1
theorem d_CM_pairs_32 : decode prog_1_method_68_code 32 = .ok (.getfield 12, 3) := F_CM_pairs_0.2.2.2.2.2.2.2.2.2.2.2.2.2.2.2.2.2.2.2.2.1
theorem d_CM_pairs_35 : decode prog_1_method_68_code 35 = .ok (.getfield 225, 3) := F_CM_pairs_0.2.2.2.2.2.2.2.2.2.2.2.2.2.2.2.2.2.2.2.2.2.1
theorem d_CM_pairs_38 : decode prog_1_method_68_code 38 = .ok (.if_icmp .ge (23), 3) := F_CM_pairs_0.2.2.2.2.2.2.2.2.2.2.2.2.2.2.2.2.2.2.2.2.2.2.1
theorem d_CM_pairs_41 : decode prog_1_method_68_code 41 = .ok (.aload_n 0, 1) := F_CM_pairs_0.2.2.2.2.2.2.2.2.2.2.2.2.2.2.2.2.2.2.2.2.2.2.2.1
theorem d_CM_pairs_42 : decode prog_1_method_68_code 42 = .ok (.iload_n 3, 1) := F_CM_pairs_0.2.2.2.2.2.2.2.2.2.2.2.2.2.2.2.2.2.2.2.2.2.2.2.2.1
theorem d_CM_pairs_43 : decode prog_1_method_68_code 43 = .ok (.iload 4, 2) := F_CM_pairs_0.2.2.2.2.2.2.2.2.2.2.2.2.2.2.2.2.2.2.2.2.2.2.2.2.2.1
theorem d_CM_pairs_45 : decode prog_1_method_68_code 45 = .ok (.iload_n 1, 1) := F_CM_pairs_0.2.2.2.2.2.2.2.2.2.2.2.2.2.2.2.2.2.2.2.2.2.2.2.2.2.2.1
theorem d_CM_pairs_46 : decode prog_1_method_68_code 46 = .ok (.invokevirtual 424, 3) := F_CM_pairs_0.2.2.2.2.2.2.2.2.2.2.2.2.2.2.2.2.2.2.2.2.2.2.2.2.2.2.2.1
theorem d_CM_pairs_49 : decode prog_1_method_68_code 49 = .ok (.ifCond .eq (6), 3) := F_CM_pairs_0.2.2.2.2.2.2.2.2.2.2.2.2.2.2.2.2.2.2.2.2.2.2.2.2.2.2.2.2.1
theorem d_CM_pairs_52 : decode prog_1_method_68_code 52 = .ok (.iinc 2 (1), 3) := F_CM_pairs_0.2.2.2.2.2.2.2.2.2.2.2.2.2.2.2.2.2.2.2.2.2.2.2.2.2.2.2.2.2.1
theorem d_CM_pairs_55 : decode prog_1_method_68_code 55 = .ok (.iinc 4 (1), 3) := F_CM_pairs_0.2.2.2.2.2.2.2.2.2.2.2.2.2.2.2.2.2.2.2.2.2.2.2.2.2.2.2.2.2.2.1
theorem d_CM_pairs_58 : decode prog_1_method_68_code 58 = .ok (.goto (-29), 3) := F_CM_pairs_0.2.2.2.2.2.2.2.2.2.2.2.2.2.2.2.2.2.2.2.2.2.2.2.2.2.2.2.2.2.2.2.1
theorem F_CM_pairs_61 : Jvm.Free.DS.Facts prog_1_method_68_code 61 [(.iinc 3 (1), 3), (.goto (-51), 3), (.iload_n 2, 1), (.ireturn, 1)] := Jvm.Free.DS.facts 61 _ (by decide +kernel) (by decide +kernel)
theorem d_CM_pairs_61 : decode prog_1_method_68_code 61 = .ok (.iinc 3 (1), 3) := F_CM_pairs_61.1
theorem d_CM_pairs_64 : decode prog_1_method_68_code 64 = .ok (.goto (-51), 3) := F_CM_pairs_61.2.1
theorem d_CM_pairs_67 : decode prog_1_method_68_code 67 = .ok (.iload_n 2, 1) := F_CM_pairs_61.2.2.1
theorem d_CM_pairs_68 : decode prog_1_method_68_code 68 = .ok (.ireturn, 1) := F_CM_pairs_61.2.2.2.1
theorem F_CM_isPairOf_0 : Jvm.Free.DS.Facts prog_1_method_89_code 0 [(.iload_n 3, 1), (.ifCond .ne (10), 3), (.aload_n 0, 1), (.iload_n 1, 1), (.iload_n 2, 1), (.invokevirtual 310, 3), (.ireturn, 1), (.iload_n 3, 1), (.iconst 1, 1), (.if_icmp .ne (12), 3), (.aload_n 0, 1), (.iload_n 1, 1), (.iload_n 2, 1), (.invokevirtual 314, 3), (.goto (24), 3), (.aload_n 0, 1), (.getfield 12, 3), (.getfield 157, 3), (.iload_n 1, 1), (.aaload, 1), (.aload_n 0, 1), (.getfield 12, 3), (.getfield 157, 3), (.iload_n 2, 1), (.aaload, 1), (.invokestatic 306, 3), (.ireturn, 1)] := Jvm.Free.DS.facts 0 _ (by decide +kernel) (by decide +kernel)
theorem d_CM_isPairOf_0 : decode prog_1_method_89_code 0 = .ok (.iload_n 3, 1) := F_CM_isPairOf_0.1
theorem d_CM_isPairOf_1 : decode prog_1_method_89_code 1 = .ok (.ifCond .ne (10), 3) := F_CM_isPairOf_0.2.1
theorem d_CM_isPairOf_4 : decode prog_1_method_89_code 4 = .ok (.aload_n 0, 1) := F_CM_isPairOf_0.2.2.1
theorem d_CM_isPairOf_5 : decode prog_1_method_89_code 5 = .ok (.iload_n 1, 1) := F_CM_isPairOf_0.2.2.2.1
theorem d_CM_isPairOf_6 : decode prog_1_method_89_code 6 = .ok (.iload_n 2, 1) := F_CM_isPairOf_0.2.2.2.2.1
theorem d_CM_isPairOf_7 : decode prog_1_method_89_code 7 = .ok (.invokevirtual 310, 3) := F_CM_isPairOf_0.2.2.2.2.2.1
theorem d_CM_isPairOf_10 : decode prog_1_method_89_code 10 = .ok (.ireturn, 1) := F_CM_isPairOf_0.2.2.2.2.2.2.1
theorem d_CM_isPairOf_11 : decode prog_1_method_89_code 11 = .ok (.iload_n 3, 1) := F_CM_isPairOf_0.2.2.2.2.2.2.2.1
theorem d_CM_isPairOf_12 : decode prog_1_method_89_code 12 = .ok (.iconst 1, 1) := F_CM_isPairOf_0.2.2.2.2.2.2.2.2.1
theorem d_CM_isPairOf_13 : decode prog_1_method_89_code 13 = .ok (.if_icmp .ne (12), 3) := F_CM_isPairOf_0.2.2.2.2.2.2.2.2.2.1
theorem d_CM_isPairOf_16 : decode prog_1_method_89_code 16 = .ok (.aload_n 0, 1) := F_CM_isPairOf_0.2.2.2.2.2.2.2.2.2.2.1
theorem d_CM_isPairOf_17 : decode prog_1_method_89_code 17 = .ok (.iload_n 1, 1) := F_CM_isPairOf_0.2.2.2.2.2.2.2.2.2.2.2.1
theorem d_CM_isPairOf_18 : decode prog_1_method_89_code 18 = .ok (.iload_n 2, 1) := F_CM_isPairOf_0.2.2.2.2.2.2.2.2.2.2.2.2.1
theorem d_CM_isPairOf_19 : decode prog_1_method_89_code 19 = .ok (.invokevirtual 314, 3) := F_CM_isPairOf_0.2.2.2.2.2.2.2.2.2.2.2.2.2.1
theorem d_CM_isPairOf_22 : decode prog_1_method_89_code 22 = .ok (.goto (24), 3) := F_CM_isPairOf_0.2.2.2.2.2.2.2.2.2.2.2.2.2.2.1
theorem d_CM_isPairOf_25 : decode prog_1_method_89_code 25 = .ok (.aload_n 0, 1) := F_CM_isPairOf_0.2.2.2.2.2.2.2.2.2.2.2.2.2.2.2.1
theorem d_CM_isPairOf_26 : decode prog_1_method_89_code 26 = .ok (.getfield 12, 3) := F_CM_isPairOf_0.2.2.2.2.2.2.2.2.2.2.2.2.2.2.2.2.1
theorem d_CM_isPairOf_29 : decode prog_1_method_89_code 29 = .ok (.getfield 157, 3) := F_CM_isPairOf_0.2.2.2.2.2.2.2.2.2.2.2.2.2.2.2.2.2.1
theorem d_CM_isPairOf_32 : decode prog_1_method_89_code 32 = .ok (.iload_n 1, 1) := F_CM_isPairOf_0.2.2.2.2.2.2.2.2.2.2.2.2.2.2.2.2.2.2.1
theorem d_CM_isPairOf_33 : decode prog_1_method_89_code 33 = .ok (.aaload, 1) := F_CM_isPairOf_0.2.2.2.2.2.2.2.2.2.2.2.2.2.2.2.2.2.2.2.1
theorem d_CM_isPairOf_34 : decode prog_1_method_89_code 34 = .ok (.aload_n 0, 1) := F_CM_isPairOf_0.2.2.2.2.2.2.2.2.2.2.2.2.2.2.2.2.2.2.2.2.1
theorem d_CM_isPairOf_35 : decode prog_1_method_89_code 35 = .ok (.getfield 12, 3) := F_CM_isPairOf_0.2.2.2.2.2.2.2.2.2.2.2.2.2.2.2.2.2.2.2.2.2.1
theorem d_CM_isPairOf_38 : decode prog_1_method_89_code 38 = .ok (.getfield 157, 3) := F_CM_isPairOf_0.2.2.2.2.2.2.2.2.2.2.2.2.2.2.2.2.2.2.2.2.2.2.1
theorem d_CM_isPairOf_41 : decode prog_1_method_89_code 41 = .ok (.iload_n 2, 1) := F_CM_isPairOf_0.2.2.2.2.2.2.2.2.2.2.2.2.2.2.2.2.2.2.2.2.2.2.2.1
theorem d_CM_isPairOf_42 : decode prog_1_method_89_code 42 = .ok (.aaload, 1) := F_CM_isPairOf_0.2.2.2.2.2.2.2.2.2.2.2.2.2.2.2.2.2.2.2.2.2.2.2.2.1
theorem d_CM_isPairOf_43 : decode prog_1_method_89_code 43 = .ok (.invokestatic 306, 3) := F_CM_isPairOf_0.2.2.2.2.2.2.2.2.2.2.2.2.2.2.2.2.2.2.2.2.2.2.2.2.2.1
theorem d_CM_isPairOf_46 : decode prog_1_method_89_code 46 = .ok (.ireturn, 1) := F_CM_isPairOf_0.2.2.2.2.2.2.2.2.2.2.2.2.2.2.2.2.2.2.2.2.2.2.2.2.2.2.1
theorem F_CM_spell_0 : Jvm.Free.DS.Facts prog_1_method_69_code 0 [(.aload_n 0, 1), (.getfield 12, 3), (.iload_n 1, 1), (.invokevirtual 151, 3), (.ifCond .eq (8), 3), (.iload_n 2, 1), (.iconst (-1), 1), (.if_icmp .ge (5), 3), (.iconst (-1), 1), (.ireturn, 1), (.aload_n 0, 1), (.getfield 61, 3), (.iconst 0, 1), (.invokevirtual 427, 3), (.iconst 0, 1), (.istore_n 3, 1), (.iload_n 3, 1), (.bipush (9), 2), (.if_icmp .ge (43), 3), (.iload_n 3, 1), (.ifCond .le (13), 3), (.aload_n 0, 1), (.getfield 61, 3), (.bipush (32), 2), (.invokevirtual 430, 3), (.pop, 1), (.aload_n 0, 1), (.getfield 61, 3), (.aload_n 0, 1), (.getfield 12, 3), (.getfield 157, 3), (.iload_n 1, 1)] := Jvm.Free.DS.facts 0 _ (by decide +kernel) (by decide +kernel)
theorem d_CM_spell_0 : decode prog_1_method_69_code 0 = .ok (.aload_n 0, 1) := F_CM_spell_0.1
theorem d_CM_spell_1 : decode prog_1_method_69_code 1 = .ok (.getfield 12, 3) := F_CM_spell_0.2.1
theorem d_CM_spell_4 : decode prog_1_method_69_code 4 = .ok (.iload_n 1, 1) := F_CM_spell_0.2.2.1
theorem d_CM_spell_5 : decode prog_1_method_69_code 5 = .ok (.invokevirtual 151, 3) := F_CM_spell_0.2.2.2.1
theorem d_CM_spell_8 : decode prog_1_method_69_code 8 = .ok (.ifCond .eq (8), 3) := F_CM_spell_0.2.2.2.2.1
theorem d_CM_spell_11 : decode prog_1_method_69_code 11 = .ok (.iload_n 2, 1) := F_CM_spell_0.2.2.2.2.2.1
theorem d_CM_spell_12 : decode prog_1_method_69_code 12 = .ok (.iconst (-1), 1) := F_CM_spell_0.2.2.2.2.2.2.1
theorem d_CM_spell_13 : decode prog_1_method_69_code 13 = .ok (.if_icmp .ge (5), 3) := F_CM_spell_0.2.2.2.2.2.2.2.1
theorem d_CM_spell_16 : decode prog_1_method_69_code 16 = .ok (.iconst (-1), 1) := F_CM_spell_0.2.2.2.2.2.2.2.2.1
theorem d_CM_spell_17 : decode prog_1_method_69_code 17 = .ok (.ireturn, 1) := F_CM_spell_0.2.2.2.2.2.2.2.2.2.1
theorem d_CM_spell_18 : decode prog_1_method_69_code 18 = .ok (.aload_n 0, 1) := F_CM_spell_0.2.2.2.2.2.2.2.2.2.2.1
theorem d_CM_spell_19 : decode prog_1_method_69_code 19 = .ok (.getfield 61, 3) := F_CM_spell_0.2.2.2.2.2.2.2.2.2.2.2.1
theorem d_CM_spell_22 : decode prog_1_method_69_code 22 = .ok (.iconst 0, 1) := F_CM_spell_0.2.2.2.2.2.2.2.2.2.2.2.2.1
theorem d_CM_spell_23 : decode prog_1_method_69_code 23 = .ok (.invokevirtual 427, 3) := F_CM_spell_0.2.2.2.2.2.2.2.2.2.2.2.2.2.1
theorem d_CM_spell_26 : decode prog_1_method_69_code 26 = .ok (.iconst 0, 1) := F_CM_spell_0.2.2.2.2.2.2.2.2.2.2.2.2.2.2.1
theorem d_CM_spell_27 : decode prog_1_method_69_code 27 = .ok (.istore_n 3, 1) := F_CM_spell_0.2.2.2.2.2.2.2.2.2.2.2.2.2.2.2.1
theorem d_CM_spell_28 : decode prog_1_method_69_code 28 = .ok (.iload_n 3, 1) := F_CM_spell_0.2.2.2.2.2.2.2.2.2.2.2.2.2.2.2.2.1
theorem d_CM_spell_29 : decode prog_1_method_69_code 29 = .ok (.bipush (9), 2) := F_CM_spell_0.2.2.2.2.2.2.2.2.2.2.2.2.2.2.2.2.2.1
theorem d_CM_spell_31 : decode prog_1_method_69_code 31 = .ok (.if_icmp .ge (43), 3) := F_CM_spell_0.2.2.2.2.2.2.2.2.2.2.2.2.2.2.2.2.2.2.1
theorem d_CM_spell_34 : decode prog_1_method_69_code 34 = .ok (.iload_n 3, 1) := F_CM_spell_0.2.2.2.2.2.2.2.2.2.2.2.2.2.2.2.2.2.2.2.1
theorem d_CM_spell_35 : decode prog_1_method_69_code 35 = .ok (.ifCond .le (13), 3) := F_CM_spell_0.2.2.2.2.2.2.2.2.2.2.2.2.2.2.2.2.2.2.2.2.1
theorem d_CM_spell_38 : decode prog_1_method_69_code 38 = .ok (.aload_n 0, 1) := F_CM_spell_0.2.2.2.2.2.2.2.2.2.2.2.2.2.2.2.2.2.2.2.2.2.1
theorem d_CM_spell_39 : decode prog_1_method_69_code 39 = .ok (.getfield 61, 3) := F_CM_spell_0.2.2.2.2.2.2.2.2.2.2.2.2.2.2.2.2.2.2.2.2.2.2.1
theorem d_CM_spell_42 : decode prog_1_method_69_code 42 = .ok (.bipush (32), 2) := F_CM_spell_0.2.2.2.2.2.2.2.2.2.2.2.2.2.2.2.2.2.2.2.2.2.2.2.1
theorem d_CM_spell_44 : decode prog_1_method_69_code 44 = .ok (.invokevirtual 430, 3) := F_CM_spell_0.2.2.2.2.2.2.2.2.2.2.2.2.2.2.2.2.2.2.2.2.2.2.2.2.1
theorem d_CM_spell_47 : decode prog_1_method_69_code 47 = .ok (.pop, 1) := F_CM_spell_0.2.2.2.2.2.2.2.2.2.2.2.2.2.2.2.2.2.2.2.2.2.2.2.2.2.1
theorem d_CM_spell_48 : decode prog_1_method_69_code 48 = .ok (.aload_n 0, 1) := F_CM_spell_0.2.2.2.2.2.2.2.2.2.2.2.2.2.2.2.2.2.2.2.2.2.2.2.2.2.2.1
theorem d_CM_spell_49 : decode prog_1_method_69_code 49 = .ok (.getfield 61, 3) := F_CM_spell_0.2.2.2.2.2.2.2.2.2.2.2.2.2.2.2.2.2.2.2.2.2.2.2.2.2.2.2.1
theorem d_CM_spell_52 : decode prog_1_method_69_code 52 = .ok (.aload_n 0, 1) := F_CM_spell_0.2.2.2.2.2.2.2.2.2.2.2.2.2.2.2.2.2.2.2.2.2.2.2.2.2.2.2.2.1
theorem d_CM_spell_53 : decode prog_1_method_69_code 53 = .ok (.getfield 12, 3) := F_CM_spell_0.2.2.2.2.2.2.2.2.2.2.2.2.2.2.2.2.2.2.2.2.2.2.2.2.2.2.2.2.2.1
theorem d_CM_spell_56 : decode prog_1_method_69_code 56 = .ok (.getfield 157, 3) := F_CM_spell_0.2.2.2.2.2.2.2.2.2.2.2.2.2.2.2.2.2.2.2.2.2.2.2.2.2.2.2.2.2.2.1
theorem d_CM_spell_59 : decode prog_1_method_69_code 59 = .ok (.iload_n 1, 1) := F_CM_spell_0.2.2.2.2.2.2.2.2.2.2.2.2.2.2.2.2.2.2.2.2.2.2.2.2.2.2.2.2.2.2.2.1
theorem F_CM_spell_60 : Jvm.Free.DS.Facts prog_1_method_69_code 60 [(.aaload, 1), (.iload_n 3, 1), (.laload, 1), (.l2i, 1), (.invokevirtual 434, 3), (.pop, 1), (.iinc 3 (1), 3), (.goto (-43), 3), (.iload_n 2, 1), (.iconst (-1), 1), (.if_icmp .ne (11), 3), (.aload_n 0, 1), (.getfield 61, 3), (.invokevirtual 437, 3), (.ireturn, 1), (.iload_n 2, 1), (.aload_n 0, 1), (.getfield 61, 3), (.invokevirtual 437, 3), (.if_icmp .ge (14), 3), (.aload_n 0, 1), (.getfield 61, 3), (.iload_n 2, 1), (.invokevirtual 439, 3), (.goto (5), 3), (.bipush (-2), 2), (.ireturn, 1)] := Jvm.Free.DS.facts 60 _ (by decide +kernel) (by decide +kernel)
theorem d_CM_spell_60 : decode prog_1_method_69_code 60 = .ok (.aaload, 1) := F_CM_spell_60.1
theorem d_CM_spell_61 : decode prog_1_method_69_code 61 = .ok (.iload_n 3, 1) := F_CM_spell_60.2.1
theorem d_CM_spell_62 : decode prog_1_method_69_code 62 = .ok (.laload, 1) := F_CM_spell_60.2.2.1
theorem d_CM_spell_63 : decode prog_1_method_69_code 63 = .ok (.l2i, 1) := F_CM_spell_60.2.2.2.1
theorem d_CM_spell_64 : decode prog_1_method_69_code 64 = .ok (.invokevirtual 434, 3) := F_CM_spell_60.2.2.2.2.1
theorem d_CM_spell_67 : decode prog_1_method_69_code 67 = .ok (.pop, 1) := F_CM_spell_60.2.2.2.2.2.1
theorem d_CM_spell_68 : decode prog_1_method_69_code 68 = .ok (.iinc 3 (1), 3) := F_CM_spell_60.2.2.2.2.2.2.1
theorem d_CM_spell_71 : decode prog_1_method_69_code 71 = .ok (.goto (-43), 3) := F_CM_spell_60.2.2.2.2.2.2.2.1
theorem d_CM_spell_74 : decode prog_1_method_69_code 74 = .ok (.iload_n 2, 1) := F_CM_spell_60.2.2.2.2.2.2.2.2.1
theorem d_CM_spell_75 : decode prog_1_method_69_code 75 = .ok (.iconst (-1), 1) := F_CM_spell_60.2.2.2.2.2.2.2.2.2.1
theorem d_CM_spell_76 : decode prog_1_method_69_code 76 = .ok (.if_icmp .ne (11), 3) := F_CM_spell_60.2.2.2.2.2.2.2.2.2.2.1
theorem d_CM_spell_79 : decode prog_1_method_69_code 79 = .ok (.aload_n 0, 1) := F_CM_spell_60.2.2.2.2.2.2.2.2.2.2.2.1
theorem d_CM_spell_80 : decode prog_1_method_69_code 80 = .ok (.getfield 61, 3) := F_CM_spell_60.2.2.2.2.2.2.2.2.2.2.2.2.1
theorem d_CM_spell_83 : decode prog_1_method_69_code 83 = .ok (.invokevirtual 437, 3) := F_CM_spell_60.2.2.2.2.2.2.2.2.2.2.2.2.2.1
theorem d_CM_spell_86 : decode prog_1_method_69_code 86 = .ok (.ireturn, 1) := F_CM_spell_60.2.2.2.2.2.2.2.2.2.2.2.2.2.2.1
theorem d_CM_spell_87 : decode prog_1_method_69_code 87 = .ok (.iload_n 2, 1) := F_CM_spell_60.2.2.2.2.2.2.2.2.2.2.2.2.2.2.2.1
theorem d_CM_spell_88 : decode prog_1_method_69_code 88 = .ok (.aload_n 0, 1) := F_CM_spell_60.2.2.2.2.2.2.2.2.2.2.2.2.2.2.2.2.1
theorem d_CM_spell_89 : decode prog_1_method_69_code 89 = .ok (.getfield 61, 3) := F_CM_spell_60.2.2.2.2.2.2.2.2.2.2.2.2.2.2.2.2.2.1
theorem d_CM_spell_92 : decode prog_1_method_69_code 92 = .ok (.invokevirtual 437, 3) := F_CM_spell_60.2.2.2.2.2.2.2.2.2.2.2.2.2.2.2.2.2.2.1
theorem d_CM_spell_95 : decode prog_1_method_69_code 95 = .ok (.if_icmp .ge (14), 3) := F_CM_spell_60.2.2.2.2.2.2.2.2.2.2.2.2.2.2.2.2.2.2.2.1
theorem d_CM_spell_98 : decode prog_1_method_69_code 98 = .ok (.aload_n 0, 1) := F_CM_spell_60.2.2.2.2.2.2.2.2.2.2.2.2.2.2.2.2.2.2.2.2.1
theorem d_CM_spell_99 : decode prog_1_method_69_code 99 = .ok (.getfield 61, 3) := F_CM_spell_60.2.2.2.2.2.2.2.2.2.2.2.2.2.2.2.2.2.2.2.2.2.1
theorem d_CM_spell_102 : decode prog_1_method_69_code 102 = .ok (.iload_n 2, 1) := F_CM_spell_60.2.2.2.2.2.2.2.2.2.2.2.2.2.2.2.2.2.2.2.2.2.2.1
theorem d_CM_spell_103 : decode prog_1_method_69_code 103 = .ok (.invokevirtual 439, 3) := F_CM_spell_60.2.2.2.2.2.2.2.2.2.2.2.2.2.2.2.2.2.2.2.2.2.2.2.1
theorem d_CM_spell_106 : decode prog_1_method_69_code 106 = .ok (.goto (5), 3) := F_CM_spell_60.2.2.2.2.2.2.2.2.2.2.2.2.2.2.2.2.2.2.2.2.2.2.2.2.1
theorem d_CM_spell_109 : decode prog_1_method_69_code 109 = .ok (.bipush (-2), 2) := F_CM_spell_60.2.2.2.2.2.2.2.2.2.2.2.2.2.2.2.2.2.2.2.2.2.2.2.2.2.1
theorem d_CM_spell_111 : decode prog_1_method_69_code 111 = .ok (.ireturn, 1) := F_CM_spell_60.2.2.2.2.2.2.2.2.2.2.2.2.2.2.2.2.2.2.2.2.2.2.2.2.2.2.1
theorem F_CM_kept_0 : Jvm.Free.DS.Facts prog_1_method_70_code 0 [(.aload_n 0, 1), (.getfield 12, 3), (.iload_n 1, 1), (.invokevirtual 151, 3), (.ifCond .ne (5), 3), (.iconst (-1), 1), (.ireturn, 1), (.iconst 0, 1), (.istore_n 2, 1), (.iconst 0, 1), (.istore_n 3, 1), (.iload_n 3, 1), (.aload_n 0, 1), (.getfield 12, 3), (.getfield 415, 3), (.if_icmp .ge (24), 3), (.aload_n 0, 1), (.iload_n 1, 1), (.iload_n 3, 1), (.invokevirtual 379, 3), (.ifCond .eq (9), 3), (.iload_n 2, 1), (.iconst 1, 1), (.iload_n 3, 1), (.ishl, 1), (.ior, 1), (.istore_n 2, 1), (.iinc 3 (1), 3), (.goto (-29), 3), (.iload_n 2, 1), (.ireturn, 1)] := Jvm.Free.DS.facts 0 _ (by decide +kernel) (by decide +kernel)
theorem d_CM_kept_0 : decode prog_1_method_70_code 0 = .ok (.aload_n 0, 1) := F_CM_kept_0.1
theorem d_CM_kept_1 : decode prog_1_method_70_code 1 = .ok (.getfield 12, 3) := F_CM_kept_0.2.1
theorem d_CM_kept_4 : decode prog_1_method_70_code 4 = .ok (.iload_n 1, 1) := F_CM_kept_0.2.2.1
theorem d_CM_kept_5 : decode prog_1_method_70_code 5 = .ok (.invokevirtual 151, 3) := F_CM_kept_0.2.2.2.1
theorem d_CM_kept_8 : decode prog_1_method_70_code 8 = .ok (.ifCond .ne (5), 3) := F_CM_kept_0.2.2.2.2.1
theorem d_CM_kept_11 : decode prog_1_method_70_code 11 = .ok (.iconst (-1), 1) := F_CM_kept_0.2.2.2.2.2.1
theorem d_CM_kept_12 : decode prog_1_method_70_code 12 = .ok (.ireturn, 1) := F_CM_kept_0.2.2.2.2.2.2.1
theorem d_CM_kept_13 : decode prog_1_method_70_code 13 = .ok (.iconst 0, 1) := F_CM_kept_0.2.2.2.2.2.2.2.1
theorem d_CM_kept_14 : decode prog_1_method_70_code 14 = .ok (.istore_n 2, 1) := F_CM_kept_0.2.2.2.2.2.2.2.2.1
theorem d_CM_kept_15 : decode prog_1_method_70_code 15 = .ok (.iconst 0, 1) := F_CM_kept_0.2.2.2.2.2.2.2.2.2.1
theorem d_CM_kept_16 : decode prog_1_method_70_code 16 = .ok (.istore_n 3, 1) := F_CM_kept_0.2.2.2.2.2.2.2.2.2.2.1
theorem d_CM_kept_17 : decode prog_1_method_70_code 17 = .ok (.iload_n 3, 1) := F_CM_kept_0.2.2.2.2.2.2.2.2.2.2.2.1
theorem d_CM_kept_18 : decode prog_1_method_70_code 18 = .ok (.aload_n 0, 1) := F_CM_kept_0.2.2.2.2.2.2.2.2.2.2.2.2.1
theorem d_CM_kept_19 : decode prog_1_method_70_code 19 = .ok (.getfield 12, 3) := F_CM_kept_0.2.2.2.2.2.2.2.2.2.2.2.2.2.1
theorem d_CM_kept_22 : decode prog_1_method_70_code 22 = .ok (.getfield 415, 3) := F_CM_kept_0.2.2.2.2.2.2.2.2.2.2.2.2.2.2.1
theorem d_CM_kept_25 : decode prog_1_method_70_code 25 = .ok (.if_icmp .ge (24), 3) := F_CM_kept_0.2.2.2.2.2.2.2.2.2.2.2.2.2.2.2.1
theorem d_CM_kept_28 : decode prog_1_method_70_code 28 = .ok (.aload_n 0, 1) := F_CM_kept_0.2.2.2.2.2.2.2.2.2.2.2.2.2.2.2.2.1
theorem d_CM_kept_29 : decode prog_1_method_70_code 29 = .ok (.iload_n 1, 1) := F_CM_kept_0.2.2.2.2.2.2.2.2.2.2.2.2.2.2.2.2.2.1
theorem d_CM_kept_30 : decode prog_1_method_70_code 30 = .ok (.iload_n 3, 1) := F_CM_kept_0.2.2.2.2.2.2.2.2.2.2.2.2.2.2.2.2.2.2.1
theorem d_CM_kept_31 : decode prog_1_method_70_code 31 = .ok (.invokevirtual 379, 3) := F_CM_kept_0.2.2.2.2.2.2.2.2.2.2.2.2.2.2.2.2.2.2.2.1
theorem d_CM_kept_34 : decode prog_1_method_70_code 34 = .ok (.ifCond .eq (9), 3) := F_CM_kept_0.2.2.2.2.2.2.2.2.2.2.2.2.2.2.2.2.2.2.2.2.1
theorem d_CM_kept_37 : decode prog_1_method_70_code 37 = .ok (.iload_n 2, 1) := F_CM_kept_0.2.2.2.2.2.2.2.2.2.2.2.2.2.2.2.2.2.2.2.2.2.1
theorem d_CM_kept_38 : decode prog_1_method_70_code 38 = .ok (.iconst 1, 1) := F_CM_kept_0.2.2.2.2.2.2.2.2.2.2.2.2.2.2.2.2.2.2.2.2.2.2.1
theorem d_CM_kept_39 : decode prog_1_method_70_code 39 = .ok (.iload_n 3, 1) := F_CM_kept_0.2.2.2.2.2.2.2.2.2.2.2.2.2.2.2.2.2.2.2.2.2.2.2.1
theorem d_CM_kept_40 : decode prog_1_method_70_code 40 = .ok (.ishl, 1) := F_CM_kept_0.2.2.2.2.2.2.2.2.2.2.2.2.2.2.2.2.2.2.2.2.2.2.2.2.1
theorem d_CM_kept_41 : decode prog_1_method_70_code 41 = .ok (.ior, 1) := F_CM_kept_0.2.2.2.2.2.2.2.2.2.2.2.2.2.2.2.2.2.2.2.2.2.2.2.2.2.1
theorem d_CM_kept_42 : decode prog_1_method_70_code 42 = .ok (.istore_n 2, 1) := F_CM_kept_0.2.2.2.2.2.2.2.2.2.2.2.2.2.2.2.2.2.2.2.2.2.2.2.2.2.2.1
theorem d_CM_kept_43 : decode prog_1_method_70_code 43 = .ok (.iinc 3 (1), 3) := F_CM_kept_0.2.2.2.2.2.2.2.2.2.2.2.2.2.2.2.2.2.2.2.2.2.2.2.2.2.2.2.1
theorem d_CM_kept_46 : decode prog_1_method_70_code 46 = .ok (.goto (-29), 3) := F_CM_kept_0.2.2.2.2.2.2.2.2.2.2.2.2.2.2.2.2.2.2.2.2.2.2.2.2.2.2.2.2.1
theorem d_CM_kept_49 : decode prog_1_method_70_code 49 = .ok (.iload_n 2, 1) := F_CM_kept_0.2.2.2.2.2.2.2.2.2.2.2.2.2.2.2.2.2.2.2.2.2.2.2.2.2.2.2.2.2.1
theorem d_CM_kept_50 : decode prog_1_method_70_code 50 = .ok (.ireturn, 1) := F_CM_kept_0.2.2.2.2.2.2.2.2.2.2.2.2.2.2.2.2.2.2.2.2.2.2.2.2.2.2.2.2.2.2.1
theorem F_CM_find_0 : Jvm.Free.DS.Facts prog_1_method_71_code 0 [(.aload_n 0, 1), (.getfield 12, 3), (.iload_n 1, 1), (.invokevirtual 127, 3), (.ifCond .eq (14), 3), (.aload_n 0, 1), (.getfield 12, 3), (.iload_n 2, 1), (.invokevirtual 127, 3), (.ifCond .ne (5), 3), (.iconst (-1), 1), (.ireturn, 1), (.aload_n 0, 1), (.getfield 31, 3), (.aload_n 0, 1), (.getfield 12, 3), (.getfield 142, 3), (.iload_n 1, 1), (.aaload, 1), (.aload_n 0, 1), (.getfield 12, 3), (.getfield 142, 3), (.iload_n 2, 1), (.aaload, 1), (.iconst 0, 1), (.aload_n 0, 1), (.getfield 65, 3), (.invokevirtual 184, 3), (.iconst 0, 1), (.istore_n 3, 1), (.iload_n 3, 1), (.aload_n 0, 1)] := Jvm.Free.DS.facts 0 _ (by decide +kernel) (by decide +kernel)
theorem d_CM_find_0 : decode prog_1_method_71_code 0 = .ok (.aload_n 0, 1) := F_CM_find_0.1
theorem d_CM_find_1 : decode prog_1_method_71_code 1 = .ok (.getfield 12, 3) := F_CM_find_0.2.1
theorem d_CM_find_4 : decode prog_1_method_71_code 4 = .ok (.iload_n 1, 1) := F_CM_find_0.2.2.1
theorem d_CM_find_5 : decode prog_1_method_71_code 5 = .ok (.invokevirtual 127, 3) := F_CM_find_0.2.2.2.1
theorem d_CM_find_8 : decode prog_1_method_71_code 8 = .ok (.ifCond .eq (14), 3) := F_CM_find_0.2.2.2.2.1
theorem d_CM_find_11 : decode prog_1_method_71_code 11 = .ok (.aload_n 0, 1) := F_CM_find_0.2.2.2.2.2.1
theorem d_CM_find_12 : decode prog_1_method_71_code 12 = .ok (.getfield 12, 3) := F_CM_find_0.2.2.2.2.2.2.1
theorem d_CM_find_15 : decode prog_1_method_71_code 15 = .ok (.iload_n 2, 1) := F_CM_find_0.2.2.2.2.2.2.2.1
theorem d_CM_find_16 : decode prog_1_method_71_code 16 = .ok (.invokevirtual 127, 3) := F_CM_find_0.2.2.2.2.2.2.2.2.1
theorem d_CM_find_19 : decode prog_1_method_71_code 19 = .ok (.ifCond .ne (5), 3) := F_CM_find_0.2.2.2.2.2.2.2.2.2.1
theorem d_CM_find_22 : decode prog_1_method_71_code 22 = .ok (.iconst (-1), 1) := F_CM_find_0.2.2.2.2.2.2.2.2.2.2.1
theorem d_CM_find_23 : decode prog_1_method_71_code 23 = .ok (.ireturn, 1) := F_CM_find_0.2.2.2.2.2.2.2.2.2.2.2.1
theorem d_CM_find_24 : decode prog_1_method_71_code 24 = .ok (.aload_n 0, 1) := F_CM_find_0.2.2.2.2.2.2.2.2.2.2.2.2.1
theorem d_CM_find_25 : decode prog_1_method_71_code 25 = .ok (.getfield 31, 3) := F_CM_find_0.2.2.2.2.2.2.2.2.2.2.2.2.2.1
theorem d_CM_find_28 : decode prog_1_method_71_code 28 = .ok (.aload_n 0, 1) := F_CM_find_0.2.2.2.2.2.2.2.2.2.2.2.2.2.2.1
theorem d_CM_find_29 : decode prog_1_method_71_code 29 = .ok (.getfield 12, 3) := F_CM_find_0.2.2.2.2.2.2.2.2.2.2.2.2.2.2.2.1
theorem d_CM_find_32 : decode prog_1_method_71_code 32 = .ok (.getfield 142, 3) := F_CM_find_0.2.2.2.2.2.2.2.2.2.2.2.2.2.2.2.2.1
theorem d_CM_find_35 : decode prog_1_method_71_code 35 = .ok (.iload_n 1, 1) := F_CM_find_0.2.2.2.2.2.2.2.2.2.2.2.2.2.2.2.2.2.1
theorem d_CM_find_36 : decode prog_1_method_71_code 36 = .ok (.aaload, 1) := F_CM_find_0.2.2.2.2.2.2.2.2.2.2.2.2.2.2.2.2.2.2.1
theorem d_CM_find_37 : decode prog_1_method_71_code 37 = .ok (.aload_n 0, 1) := F_CM_find_0.2.2.2.2.2.2.2.2.2.2.2.2.2.2.2.2.2.2.2.1
theorem d_CM_find_38 : decode prog_1_method_71_code 38 = .ok (.getfield 12, 3) := F_CM_find_0.2.2.2.2.2.2.2.2.2.2.2.2.2.2.2.2.2.2.2.2.1
theorem d_CM_find_41 : decode prog_1_method_71_code 41 = .ok (.getfield 142, 3) := F_CM_find_0.2.2.2.2.2.2.2.2.2.2.2.2.2.2.2.2.2.2.2.2.2.1
theorem d_CM_find_44 : decode prog_1_method_71_code 44 = .ok (.iload_n 2, 1) := F_CM_find_0.2.2.2.2.2.2.2.2.2.2.2.2.2.2.2.2.2.2.2.2.2.2.1
theorem d_CM_find_45 : decode prog_1_method_71_code 45 = .ok (.aaload, 1) := F_CM_find_0.2.2.2.2.2.2.2.2.2.2.2.2.2.2.2.2.2.2.2.2.2.2.2.1
theorem d_CM_find_46 : decode prog_1_method_71_code 46 = .ok (.iconst 0, 1) := F_CM_find_0.2.2.2.2.2.2.2.2.2.2.2.2.2.2.2.2.2.2.2.2.2.2.2.2.1
theorem d_CM_find_47 : decode prog_1_method_71_code 47 = .ok (.aload_n 0, 1) := F_CM_find_0.2.2.2.2.2.2.2.2.2.2.2.2.2.2.2.2.2.2.2.2.2.2.2.2.2.1
theorem d_CM_find_48 : decode prog_1_method_71_code 48 = .ok (.getfield 65, 3) := F_CM_find_0.2.2.2.2.2.2.2.2.2.2.2.2.2.2.2.2.2.2.2.2.2.2.2.2.2.2.1
theorem d_CM_find_51 : decode prog_1_method_71_code 51 = .ok (.invokevirtual 184, 3) := F_CM_find_0.2.2.2.2.2.2.2.2.2.2.2.2.2.2.2.2.2.2.2.2.2.2.2.2.2.2.2.1
theorem d_CM_find_54 : decode prog_1_method_71_code 54 = .ok (.iconst 0, 1) := F_CM_find_0.2.2.2.2.2.2.2.2.2.2.2.2.2.2.2.2.2.2.2.2.2.2.2.2.2.2.2.2.1
theorem d_CM_find_55 : decode prog_1_method_71_code 55 = .ok (.istore_n 3, 1) := F_CM_find_0.2.2.2.2.2.2.2.2.2.2.2.2.2.2.2.2.2.2.2.2.2.2.2.2.2.2.2.2.2.1
theorem d_CM_find_56 : decode prog_1_method_71_code 56 = .ok (.iload_n 3, 1) := F_CM_find_0.2.2.2.2.2.2.2.2.2.2.2.2.2.2.2.2.2.2.2.2.2.2.2.2.2.2.2.2.2.2.1
theorem d_CM_find_57 : decode prog_1_method_71_code 57 = .ok (.aload_n 0, 1) := F_CM_find_0.2.2.2.2.2.2.2.2.2.2.2.2.2.2.2.2.2.2.2.2.2.2.2.2.2.2.2.2.2.2.2.1
theorem F_CM_find_58 : Jvm.Free.DS.Facts prog_1_method_71_code 58 [(.getfield 12, 3), (.getfield 225, 3), (.if_icmp .ge (30), 3), (.aload_n 0, 1), (.getfield 12, 3), (.getfield 157, 3), (.iload_n 3, 1), (.aaload, 1), (.aload_n 0, 1), (.getfield 65, 3), (.invokestatic 306, 3), (.ifCond .eq (5), 3), (.iload_n 3, 1), (.ireturn, 1), (.iinc 3 (1), 3), (.goto (-35), 3), (.bipush (-2), 2), (.ireturn, 1)] := Jvm.Free.DS.facts 58 _ (by decide +kernel) (by decide +kernel)
theorem d_CM_find_58 : decode prog_1_method_71_code 58 = .ok (.getfield 12, 3) := F_CM_find_58.1
theorem d_CM_find_61 : decode prog_1_method_71_code 61 = .ok (.getfield 225, 3) := F_CM_find_58.2.1
theorem d_CM_find_64 : decode prog_1_method_71_code 64 = .ok (.if_icmp .ge (30), 3) := F_CM_find_58.2.2.1
theorem d_CM_find_67 : decode prog_1_method_71_code 67 = .ok (.aload_n 0, 1) := F_CM_find_58.2.2.2.1
theorem d_CM_find_68 : decode prog_1_method_71_code 68 = .ok (.getfield 12, 3) := F_CM_find_58.2.2.2.2.1
theorem d_CM_find_71 : decode prog_1_method_71_code 71 = .ok (.getfield 157, 3) := F_CM_find_58.2.2.2.2.2.1
theorem d_CM_find_74 : decode prog_1_method_71_code 74 = .ok (.iload_n 3, 1) := F_CM_find_58.2.2.2.2.2.2.1
theorem d_CM_find_75 : decode prog_1_method_71_code 75 = .ok (.aaload, 1) := F_CM_find_58.2.2.2.2.2.2.2.1
theorem d_CM_find_76 : decode prog_1_method_71_code 76 = .ok (.aload_n 0, 1) := F_CM_find_58.2.2.2.2.2.2.2.2.1
theorem d_CM_find_77 : decode prog_1_method_71_code 77 = .ok (.getfield 65, 3) := F_CM_find_58.2.2.2.2.2.2.2.2.2.1
theorem d_CM_find_80 : decode prog_1_method_71_code 80 = .ok (.invokestatic 306, 3) := F_CM_find_58.2.2.2.2.2.2.2.2.2.2.1
theorem d_CM_find_83 : decode prog_1_method_71_code 83 = .ok (.ifCond .eq (5), 3) := F_CM_find_58.2.2.2.2.2.2.2.2.2.2.2.1
theorem d_CM_find_86 : decode prog_1_method_71_code 86 = .ok (.iload_n 3, 1) := F_CM_find_58.2.2.2.2.2.2.2.2.2.2.2.2.1
theorem d_CM_find_87 : decode prog_1_method_71_code 87 = .ok (.ireturn, 1) := F_CM_find_58.2.2.2.2.2.2.2.2.2.2.2.2.2.1
theorem d_CM_find_88 : decode prog_1_method_71_code 88 = .ok (.iinc 3 (1), 3) := F_CM_find_58.2.2.2.2.2.2.2.2.2.2.2.2.2.2.1
theorem d_CM_find_91 : decode prog_1_method_71_code 91 = .ok (.goto (-35), 3) := F_CM_find_58.2.2.2.2.2.2.2.2.2.2.2.2.2.2.2.1
theorem d_CM_find_94 : decode prog_1_method_71_code 94 = .ok (.bipush (-2), 2) := F_CM_find_58.2.2.2.2.2.2.2.2.2.2.2.2.2.2.2.2.1
theorem d_CM_find_96 : decode prog_1_method_71_code 96 = .ok (.ireturn, 1) := F_CM_find_58.2.2.2.2.2.2.2.2.2.2.2.2.2.2.2.2.2.1
theorem F_CM_size_0 : Jvm.Free.DS.Facts prog_1_method_72_code 0 [(.aload_n 0, 1), (.getfield 12, 3), (.iload_n 1, 1), (.invokevirtual 151, 3), (.ifCond .eq (19), 3), (.aload_n 0, 1), (.getfield 12, 3), (.getfield 157, 3), (.iload_n 1, 1), (.aaload, 1), (.invokestatic 297, 3), (.l2i, 1), (.goto (4), 3), (.iconst (-1), 1), (.ireturn, 1)] := Jvm.Free.DS.facts 0 _ (by decide +kernel) (by decide +kernel)
theorem d_CM_size_0 : decode prog_1_method_72_code 0 = .ok (.aload_n 0, 1) := F_CM_size_0.1
theorem d_CM_size_1 : decode prog_1_method_72_code 1 = .ok (.getfield 12, 3) := F_CM_size_0.2.1
theorem d_CM_size_4 : decode prog_1_method_72_code 4 = .ok (.iload_n 1, 1) := F_CM_size_0.2.2.1
theorem d_CM_size_5 : decode prog_1_method_72_code 5 = .ok (.invokevirtual 151, 3) := F_CM_size_0.2.2.2.1
theorem d_CM_size_8 : decode prog_1_method_72_code 8 = .ok (.ifCond .eq (19), 3) := F_CM_size_0.2.2.2.2.1
theorem d_CM_size_11 : decode prog_1_method_72_code 11 = .ok (.aload_n 0, 1) := F_CM_size_0.2.2.2.2.2.1
theorem d_CM_size_12 : decode prog_1_method_72_code 12 = .ok (.getfield 12, 3) := F_CM_size_0.2.2.2.2.2.2.1
theorem d_CM_size_15 : decode prog_1_method_72_code 15 = .ok (.getfield 157, 3) := F_CM_size_0.2.2.2.2.2.2.2.1
theorem d_CM_size_18 : decode prog_1_method_72_code 18 = .ok (.iload_n 1, 1) := F_CM_size_0.2.2.2.2.2.2.2.2.1
theorem d_CM_size_19 : decode prog_1_method_72_code 19 = .ok (.aaload, 1) := F_CM_size_0.2.2.2.2.2.2.2.2.2.1
theorem d_CM_size_20 : decode prog_1_method_72_code 20 = .ok (.invokestatic 297, 3) := F_CM_size_0.2.2.2.2.2.2.2.2.2.2.1
theorem d_CM_size_23 : decode prog_1_method_72_code 23 = .ok (.l2i, 1) := F_CM_size_0.2.2.2.2.2.2.2.2.2.2.2.1
theorem d_CM_size_24 : decode prog_1_method_72_code 24 = .ok (.goto (4), 3) := F_CM_size_0.2.2.2.2.2.2.2.2.2.2.2.2.1
theorem d_CM_size_27 : decode prog_1_method_72_code 27 = .ok (.iconst (-1), 1) := F_CM_size_0.2.2.2.2.2.2.2.2.2.2.2.2.2.1
theorem d_CM_size_28 : decode prog_1_method_72_code 28 = .ok (.ireturn, 1) := F_CM_size_0.2.2.2.2.2.2.2.2.2.2.2.2.2.2.1
theorem F_CM_count_0 : Jvm.Free.DS.Facts prog_1_method_73_code 0 [(.iload_n 1, 1)] := Jvm.Free.DS.facts 0 _ (by decide +kernel) (by decide +kernel)
theorem d_CM_count_0 : decode prog_1_method_73_code 0 = .ok (.iload_n 1, 1) := F_CM_count_0.1
theorem F_CM_count_44 : Jvm.Free.DS.Facts prog_1_method_73_code 44 [(.aload_n 0, 1), (.getfield 12, 3), (.getfield 118, 3), (.ireturn, 1), (.aload_n 0, 1), (.getfield 12, 3), (.getfield 415, 3), (.ireturn, 1), (.aload_n 0, 1), (.getfield 12, 3), (.getfield 225, 3), (.ireturn, 1), (.aload_n 0, 1), (.getfield 12, 3), (.getfield 232, 3), (.ireturn, 1), (.aload_n 0, 1), (.getfield 12, 3), (.invokevirtual 257, 3), (.ireturn, 1), (.aload_n 0, 1), (.getfield 47, 3), (.getfield 260, 3), (.ireturn, 1), (.aload_n 0, 1), (.getfield 24, 3), (.getfield 107, 3), (.ireturn, 1), (.iconst (-1), 1), (.ireturn, 1)] := Jvm.Free.DS.facts 44 _ (by decide +kernel) (by decide +kernel)
theorem d_CM_count_44 : decode prog_1_method_73_code 44 = .ok (.aload_n 0, 1) := F_CM_count_44.1
theorem d_CM_count_45 : decode prog_1_method_73_code 45 = .ok (.getfield 12, 3) := F_CM_count_44.2.1
theorem d_CM_count_48 : decode prog_1_method_73_code 48 = .ok (.getfield 118, 3) := F_CM_count_44.2.2.1
theorem d_CM_count_51 : decode prog_1_method_73_code 51 = .ok (.ireturn, 1) := F_CM_count_44.2.2.2.1
theorem d_CM_count_52 : decode prog_1_method_73_code 52 = .ok (.aload_n 0, 1) := F_CM_count_44.2.2.2.2.1
theorem d_CM_count_53 : decode prog_1_method_73_code 53 = .ok (.getfield 12, 3) := F_CM_count_44.2.2.2.2.2.1
theorem d_CM_count_56 : decode prog_1_method_73_code 56 = .ok (.getfield 415, 3) := F_CM_count_44.2.2.2.2.2.2.1
theorem d_CM_count_59 : decode prog_1_method_73_code 59 = .ok (.ireturn, 1) := F_CM_count_44.2.2.2.2.2.2.2.1
theorem d_CM_count_60 : decode prog_1_method_73_code 60 = .ok (.aload_n 0, 1) := F_CM_count_44.2.2.2.2.2.2.2.2.1
theorem d_CM_count_61 : decode prog_1_method_73_code 61 = .ok (.getfield 12, 3) := F_CM_count_44.2.2.2.2.2.2.2.2.2.1
theorem d_CM_count_64 : decode prog_1_method_73_code 64 = .ok (.getfield 225, 3) := F_CM_count_44.2.2.2.2.2.2.2.2.2.2.1
theorem d_CM_count_67 : decode prog_1_method_73_code 67 = .ok (.ireturn, 1) := F_CM_count_44.2.2.2.2.2.2.2.2.2.2.2.1
theorem d_CM_count_68 : decode prog_1_method_73_code 68 = .ok (.aload_n 0, 1) := F_CM_count_44.2.2.2.2.2.2.2.2.2.2.2.2.1
theorem d_CM_count_69 : decode prog_1_method_73_code 69 = .ok (.getfield 12, 3) := F_CM_count_44.2.2.2.2.2.2.2.2.2.2.2.2.2.1
theorem d_CM_count_72 : decode prog_1_method_73_code 72 = .ok (.getfield 232, 3) := F_CM_count_44.2.2.2.2.2.2.2.2.2.2.2.2.2.2.1
theorem d_CM_count_75 : decode prog_1_method_73_code 75 = .ok (.ireturn, 1) := F_CM_count_44.2.2.2.2.2.2.2.2.2.2.2.2.2.2.2.1
theorem d_CM_count_76 : decode prog_1_method_73_code 76 = .ok (.aload_n 0, 1) := F_CM_count_44.2.2.2.2.2.2.2.2.2.2.2.2.2.2.2.2.1
theorem d_CM_count_77 : decode prog_1_method_73_code 77 = .ok (.getfield 12, 3) := F_CM_count_44.2.2.2.2.2.2.2.2.2.2.2.2.2.2.2.2.2.1
theorem d_CM_count_80 : decode prog_1_method_73_code 80 = .ok (.invokevirtual 257, 3) := F_CM_count_44.2.2.2.2.2.2.2.2.2.2.2.2.2.2.2.2.2.2.1
theorem d_CM_count_83 : decode prog_1_method_73_code 83 = .ok (.ireturn, 1) := F_CM_count_44.2.2.2.2.2.2.2.2.2.2.2.2.2.2.2.2.2.2.2.1
theorem d_CM_count_84 : decode prog_1_method_73_code 84 = .ok (.aload_n 0, 1) := F_CM_count_44.2.2.2.2.2.2.2.2.2.2.2.2.2.2.2.2.2.2.2.2.1
theorem d_CM_count_85 : decode prog_1_method_73_code 85 = .ok (.getfield 47, 3) := F_CM_count_44.2.2.2.2.2.2.2.2.2.2.2.2.2.2.2.2.2.2.2.2.2.1
theorem d_CM_count_88 : decode prog_1_method_73_code 88 = .ok (.getfield 260, 3) := F_CM_count_44.2.2.2.2.2.2.2.2.2.2.2.2.2.2.2.2.2.2.2.2.2.2.1
theorem d_CM_count_91 : decode prog_1_method_73_code 91 = .ok (.ireturn, 1) := F_CM_count_44.2.2.2.2.2.2.2.2.2.2.2.2.2.2.2.2.2.2.2.2.2.2.2.1
theorem d_CM_count_92 : decode prog_1_method_73_code 92 = .ok (.aload_n 0, 1) := F_CM_count_44.2.2.2.2.2.2.2.2.2.2.2.2.2.2.2.2.2.2.2.2.2.2.2.2.1
theorem d_CM_count_93 : decode prog_1_method_73_code 93 = .ok (.getfield 24, 3) := F_CM_count_44.2.2.2.2.2.2.2.2.2.2.2.2.2.2.2.2.2.2.2.2.2.2.2.2.2.1
theorem d_CM_count_96 : decode prog_1_method_73_code 96 = .ok (.getfield 107, 3) := F_CM_count_44.2.2.2.2.2.2.2.2.2.2.2.2.2.2.2.2.2.2.2.2.2.2.2.2.2.2.1
theorem d_CM_count_99 : decode prog_1_method_73_code 99 = .ok (.ireturn, 1) := F_CM_count_44.2.2.2.2.2.2.2.2.2.2.2.2.2.2.2.2.2.2.2.2.2.2.2.2.2.2.2.1
theorem d_CM_count_100 : decode prog_1_method_73_code 100 = .ok (.iconst (-1), 1) := F_CM_count_44.2.2.2.2.2.2.2.2.2.2.2.2.2.2.2.2.2.2.2.2.2.2.2.2.2.2.2.2.1
theorem d_CM_count_101 : decode prog_1_method_73_code 101 = .ok (.ireturn, 1) := F_CM_count_44.2.2.2.2.2.2.2.2.2.2.2.2.2.2.2.2.2.2.2.2.2.2.2.2.2.2.2.2.2.1
theorem F_CM_corner_0 : Jvm.Free.DS.Facts prog_1_method_5_code 0 [(.aload_n 0, 1), (.getfield 12, 3), (.iload_n 1, 1), (.invokevirtual 127, 3), (.ifCond .eq (10), 3), (.iload_n 2, 1), (.invokestatic 130, 3), (.ifCond .ne (11), 3), (.new 133, 3), (.dup, 1), (.invokespecial 135, 3), (.athrow, 1), (.iload_n 3, 1), (.invokestatic 136, 3), (.ifCond .ne (11), 3), (.new 139, 3), (.dup, 1), (.invokespecial 141, 3), (.athrow, 1), (.aload_n 0, 1), (.getfield 12, 3), (.getfield 142, 3), (.iload_n 1, 1), (.aaload, 1), (.getfield 146, 3), (.iload_n 2, 1), (.aaload, 1), (.iload_n 3, 1), (.laload, 1), (.l2i, 1), (.ireturn, 1)] := Jvm.Free.DS.facts 0 _ (by decide +kernel) (by decide +kernel)
theorem d_CM_corner_0 : decode prog_1_method_5_code 0 = .ok (.aload_n 0, 1) := F_CM_corner_0.1
theorem d_CM_corner_1 : decode prog_1_method_5_code 1 = .ok (.getfield 12, 3) := F_CM_corner_0.2.1
theorem d_CM_corner_4 : decode prog_1_method_5_code 4 = .ok (.iload_n 1, 1) := F_CM_corner_0.2.2.1
theorem d_CM_corner_5 : decode prog_1_method_5_code 5 = .ok (.invokevirtual 127, 3) := F_CM_corner_0.2.2.2.1
theorem d_CM_corner_8 : decode prog_1_method_5_code 8 = .ok (.ifCond .eq (10), 3) := F_CM_corner_0.2.2.2.2.1
theorem d_CM_corner_11 : decode prog_1_method_5_code 11 = .ok (.iload_n 2, 1) := F_CM_corner_0.2.2.2.2.2.1
theorem d_CM_corner_12 : decode prog_1_method_5_code 12 = .ok (.invokestatic 130, 3) := F_CM_corner_0.2.2.2.2.2.2.1
theorem d_CM_corner_15 : decode prog_1_method_5_code 15 = .ok (.ifCond .ne (11), 3) := F_CM_corner_0.2.2.2.2.2.2.2.1
theorem d_CM_corner_18 : decode prog_1_method_5_code 18 = .ok (.new 133, 3) := F_CM_corner_0.2.2.2.2.2.2.2.2.1
theorem d_CM_corner_21 : decode prog_1_method_5_code 21 = .ok (.dup, 1) := F_CM_corner_0.2.2.2.2.2.2.2.2.2.1
theorem d_CM_corner_22 : decode prog_1_method_5_code 22 = .ok (.invokespecial 135, 3) := F_CM_corner_0.2.2.2.2.2.2.2.2.2.2.1
theorem d_CM_corner_25 : decode prog_1_method_5_code 25 = .ok (.athrow, 1) := F_CM_corner_0.2.2.2.2.2.2.2.2.2.2.2.1
theorem d_CM_corner_26 : decode prog_1_method_5_code 26 = .ok (.iload_n 3, 1) := F_CM_corner_0.2.2.2.2.2.2.2.2.2.2.2.2.1
theorem d_CM_corner_27 : decode prog_1_method_5_code 27 = .ok (.invokestatic 136, 3) := F_CM_corner_0.2.2.2.2.2.2.2.2.2.2.2.2.2.1
theorem d_CM_corner_30 : decode prog_1_method_5_code 30 = .ok (.ifCond .ne (11), 3) := F_CM_corner_0.2.2.2.2.2.2.2.2.2.2.2.2.2.2.1
theorem d_CM_corner_33 : decode prog_1_method_5_code 33 = .ok (.new 139, 3) := F_CM_corner_0.2.2.2.2.2.2.2.2.2.2.2.2.2.2.2.1
theorem d_CM_corner_36 : decode prog_1_method_5_code 36 = .ok (.dup, 1) := F_CM_corner_0.2.2.2.2.2.2.2.2.2.2.2.2.2.2.2.2.1
theorem d_CM_corner_37 : decode prog_1_method_5_code 37 = .ok (.invokespecial 141, 3) := F_CM_corner_0.2.2.2.2.2.2.2.2.2.2.2.2.2.2.2.2.2.1
theorem d_CM_corner_40 : decode prog_1_method_5_code 40 = .ok (.athrow, 1) := F_CM_corner_0.2.2.2.2.2.2.2.2.2.2.2.2.2.2.2.2.2.2.1
theorem d_CM_corner_41 : decode prog_1_method_5_code 41 = .ok (.aload_n 0, 1) := F_CM_corner_0.2.2.2.2.2.2.2.2.2.2.2.2.2.2.2.2.2.2.2.1
theorem d_CM_corner_42 : decode prog_1_method_5_code 42 = .ok (.getfield 12, 3) := F_CM_corner_0.2.2.2.2.2.2.2.2.2.2.2.2.2.2.2.2.2.2.2.2.1
theorem d_CM_corner_45 : decode prog_1_method_5_code 45 = .ok (.getfield 142, 3) := F_CM_corner_0.2.2.2.2.2.2.2.2.2.2.2.2.2.2.2.2.2.2.2.2.2.1
theorem d_CM_corner_48 : decode prog_1_method_5_code 48 = .ok (.iload_n 1, 1) := F_CM_corner_0.2.2.2.2.2.2.2.2.2.2.2.2.2.2.2.2.2.2.2.2.2.2.1
theorem d_CM_corner_49 : decode prog_1_method_5_code 49 = .ok (.aaload, 1) := F_CM_corner_0.2.2.2.2.2.2.2.2.2.2.2.2.2.2.2.2.2.2.2.2.2.2.2.1
theorem d_CM_corner_50 : decode prog_1_method_5_code 50 = .ok (.getfield 146, 3) := F_CM_corner_0.2.2.2.2.2.2.2.2.2.2.2.2.2.2.2.2.2.2.2.2.2.2.2.2.1
theorem d_CM_corner_53 : decode prog_1_method_5_code 53 = .ok (.iload_n 2, 1) := F_CM_corner_0.2.2.2.2.2.2.2.2.2.2.2.2.2.2.2.2.2.2.2.2.2.2.2.2.2.1
theorem d_CM_corner_54 : decode prog_1_method_5_code 54 = .ok (.aaload, 1) := F_CM_corner_0.2.2.2.2.2.2.2.2.2.2.2.2.2.2.2.2.2.2.2.2.2.2.2.2.2.2.1
theorem d_CM_corner_55 : decode prog_1_method_5_code 55 = .ok (.iload_n 3, 1) := F_CM_corner_0.2.2.2.2.2.2.2.2.2.2.2.2.2.2.2.2.2.2.2.2.2.2.2.2.2.2.2.1
theorem d_CM_corner_56 : decode prog_1_method_5_code 56 = .ok (.laload, 1) := F_CM_corner_0.2.2.2.2.2.2.2.2.2.2.2.2.2.2.2.2.2.2.2.2.2.2.2.2.2.2.2.2.1
theorem d_CM_corner_57 : decode prog_1_method_5_code 57 = .ok (.l2i, 1) := F_CM_corner_0.2.2.2.2.2.2.2.2.2.2.2.2.2.2.2.2.2.2.2.2.2.2.2.2.2.2.2.2.2.1
theorem d_CM_corner_58 : decode prog_1_method_5_code 58 = .ok (.ireturn, 1) := F_CM_corner_0.2.2.2.2.2.2.2.2.2.2.2.2.2.2.2.2.2.2.2.2.2.2.2.2.2.2.2.2.2.2.1
theorem F_CM_map_0 : Jvm.Free.DS.Facts prog_1_method_6_code 0 [(.aload_n 0, 1), (.getfield 12, 3), (.iload_n 1, 1), (.invokevirtual 151, 3), (.ifCond .ne (11), 3), (.new 133, 3), (.dup, 1), (.invokespecial 135, 3), (.athrow, 1), (.iload_n 2, 1), (.invokestatic 154, 3), (.ifCond .eq (10), 3), (.iload_n 3, 1), (.invokestatic 154, 3), (.ifCond .ne (11), 3), (.new 139, 3), (.dup, 1), (.invokespecial 141, 3), (.athrow, 1), (.aload_n 0, 1), (.getfield 12, 3), (.getfield 157, 3), (.iload_n 1, 1), (.aaload, 1), (.iconst 3, 1), (.iload_n 2, 1), (.imul, 1), (.iload_n 3, 1), (.iadd, 1), (.laload, 1), (.l2i, 1), (.ireturn, 1)] := Jvm.Free.DS.facts 0 _ (by decide +kernel) (by decide +kernel)
theorem d_CM_map_0 : decode prog_1_method_6_code 0 = .ok (.aload_n 0, 1) := F_CM_map_0.1
theorem d_CM_map_1 : decode prog_1_method_6_code 1 = .ok (.getfield 12, 3) := F_CM_map_0.2.1
theorem d_CM_map_4 : decode prog_1_method_6_code 4 = .ok (.iload_n 1, 1) := F_CM_map_0.2.2.1
theorem d_CM_map_5 : decode prog_1_method_6_code 5 = .ok (.invokevirtual 151, 3) := F_CM_map_0.2.2.2.1
theorem d_CM_map_8 : decode prog_1_method_6_code 8 = .ok (.ifCond .ne (11), 3) := F_CM_map_0.2.2.2.2.1
theorem d_CM_map_11 : decode prog_1_method_6_code 11 = .ok (.new 133, 3) := F_CM_map_0.2.2.2.2.2.1
theorem d_CM_map_14 : decode prog_1_method_6_code 14 = .ok (.dup, 1) := F_CM_map_0.2.2.2.2.2.2.1
theorem d_CM_map_15 : decode prog_1_method_6_code 15 = .ok (.invokespecial 135, 3) := F_CM_map_0.2.2.2.2.2.2.2.1
theorem d_CM_map_18 : decode prog_1_method_6_code 18 = .ok (.athrow, 1) := F_CM_map_0.2.2.2.2.2.2.2.2.1
theorem d_CM_map_19 : decode prog_1_method_6_code 19 = .ok (.iload_n 2, 1) := F_CM_map_0.2.2.2.2.2.2.2.2.2.1
theorem d_CM_map_20 : decode prog_1_method_6_code 20 = .ok (.invokestatic 154, 3) := F_CM_map_0.2.2.2.2.2.2.2.2.2.2.1
theorem d_CM_map_23 : decode prog_1_method_6_code 23 = .ok (.ifCond .eq (10), 3) := F_CM_map_0.2.2.2.2.2.2.2.2.2.2.2.1
theorem d_CM_map_26 : decode prog_1_method_6_code 26 = .ok (.iload_n 3, 1) := F_CM_map_0.2.2.2.2.2.2.2.2.2.2.2.2.1
theorem d_CM_map_27 : decode prog_1_method_6_code 27 = .ok (.invokestatic 154, 3) := F_CM_map_0.2.2.2.2.2.2.2.2.2.2.2.2.2.1
theorem d_CM_map_30 : decode prog_1_method_6_code 30 = .ok (.ifCond .ne (11), 3) := F_CM_map_0.2.2.2.2.2.2.2.2.2.2.2.2.2.2.1
theorem d_CM_map_33 : decode prog_1_method_6_code 33 = .ok (.new 139, 3) := F_CM_map_0.2.2.2.2.2.2.2.2.2.2.2.2.2.2.2.1
theorem d_CM_map_36 : decode prog_1_method_6_code 36 = .ok (.dup, 1) := F_CM_map_0.2.2.2.2.2.2.2.2.2.2.2.2.2.2.2.2.1
theorem d_CM_map_37 : decode prog_1_method_6_code 37 = .ok (.invokespecial 141, 3) := F_CM_map_0.2.2.2.2.2.2.2.2.2.2.2.2.2.2.2.2.2.1
theorem d_CM_map_40 : decode prog_1_method_6_code 40 = .ok (.athrow, 1) := F_CM_map_0.2.2.2.2.2.2.2.2.2.2.2.2.2.2.2.2.2.2.1
theorem d_CM_map_41 : decode prog_1_method_6_code 41 = .ok (.aload_n 0, 1) := F_CM_map_0.2.2.2.2.2.2.2.2.2.2.2.2.2.2.2.2.2.2.2.1
theorem d_CM_map_42 : decode prog_1_method_6_code 42 = .ok (.getfield 12, 3) := F_CM_map_0.2.2.2.2.2.2.2.2.2.2.2.2.2.2.2.2.2.2.2.2.1
theorem d_CM_map_45 : decode prog_1_method_6_code 45 = .ok (.getfield 157, 3) := F_CM_map_0.2.2.2.2.2.2.2.2.2.2.2.2.2.2.2.2.2.2.2.2.2.1
theorem d_CM_map_48 : decode prog_1_method_6_code 48 = .ok (.iload_n 1, 1) := F_CM_map_0.2.2.2.2.2.2.2.2.2.2.2.2.2.2.2.2.2.2.2.2.2.2.1
theorem d_CM_map_49 : decode prog_1_method_6_code 49 = .ok (.aaload, 1) := F_CM_map_0.2.2.2.2.2.2.2.2.2.2.2.2.2.2.2.2.2.2.2.2.2.2.2.1
theorem d_CM_map_50 : decode prog_1_method_6_code 50 = .ok (.iconst 3, 1) := F_CM_map_0.2.2.2.2.2.2.2.2.2.2.2.2.2.2.2.2.2.2.2.2.2.2.2.2.1
theorem d_CM_map_51 : decode prog_1_method_6_code 51 = .ok (.iload_n 2, 1) := F_CM_map_0.2.2.2.2.2.2.2.2.2.2.2.2.2.2.2.2.2.2.2.2.2.2.2.2.2.1
theorem d_CM_map_52 : decode prog_1_method_6_code 52 = .ok (.imul, 1) := F_CM_map_0.2.2.2.2.2.2.2.2.2.2.2.2.2.2.2.2.2.2.2.2.2.2.2.2.2.2.1
theorem d_CM_map_53 : decode prog_1_method_6_code 53 = .ok (.iload_n 3, 1) := F_CM_map_0.2.2.2.2.2.2.2.2.2.2.2.2.2.2.2.2.2.2.2.2.2.2.2.2.2.2.2.1
theorem d_CM_map_54 : decode prog_1_method_6_code 54 = .ok (.iadd, 1) := F_CM_map_0.2.2.2.2.2.2.2.2.2.2.2.2.2.2.2.2.2.2.2.2.2.2.2.2.2.2.2.2.1
theorem d_CM_map_55 : decode prog_1_method_6_code 55 = .ok (.laload, 1) := F_CM_map_0.2.2.2.2.2.2.2.2.2.2.2.2.2.2.2.2.2.2.2.2.2.2.2.2.2.2.2.2.2.1
theorem d_CM_map_56 : decode prog_1_method_6_code 56 = .ok (.l2i, 1) := F_CM_map_0.2.2.2.2.2.2.2.2.2.2.2.2.2.2.2.2.2.2.2.2.2.2.2.2.2.2.2.2.2.2.1
theorem d_CM_map_57 : decode prog_1_method_6_code 57 = .ok (.ireturn, 1) := F_CM_map_0.2.2.2.2.2.2.2.2.2.2.2.2.2.2.2.2.2.2.2.2.2.2.2.2.2.2.2.2.2.2.2.1
theorem F_CM_point_0 : Jvm.Free.DS.Facts prog_1_method_7_code 0 [(.aload_n 0, 1), (.getfield 12, 3), (.iload_n 1, 1), (.invokevirtual 160, 3), (.ifCond .ne (11), 3), (.new 133, 3), (.dup, 1), (.invokespecial 135, 3), (.athrow, 1), (.iload_n 2, 1), (.invokestatic 154, 3), (.ifCond .ne (11), 3), (.new 139, 3), (.dup, 1), (.invokespecial 141, 3), (.athrow, 1), (.aload_n 0, 1), (.getfield 12, 3), (.getfield 163, 3), (.iload_n 1, 1), (.aaload, 1), (.iload_n 2, 1), (.laload, 1), (.l2i, 1), (.ireturn, 1)] := Jvm.Free.DS.facts 0 _ (by decide +kernel) (by decide +kernel)
theorem d_CM_point_0 : decode prog_1_method_7_code 0 = .ok (.aload_n 0, 1) := F_CM_point_0.1
theorem d_CM_point_1 : decode prog_1_method_7_code 1 = .ok (.getfield 12, 3) := F_CM_point_0.2.1
theorem d_CM_point_4 : decode prog_1_method_7_code 4 = .ok (.iload_n 1, 1) := F_CM_point_0.2.2.1
theorem d_CM_point_5 : decode prog_1_method_7_code 5 = .ok (.invokevirtual 160, 3) := F_CM_point_0.2.2.2.1
theorem d_CM_point_8 : decode prog_1_method_7_code 8 = .ok (.ifCond .ne (11), 3) := F_CM_point_0.2.2.2.2.1
theorem d_CM_point_11 : decode prog_1_method_7_code 11 = .ok (.new 133, 3) := F_CM_point_0.2.2.2.2.2.1
theorem d_CM_point_14 : decode prog_1_method_7_code 14 = .ok (.dup, 1) := F_CM_point_0.2.2.2.2.2.2.1
theorem d_CM_point_15 : decode prog_1_method_7_code 15 = .ok (.invokespecial 135, 3) := F_CM_point_0.2.2.2.2.2.2.2.1
theorem d_CM_point_18 : decode prog_1_method_7_code 18 = .ok (.athrow, 1) := F_CM_point_0.2.2.2.2.2.2.2.2.1
theorem d_CM_point_19 : decode prog_1_method_7_code 19 = .ok (.iload_n 2, 1) := F_CM_point_0.2.2.2.2.2.2.2.2.2.1
theorem d_CM_point_20 : decode prog_1_method_7_code 20 = .ok (.invokestatic 154, 3) := F_CM_point_0.2.2.2.2.2.2.2.2.2.2.1
theorem d_CM_point_23 : decode prog_1_method_7_code 23 = .ok (.ifCond .ne (11), 3) := F_CM_point_0.2.2.2.2.2.2.2.2.2.2.2.1
theorem d_CM_point_26 : decode prog_1_method_7_code 26 = .ok (.new 139, 3) := F_CM_point_0.2.2.2.2.2.2.2.2.2.2.2.2.1
theorem d_CM_point_29 : decode prog_1_method_7_code 29 = .ok (.dup, 1) := F_CM_point_0.2.2.2.2.2.2.2.2.2.2.2.2.2.1
theorem d_CM_point_30 : decode prog_1_method_7_code 30 = .ok (.invokespecial 141, 3) := F_CM_point_0.2.2.2.2.2.2.2.2.2.2.2.2.2.2.1
theorem d_CM_point_33 : decode prog_1_method_7_code 33 = .ok (.athrow, 1) := F_CM_point_0.2.2.2.2.2.2.2.2.2.2.2.2.2.2.2.1
theorem d_CM_point_34 : decode prog_1_method_7_code 34 = .ok (.aload_n 0, 1) := F_CM_point_0.2.2.2.2.2.2.2.2.2.2.2.2.2.2.2.2.1
theorem d_CM_point_35 : decode prog_1_method_7_code 35 = .ok (.getfield 12, 3) := F_CM_point_0.2.2.2.2.2.2.2.2.2.2.2.2.2.2.2.2.2.1
theorem d_CM_point_38 : decode prog_1_method_7_code 38 = .ok (.getfield 163, 3) := F_CM_point_0.2.2.2.2.2.2.2.2.2.2.2.2.2.2.2.2.2.2.1
theorem d_CM_point_41 : decode prog_1_method_7_code 41 = .ok (.iload_n 1, 1) := F_CM_point_0.2.2.2.2.2.2.2.2.2.2.2.2.2.2.2.2.2.2.2.1
theorem d_CM_point_42 : decode prog_1_method_7_code 42 = .ok (.aaload, 1) := F_CM_point_0.2.2.2.2.2.2.2.2.2.2.2.2.2.2.2.2.2.2.2.2.1
theorem d_CM_point_43 : decode prog_1_method_7_code 43 = .ok (.iload_n 2, 1) := F_CM_point_0.2.2.2.2.2.2.2.2.2.2.2.2.2.2.2.2.2.2.2.2.2.1
theorem d_CM_point_44 : decode prog_1_method_7_code 44 = .ok (.laload, 1) := F_CM_point_0.2.2.2.2.2.2.2.2.2.2.2.2.2.2.2.2.2.2.2.2.2.2.1
theorem d_CM_point_45 : decode prog_1_method_7_code 45 = .ok (.l2i, 1) := F_CM_point_0.2.2.2.2.2.2.2.2.2.2.2.2.2.2.2.2.2.2.2.2.2.2.2.1
theorem d_CM_point_46 : decode prog_1_method_7_code 46 = .ok (.ireturn, 1) := F_CM_point_0.2.2.2.2.2.2.2.2.2.2.2.2.2.2.2.2.2.2.2.2.2.2.2.2.1
theorem F_MD_feed_0 : Jvm.Free.DS.Facts prog_12_method_3_code 0 [(.aload_n 0, 1), (.iconst 0, 1), (.putfield 74, 3), (.aload_n 0, 1), (.getfield 77, 3), (.sipush (880), 3), (.if_icmp .le (5), 3), (.iconst (-1), 1), (.ireturn, 1), (.iconst 0, 1), (.istore 6, 2), (.iload 6, 2), (.bipush (20), 2), (.if_icmp .ge (86), 3), (.iload 6, 2), (.iconst 4, 1), (.if_icmp .ge (7), 3), (.iload_n 1, 1), (.goto (39), 3), (.iload 6, 2), (.bipush (8), 2), (.if_icmp .ge (7), 3), (.iload_n 2, 1), (.goto (28), 3), (.iload 6, 2), (.bipush (12), 2), (.if_icmp .ge (7), 3), (.iload_n 3, 1), (.goto (17), 3), (.iload 6, 2), (.bipush (16), 2), (.if_icmp .ge (8), 3)] := Jvm.Free.DS.facts 0 _ (by decide +kernel) (by decide +kernel)
theorem d_MD_feed_0 : decode prog_12_method_3_code 0 = .ok (.aload_n 0, 1) := F_MD_feed_0.1
theorem d_MD_feed_1 : decode prog_12_method_3_code 1 = .ok (.iconst 0, 1) := F_MD_feed_0.2.1
theorem d_MD_feed_2 : decode prog_12_method_3_code 2 = .ok (.putfield 74, 3) := F_MD_feed_0.2.2.1
theorem d_MD_feed_5 : decode prog_12_method_3_code 5 = .ok (.aload_n 0, 1) := F_MD_feed_0.2.2.2.1
theorem d_MD_feed_6 : decode prog_12_method_3_code 6 = .ok (.getfield 77, 3) := F_MD_feed_0.2.2.2.2.1
theorem d_MD_feed_9 : decode prog_12_method_3_code 9 = .ok (.sipush (880), 3) := F_MD_feed_0.2.2.2.2.2.1
theorem d_MD_feed_12 : decode prog_12_method_3_code 12 = .ok (.if_icmp .le (5), 3) := F_MD_feed_0.2.2.2.2.2.2.1
theorem d_MD_feed_15 : decode prog_12_method_3_code 15 = .ok (.iconst (-1), 1) := F_MD_feed_0.2.2.2.2.2.2.2.1
theorem d_MD_feed_16 : decode prog_12_method_3_code 16 = .ok (.ireturn, 1) := F_MD_feed_0.2.2.2.2.2.2.2.2.1
theorem d_MD_feed_17 : decode prog_12_method_3_code 17 = .ok (.iconst 0, 1) := F_MD_feed_0.2.2.2.2.2.2.2.2.2.1
theorem d_MD_feed_18 : decode prog_12_method_3_code 18 = .ok (.istore 6, 2) := F_MD_feed_0.2.2.2.2.2.2.2.2.2.2.1
theorem d_MD_feed_20 : decode prog_12_method_3_code 20 = .ok (.iload 6, 2) := F_MD_feed_0.2.2.2.2.2.2.2.2.2.2.2.1
theorem d_MD_feed_22 : decode prog_12_method_3_code 22 = .ok (.bipush (20), 2) := F_MD_feed_0.2.2.2.2.2.2.2.2.2.2.2.2.1
theorem d_MD_feed_24 : decode prog_12_method_3_code 24 = .ok (.if_icmp .ge (86), 3) := F_MD_feed_0.2.2.2.2.2.2.2.2.2.2.2.2.2.1
theorem d_MD_feed_27 : decode prog_12_method_3_code 27 = .ok (.iload 6, 2) := F_MD_feed_0.2.2.2.2.2.2.2.2.2.2.2.2.2.2.1
theorem d_MD_feed_29 : decode prog_12_method_3_code 29 = .ok (.iconst 4, 1) := F_MD_feed_0.2.2.2.2.2.2.2.2.2.2.2.2.2.2.2.1
theorem d_MD_feed_30 : decode prog_12_method_3_code 30 = .ok (.if_icmp .ge (7), 3) := F_MD_feed_0.2.2.2.2.2.2.2.2.2.2.2.2.2.2.2.2.1
theorem d_MD_feed_33 : decode prog_12_method_3_code 33 = .ok (.iload_n 1, 1) := F_MD_feed_0.2.2.2.2.2.2.2.2.2.2.2.2.2.2.2.2.2.1
theorem d_MD_feed_34 : decode prog_12_method_3_code 34 = .ok (.goto (39), 3) := F_MD_feed_0.2.2.2.2.2.2.2.2.2.2.2.2.2.2.2.2.2.2.1
theorem d_MD_feed_37 : decode prog_12_method_3_code 37 = .ok (.iload 6, 2) := F_MD_feed_0.2.2.2.2.2.2.2.2.2.2.2.2.2.2.2.2.2.2.2.1
theorem d_MD_feed_39 : decode prog_12_method_3_code 39 = .ok (.bipush (8), 2) := F_MD_feed_0.2.2.2.2.2.2.2.2.2.2.2.2.2.2.2.2.2.2.2.2.1
theorem d_MD_feed_41 : decode prog_12_method_3_code 41 = .ok (.if_icmp .ge (7), 3) := F_MD_feed_0.2.2.2.2.2.2.2.2.2.2.2.2.2.2.2.2.2.2.2.2.2.1
theorem d_MD_feed_44 : decode prog_12_method_3_code 44 = .ok (.iload_n 2, 1) := F_MD_feed_0.2.2.2.2.2.2.2.2.2.2.2.2.2.2.2.2.2.2.2.2.2.2.1
theorem d_MD_feed_45 : decode prog_12_method_3_code 45 = .ok (.goto (28), 3) := F_MD_feed_0.2.2.2.2.2.2.2.2.2.2.2.2.2.2.2.2.2.2.2.2.2.2.2.1
theorem d_MD_feed_48 : decode prog_12_method_3_code 48 = .ok (.iload 6, 2) := F_MD_feed_0.2.2.2.2.2.2.2.2.2.2.2.2.2.2.2.2.2.2.2.2.2.2.2.2.1
theorem d_MD_feed_50 : decode prog_12_method_3_code 50 = .ok (.bipush (12), 2) := F_MD_feed_0.2.2.2.2.2.2.2.2.2.2.2.2.2.2.2.2.2.2.2.2.2.2.2.2.2.1
theorem d_MD_feed_52 : decode prog_12_method_3_code 52 = .ok (.if_icmp .ge (7), 3) := F_MD_feed_0.2.2.2.2.2.2.2.2.2.2.2.2.2.2.2.2.2.2.2.2.2.2.2.2.2.2.1
theorem d_MD_feed_55 : decode prog_12_method_3_code 55 = .ok (.iload_n 3, 1) := F_MD_feed_0.2.2.2.2.2.2.2.2.2.2.2.2.2.2.2.2.2.2.2.2.2.2.2.2.2.2.2.1
theorem d_MD_feed_56 : decode prog_12_method_3_code 56 = .ok (.goto (17), 3) := F_MD_feed_0.2.2.2.2.2.2.2.2.2.2.2.2.2.2.2.2.2.2.2.2.2.2.2.2.2.2.2.2.1
theorem d_MD_feed_59 : decode prog_12_method_3_code 59 = .ok (.iload 6, 2) := F_MD_feed_0.2.2.2.2.2.2.2.2.2.2.2.2.2.2.2.2.2.2.2.2.2.2.2.2.2.2.2.2.2.1
theorem d_MD_feed_61 : decode prog_12_method_3_code 61 = .ok (.bipush (16), 2) := F_MD_feed_0.2.2.2.2.2.2.2.2.2.2.2.2.2.2.2.2.2.2.2.2.2.2.2.2.2.2.2.2.2.2.1
theorem d_MD_feed_63 : decode prog_12_method_3_code 63 = .ok (.if_icmp .ge (8), 3) := F_MD_feed_0.2.2.2.2.2.2.2.2.2.2.2.2.2.2.2.2.2.2.2.2.2.2.2.2.2.2.2.2.2.2.2.1
theorem F_MD_feed_66 : Jvm.Free.DS.Facts prog_12_method_3_code 66 [(.iload 4, 2), (.goto (5), 3), (.iload 5, 2), (.istore 7, 2), (.aload_n 0, 1), (.getfield 9, 3), (.aload_n 0, 1), (.getfield 77, 3), (.iload 6, 2), (.iadd, 1), (.iload 7, 2), (.bipush (24), 2), (.bipush (8), 2), (.iload 6, 2), (.iconst 4, 1), (.irem, 1), (.imul, 1), (.isub, 1), (.ishr, 1), (.sipush (255), 3), (.iand, 1), (.iastore, 1), (.iinc 6 (1), 3), (.goto (-87), 3), (.aload_n 0, 1), (.dup, 1), (.getfield 77, 3), (.bipush (20), 2), (.iadd, 1), (.putfield 77, 3), (.aload_n 0, 1), (.getfield 77, 3)] := Jvm.Free.DS.facts 66 _ (by decide +kernel) (by decide +kernel)
theorem d_MD_feed_66 : decode prog_12_method_3_code 66 = .ok (.iload 4, 2) := F_MD_feed_66.1
theorem d_MD_feed_68 : decode prog_12_method_3_code 68 = .ok (.goto (5), 3) := F_MD_feed_66.2.1
theorem d_MD_feed_71 : decode prog_12_method_3_code 71 = .ok (.iload 5, 2) := F_MD_feed_66.2.2.1
theorem d_MD_feed_73 : decode prog_12_method_3_code 73 = .ok (.istore 7, 2) := F_MD_feed_66.2.2.2.1
theorem d_MD_feed_75 : decode prog_12_method_3_code 75 = .ok (.aload_n 0, 1) := F_MD_feed_66.2.2.2.2.1
theorem d_MD_feed_76 : decode prog_12_method_3_code 76 = .ok (.getfield 9, 3) := F_MD_feed_66.2.2.2.2.2.1
theorem d_MD_feed_79 : decode prog_12_method_3_code 79 = .ok (.aload_n 0, 1) := F_MD_feed_66.2.2.2.2.2.2.1
theorem d_MD_feed_80 : decode prog_12_method_3_code 80 = .ok (.getfield 77, 3) := F_MD_feed_66.2.2.2.2.2.2.2.1
theorem d_MD_feed_83 : decode prog_12_method_3_code 83 = .ok (.iload 6, 2) := F_MD_feed_66.2.2.2.2.2.2.2.2.1
theorem d_MD_feed_85 : decode prog_12_method_3_code 85 = .ok (.iadd, 1) := F_MD_feed_66.2.2.2.2.2.2.2.2.2.1
theorem d_MD_feed_86 : decode prog_12_method_3_code 86 = .ok (.iload 7, 2) := F_MD_feed_66.2.2.2.2.2.2.2.2.2.2.1
theorem d_MD_feed_88 : decode prog_12_method_3_code 88 = .ok (.bipush (24), 2) := F_MD_feed_66.2.2.2.2.2.2.2.2.2.2.2.1
theorem d_MD_feed_90 : decode prog_12_method_3_code 90 = .ok (.bipush (8), 2) := F_MD_feed_66.2.2.2.2.2.2.2.2.2.2.2.2.1
theorem d_MD_feed_92 : decode prog_12_method_3_code 92 = .ok (.iload 6, 2) := F_MD_feed_66.2.2.2.2.2.2.2.2.2.2.2.2.2.1
theorem d_MD_feed_94 : decode prog_12_method_3_code 94 = .ok (.iconst 4, 1) := F_MD_feed_66.2.2.2.2.2.2.2.2.2.2.2.2.2.2.1
theorem d_MD_feed_95 : decode prog_12_method_3_code 95 = .ok (.irem, 1) := F_MD_feed_66.2.2.2.2.2.2.2.2.2.2.2.2.2.2.2.1
theorem d_MD_feed_96 : decode prog_12_method_3_code 96 = .ok (.imul, 1) := F_MD_feed_66.2.2.2.2.2.2.2.2.2.2.2.2.2.2.2.2.1
theorem d_MD_feed_97 : decode prog_12_method_3_code 97 = .ok (.isub, 1) := F_MD_feed_66.2.2.2.2.2.2.2.2.2.2.2.2.2.2.2.2.2.1
theorem d_MD_feed_98 : decode prog_12_method_3_code 98 = .ok (.ishr, 1) := F_MD_feed_66.2.2.2.2.2.2.2.2.2.2.2.2.2.2.2.2.2.2.1
theorem d_MD_feed_99 : decode prog_12_method_3_code 99 = .ok (.sipush (255), 3) := F_MD_feed_66.2.2.2.2.2.2.2.2.2.2.2.2.2.2.2.2.2.2.2.1
theorem d_MD_feed_102 : decode prog_12_method_3_code 102 = .ok (.iand, 1) := F_MD_feed_66.2.2.2.2.2.2.2.2.2.2.2.2.2.2.2.2.2.2.2.2.1
theorem d_MD_feed_103 : decode prog_12_method_3_code 103 = .ok (.iastore, 1) := F_MD_feed_66.2.2.2.2.2.2.2.2.2.2.2.2.2.2.2.2.2.2.2.2.2.1
theorem d_MD_feed_104 : decode prog_12_method_3_code 104 = .ok (.iinc 6 (1), 3) := F_MD_feed_66.2.2.2.2.2.2.2.2.2.2.2.2.2.2.2.2.2.2.2.2.2.2.1
theorem d_MD_feed_107 : decode prog_12_method_3_code 107 = .ok (.goto (-87), 3) := F_MD_feed_66.2.2.2.2.2.2.2.2.2.2.2.2.2.2.2.2.2.2.2.2.2.2.2.1
theorem d_MD_feed_110 : decode prog_12_method_3_code 110 = .ok (.aload_n 0, 1) := F_MD_feed_66.2.2.2.2.2.2.2.2.2.2.2.2.2.2.2.2.2.2.2.2.2.2.2.2.1
theorem d_MD_feed_111 : decode prog_12_method_3_code 111 = .ok (.dup, 1) := F_MD_feed_66.2.2.2.2.2.2.2.2.2.2.2.2.2.2.2.2.2.2.2.2.2.2.2.2.2.1
theorem d_MD_feed_112 : decode prog_12_method_3_code 112 = .ok (.getfield 77, 3) := F_MD_feed_66.2.2.2.2.2.2.2.2.2.2.2.2.2.2.2.2.2.2.2.2.2.2.2.2.2.2.1
theorem d_MD_feed_115 : decode prog_12_method_3_code 115 = .ok (.bipush (20), 2) := F_MD_feed_66.2.2.2.2.2.2.2.2.2.2.2.2.2.2.2.2.2.2.2.2.2.2.2.2.2.2.2.1
theorem d_MD_feed_117 : decode prog_12_method_3_code 117 = .ok (.iadd, 1) := F_MD_feed_66.2.2.2.2.2.2.2.2.2.2.2.2.2.2.2.2.2.2.2.2.2.2.2.2.2.2.2.2.1
theorem d_MD_feed_118 : decode prog_12_method_3_code 118 = .ok (.putfield 77, 3) := F_MD_feed_66.2.2.2.2.2.2.2.2.2.2.2.2.2.2.2.2.2.2.2.2.2.2.2.2.2.2.2.2.2.1
theorem d_MD_feed_121 : decode prog_12_method_3_code 121 = .ok (.aload_n 0, 1) := F_MD_feed_66.2.2.2.2.2.2.2.2.2.2.2.2.2.2.2.2.2.2.2.2.2.2.2.2.2.2.2.2.2.2.1
theorem d_MD_feed_122 : decode prog_12_method_3_code 122 = .ok (.getfield 77, 3) := F_MD_feed_66.2.2.2.2.2.2.2.2.2.2.2.2.2.2.2.2.2.2.2.2.2.2.2.2.2.2.2.2.2.2.2.1
theorem F_MD_feed_125 : Jvm.Free.DS.Facts prog_12_method_3_code 125 [(.ireturn, 1)] := Jvm.Free.DS.facts 125 _ (by decide +kernel) (by decide +kernel)
theorem d_MD_feed_125 : decode prog_12_method_3_code 125 = .ok (.ireturn, 1) := F_MD_feed_125.1
theorem F_MD_text_0 : Jvm.Free.DS.Facts prog_12_method_21_code 0 [(.aload_n 0, 1), (.iconst 0, 1), (.putfield 74, 3), (.iload_n 1, 1), (.ifCond .lt (11), 3), (.iload_n 1, 1), (.aload_n 0, 1), (.getfield 77, 3), (.if_icmp .le (6), 3), (.bipush (-2), 2), (.ireturn, 1), (.iconst 0, 1), (.istore_n 2, 1), (.iload_n 2, 1), (.sipush (170), 3), (.if_icmp .ge (16), 3), (.aload_n 0, 1), (.getfield 25, 3), (.iload_n 2, 1), (.lconst 0, 1), (.lastore, 1), (.iinc 2 (1), 3), (.goto (-17), 3), (.aload_n 0, 1), (.iconst 0, 1), (.putfield 144, 3), (.aload_n 0, 1), (.iconst 0, 1), (.putfield 195, 3), (.aload_n 0, 1), (.iload_n 1, 1), (.putfield 83, 3)] := Jvm.Free.DS.facts 0 _ (by decide +kernel) (by decide +kernel)
theorem d_MD_text_0 : decode prog_12_method_21_code 0 = .ok (.aload_n 0, 1) := F_MD_text_0.1
theorem d_MD_text_1 : decode prog_12_method_21_code 1 = .ok (.iconst 0, 1) := F_MD_text_0.2.1
theorem d_MD_text_2 : decode prog_12_method_21_code 2 = .ok (.putfield 74, 3) := F_MD_text_0.2.2.1
theorem d_MD_text_5 : decode prog_12_method_21_code 5 = .ok (.iload_n 1, 1) := F_MD_text_0.2.2.2.1
theorem d_MD_text_6 : decode prog_12_method_21_code 6 = .ok (.ifCond .lt (11), 3) := F_MD_text_0.2.2.2.2.1
theorem d_MD_text_9 : decode prog_12_method_21_code 9 = .ok (.iload_n 1, 1) := F_MD_text_0.2.2.2.2.2.1
theorem d_MD_text_10 : decode prog_12_method_21_code 10 = .ok (.aload_n 0, 1) := F_MD_text_0.2.2.2.2.2.2.1
theorem d_MD_text_11 : decode prog_12_method_21_code 11 = .ok (.getfield 77, 3) := F_MD_text_0.2.2.2.2.2.2.2.1
theorem d_MD_text_14 : decode prog_12_method_21_code 14 = .ok (.if_icmp .le (6), 3) := F_MD_text_0.2.2.2.2.2.2.2.2.1
theorem d_MD_text_17 : decode prog_12_method_21_code 17 = .ok (.bipush (-2), 2) := F_MD_text_0.2.2.2.2.2.2.2.2.2.1
theorem d_MD_text_19 : decode prog_12_method_21_code 19 = .ok (.ireturn, 1) := F_MD_text_0.2.2.2.2.2.2.2.2.2.2.1
theorem d_MD_text_20 : decode prog_12_method_21_code 20 = .ok (.iconst 0, 1) := F_MD_text_0.2.2.2.2.2.2.2.2.2.2.2.1
theorem d_MD_text_21 : decode prog_12_method_21_code 21 = .ok (.istore_n 2, 1) := F_MD_text_0.2.2.2.2.2.2.2.2.2.2.2.2.1
theorem d_MD_text_22 : decode prog_12_method_21_code 22 = .ok (.iload_n 2, 1) := F_MD_text_0.2.2.2.2.2.2.2.2.2.2.2.2.2.1
theorem d_MD_text_23 : decode prog_12_method_21_code 23 = .ok (.sipush (170), 3) := F_MD_text_0.2.2.2.2.2.2.2.2.2.2.2.2.2.2.1
theorem d_MD_text_26 : decode prog_12_method_21_code 26 = .ok (.if_icmp .ge (16), 3) := F_MD_text_0.2.2.2.2.2.2.2.2.2.2.2.2.2.2.2.1
theorem d_MD_text_29 : decode prog_12_method_21_code 29 = .ok (.aload_n 0, 1) := F_MD_text_0.2.2.2.2.2.2.2.2.2.2.2.2.2.2.2.2.1
theorem d_MD_text_30 : decode prog_12_method_21_code 30 = .ok (.getfield 25, 3) := F_MD_text_0.2.2.2.2.2.2.2.2.2.2.2.2.2.2.2.2.2.1
theorem d_MD_text_33 : decode prog_12_method_21_code 33 = .ok (.iload_n 2, 1) := F_MD_text_0.2.2.2.2.2.2.2.2.2.2.2.2.2.2.2.2.2.2.1
theorem d_MD_text_34 : decode prog_12_method_21_code 34 = .ok (.lconst 0, 1) := F_MD_text_0.2.2.2.2.2.2.2.2.2.2.2.2.2.2.2.2.2.2.2.1
theorem d_MD_text_35 : decode prog_12_method_21_code 35 = .ok (.lastore, 1) := F_MD_text_0.2.2.2.2.2.2.2.2.2.2.2.2.2.2.2.2.2.2.2.2.1
theorem d_MD_text_36 : decode prog_12_method_21_code 36 = .ok (.iinc 2 (1), 3) := F_MD_text_0.2.2.2.2.2.2.2.2.2.2.2.2.2.2.2.2.2.2.2.2.2.1
theorem d_MD_text_39 : decode prog_12_method_21_code 39 = .ok (.goto (-17), 3) := F_MD_text_0.2.2.2.2.2.2.2.2.2.2.2.2.2.2.2.2.2.2.2.2.2.2.1
theorem d_MD_text_42 : decode prog_12_method_21_code 42 = .ok (.aload_n 0, 1) := F_MD_text_0.2.2.2.2.2.2.2.2.2.2.2.2.2.2.2.2.2.2.2.2.2.2.2.1
theorem d_MD_text_43 : decode prog_12_method_21_code 43 = .ok (.iconst 0, 1) := F_MD_text_0.2.2.2.2.2.2.2.2.2.2.2.2.2.2.2.2.2.2.2.2.2.2.2.2.1
theorem d_MD_text_44 : decode prog_12_method_21_code 44 = .ok (.putfield 144, 3) := F_MD_text_0.2.2.2.2.2.2.2.2.2.2.2.2.2.2.2.2.2.2.2.2.2.2.2.2.2.1
theorem d_MD_text_47 : decode prog_12_method_21_code 47 = .ok (.aload_n 0, 1) := F_MD_text_0.2.2.2.2.2.2.2.2.2.2.2.2.2.2.2.2.2.2.2.2.2.2.2.2.2.2.1
theorem d_MD_text_48 : decode prog_12_method_21_code 48 = .ok (.iconst 0, 1) := F_MD_text_0.2.2.2.2.2.2.2.2.2.2.2.2.2.2.2.2.2.2.2.2.2.2.2.2.2.2.2.1
theorem d_MD_text_49 : decode prog_12_method_21_code 49 = .ok (.putfield 195, 3) := F_MD_text_0.2.2.2.2.2.2.2.2.2.2.2.2.2.2.2.2.2.2.2.2.2.2.2.2.2.2.2.2.1
theorem d_MD_text_52 : decode prog_12_method_21_code 52 = .ok (.aload_n 0, 1) := F_MD_text_0.2.2.2.2.2.2.2.2.2.2.2.2.2.2.2.2.2.2.2.2.2.2.2.2.2.2.2.2.2.1
theorem d_MD_text_53 : decode prog_12_method_21_code 53 = .ok (.iload_n 1, 1) := F_MD_text_0.2.2.2.2.2.2.2.2.2.2.2.2.2.2.2.2.2.2.2.2.2.2.2.2.2.2.2.2.2.2.1
theorem d_MD_text_54 : decode prog_12_method_21_code 54 = .ok (.putfield 83, 3) := F_MD_text_0.2.2.2.2.2.2.2.2.2.2.2.2.2.2.2.2.2.2.2.2.2.2.2.2.2.2.2.2.2.2.2.1
theorem F_MD_text_57 : Jvm.Free.DS.Facts prog_12_method_21_code 57 [(.aload_n 0, 1), (.iconst 0, 1), (.putfield 80, 3), (.aload_n 0, 1), (.iconst 0, 1), (.putfield 124, 3), (.aload_n 0, 1), (.invokevirtual 134, 3), (.aload_n 0, 1), (.getfield 124, 3), (.ifCond .ne (18), 3), (.aload_n 0, 1), (.getfield 93, 3), (.iconst 3, 1), (.if_icmp .eq (10), 3), (.aload_n 0, 1), (.invokevirtual 198, 3), (.goto (-19), 3), (.aload_n 0, 1), (.iconst 0, 1), (.putfield 77, 3), (.aload_n 0, 1), (.aload_n 0, 1), (.getfield 124, 3), (.putfield 201, 3), (.aload_n 0, 1), (.aload_n 0, 1), (.getfield 124, 3), (.ifCond .ne (7), 3), (.iconst (-1), 1), (.goto (7), 3), (.aload_n 0, 1)] := Jvm.Free.DS.facts 57 _ (by decide +kernel) (by decide +kernel)
theorem d_MD_text_57 : decode prog_12_method_21_code 57 = .ok (.aload_n 0, 1) := F_MD_text_57.1
theorem d_MD_text_58 : decode prog_12_method_21_code 58 = .ok (.iconst 0, 1) := F_MD_text_57.2.1
theorem d_MD_text_59 : decode prog_12_method_21_code 59 = .ok (.putfield 80, 3) := F_MD_text_57.2.2.1
theorem d_MD_text_62 : decode prog_12_method_21_code 62 = .ok (.aload_n 0, 1) := F_MD_text_57.2.2.2.1
theorem d_MD_text_63 : decode prog_12_method_21_code 63 = .ok (.iconst 0, 1) := F_MD_text_57.2.2.2.2.1
theorem d_MD_text_64 : decode prog_12_method_21_code 64 = .ok (.putfield 124, 3) := F_MD_text_57.2.2.2.2.2.1
theorem d_MD_text_67 : decode prog_12_method_21_code 67 = .ok (.aload_n 0, 1) := F_MD_text_57.2.2.2.2.2.2.1
theorem d_MD_text_68 : decode prog_12_method_21_code 68 = .ok (.invokevirtual 134, 3) := F_MD_text_57.2.2.2.2.2.2.2.1
theorem d_MD_text_71 : decode prog_12_method_21_code 71 = .ok (.aload_n 0, 1) := F_MD_text_57.2.2.2.2.2.2.2.2.1
theorem d_MD_text_72 : decode prog_12_method_21_code 72 = .ok (.getfield 124, 3) := F_MD_text_57.2.2.2.2.2.2.2.2.2.1
theorem d_MD_text_75 : decode prog_12_method_21_code 75 = .ok (.ifCond .ne (18), 3) := F_MD_text_57.2.2.2.2.2.2.2.2.2.2.1
theorem d_MD_text_78 : decode prog_12_method_21_code 78 = .ok (.aload_n 0, 1) := F_MD_text_57.2.2.2.2.2.2.2.2.2.2.2.1
theorem d_MD_text_79 : decode prog_12_method_21_code 79 = .ok (.getfield 93, 3) := F_MD_text_57.2.2.2.2.2.2.2.2.2.2.2.2.1
theorem d_MD_text_82 : decode prog_12_method_21_code 82 = .ok (.iconst 3, 1) := F_MD_text_57.2.2.2.2.2.2.2.2.2.2.2.2.2.1
theorem d_MD_text_83 : decode prog_12_method_21_code 83 = .ok (.if_icmp .eq (10), 3) := F_MD_text_57.2.2.2.2.2.2.2.2.2.2.2.2.2.2.1
theorem d_MD_text_86 : decode prog_12_method_21_code 86 = .ok (.aload_n 0, 1) := F_MD_text_57.2.2.2.2.2.2.2.2.2.2.2.2.2.2.2.1
theorem d_MD_text_87 : decode prog_12_method_21_code 87 = .ok (.invokevirtual 198, 3) := F_MD_text_57.2.2.2.2.2.2.2.2.2.2.2.2.2.2.2.2.1
theorem d_MD_text_90 : decode prog_12_method_21_code 90 = .ok (.goto (-19), 3) := F_MD_text_57.2.2.2.2.2.2.2.2.2.2.2.2.2.2.2.2.2.1
theorem d_MD_text_93 : decode prog_12_method_21_code 93 = .ok (.aload_n 0, 1) := F_MD_text_57.2.2.2.2.2.2.2.2.2.2.2.2.2.2.2.2.2.2.1
theorem d_MD_text_94 : decode prog_12_method_21_code 94 = .ok (.iconst 0, 1) := F_MD_text_57.2.2.2.2.2.2.2.2.2.2.2.2.2.2.2.2.2.2.2.1
theorem d_MD_text_95 : decode prog_12_method_21_code 95 = .ok (.putfield 77, 3) := F_MD_text_57.2.2.2.2.2.2.2.2.2.2.2.2.2.2.2.2.2.2.2.2.1
theorem d_MD_text_98 : decode prog_12_method_21_code 98 = .ok (.aload_n 0, 1) := F_MD_text_57.2.2.2.2.2.2.2.2.2.2.2.2.2.2.2.2.2.2.2.2.2.1
theorem d_MD_text_99 : decode prog_12_method_21_code 99 = .ok (.aload_n 0, 1) := F_MD_text_57.2.2.2.2.2.2.2.2.2.2.2.2.2.2.2.2.2.2.2.2.2.2.1
theorem d_MD_text_100 : decode prog_12_method_21_code 100 = .ok (.getfield 124, 3) := F_MD_text_57.2.2.2.2.2.2.2.2.2.2.2.2.2.2.2.2.2.2.2.2.2.2.2.1
theorem d_MD_text_103 : decode prog_12_method_21_code 103 = .ok (.putfield 201, 3) := F_MD_text_57.2.2.2.2.2.2.2.2.2.2.2.2.2.2.2.2.2.2.2.2.2.2.2.2.1
theorem d_MD_text_106 : decode prog_12_method_21_code 106 = .ok (.aload_n 0, 1) := F_MD_text_57.2.2.2.2.2.2.2.2.2.2.2.2.2.2.2.2.2.2.2.2.2.2.2.2.2.1
theorem d_MD_text_107 : decode prog_12_method_21_code 107 = .ok (.aload_n 0, 1) := F_MD_text_57.2.2.2.2.2.2.2.2.2.2.2.2.2.2.2.2.2.2.2.2.2.2.2.2.2.2.1
theorem d_MD_text_108 : decode prog_12_method_21_code 108 = .ok (.getfield 124, 3) := F_MD_text_57.2.2.2.2.2.2.2.2.2.2.2.2.2.2.2.2.2.2.2.2.2.2.2.2.2.2.2.1
theorem d_MD_text_111 : decode prog_12_method_21_code 111 = .ok (.ifCond .ne (7), 3) := F_MD_text_57.2.2.2.2.2.2.2.2.2.2.2.2.2.2.2.2.2.2.2.2.2.2.2.2.2.2.2.2.1
theorem d_MD_text_114 : decode prog_12_method_21_code 114 = .ok (.iconst (-1), 1) := F_MD_text_57.2.2.2.2.2.2.2.2.2.2.2.2.2.2.2.2.2.2.2.2.2.2.2.2.2.2.2.2.2.1
theorem d_MD_text_115 : decode prog_12_method_21_code 115 = .ok (.goto (7), 3) := F_MD_text_57.2.2.2.2.2.2.2.2.2.2.2.2.2.2.2.2.2.2.2.2.2.2.2.2.2.2.2.2.2.2.1
theorem d_MD_text_118 : decode prog_12_method_21_code 118 = .ok (.aload_n 0, 1) := F_MD_text_57.2.2.2.2.2.2.2.2.2.2.2.2.2.2.2.2.2.2.2.2.2.2.2.2.2.2.2.2.2.2.2.1
theorem F_MD_text_119 : Jvm.Free.DS.Facts prog_12_method_21_code 119 [(.getfield 127, 3), (.putfield 37, 3), (.aload_n 0, 1), (.getfield 124, 3), (.ifCond .eq (5), 3), (.iconst (-1), 1), (.ireturn, 1), (.iconst 0, 1), (.istore_n 2, 1), (.iload_n 2, 1), (.bipush (64), 2), (.if_icmp .ge (21), 3), (.aload_n 0, 1), (.getfield 15, 3), (.iload_n 2, 1), (.aload_n 0, 1), (.getfield 18, 3), (.iload_n 2, 1), (.iaload, 1), (.iastore, 1), (.iinc 2 (1), 3), (.goto (-21), 3), (.iconst 0, 1), (.istore_n 2, 1), (.iload_n 2, 1), (.sipush (170), 3), (.if_icmp .ge (21), 3), (.aload_n 0, 1), (.getfield 21, 3), (.iload_n 2, 1), (.aload_n 0, 1), (.getfield 25, 3)] := Jvm.Free.DS.facts 119 _ (by decide +kernel) (by decide +kernel)
theorem d_MD_text_119 : decode prog_12_method_21_code 119 = .ok (.getfield 127, 3) := F_MD_text_119.1
theorem d_MD_text_122 : decode prog_12_method_21_code 122 = .ok (.putfield 37, 3) := F_MD_text_119.2.1
theorem d_MD_text_125 : decode prog_12_method_21_code 125 = .ok (.aload_n 0, 1) := F_MD_text_119.2.2.1
theorem d_MD_text_126 : decode prog_12_method_21_code 126 = .ok (.getfield 124, 3) := F_MD_text_119.2.2.2.1
theorem d_MD_text_129 : decode prog_12_method_21_code 129 = .ok (.ifCond .eq (5), 3) := F_MD_text_119.2.2.2.2.1
theorem d_MD_text_132 : decode prog_12_method_21_code 132 = .ok (.iconst (-1), 1) := F_MD_text_119.2.2.2.2.2.1
theorem d_MD_text_133 : decode prog_12_method_21_code 133 = .ok (.ireturn, 1) := F_MD_text_119.2.2.2.2.2.2.1
theorem d_MD_text_134 : decode prog_12_method_21_code 134 = .ok (.iconst 0, 1) := F_MD_text_119.2.2.2.2.2.2.2.1
theorem d_MD_text_135 : decode prog_12_method_21_code 135 = .ok (.istore_n 2, 1) := F_MD_text_119.2.2.2.2.2.2.2.2.1
theorem d_MD_text_136 : decode prog_12_method_21_code 136 = .ok (.iload_n 2, 1) := F_MD_text_119.2.2.2.2.2.2.2.2.2.1
theorem d_MD_text_137 : decode prog_12_method_21_code 137 = .ok (.bipush (64), 2) := F_MD_text_119.2.2.2.2.2.2.2.2.2.2.1
theorem d_MD_text_139 : decode prog_12_method_21_code 139 = .ok (.if_icmp .ge (21), 3) := F_MD_text_119.2.2.2.2.2.2.2.2.2.2.2.1
theorem d_MD_text_142 : decode prog_12_method_21_code 142 = .ok (.aload_n 0, 1) := F_MD_text_119.2.2.2.2.2.2.2.2.2.2.2.2.1
theorem d_MD_text_143 : decode prog_12_method_21_code 143 = .ok (.getfield 15, 3) := F_MD_text_119.2.2.2.2.2.2.2.2.2.2.2.2.2.1
theorem d_MD_text_146 : decode prog_12_method_21_code 146 = .ok (.iload_n 2, 1) := F_MD_text_119.2.2.2.2.2.2.2.2.2.2.2.2.2.2.1
theorem d_MD_text_147 : decode prog_12_method_21_code 147 = .ok (.aload_n 0, 1) := F_MD_text_119.2.2.2.2.2.2.2.2.2.2.2.2.2.2.2.1
theorem d_MD_text_148 : decode prog_12_method_21_code 148 = .ok (.getfield 18, 3) := F_MD_text_119.2.2.2.2.2.2.2.2.2.2.2.2.2.2.2.2.1
theorem d_MD_text_151 : decode prog_12_method_21_code 151 = .ok (.iload_n 2, 1) := F_MD_text_119.2.2.2.2.2.2.2.2.2.2.2.2.2.2.2.2.2.1
theorem d_MD_text_152 : decode prog_12_method_21_code 152 = .ok (.iaload, 1) := F_MD_text_119.2.2.2.2.2.2.2.2.2.2.2.2.2.2.2.2.2.2.1
theorem d_MD_text_153 : decode prog_12_method_21_code 153 = .ok (.iastore, 1) := F_MD_text_119.2.2.2.2.2.2.2.2.2.2.2.2.2.2.2.2.2.2.2.1
theorem d_MD_text_154 : decode prog_12_method_21_code 154 = .ok (.iinc 2 (1), 3) := F_MD_text_119.2.2.2.2.2.2.2.2.2.2.2.2.2.2.2.2.2.2.2.2.1
theorem d_MD_text_157 : decode prog_12_method_21_code 157 = .ok (.goto (-21), 3) := F_MD_text_119.2.2.2.2.2.2.2.2.2.2.2.2.2.2.2.2.2.2.2.2.2.1
theorem d_MD_text_160 : decode prog_12_method_21_code 160 = .ok (.iconst 0, 1) := F_MD_text_119.2.2.2.2.2.2.2.2.2.2.2.2.2.2.2.2.2.2.2.2.2.2.1
theorem d_MD_text_161 : decode prog_12_method_21_code 161 = .ok (.istore_n 2, 1) := F_MD_text_119.2.2.2.2.2.2.2.2.2.2.2.2.2.2.2.2.2.2.2.2.2.2.2.1
theorem d_MD_text_162 : decode prog_12_method_21_code 162 = .ok (.iload_n 2, 1) := F_MD_text_119.2.2.2.2.2.2.2.2.2.2.2.2.2.2.2.2.2.2.2.2.2.2.2.2.1
theorem d_MD_text_163 : decode prog_12_method_21_code 163 = .ok (.sipush (170), 3) := F_MD_text_119.2.2.2.2.2.2.2.2.2.2.2.2.2.2.2.2.2.2.2.2.2.2.2.2.2.1
theorem d_MD_text_166 : decode prog_12_method_21_code 166 = .ok (.if_icmp .ge (21), 3) := F_MD_text_119.2.2.2.2.2.2.2.2.2.2.2.2.2.2.2.2.2.2.2.2.2.2.2.2.2.2.1
theorem d_MD_text_169 : decode prog_12_method_21_code 169 = .ok (.aload_n 0, 1) := F_MD_text_119.2.2.2.2.2.2.2.2.2.2.2.2.2.2.2.2.2.2.2.2.2.2.2.2.2.2.2.1
theorem d_MD_text_170 : decode prog_12_method_21_code 170 = .ok (.getfield 21, 3) := F_MD_text_119.2.2.2.2.2.2.2.2.2.2.2.2.2.2.2.2.2.2.2.2.2.2.2.2.2.2.2.2.1
theorem d_MD_text_173 : decode prog_12_method_21_code 173 = .ok (.iload_n 2, 1) := F_MD_text_119.2.2.2.2.2.2.2.2.2.2.2.2.2.2.2.2.2.2.2.2.2.2.2.2.2.2.2.2.2.1
theorem d_MD_text_174 : decode prog_12_method_21_code 174 = .ok (.aload_n 0, 1) := F_MD_text_119.2.2.2.2.2.2.2.2.2.2.2.2.2.2.2.2.2.2.2.2.2.2.2.2.2.2.2.2.2.2.1
theorem d_MD_text_175 : decode prog_12_method_21_code 175 = .ok (.getfield 25, 3) := F_MD_text_119.2.2.2.2.2.2.2.2.2.2.2.2.2.2.2.2.2.2.2.2.2.2.2.2.2.2.2.2.2.2.2.1
theorem F_MD_text_178 : Jvm.Free.DS.Facts prog_12_method_21_code 178 [(.iload_n 2, 1), (.laload, 1), (.lastore, 1), (.iinc 2 (1), 3), (.goto (-22), 3), (.aload_n 0, 1), (.aload_n 0, 1), (.getfield 144, 3), (.putfield 204, 3), (.aload_n 0, 1), (.aload_n 0, 1), (.getfield 195, 3), (.putfield 207, 3), (.aload_n 0, 1), (.iconst 0, 1), (.putfield 71, 3), (.aload_n 0, 1), (.getfield 207, 3), (.ireturn, 1)] := Jvm.Free.DS.facts 178 _ (by decide +kernel) (by decide +kernel)
theorem d_MD_text_178 : decode prog_12_method_21_code 178 = .ok (.iload_n 2, 1) := F_MD_text_178.1
theorem d_MD_text_179 : decode prog_12_method_21_code 179 = .ok (.laload, 1) := F_MD_text_178.2.1
theorem d_MD_text_180 : decode prog_12_method_21_code 180 = .ok (.lastore, 1) := F_MD_text_178.2.2.1
theorem d_MD_text_181 : decode prog_12_method_21_code 181 = .ok (.iinc 2 (1), 3) := F_MD_text_178.2.2.2.1
theorem d_MD_text_184 : decode prog_12_method_21_code 184 = .ok (.goto (-22), 3) := F_MD_text_178.2.2.2.2.1
theorem d_MD_text_187 : decode prog_12_method_21_code 187 = .ok (.aload_n 0, 1) := F_MD_text_178.2.2.2.2.2.1
theorem d_MD_text_188 : decode prog_12_method_21_code 188 = .ok (.aload_n 0, 1) := F_MD_text_178.2.2.2.2.2.2.1
theorem d_MD_text_189 : decode prog_12_method_21_code 189 = .ok (.getfield 144, 3) := F_MD_text_178.2.2.2.2.2.2.2.1
theorem d_MD_text_192 : decode prog_12_method_21_code 192 = .ok (.putfield 204, 3) := F_MD_text_178.2.2.2.2.2.2.2.2.1
theorem d_MD_text_195 : decode prog_12_method_21_code 195 = .ok (.aload_n 0, 1) := F_MD_text_178.2.2.2.2.2.2.2.2.2.1
theorem d_MD_text_196 : decode prog_12_method_21_code 196 = .ok (.aload_n 0, 1) := F_MD_text_178.2.2.2.2.2.2.2.2.2.2.1
theorem d_MD_text_197 : decode prog_12_method_21_code 197 = .ok (.getfield 195, 3) := F_MD_text_178.2.2.2.2.2.2.2.2.2.2.2.1
theorem d_MD_text_200 : decode prog_12_method_21_code 200 = .ok (.putfield 207, 3) := F_MD_text_178.2.2.2.2.2.2.2.2.2.2.2.2.1
theorem d_MD_text_203 : decode prog_12_method_21_code 203 = .ok (.aload_n 0, 1) := F_MD_text_178.2.2.2.2.2.2.2.2.2.2.2.2.2.1
theorem d_MD_text_204 : decode prog_12_method_21_code 204 = .ok (.iconst 0, 1) := F_MD_text_178.2.2.2.2.2.2.2.2.2.2.2.2.2.2.1
theorem d_MD_text_205 : decode prog_12_method_21_code 205 = .ok (.putfield 71, 3) := F_MD_text_178.2.2.2.2.2.2.2.2.2.2.2.2.2.2.2.1
theorem d_MD_text_208 : decode prog_12_method_21_code 208 = .ok (.aload_n 0, 1) := F_MD_text_178.2.2.2.2.2.2.2.2.2.2.2.2.2.2.2.2.1
theorem d_MD_text_209 : decode prog_12_method_21_code 209 = .ok (.getfield 207, 3) := F_MD_text_178.2.2.2.2.2.2.2.2.2.2.2.2.2.2.2.2.2.1
theorem d_MD_text_212 : decode prog_12_method_21_code 212 = .ok (.ireturn, 1) := F_MD_text_178.2.2.2.2.2.2.2.2.2.2.2.2.2.2.2.2.2.2.1
theorem F_MD_token_0 : Jvm.Free.DS.Facts prog_12_method_7_code 0 [(.aload_n 0, 1), (.invokevirtual 86, 3), (.bipush (10), 2), (.if_icmp .eq (12), 3), (.aload_n 0, 1), (.invokevirtual 86, 3), (.bipush (32), 2), (.if_icmp .ne (16), 3), (.aload_n 0, 1), (.dup, 1), (.getfield 80, 3), (.iconst 1, 1), (.iadd, 1), (.putfield 80, 3), (.goto (-28), 3), (.aload_n 0, 1), (.aload_n 0, 1), (.getfield 80, 3), (.putfield 90, 3), (.aload_n 0, 1), (.invokevirtual 86, 3), (.istore_n 1, 1), (.iload_n 1, 1), (.iconst (-1), 1), (.if_icmp .ne (11), 3), (.aload_n 0, 1), (.iconst 3, 1), (.putfield 93, 3), (.goto (216), 3), (.iload_n 1, 1), (.invokestatic 96, 3), (.ifCond .eq (99), 3)] := Jvm.Free.DS.facts 0 _ (by decide +kernel) (by decide +kernel)
theorem d_MD_token_0 : decode prog_12_method_7_code 0 = .ok (.aload_n 0, 1) := F_MD_token_0.1
theorem d_MD_token_1 : decode prog_12_method_7_code 1 = .ok (.invokevirtual 86, 3) := F_MD_token_0.2.1
theorem d_MD_token_4 : decode prog_12_method_7_code 4 = .ok (.bipush (10), 2) := F_MD_token_0.2.2.1
theorem d_MD_token_6 : decode prog_12_method_7_code 6 = .ok (.if_icmp .eq (12), 3) := F_MD_token_0.2.2.2.1
theorem d_MD_token_9 : decode prog_12_method_7_code 9 = .ok (.aload_n 0, 1) := F_MD_token_0.2.2.2.2.1
theorem d_MD_token_10 : decode prog_12_method_7_code 10 = .ok (.invokevirtual 86, 3) := F_MD_token_0.2.2.2.2.2.1
theorem d_MD_token_13 : decode prog_12_method_7_code 13 = .ok (.bipush (32), 2) := F_MD_token_0.2.2.2.2.2.2.1
theorem d_MD_token_15 : decode prog_12_method_7_code 15 = .ok (.if_icmp .ne (16), 3) := F_MD_token_0.2.2.2.2.2.2.2.1
theorem d_MD_token_18 : decode prog_12_method_7_code 18 = .ok (.aload_n 0, 1) := F_MD_token_0.2.2.2.2.2.2.2.2.1
theorem d_MD_token_19 : decode prog_12_method_7_code 19 = .ok (.dup, 1) := F_MD_token_0.2.2.2.2.2.2.2.2.2.1
theorem d_MD_token_20 : decode prog_12_method_7_code 20 = .ok (.getfield 80, 3) := F_MD_token_0.2.2.2.2.2.2.2.2.2.2.1
theorem d_MD_token_23 : decode prog_12_method_7_code 23 = .ok (.iconst 1, 1) := F_MD_token_0.2.2.2.2.2.2.2.2.2.2.2.1
theorem d_MD_token_24 : decode prog_12_method_7_code 24 = .ok (.iadd, 1) := F_MD_token_0.2.2.2.2.2.2.2.2.2.2.2.2.1
theorem d_MD_token_25 : decode prog_12_method_7_code 25 = .ok (.putfield 80, 3) := F_MD_token_0.2.2.2.2.2.2.2.2.2.2.2.2.2.1
theorem d_MD_token_28 : decode prog_12_method_7_code 28 = .ok (.goto (-28), 3) := F_MD_token_0.2.2.2.2.2.2.2.2.2.2.2.2.2.2.1
theorem d_MD_token_31 : decode prog_12_method_7_code 31 = .ok (.aload_n 0, 1) := F_MD_token_0.2.2.2.2.2.2.2.2.2.2.2.2.2.2.2.1
theorem d_MD_token_32 : decode prog_12_method_7_code 32 = .ok (.aload_n 0, 1) := F_MD_token_0.2.2.2.2.2.2.2.2.2.2.2.2.2.2.2.2.1
theorem d_MD_token_33 : decode prog_12_method_7_code 33 = .ok (.getfield 80, 3) := F_MD_token_0.2.2.2.2.2.2.2.2.2.2.2.2.2.2.2.2.2.1
theorem d_MD_token_36 : decode prog_12_method_7_code 36 = .ok (.putfield 90, 3) := F_MD_token_0.2.2.2.2.2.2.2.2.2.2.2.2.2.2.2.2.2.2.1
theorem d_MD_token_39 : decode prog_12_method_7_code 39 = .ok (.aload_n 0, 1) := F_MD_token_0.2.2.2.2.2.2.2.2.2.2.2.2.2.2.2.2.2.2.2.1
theorem d_MD_token_40 : decode prog_12_method_7_code 40 = .ok (.invokevirtual 86, 3) := F_MD_token_0.2.2.2.2.2.2.2.2.2.2.2.2.2.2.2.2.2.2.2.2.1
theorem d_MD_token_43 : decode prog_12_method_7_code 43 = .ok (.istore_n 1, 1) := F_MD_token_0.2.2.2.2.2.2.2.2.2.2.2.2.2.2.2.2.2.2.2.2.2.1
theorem d_MD_token_44 : decode prog_12_method_7_code 44 = .ok (.iload_n 1, 1) := F_MD_token_0.2.2.2.2.2.2.2.2.2.2.2.2.2.2.2.2.2.2.2.2.2.2.1
theorem d_MD_token_45 : decode prog_12_method_7_code 45 = .ok (.iconst (-1), 1) := F_MD_token_0.2.2.2.2.2.2.2.2.2.2.2.2.2.2.2.2.2.2.2.2.2.2.2.1
theorem d_MD_token_46 : decode prog_12_method_7_code 46 = .ok (.if_icmp .ne (11), 3) := F_MD_token_0.2.2.2.2.2.2.2.2.2.2.2.2.2.2.2.2.2.2.2.2.2.2.2.2.1
theorem d_MD_token_49 : decode prog_12_method_7_code 49 = .ok (.aload_n 0, 1) := F_MD_token_0.2.2.2.2.2.2.2.2.2.2.2.2.2.2.2.2.2.2.2.2.2.2.2.2.2.1
theorem d_MD_token_50 : decode prog_12_method_7_code 50 = .ok (.iconst 3, 1) := F_MD_token_0.2.2.2.2.2.2.2.2.2.2.2.2.2.2.2.2.2.2.2.2.2.2.2.2.2.2.1
theorem d_MD_token_51 : decode prog_12_method_7_code 51 = .ok (.putfield 93, 3) := F_MD_token_0.2.2.2.2.2.2.2.2.2.2.2.2.2.2.2.2.2.2.2.2.2.2.2.2.2.2.2.1
theorem d_MD_token_54 : decode prog_12_method_7_code 54 = .ok (.goto (216), 3) := F_MD_token_0.2.2.2.2.2.2.2.2.2.2.2.2.2.2.2.2.2.2.2.2.2.2.2.2.2.2.2.2.1
theorem d_MD_token_57 : decode prog_12_method_7_code 57 = .ok (.iload_n 1, 1) := F_MD_token_0.2.2.2.2.2.2.2.2.2.2.2.2.2.2.2.2.2.2.2.2.2.2.2.2.2.2.2.2.2.1
theorem d_MD_token_58 : decode prog_12_method_7_code 58 = .ok (.invokestatic 96, 3) := F_MD_token_0.2.2.2.2.2.2.2.2.2.2.2.2.2.2.2.2.2.2.2.2.2.2.2.2.2.2.2.2.2.2.1
theorem d_MD_token_61 : decode prog_12_method_7_code 61 = .ok (.ifCond .eq (99), 3) := F_MD_token_0.2.2.2.2.2.2.2.2.2.2.2.2.2.2.2.2.2.2.2.2.2.2.2.2.2.2.2.2.2.2.2.1
theorem F_MD_token_64 : Jvm.Free.DS.Facts prog_12_method_7_code 64 [(.aload_n 0, 1), (.iconst 0, 1), (.putfield 100, 3), (.aload_n 0, 1), (.invokevirtual 86, 3), (.invokestatic 96, 3), (.ifCond .eq (50), 3), (.aload_n 0, 1), (.getfield 80, 3), (.aload_n 0, 1), (.getfield 90, 3), (.isub, 1), (.bipush (6), 2), (.if_icmp .ge (23), 3), (.aload_n 0, 1), (.aload_n 0, 1), (.getfield 100, 3), (.iconst 5, 1), (.ishl, 1), (.aload_n 0, 1), (.invokevirtual 86, 3), (.bipush (97), 2), (.isub, 1), (.iconst 1, 1), (.iadd, 1), (.ior, 1), (.putfield 100, 3), (.aload_n 0, 1), (.dup, 1), (.getfield 80, 3), (.iconst 1, 1), (.iadd, 1)] := Jvm.Free.DS.facts 64 _ (by decide +kernel) (by decide +kernel)
theorem d_MD_token_64 : decode prog_12_method_7_code 64 = .ok (.aload_n 0, 1) := F_MD_token_64.1
theorem d_MD_token_65 : decode prog_12_method_7_code 65 = .ok (.iconst 0, 1) := F_MD_token_64.2.1
theorem d_MD_token_66 : decode prog_12_method_7_code 66 = .ok (.putfield 100, 3) := F_MD_token_64.2.2.1
theorem d_MD_token_69 : decode prog_12_method_7_code 69 = .ok (.aload_n 0, 1) := F_MD_token_64.2.2.2.1
theorem d_MD_token_70 : decode prog_12_method_7_code 70 = .ok (.invokevirtual 86, 3) := F_MD_token_64.2.2.2.2.1
theorem d_MD_token_73 : decode prog_12_method_7_code 73 = .ok (.invokestatic 96, 3) := F_MD_token_64.2.2.2.2.2.1
theorem d_MD_token_76 : decode prog_12_method_7_code 76 = .ok (.ifCond .eq (50), 3) := F_MD_token_64.2.2.2.2.2.2.1
theorem d_MD_token_79 : decode prog_12_method_7_code 79 = .ok (.aload_n 0, 1) := F_MD_token_64.2.2.2.2.2.2.2.1
theorem d_MD_token_80 : decode prog_12_method_7_code 80 = .ok (.getfield 80, 3) := F_MD_token_64.2.2.2.2.2.2.2.2.1
theorem d_MD_token_83 : decode prog_12_method_7_code 83 = .ok (.aload_n 0, 1) := F_MD_token_64.2.2.2.2.2.2.2.2.2.1
theorem d_MD_token_84 : decode prog_12_method_7_code 84 = .ok (.getfield 90, 3) := F_MD_token_64.2.2.2.2.2.2.2.2.2.2.1
theorem d_MD_token_87 : decode prog_12_method_7_code 87 = .ok (.isub, 1) := F_MD_token_64.2.2.2.2.2.2.2.2.2.2.2.1
theorem d_MD_token_88 : decode prog_12_method_7_code 88 = .ok (.bipush (6), 2) := F_MD_token_64.2.2.2.2.2.2.2.2.2.2.2.2.1
theorem d_MD_token_90 : decode prog_12_method_7_code 90 = .ok (.if_icmp .ge (23), 3) := F_MD_token_64.2.2.2.2.2.2.2.2.2.2.2.2.2.1
theorem d_MD_token_93 : decode prog_12_method_7_code 93 = .ok (.aload_n 0, 1) := F_MD_token_64.2.2.2.2.2.2.2.2.2.2.2.2.2.2.1
theorem d_MD_token_94 : decode prog_12_method_7_code 94 = .ok (.aload_n 0, 1) := F_MD_token_64.2.2.2.2.2.2.2.2.2.2.2.2.2.2.2.1
theorem d_MD_token_95 : decode prog_12_method_7_code 95 = .ok (.getfield 100, 3) := F_MD_token_64.2.2.2.2.2.2.2.2.2.2.2.2.2.2.2.2.1
theorem d_MD_token_98 : decode prog_12_method_7_code 98 = .ok (.iconst 5, 1) := F_MD_token_64.2.2.2.2.2.2.2.2.2.2.2.2.2.2.2.2.2.1
theorem d_MD_token_99 : decode prog_12_method_7_code 99 = .ok (.ishl, 1) := F_MD_token_64.2.2.2.2.2.2.2.2.2.2.2.2.2.2.2.2.2.2.1
theorem d_MD_token_100 : decode prog_12_method_7_code 100 = .ok (.aload_n 0, 1) := F_MD_token_64.2.2.2.2.2.2.2.2.2.2.2.2.2.2.2.2.2.2.2.1
theorem d_MD_token_101 : decode prog_12_method_7_code 101 = .ok (.invokevirtual 86, 3) := F_MD_token_64.2.2.2.2.2.2.2.2.2.2.2.2.2.2.2.2.2.2.2.2.1
theorem d_MD_token_104 : decode prog_12_method_7_code 104 = .ok (.bipush (97), 2) := F_MD_token_64.2.2.2.2.2.2.2.2.2.2.2.2.2.2.2.2.2.2.2.2.2.1
theorem d_MD_token_106 : decode prog_12_method_7_code 106 = .ok (.isub, 1) := F_MD_token_64.2.2.2.2.2.2.2.2.2.2.2.2.2.2.2.2.2.2.2.2.2.2.1
theorem d_MD_token_107 : decode prog_12_method_7_code 107 = .ok (.iconst 1, 1) := F_MD_token_64.2.2.2.2.2.2.2.2.2.2.2.2.2.2.2.2.2.2.2.2.2.2.2.1
theorem d_MD_token_108 : decode prog_12_method_7_code 108 = .ok (.iadd, 1) := F_MD_token_64.2.2.2.2.2.2.2.2.2.2.2.2.2.2.2.2.2.2.2.2.2.2.2.2.1
theorem d_MD_token_109 : decode prog_12_method_7_code 109 = .ok (.ior, 1) := F_MD_token_64.2.2.2.2.2.2.2.2.2.2.2.2.2.2.2.2.2.2.2.2.2.2.2.2.2.1
theorem d_MD_token_110 : decode prog_12_method_7_code 110 = .ok (.putfield 100, 3) := F_MD_token_64.2.2.2.2.2.2.2.2.2.2.2.2.2.2.2.2.2.2.2.2.2.2.2.2.2.2.1
theorem d_MD_token_113 : decode prog_12_method_7_code 113 = .ok (.aload_n 0, 1) := F_MD_token_64.2.2.2.2.2.2.2.2.2.2.2.2.2.2.2.2.2.2.2.2.2.2.2.2.2.2.2.1
theorem d_MD_token_114 : decode prog_12_method_7_code 114 = .ok (.dup, 1) := F_MD_token_64.2.2.2.2.2.2.2.2.2.2.2.2.2.2.2.2.2.2.2.2.2.2.2.2.2.2.2.2.1
theorem d_MD_token_115 : decode prog_12_method_7_code 115 = .ok (.getfield 80, 3) := F_MD_token_64.2.2.2.2.2.2.2.2.2.2.2.2.2.2.2.2.2.2.2.2.2.2.2.2.2.2.2.2.2.1
theorem d_MD_token_118 : decode prog_12_method_7_code 118 = .ok (.iconst 1, 1) := F_MD_token_64.2.2.2.2.2.2.2.2.2.2.2.2.2.2.2.2.2.2.2.2.2.2.2.2.2.2.2.2.2.2.1
theorem d_MD_token_119 : decode prog_12_method_7_code 119 = .ok (.iadd, 1) := F_MD_token_64.2.2.2.2.2.2.2.2.2.2.2.2.2.2.2.2.2.2.2.2.2.2.2.2.2.2.2.2.2.2.2.1
theorem F_MD_token_120 : Jvm.Free.DS.Facts prog_12_method_7_code 120 [(.putfield 80, 3), (.goto (-54), 3), (.aload_n 0, 1), (.aload_n 0, 1), (.getfield 80, 3), (.aload_n 0, 1), (.getfield 90, 3), (.isub, 1), (.bipush (6), 2), (.if_icmp .gt (7), 3), (.iconst 0, 1), (.goto (4), 3), (.iconst 4, 1), (.putfield 93, 3), (.aload_n 0, 1), (.aload_n 0, 1), (.invokevirtual 103, 3), (.putfield 106, 3), (.goto (113), 3), (.iload_n 1, 1), (.invokestatic 109, 3), (.ifCond .eq (71), 3), (.aload_n 0, 1), (.iconst 1, 1), (.putfield 93, 3), (.aload_n 0, 1), (.iconst 0, 1), (.putfield 106, 3), (.aload_n 0, 1), (.invokevirtual 86, 3), (.invokestatic 109, 3), (.ifCond .eq (86), 3)] := Jvm.Free.DS.facts 120 _ (by decide +kernel) (by decide +kernel)
theorem d_MD_token_120 : decode prog_12_method_7_code 120 = .ok (.putfield 80, 3) := F_MD_token_120.1
theorem d_MD_token_123 : decode prog_12_method_7_code 123 = .ok (.goto (-54), 3) := F_MD_token_120.2.1
theorem d_MD_token_126 : decode prog_12_method_7_code 126 = .ok (.aload_n 0, 1) := F_MD_token_120.2.2.1
theorem d_MD_token_127 : decode prog_12_method_7_code 127 = .ok (.aload_n 0, 1) := F_MD_token_120.2.2.2.1
theorem d_MD_token_128 : decode prog_12_method_7_code 128 = .ok (.getfield 80, 3) := F_MD_token_120.2.2.2.2.1
theorem d_MD_token_131 : decode prog_12_method_7_code 131 = .ok (.aload_n 0, 1) := F_MD_token_120.2.2.2.2.2.1
theorem d_MD_token_132 : decode prog_12_method_7_code 132 = .ok (.getfield 90, 3) := F_MD_token_120.2.2.2.2.2.2.1
theorem d_MD_token_135 : decode prog_12_method_7_code 135 = .ok (.isub, 1) := F_MD_token_120.2.2.2.2.2.2.2.1
theorem d_MD_token_136 : decode prog_12_method_7_code 136 = .ok (.bipush (6), 2) := F_MD_token_120.2.2.2.2.2.2.2.2.1
theorem d_MD_token_138 : decode prog_12_method_7_code 138 = .ok (.if_icmp .gt (7), 3) := F_MD_token_120.2.2.2.2.2.2.2.2.2.1
theorem d_MD_token_141 : decode prog_12_method_7_code 141 = .ok (.iconst 0, 1) := F_MD_token_120.2.2.2.2.2.2.2.2.2.2.1
theorem d_MD_token_142 : decode prog_12_method_7_code 142 = .ok (.goto (4), 3) := F_MD_token_120.2.2.2.2.2.2.2.2.2.2.2.1
theorem d_MD_token_145 : decode prog_12_method_7_code 145 = .ok (.iconst 4, 1) := F_MD_token_120.2.2.2.2.2.2.2.2.2.2.2.2.1
theorem d_MD_token_146 : decode prog_12_method_7_code 146 = .ok (.putfield 93, 3) := F_MD_token_120.2.2.2.2.2.2.2.2.2.2.2.2.2.1
theorem d_MD_token_149 : decode prog_12_method_7_code 149 = .ok (.aload_n 0, 1) := F_MD_token_120.2.2.2.2.2.2.2.2.2.2.2.2.2.2.1
theorem d_MD_token_150 : decode prog_12_method_7_code 150 = .ok (.aload_n 0, 1) := F_MD_token_120.2.2.2.2.2.2.2.2.2.2.2.2.2.2.2.1
theorem d_MD_token_151 : decode prog_12_method_7_code 151 = .ok (.invokevirtual 103, 3) := F_MD_token_120.2.2.2.2.2.2.2.2.2.2.2.2.2.2.2.2.1
theorem d_MD_token_154 : decode prog_12_method_7_code 154 = .ok (.putfield 106, 3) := F_MD_token_120.2.2.2.2.2.2.2.2.2.2.2.2.2.2.2.2.2.1
theorem d_MD_token_157 : decode prog_12_method_7_code 157 = .ok (.goto (113), 3) := F_MD_token_120.2.2.2.2.2.2.2.2.2.2.2.2.2.2.2.2.2.2.1
theorem d_MD_token_160 : decode prog_12_method_7_code 160 = .ok (.iload_n 1, 1) := F_MD_token_120.2.2.2.2.2.2.2.2.2.2.2.2.2.2.2.2.2.2.2.1
theorem d_MD_token_161 : decode prog_12_method_7_code 161 = .ok (.invokestatic 109, 3) := F_MD_token_120.2.2.2.2.2.2.2.2.2.2.2.2.2.2.2.2.2.2.2.2.1
theorem d_MD_token_164 : decode prog_12_method_7_code 164 = .ok (.ifCond .eq (71), 3) := F_MD_token_120.2.2.2.2.2.2.2.2.2.2.2.2.2.2.2.2.2.2.2.2.2.1
theorem d_MD_token_167 : decode prog_12_method_7_code 167 = .ok (.aload_n 0, 1) := F_MD_token_120.2.2.2.2.2.2.2.2.2.2.2.2.2.2.2.2.2.2.2.2.2.2.1
theorem d_MD_token_168 : decode prog_12_method_7_code 168 = .ok (.iconst 1, 1) := F_MD_token_120.2.2.2.2.2.2.2.2.2.2.2.2.2.2.2.2.2.2.2.2.2.2.2.1
theorem d_MD_token_169 : decode prog_12_method_7_code 169 = .ok (.putfield 93, 3) := F_MD_token_120.2.2.2.2.2.2.2.2.2.2.2.2.2.2.2.2.2.2.2.2.2.2.2.2.1
theorem d_MD_token_172 : decode prog_12_method_7_code 172 = .ok (.aload_n 0, 1) := F_MD_token_120.2.2.2.2.2.2.2.2.2.2.2.2.2.2.2.2.2.2.2.2.2.2.2.2.2.1
theorem d_MD_token_173 : decode prog_12_method_7_code 173 = .ok (.iconst 0, 1) := F_MD_token_120.2.2.2.2.2.2.2.2.2.2.2.2.2.2.2.2.2.2.2.2.2.2.2.2.2.2.1
theorem d_MD_token_174 : decode prog_12_method_7_code 174 = .ok (.putfield 106, 3) := F_MD_token_120.2.2.2.2.2.2.2.2.2.2.2.2.2.2.2.2.2.2.2.2.2.2.2.2.2.2.2.1
theorem d_MD_token_177 : decode prog_12_method_7_code 177 = .ok (.aload_n 0, 1) := F_MD_token_120.2.2.2.2.2.2.2.2.2.2.2.2.2.2.2.2.2.2.2.2.2.2.2.2.2.2.2.2.1
theorem d_MD_token_178 : decode prog_12_method_7_code 178 = .ok (.invokevirtual 86, 3) := F_MD_token_120.2.2.2.2.2.2.2.2.2.2.2.2.2.2.2.2.2.2.2.2.2.2.2.2.2.2.2.2.2.1
theorem d_MD_token_181 : decode prog_12_method_7_code 181 = .ok (.invokestatic 109, 3) := F_MD_token_120.2.2.2.2.2.2.2.2.2.2.2.2.2.2.2.2.2.2.2.2.2.2.2.2.2.2.2.2.2.2.1
theorem d_MD_token_184 : decode prog_12_method_7_code 184 = .ok (.ifCond .eq (86), 3) := F_MD_token_120.2.2.2.2.2.2.2.2.2.2.2.2.2.2.2.2.2.2.2.2.2.2.2.2.2.2.2.2.2.2.2.1
theorem F_MD_token_187 : Jvm.Free.DS.Facts prog_12_method_7_code 187 [(.aload_n 0, 1), (.aload_n 0, 1), (.getfield 106, 3), (.ldc 112, 2), (.if_icmp .le (10), 3), (.aload_n 0, 1), (.getfield 106, 3), (.goto (18), 3), (.bipush (10), 2), (.aload_n 0, 1), (.getfield 106, 3), (.imul, 1), (.aload_n 0, 1), (.invokevirtual 86, 3), (.iadd, 1), (.bipush (48), 2), (.isub, 1), (.putfield 106, 3), (.aload_n 0, 1), (.dup, 1), (.getfield 80, 3), (.iconst 1, 1), (.iadd, 1), (.putfield 80, 3), (.goto (-55), 3), (.aload_n 0, 1), (.iload_n 1, 1), (.bipush (59), 2), (.if_icmp .ne (7), 3), (.iconst 2, 1), (.goto (14), 3), (.iload_n 1, 1)] := Jvm.Free.DS.facts 187 _ (by decide +kernel) (by decide +kernel)
theorem d_MD_token_187 : decode prog_12_method_7_code 187 = .ok (.aload_n 0, 1) := F_MD_token_187.1
theorem d_MD_token_188 : decode prog_12_method_7_code 188 = .ok (.aload_n 0, 1) := F_MD_token_187.2.1
theorem d_MD_token_189 : decode prog_12_method_7_code 189 = .ok (.getfield 106, 3) := F_MD_token_187.2.2.1
theorem d_MD_token_192 : decode prog_12_method_7_code 192 = .ok (.ldc 112, 2) := F_MD_token_187.2.2.2.1
theorem d_MD_token_194 : decode prog_12_method_7_code 194 = .ok (.if_icmp .le (10), 3) := F_MD_token_187.2.2.2.2.1
theorem d_MD_token_197 : decode prog_12_method_7_code 197 = .ok (.aload_n 0, 1) := F_MD_token_187.2.2.2.2.2.1
theorem d_MD_token_198 : decode prog_12_method_7_code 198 = .ok (.getfield 106, 3) := F_MD_token_187.2.2.2.2.2.2.1
theorem d_MD_token_201 : decode prog_12_method_7_code 201 = .ok (.goto (18), 3) := F_MD_token_187.2.2.2.2.2.2.2.1
theorem d_MD_token_204 : decode prog_12_method_7_code 204 = .ok (.bipush (10), 2) := F_MD_token_187.2.2.2.2.2.2.2.2.1
theorem d_MD_token_206 : decode prog_12_method_7_code 206 = .ok (.aload_n 0, 1) := F_MD_token_187.2.2.2.2.2.2.2.2.2.1
theorem d_MD_token_207 : decode prog_12_method_7_code 207 = .ok (.getfield 106, 3) := F_MD_token_187.2.2.2.2.2.2.2.2.2.2.1
theorem d_MD_token_210 : decode prog_12_method_7_code 210 = .ok (.imul, 1) := F_MD_token_187.2.2.2.2.2.2.2.2.2.2.2.1
theorem d_MD_token_211 : decode prog_12_method_7_code 211 = .ok (.aload_n 0, 1) := F_MD_token_187.2.2.2.2.2.2.2.2.2.2.2.2.1
theorem d_MD_token_212 : decode prog_12_method_7_code 212 = .ok (.invokevirtual 86, 3) := F_MD_token_187.2.2.2.2.2.2.2.2.2.2.2.2.2.1
theorem d_MD_token_215 : decode prog_12_method_7_code 215 = .ok (.iadd, 1) := F_MD_token_187.2.2.2.2.2.2.2.2.2.2.2.2.2.2.1
theorem d_MD_token_216 : decode prog_12_method_7_code 216 = .ok (.bipush (48), 2) := F_MD_token_187.2.2.2.2.2.2.2.2.2.2.2.2.2.2.2.1
theorem d_MD_token_218 : decode prog_12_method_7_code 218 = .ok (.isub, 1) := F_MD_token_187.2.2.2.2.2.2.2.2.2.2.2.2.2.2.2.2.1
theorem d_MD_token_219 : decode prog_12_method_7_code 219 = .ok (.putfield 106, 3) := F_MD_token_187.2.2.2.2.2.2.2.2.2.2.2.2.2.2.2.2.2.1
theorem d_MD_token_222 : decode prog_12_method_7_code 222 = .ok (.aload_n 0, 1) := F_MD_token_187.2.2.2.2.2.2.2.2.2.2.2.2.2.2.2.2.2.2.1
theorem d_MD_token_223 : decode prog_12_method_7_code 223 = .ok (.dup, 1) := F_MD_token_187.2.2.2.2.2.2.2.2.2.2.2.2.2.2.2.2.2.2.2.1
theorem d_MD_token_224 : decode prog_12_method_7_code 224 = .ok (.getfield 80, 3) := F_MD_token_187.2.2.2.2.2.2.2.2.2.2.2.2.2.2.2.2.2.2.2.2.1
theorem d_MD_token_227 : decode prog_12_method_7_code 227 = .ok (.iconst 1, 1) := F_MD_token_187.2.2.2.2.2.2.2.2.2.2.2.2.2.2.2.2.2.2.2.2.2.1
theorem d_MD_token_228 : decode prog_12_method_7_code 228 = .ok (.iadd, 1) := F_MD_token_187.2.2.2.2.2.2.2.2.2.2.2.2.2.2.2.2.2.2.2.2.2.2.1
theorem d_MD_token_229 : decode prog_12_method_7_code 229 = .ok (.putfield 80, 3) := F_MD_token_187.2.2.2.2.2.2.2.2.2.2.2.2.2.2.2.2.2.2.2.2.2.2.2.1
theorem d_MD_token_232 : decode prog_12_method_7_code 232 = .ok (.goto (-55), 3) := F_MD_token_187.2.2.2.2.2.2.2.2.2.2.2.2.2.2.2.2.2.2.2.2.2.2.2.2.1
theorem d_MD_token_235 : decode prog_12_method_7_code 235 = .ok (.aload_n 0, 1) := F_MD_token_187.2.2.2.2.2.2.2.2.2.2.2.2.2.2.2.2.2.2.2.2.2.2.2.2.2.1
theorem d_MD_token_236 : decode prog_12_method_7_code 236 = .ok (.iload_n 1, 1) := F_MD_token_187.2.2.2.2.2.2.2.2.2.2.2.2.2.2.2.2.2.2.2.2.2.2.2.2.2.2.1
theorem d_MD_token_237 : decode prog_12_method_7_code 237 = .ok (.bipush (59), 2) := F_MD_token_187.2.2.2.2.2.2.2.2.2.2.2.2.2.2.2.2.2.2.2.2.2.2.2.2.2.2.2.1
theorem d_MD_token_239 : decode prog_12_method_7_code 239 = .ok (.if_icmp .ne (7), 3) := F_MD_token_187.2.2.2.2.2.2.2.2.2.2.2.2.2.2.2.2.2.2.2.2.2.2.2.2.2.2.2.2.1
theorem d_MD_token_242 : decode prog_12_method_7_code 242 = .ok (.iconst 2, 1) := F_MD_token_187.2.2.2.2.2.2.2.2.2.2.2.2.2.2.2.2.2.2.2.2.2.2.2.2.2.2.2.2.2.1
theorem d_MD_token_243 : decode prog_12_method_7_code 243 = .ok (.goto (14), 3) := F_MD_token_187.2.2.2.2.2.2.2.2.2.2.2.2.2.2.2.2.2.2.2.2.2.2.2.2.2.2.2.2.2.2.1
theorem d_MD_token_246 : decode prog_12_method_7_code 246 = .ok (.iload_n 1, 1) := F_MD_token_187.2.2.2.2.2.2.2.2.2.2.2.2.2.2.2.2.2.2.2.2.2.2.2.2.2.2.2.2.2.2.2.1
theorem F_MD_token_247 : Jvm.Free.DS.Facts prog_12_method_7_code 247 [(.bipush (45), 2), (.if_icmp .ne (7), 3), (.iconst 5, 1), (.goto (4), 3), (.iconst 4, 1), (.putfield 93, 3), (.aload_n 0, 1), (.dup, 1), (.getfield 80, 3), (.iconst 1, 1), (.iadd, 1), (.putfield 80, 3), (.return_, 1)] := Jvm.Free.DS.facts 247 _ (by decide +kernel) (by decide +kernel)
theorem d_MD_token_247 : decode prog_12_method_7_code 247 = .ok (.bipush (45), 2) := F_MD_token_247.1
theorem d_MD_token_249 : decode prog_12_method_7_code 249 = .ok (.if_icmp .ne (7), 3) := F_MD_token_247.2.1
theorem d_MD_token_252 : decode prog_12_method_7_code 252 = .ok (.iconst 5, 1) := F_MD_token_247.2.2.1
theorem d_MD_token_253 : decode prog_12_method_7_code 253 = .ok (.goto (4), 3) := F_MD_token_247.2.2.2.1
theorem d_MD_token_256 : decode prog_12_method_7_code 256 = .ok (.iconst 4, 1) := F_MD_token_247.2.2.2.2.1
theorem d_MD_token_257 : decode prog_12_method_7_code 257 = .ok (.putfield 93, 3) := F_MD_token_247.2.2.2.2.2.1
theorem d_MD_token_260 : decode prog_12_method_7_code 260 = .ok (.aload_n 0, 1) := F_MD_token_247.2.2.2.2.2.2.1
theorem d_MD_token_261 : decode prog_12_method_7_code 261 = .ok (.dup, 1) := F_MD_token_247.2.2.2.2.2.2.2.1
theorem d_MD_token_262 : decode prog_12_method_7_code 262 = .ok (.getfield 80, 3) := F_MD_token_247.2.2.2.2.2.2.2.2.1
theorem d_MD_token_265 : decode prog_12_method_7_code 265 = .ok (.iconst 1, 1) := F_MD_token_247.2.2.2.2.2.2.2.2.2.1
theorem d_MD_token_266 : decode prog_12_method_7_code 266 = .ok (.iadd, 1) := F_MD_token_247.2.2.2.2.2.2.2.2.2.2.1
theorem d_MD_token_267 : decode prog_12_method_7_code 267 = .ok (.putfield 80, 3) := F_MD_token_247.2.2.2.2.2.2.2.2.2.2.2.1
theorem d_MD_token_270 : decode prog_12_method_7_code 270 = .ok (.return_, 1) := F_MD_token_247.2.2.2.2.2.2.2.2.2.2.2.2.1
